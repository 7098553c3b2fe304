def cmpG (x y : UInt32) : Int := (Op.cmpValue (FP.fcmp x y) .g).toInt
theorem cmpG_r (x y : UInt32) : -2147483648 ≤ cmpG x y ∧ cmpG x y < 2147483648 := ⟨by have := Int32.le_toInt (Op.cmpValue (FP.fcmp x y) .g); unfold cmpG; omega, by have := Int32.toInt_lt (Op.cmpValue (FP.fcmp x y) .g); unfold cmpG; omega⟩
def n32b (r : UInt32) : Bool := decide (r &&& 0x7fffffff ≤ 0x7f800000)
theorem n32b_ok {r : UInt32} (h : n32b r = true) : vf_n32 r := by unfold n32b at h; unfold vf_n32; exact of_decide_eq_true h
/-- the first loop, with fuel: where it ends, and that no NaN is made on the way -/
def simA : Nat → UInt32 → Int → UInt32 × Int × Bool
  | 0, x, e => (x, e, true)
  | n + 1, x, e => if cmpI x 0x40000000 < 0 then (x, e, true) else
    let r := simA n (FP.fdiv x 0x40000000) (e + 1)
    (r.1, r.2.1, r.2.2 && n32b (FP.fdiv x 0x40000000))
def simB : Nat → UInt32 → Int → UInt32 × Int × Bool
  | 0, x, e => (x, e, true)
  | n + 1, x, e => if 0 ≤ cmpG x 0x3f800000 then (x, e, true) else
    let r := simB n (FP.fmul x 0x40000000) (e - 1)
    (r.1, r.2.1, r.2.2 && n32b (FP.fmul x 0x40000000))
def bitE (x : UInt32) : UInt32 × Int := let a := simA 128 x 127; let b := simB 126 a.1 a.2.1; (b.1, b.2.1)
def bitV (x : UInt32) : Int := if cmpG x 0 ≤ 0 then 0 else
  ((iI (bitE x).2 <<< (iI 23 &&& 31)) ||| FP.f2i (FP.fmul (FP.fsub (bitE x).1 0x3f800000) 0x4b000000)).toInt
def bitOk (x : UInt32) : Bool := decide (cmpG x 0 ≤ 0) || ((simA 128 x 127).2.2 && (simB 126 (simA 128 x 127).1 (simA 128 x 127).2.1).2.2 && n32b (FP.fsub (bitE x).1 0x3f800000) && n32b (FP.fmul (FP.fsub (bitE x).1 0x3f800000) 0x4b000000))
theorem bit_int {a : Int} (ha : 0 ≤ a ∧ a ≤ 46) : bitOk (FP.i2f (iI a)) = true ∧ bitV (FP.i2f (iI a)) = (FP.i2f (iI a)).toInt32.toInt := by
  have key : ∀ x : Fin 47, bitOk (FP.i2f (iI (x.1 : Int))) = true ∧ bitV (FP.i2f (iI (x.1 : Int))) = (FP.i2f (iI (x.1 : Int))).toInt32.toInt := by decide +kernel
  obtain ⟨n, rfl⟩ := Int.eq_ofNat_of_zero_le ha.1
  exact key ⟨n, by omega⟩
theorem bit_shr {a b : Int} (ha : 0 ≤ a ∧ a ≤ 46) (hb : 1 ≤ b ∧ b ≤ 24) : bitOk (shr a b) = true ∧ bitV (shr a b) = (shr a b).toInt32.toInt := by
  have key : ∀ (x : Fin 47) (y : Fin 25), 1 ≤ y.1 → bitOk (shr (x.1 : Int) (y.1 : Int)) = true ∧ bitV (shr (x.1 : Int) (y.1 : Int)) = (shr (x.1 : Int) (y.1 : Int)).toInt32.toInt := by decide +kernel
  obtain ⟨n, rfl⟩ := Int.eq_ofNat_of_zero_le ha.1
  obtain ⟨m, rfl⟩ := Int.eq_ofNat_of_zero_le (show 0 ≤ b by omega)
  exact key ⟨n, by omega⟩ ⟨m, by omega⟩ (by show 1 ≤ m; omega)
theorem simA_s {n : Nat} {x : UInt32} {e : Int} (h : ¬ cmpI x 0x40000000 < 0) : simA (n + 1) x e = ((simA n (FP.fdiv x 0x40000000) (e + 1)).1, (simA n (FP.fdiv x 0x40000000) (e + 1)).2.1, (simA n (FP.fdiv x 0x40000000) (e + 1)).2.2 && n32b (FP.fdiv x 0x40000000)) := by
  show (if _ then _ else _) = _
  rw [if_neg h]
theorem simA_z {n : Nat} {x : UInt32} {e : Int} (h : cmpI x 0x40000000 < 0) : simA n x e = (x, e, true) := by
  cases n with
  | zero => rfl
  | succ n => show (if _ then _ else _) = _; rw [if_pos h]
theorem simB_s {n : Nat} {x : UInt32} {e : Int} (h : ¬ 0 ≤ cmpG x 0x3f800000) : simB (n + 1) x e = ((simB n (FP.fmul x 0x40000000) (e - 1)).1, (simB n (FP.fmul x 0x40000000) (e - 1)).2.1, (simB n (FP.fmul x 0x40000000) (e - 1)).2.2 && n32b (FP.fmul x 0x40000000)) := by
  show (if _ then _ else _) = _
  rw [if_neg h]
theorem simB_z {n : Nat} {x : UInt32} {e : Int} (h : 0 ≤ cmpG x 0x3f800000) : simB n x e = (x, e, true) := by
  cases n with
  | zero => rfl
  | succ n => show (if _ then _ else _) = _; rw [if_pos h]
/-- where a loop stands: the end is as from the start, and nothing on the way is NaN -/
def inA (x : UInt32) (k : Int) (sc : UInt32) (e : Int) : Prop := (simA (128 - k).toNat sc e).1 = (simA 128 x 127).1 ∧ (simA (128 - k).toNat sc e).2.1 = (simA 128 x 127).2.1 ∧ (simA (128 - k).toNat sc e).2.2 = true
theorem inA_s {x sc : UInt32} {k e : Int} (h : inA x k sc e) (hk : 0 ≤ k ∧ k < 128) (hc : ¬ cmpI sc 0x40000000 < 0) : n32b (FP.fdiv sc 0x40000000) = true ∧ inA x (k + 1) (FP.fdiv sc 0x40000000) (e + 1) := by
  obtain ⟨h1, h2, h3⟩ := h
  have hn : (128 - k).toNat = (128 - (k + 1)).toNat + 1 := by omega
  rw [hn, simA_s hc] at h1 h2 h3
  simp only [Bool.and_eq_true] at h3
  exact ⟨h3.2, h1, h2, h3.1⟩
theorem inA_e {x sc : UInt32} {k e : Int} (h : inA x k sc e) (hc : cmpI sc 0x40000000 < 0 ∨ 128 ≤ k) : sc = (simA 128 x 127).1 ∧ e = (simA 128 x 127).2.1 := by
  obtain ⟨h1, h2, h3⟩ := h
  rcases hc with hc | hc
  · rw [simA_z hc] at h1 h2; exact ⟨h1, h2⟩
  · rw [show (128 - k).toNat = 0 by omega] at h1 h2; exact ⟨h1, h2⟩
def inB (x0 : UInt32) (e0 : Int) (k : Int) (sc : UInt32) (e : Int) : Prop := (simB (126 - k).toNat sc e).1 = (simB 126 x0 e0).1 ∧ (simB (126 - k).toNat sc e).2.1 = (simB 126 x0 e0).2.1 ∧ (simB (126 - k).toNat sc e).2.2 = true
theorem inB_s {x sc : UInt32} {e0 k e : Int} (h : inB x e0 k sc e) (hk : 0 ≤ k ∧ k < 126) (hc : ¬ 0 ≤ cmpG sc 0x3f800000) : n32b (FP.fmul sc 0x40000000) = true ∧ inB x e0 (k + 1) (FP.fmul sc 0x40000000) (e - 1) := by
  obtain ⟨h1, h2, h3⟩ := h
  have hn : (126 - k).toNat = (126 - (k + 1)).toNat + 1 := by omega
  rw [hn, simB_s hc] at h1 h2 h3
  simp only [Bool.and_eq_true] at h3
  exact ⟨h3.2, h1, h2, h3.1⟩
theorem inB_e {x sc : UInt32} {e0 k e : Int} (h : inB x e0 k sc e) (hc : 0 ≤ cmpG sc 0x3f800000 ∨ 126 ≤ k) : sc = (simB 126 x e0).1 ∧ e = (simB 126 x e0).2.1 := by
  obtain ⟨h1, h2, h3⟩ := h
  rcases hc with hc | hc
  · rw [simB_z hc] at h1 h2; exact ⟨h1, h2⟩
  · rw [show (126 - k).toNat = 0 by omega] at h1 h2; exact ⟨h1, h2⟩
