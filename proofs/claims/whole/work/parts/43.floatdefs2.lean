def dFin (f : Jvm.FP.Core.Fmt) (n : Nat) : Bool := match Jvm.FP.Core.decode f n with | .fin _ _ _ => true | _ => false
def dNz (f : Jvm.FP.Core.Fmt) (n : Nat) : Bool := match Jvm.FP.Core.decode f n with | .fin _ c _ => decide (c ≠ 0) | _ => false
/-- no NaN, as a number -/
def encOk (f : Jvm.FP.Core.Fmt) (d : Jvm.FP.Core.Datum) : Prop := match d with | .nan => False | .inf _ => True | .fin _ c q => c < 2 ^ f.p ∧ q ≤ f.qmax
theorem settle_ok (f : Jvm.FP.Core.Fmt) (hp : f.tails < 2 ^ f.p) (s : Bool) (c : Nat) (q : Int) : encOk f (Jvm.FP.Core.settle f s c q) := by
  unfold Jvm.FP.Core.settle Jvm.FP.Core.bound
  split
  · split
    · exact ⟨by assumption, by assumption⟩
    · trivial
  · split
    · exact ⟨hp, by assumption⟩
    · trivial
theorem ratio_ok (f : Jvm.FP.Core.Fmt) (hp : f.tails < 2 ^ f.p) (hq : f.qmin ≤ f.qmax) (s : Bool) (n d : Nat) (e : Int) : encOk f (Jvm.FP.Core.roundRatio f s n d e) := by
  unfold Jvm.FP.Core.roundRatio
  split
  · exact ⟨Nat.two_pow_pos _, hq⟩
  · exact settle_ok f hp _ _ _
theorem quot_ok (f : Jvm.FP.Core.Fmt) (hp : f.tails < 2 ^ f.p) (hq : f.qmin ≤ f.qmax) {x y : Nat} (hx : dFin f x = true) (hy : dNz f y = true) : encOk f (Jvm.FP.Core.quotient f (Jvm.FP.Core.decode f x) (Jvm.FP.Core.decode f y)) := by
  unfold dFin at hx
  unfold dNz at hy
  cases h1 : Jvm.FP.Core.decode f x with
  | nan => rw [h1] at hx; cases hx
  | inf _ => rw [h1] at hx; cases hx
  | fin s c q =>
    cases h2 : Jvm.FP.Core.decode f y with
    | nan => rw [h2] at hy; cases hy
    | inf _ => rw [h2] at hy; cases hy
    | fin t d r =>
      rw [h2] at hy
      have hd : d ≠ 0 := of_decide_eq_true hy
      simp only [Jvm.FP.Core.quotient, if_neg hd]
      exact ratio_ok f hp hq _ _ _ _
theorem enc64 {d : Jvm.FP.Core.Datum} (h : encOk Jvm.FP.Core.b64 d) : Jvm.FP.Core.encode Jvm.FP.Core.b64 d % 2 ^ 63 ≤ 9218868437227405312 ∧ Jvm.FP.Core.encode Jvm.FP.Core.b64 d < 2 ^ 64 := by
  cases d with
  | nan => exact h.elim
  | inf s => cases s <;> exact ⟨by decide, by decide⟩
  | fin s c q =>
    obtain ⟨h1, h2⟩ := h
    have e1 : (2 : Nat) ^ Jvm.FP.Core.b64.p = 9007199254740992 := by decide
    have e2 : Jvm.FP.Core.b64.qmax = 971 := by decide
    have e3 : Jvm.FP.Core.b64.tails = 4503599627370496 := by decide
    have e4 : Jvm.FP.Core.b64.exps = 2048 := by decide
    have e5 : Jvm.FP.Core.b64.qmin = -1074 := by decide
    rw [e1] at h1
    rw [e2] at h2
    unfold Jvm.FP.Core.encode Jvm.FP.Core.assemble
    simp only [e3, e4, e5]
    split <;> cases s <;> simp only [Bool.toNat_false, Bool.toNat_true] <;> omega
theorem enc32 {d : Jvm.FP.Core.Datum} (h : encOk Jvm.FP.Core.b32 d) : Jvm.FP.Core.encode Jvm.FP.Core.b32 d % 2 ^ 31 ≤ 2139095040 ∧ Jvm.FP.Core.encode Jvm.FP.Core.b32 d < 2 ^ 32 := by
  cases d with
  | nan => exact h.elim
  | inf s => cases s <;> exact ⟨by decide, by decide⟩
  | fin s c q =>
    obtain ⟨h1, h2⟩ := h
    have e1 : (2 : Nat) ^ Jvm.FP.Core.b32.p = 16777216 := by decide
    have e2 : Jvm.FP.Core.b32.qmax = 104 := by decide
    have e3 : Jvm.FP.Core.b32.tails = 8388608 := by decide
    have e4 : Jvm.FP.Core.b32.exps = 256 := by decide
    have e5 : Jvm.FP.Core.b32.qmin = -149 := by decide
    rw [e1] at h1
    rw [e2] at h2
    unfold Jvm.FP.Core.encode Jvm.FP.Core.assemble
    simp only [e3, e4, e5]
    split <;> cases s <;> simp only [Bool.toNat_false, Bool.toNat_true] <;> omega
theorem n64_of {n : Nat} (h : n % 2 ^ 63 ≤ 9218868437227405312) (h2 : n < 2 ^ 64) : vf_n64 (UInt64.ofNat n) := by
  unfold vf_n64
  rw [UInt64.le_iff_toNat_le, UInt64.toNat_and, UInt64.toNat_ofNat_of_lt' h2]
  show n &&& (2 ^ 63 - 1) ≤ 9218868437227405312
  rw [Nat.and_two_pow_sub_one_eq_mod]
  exact h
theorem n32_of {n : Nat} (h : n % 2 ^ 31 ≤ 2139095040) (h2 : n < 2 ^ 32) : vf_n32 (UInt32.ofNat n) := by
  unfold vf_n32
  rw [UInt32.le_iff_toNat_le, UInt32.toNat_and, UInt32.toNat_ofNat_of_lt' h2]
  show n &&& (2 ^ 31 - 1) ≤ 2139095040
  rw [Nat.and_two_pow_sub_one_eq_mod]
  exact h
theorem ddiv_ok {x y : UInt64} (hx : dFin Jvm.FP.Core.b64 x.toNat = true) (hy : dNz Jvm.FP.Core.b64 y.toNat = true) : vf_n64 (FP.ddiv x y) := by
  have h := enc64 (quot_ok Jvm.FP.Core.b64 (by decide) (by decide) hx hy)
  exact n64_of h.1 h.2
theorem fdiv_ok {x y : UInt32} (hx : dFin Jvm.FP.Core.b32 x.toNat = true) (hy : dNz Jvm.FP.Core.b32 y.toNat = true) : vf_n32 (FP.fdiv x y) := by
  have h := enc32 (quot_ok Jvm.FP.Core.b32 (by decide) (by decide) hx hy)
  exact n32_of h.1 h.2
def shD (a b : Int) : UInt64 := FP.ddiv (FP.i2d (iI a)) (FP.i2d (iI b))
theorem i2d_fin {a : Int} (ha : 0 ≤ a ∧ a ≤ 1200) : dFin Jvm.FP.Core.b64 (FP.i2d (iI a)).toNat = true := by
  have key : ∀ x : Fin 1201, dFin Jvm.FP.Core.b64 (FP.i2d (iI (x.1 : Int))).toNat = true := by decide +kernel
  obtain ⟨n, rfl⟩ := Int.eq_ofNat_of_zero_le ha.1
  exact key ⟨n, by omega⟩
theorem i2d_nz {a : Int} (ha : 1 ≤ a ∧ a ≤ 100) : dNz Jvm.FP.Core.b64 (FP.i2d (iI a)).toNat = true := by
  have key : ∀ x : Fin 101, 1 ≤ x.1 → dNz Jvm.FP.Core.b64 (FP.i2d (iI (x.1 : Int))).toNat = true := by decide +kernel
  obtain ⟨n, rfl⟩ := Int.eq_ofNat_of_zero_le (show 0 ≤ a by omega)
  exact key ⟨n, by omega⟩ (by show 1 ≤ n; omega)
theorem i2f_fin {a : Int} (ha : 0 ≤ a ∧ a ≤ 9900) : dFin Jvm.FP.Core.b32 (FP.i2f (iI a)).toNat = true := by
  have key : ∀ (x y : Fin 100), dFin Jvm.FP.Core.b32 (FP.i2f (iI ((100 * x.1 + y.1 : Nat) : Int))).toNat = true := by decide +kernel
  obtain ⟨n, rfl⟩ := Int.eq_ofNat_of_zero_le ha.1
  have h := key ⟨n / 100, by omega⟩ ⟨n % 100, by omega⟩
  have e : 100 * (n / 100) + n % 100 = n := by omega
  simp only [e] at h
  exact h
theorem i2f_nz {a : Int} (ha : 1 ≤ a ∧ a ≤ 100) : dNz Jvm.FP.Core.b32 (FP.i2f (iI a)).toNat = true := by
  have key : ∀ x : Fin 101, 1 ≤ x.1 → dNz Jvm.FP.Core.b32 (FP.i2f (iI (x.1 : Int))).toNat = true := by decide +kernel
  obtain ⟨n, rfl⟩ := Int.eq_ofNat_of_zero_le (show 0 ≤ a by omega)
  exact key ⟨n, by omega⟩ (by show 1 ≤ n; omega)
theorem dcmp_pos {b : Int} (hb : 1 ≤ b ∧ b ≤ 100) : Op.cmpValue (FP.dcmp (FP.i2d (iI b)) 0) .l = iI 1 := by
  have key : ∀ y : Fin 101, 1 ≤ y.1 → Op.cmpValue (FP.dcmp (FP.i2d (iI (y.1 : Int))) 0) .l = iI 1 := by decide +kernel
  obtain ⟨m, rfl⟩ := Int.eq_ofNat_of_zero_le (show 0 ≤ b by omega)
  exact key ⟨m, by omega⟩ (by show 1 ≤ m; omega)
