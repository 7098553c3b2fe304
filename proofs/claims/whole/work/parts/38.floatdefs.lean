def shr (a b : Int) : UInt32 := FP.fdiv (FP.i2f (iI a)) (FP.i2f (iI b))
def cmpI (x y : UInt32) : Int := (Op.cmpValue (FP.fcmp x y) .l).toInt
theorem cmpI_r (x y : UInt32) : -2147483648 ≤ cmpI x y ∧ cmpI x y < 2147483648 := ⟨by have := Int32.le_toInt (Op.cmpValue (FP.fcmp x y) .l); unfold cmpI; omega, by have := Int32.toInt_lt (Op.cmpValue (FP.fcmp x y) .l); unfold cmpI; omega⟩
theorem shr_n {a b : Int} (ha : 0 ≤ a ∧ a ≤ 46) (hb : 1 ≤ b ∧ b ≤ 24) : vf_n32 (shr a b) := by
  have key : ∀ (x : Fin 47) (y : Fin 25), 1 ≤ y.1 → (shr (x.1 : Int) (y.1 : Int)) &&& 0x7fffffff ≤ 0x7f800000 := by decide +kernel
  obtain ⟨n, rfl⟩ := Int.eq_ofNat_of_zero_le ha.1
  obtain ⟨m, rfl⟩ := Int.eq_ofNat_of_zero_le (show 0 ≤ b by omega)
  exact key ⟨n, by omega⟩ ⟨m, by omega⟩ (by show 1 ≤ m; omega)
theorem cmp_pos {b : Int} (hb : 1 ≤ b ∧ b ≤ 24) : Op.cmpValue (FP.fcmp (FP.i2f (iI b)) 0) .l = iI 1 := by
  have key : ∀ y : Fin 25, 1 ≤ y.1 → Op.cmpValue (FP.fcmp (FP.i2f (iI (y.1 : Int))) 0) .l = iI 1 := by decide +kernel
  obtain ⟨m, rfl⟩ := Int.eq_ofNat_of_zero_le (show 0 ≤ b by omega)
  exact key ⟨m, by omega⟩ (by show 1 ≤ m; omega)
theorem cmp_int {a b : Int} (ha : 0 ≤ a ∧ a ≤ 46) (hb : 0 ≤ b ∧ b ≤ 46) : cmpI (FP.i2f (iI a)) (FP.i2f (iI b)) = 0 ↔ a = b := by
  have key : ∀ x y : Fin 47, cmpI (FP.i2f (iI (x.1 : Int))) (FP.i2f (iI (y.1 : Int))) = 0 ↔ x.1 = y.1 := by decide +kernel
  obtain ⟨n, rfl⟩ := Int.eq_ofNat_of_zero_le ha.1
  obtain ⟨m, rfl⟩ := Int.eq_ofNat_of_zero_le hb.1
  have := key ⟨n, by omega⟩ ⟨m, by omega⟩
  rw [this]
  show n = m ↔ (n : Int) = m
  omega
abbrev Vw : Type := Int × UInt32
def vget (vs : List Vw) (z : Int) : Vw := if 0 ≤ z then vs.getD z.toNat (0, 0) else (0, 0)
def RRep (ex : Int) (gw : Nat → Int) (gs : Nat → UInt32) (vs : List Vw) : Prop := ∀ z : Int, 0 ≤ z → z < vs.length → (ex ≠ 0 → gw z.toNat = (vget vs z).1) ∧ (ex = 0 → gs z.toNat = (vget vs z).2)
def VOk (vs : List Vw) : Prop := vs.length ≤ 50 ∧ ∀ z : Int, 0 ≤ z → z < vs.length → 0 ≤ (vget vs z).1 ∧ (vget vs z).1 ≤ 46 ∧ ∃ b : Int, 1 ≤ b ∧ b ≤ 24 ∧ (vget vs z).2 = shr (vget vs z).1 b
def elF (ex : Int) (vs : List Vw) (z : Int) : UInt32 := if ex = 0 then (vget vs z).2 else FP.i2f (iI (vget vs z).1)
def rowV (qs : List Wq) : List Vw := qs.map (fun q => (q.2.2.2.2.1, shr q.2.2.2.2.1 q.2.2.2.1))
def QOk (qs : List Wq) : Prop := qs.length ≤ 50 ∧ ∀ z : Int, 0 ≤ z → z < qs.length → (1 ≤ (qget qs z).2.2.2.1 ∧ (qget qs z).2.2.2.1 ≤ 24) ∧ (1 ≤ (qget qs z).2.2.2.2.1 ∧ (qget qs z).2.2.2.2.1 ≤ 46)
theorem rowV_len (qs : List Wq) : (rowV qs).length = qs.length := by simp [rowV]
theorem rowV_get {qs : List Wq} {z : Int} (h0 : 0 ≤ z) (h1 : z < qs.length) : vget (rowV qs) z = ((qget qs z).2.2.2.2.1, shr (qget qs z).2.2.2.2.1 (qget qs z).2.2.2.1) := by
  have h : z.toNat < qs.length := by omega
  rw [vget, if_pos h0, qget, if_pos h0, rowV, List.getD_eq_getElem?_getD, List.getD_eq_getElem?_getD, List.getElem?_map, List.getElem?_eq_getElem h]
  rfl
def tkV (vs ws : List Vw) (k : Int) : List Vw := ws.take k.toNat ++ vs.drop k.toNat
theorem tkV_len {vs ws : List Vw} {k : Int} (h0 : 0 ≤ k) (h1 : k ≤ vs.length) (h2 : k ≤ ws.length) : (tkV vs ws k).length = vs.length := by
  simp [tkV]; omega
theorem tkV_get {vs ws : List Vw} {k : Int} (h0 : 0 ≤ k) (h1 : k ≤ vs.length) (h2 : k ≤ ws.length) {z : Int} (hz : 0 ≤ z) : vget (tkV vs ws k) z = if z < k then vget ws z else vget vs z := by
  rw [vget, if_pos hz, vget, if_pos hz, vget, if_pos hz, tkV, List.getD_eq_getElem?_getD, List.getD_eq_getElem?_getD, List.getD_eq_getElem?_getD]
  by_cases h : z < k
  · rw [if_pos h, List.getElem?_append_left (by simp; omega), List.getElem?_take, if_pos (by omega)]
  · rw [if_neg h, List.getElem?_append_right (by simp; omega), List.getElem?_drop]
    congr 2
    simp
    omega
theorem va_upI_s {α : Type} (g : Nat → α) (k : Nat) (v : α) : va_up g k v k = v := by simp [va_up]
theorem va_upI_o {α : Type} {g : Nat → α} {k z : Int} {v : α} (hz : 0 ≤ z) (hk : 0 ≤ k) (h : z ≠ k) : va_up g k.toNat v z.toNat = g z.toNat := by rw [va_upI hk hz, if_neg h]
