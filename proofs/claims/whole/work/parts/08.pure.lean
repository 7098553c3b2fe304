/-! texts as lists of characters, forms as numbers -/
def Tx (g : Nat → Int) (w : List Int) : Prop := ∀ j : Nat, j < w.length → g j = w.getD j 0
def lat (w : List Int) (z : Int) : Int := if 0 ≤ z then w.getD z.toNat 0 else 0
def Chs (w : List Int) : Prop := ∀ x ∈ w, 0 ≤ x ∧ x < 65536
def isL (x : Int) : Prop := 97 ≤ x ∧ x ≤ 122
def sl (w : List Int) (i j : Int) : List Int := (w.drop i.toNat).take (j - i).toNat
theorem gd_in {w : List Int} {n : Nat} (h : n < w.length) : w.getD n 0 = w[n] := by simp [List.getD_eq_getElem?_getD, h]
theorem gd_out {w : List Int} {n : Nat} (h : w.length ≤ n) : w.getD n 0 = 0 := by simp [List.getD_eq_getElem?_getD, h]
theorem gd_l {a b : List Int} {n : Nat} (h : n < a.length) : (a ++ b).getD n 0 = a.getD n 0 := by simp [List.getD_eq_getElem?_getD, List.getElem?_append_left h]
theorem gd_r {a b : List Int} {n : Nat} (h : a.length ≤ n) : (a ++ b).getD n 0 = b.getD (n - a.length) 0 := by simp [List.getD_eq_getElem?_getD, List.getElem?_append_right h]
theorem lat_out {w : List Int} {z : Int} (h : z < 0 ∨ (w.length : Int) ≤ z) : lat w z = 0 := by
  unfold lat
  split
  · exact gd_out (by omega)
  · rfl
theorem Tx_at {g : Nat → Int} {w : List Int} (h : Tx g w) {z : Int} (h0 : 0 ≤ z) (h1 : z < w.length) : g z.toNat = lat w z := by
  rw [h z.toNat (by omega)]
  simp [lat, h0]
theorem lat_ch {w : List Int} (h : Chs w) (z : Int) : 0 ≤ lat w z ∧ lat w z < 65536 := by
  unfold lat
  split
  · by_cases hl : z.toNat < w.length
    · rw [gd_in hl]
      exact h _ (List.getElem_mem hl)
    · rw [gd_out (by omega)]
      omega
  · omega
theorem lat_mem {w : List Int} {z : Int} (h0 : 0 ≤ z) (h1 : z < w.length) : lat w z ∈ w := by
  have hl : z.toNat < w.length := by omega
  simp only [lat, h0, if_true]
  rw [gd_in hl]
  exact List.getElem_mem hl
theorem Chs_app {a b : List Int} (ha : Chs a) (hb : Chs b) : Chs (a ++ b) := fun x hx => (List.mem_append.mp hx).elim (ha x) (hb x)
theorem Chs_one {x : Int} (h : 0 ≤ x ∧ x < 65536) : Chs [x] := fun y hy => by
  rw [List.mem_singleton] at hy; subst hy; exact h
theorem Chs_nil : Chs [] := fun _ h => nomatch h
theorem Chs_sl {w : List Int} (h : Chs w) (i j : Int) : Chs (sl w i j) := fun x hx => h x (List.mem_of_mem_drop (List.mem_of_mem_take hx))
theorem Tx_nil {g : Nat → Int} : Tx g [] := fun _ h => by simp at h
theorem Tx_push {g : Nat → Int} {w : List Int} (h : Tx g w) (x : Int) : Tx (va_up g ((w.length : Int)).toNat x) (w ++ [x]) := by
  intro j hj
  have hj : j < w.length + 1 := by simpa using hj
  by_cases e : j = w.length
  · subst e
    simp [va_up]
  · have hl : j < w.length := by omega
    have e2 : ¬ j = ((w.length : Int)).toNat := by omega
    simp only [va_up, e2, if_false]
    rw [h j hl, gd_l hl]
theorem Tx_congr {g g' : Nat → Int} {w : List Int} (h : Tx g w) (hg : ∀ j : Nat, j < w.length → g' j = g j) : Tx g' w := fun j hj => (hg j hj).trans (h j hj)
theorem sl_len {w : List Int} {i j : Int} (h0 : 0 ≤ i) (h1 : i ≤ j) (h2 : j ≤ w.length) : ((sl w i j).length : Int) = j - i := by
  simp only [sl, List.length_take, List.length_drop]
  omega
theorem sl_self (w : List Int) (i : Int) : sl w i i = [] := by simp [sl]
theorem sl_all (w : List Int) : sl w 0 w.length = w := by simp [sl]
theorem sl_at {w : List Int} {i j k : Int} (h0 : 0 ≤ i) (hk : 0 ≤ k) (h1 : k < j - i) : lat (sl w i j) k = lat w (i + k) := by
  have e : 0 ≤ i + k := by omega
  simp only [lat, hk, e, if_true, sl, List.getD_eq_getElem?_getD, List.getElem?_take, List.getElem?_drop]
  have : k.toNat < (j - i).toNat := by omega
  rw [if_pos this, show (i + k).toNat = i.toNat + k.toNat by omega]
theorem sl_succ {w : List Int} {i j : Int} (h0 : 0 ≤ i) (h1 : i ≤ j) (h2 : j < w.length) : sl w i (j + 1) = sl w i j ++ [lat w j] := by
  have e : (j + 1 - i).toNat = (j - i).toNat + 1 := by omega
  have hj : 0 ≤ j := by omega
  have hl : (j - i).toNat < (w.drop i.toNat).length := by simp only [List.length_drop]; omega
  simp only [sl, e, List.take_succ_eq_append_getElem hl, List.getElem_drop, lat, hj, if_true]
  have : i.toNat + (j - i).toNat = j.toNat := by omega
  simp only [this]
  rw [gd_in (by omega)]
theorem sl_cons {w : List Int} {i j : Int} (h0 : 0 ≤ i) (h1 : i < j) (h2 : j ≤ w.length) : sl w i j = lat w i :: sl w (i + 1) j := by
  have e : (j - i).toNat = (j - (i + 1)).toNat + 1 := by omega
  have hl : i.toNat < w.length := by omega
  simp only [sl, e, lat, h0, if_true]
  rw [List.drop_eq_getElem_cons hl, List.take_succ_cons, show (i + 1).toNat = i.toNat + 1 by omega, gd_in hl]
theorem lat_ext {a b : List Int} (hl : a.length = b.length) (h : ∀ j : Int, 0 ≤ j → j < a.length → lat a j = lat b j) : a = b := by
  apply List.ext_getElem hl
  intro n h1 h2
  have := h (n : Int) (by omega) (by omega)
  simp only [lat, Int.natCast_nonneg, if_true, Int.toNat_natCast] at this
  rwa [gd_in h1, gd_in h2] at this
theorem lat_app_l {a b : List Int} {z : Int} (h : z < a.length) : lat (a ++ b) z = lat a z := by
  unfold lat
  split
  · rw [gd_l (by omega)]
  · rfl
theorem lat_app_r {a b : List Int} {z : Int} (h : (a.length : Int) ≤ z) : lat (a ++ b) z = lat b (z - a.length) := by
  have h0 : 0 ≤ z := by omega
  have h1 : 0 ≤ z - a.length := by omega
  simp only [lat, h0, h1, if_true]
  rw [gd_r (by omega)]
  congr 1
  omega
/-! forms -/
def Fw (w : List Int) : Prop := w.length ≤ 12 ∧ ∀ x ∈ w, 97 ≤ x ∧ x ≤ 122
def encL : List Int → Nat
  | [] => 0
  | x :: t => (x - 97).toNat + 32 * encL t
def encN (w : List Int) : Nat := w.length * 2 ^ 60 + encL w
def enc (w : List Int) : Int64 := Int64.ofNat (encN w)
theorem encL_lt : ∀ (w : List Int), (∀ x ∈ w, 97 ≤ x ∧ x ≤ 122) → encL w < 32 ^ w.length
  | [], _ => by simp [encL]
  | x :: t, h => by
    have h1 := encL_lt t (fun y hy => h y (List.mem_cons_of_mem _ hy))
    have h2 := h x List.mem_cons_self
    simp only [encL, List.length_cons, Nat.pow_succ]
    omega
theorem encL_60 {w : List Int} (h : Fw w) : encL w < 2 ^ 60 := by
  have h1 := encL_lt w h.2
  have h2 : 32 ^ w.length ≤ 32 ^ 12 := Nat.pow_le_pow_right (by decide) h.1
  omega
theorem encN_64 {w : List Int} (h : Fw w) : encN w < 2 ^ 64 := by
  have := encL_60 h
  have := h.1
  simp only [encN]
  omega
theorem encL_inj : ∀ (a b : List Int), a.length = b.length → (∀ x ∈ a, 97 ≤ x ∧ x ≤ 122) → (∀ x ∈ b, 97 ≤ x ∧ x ≤ 122) → encL a = encL b → a = b
  | [], [], _, _, _, _ => rfl
  | x :: s, y :: t, hl, ha, hb, he => by
    have hx := ha x List.mem_cons_self
    have hy := hb y List.mem_cons_self
    simp only [encL] at he
    have h1 : x = y := by omega
    have h2 : encL s = encL t := by omega
    rw [h1, encL_inj s t (by simpa using hl) (fun z hz => ha z (List.mem_cons_of_mem _ hz)) (fun z hz => hb z (List.mem_cons_of_mem _ hz)) h2]
theorem encN_inj {a b : List Int} (ha : Fw a) (hb : Fw b) (h : encN a = encN b) : a = b := by
  have h1 := encL_60 ha
  have h2 := encL_60 hb
  simp only [encN] at h
  have hl : a.length = b.length := by omega
  exact encL_inj a b hl ha.2 hb.2 (by omega)
theorem enc_toNat {w : List Int} (h : Fw w) : (enc w).toUInt64.toNat = encN w := by
  have := encN_64 h
  simp only [enc]
  show (BitVec.ofNat 64 (encN w)).toNat = encN w
  rw [BitVec.toNat_ofNat, Nat.mod_eq_of_lt this]
theorem enc_inj {a b : List Int} (ha : Fw a) (hb : Fw b) : enc a = enc b ↔ a = b := by
  constructor
  · intro h
    have h1 := enc_toNat ha
    rw [h, enc_toNat hb] at h1
    exact encN_inj ha hb h1.symm
  · intro h; rw [h]
theorem Fw_nil : Fw [] := ⟨by simp, fun _ h => nomatch h⟩
theorem enc_nil : enc [] = 0 := rfl
theorem encL_at : ∀ (w : List Int) (k : Nat), (∀ x ∈ w, 97 ≤ x ∧ x ≤ 122) → k < w.length → encL w / 32 ^ k % 32 = (w.getD k 0 - 97).toNat
  | x :: t, 0, h, _ => by
    have := h x List.mem_cons_self
    simp only [encL, Nat.pow_zero, Nat.div_one, List.getD_cons_zero]
    omega
  | x :: t, k + 1, h, hk => by
    have h1 := h x List.mem_cons_self
    have ih := encL_at t k (fun y hy => h y (List.mem_cons_of_mem _ hy)) (by simpa using hk)
    simp only [encL, List.getD_cons_succ]
    rw [← ih, Nat.pow_succ, Nat.mul_comm (32 ^ k) 32, ← Nat.div_div_eq_div_mul]
    congr 2
    omega
/-! the bits of a form -/
theorem enc_len {w : List Int} (h : Fw w) : (((enc w).toUInt64 >>> ((iI 60).toInt64.toUInt64 &&& Int64.toUInt64 63)).toInt64).toInt32 = iI (w.length : Int) := by
  have hs : ((iI 60).toInt64.toUInt64 &&& Int64.toUInt64 63) = 60 := by decide
  have hl := encL_60 h
  have h1 : (enc w).toUInt64 >>> (60 : UInt64) = UInt64.ofNat w.length := by
    apply UInt64.toNat_inj.mp
    rw [UInt64.toNat_shiftRight, enc_toNat h]
    have h60 : (60 : UInt64).toNat % 64 = 60 := by decide
    have h12 := h.1
    rw [h60, Nat.shiftRight_eq_div_pow, UInt64.toNat_ofNat']
    simp only [encN]
    omega
  have key : ∀ n : Fin 13, (UInt64.ofNat n.1).toInt64.toInt32 = iI (n.1 : Int) := by decide
  rw [hs, h1]
  exact key ⟨w.length, by have := h.1; omega⟩
theorem lat_let {w : List Int} (h : Fw w) {k : Int} (h0 : 0 ≤ k) (h1 : k < w.length) : 97 ≤ lat w k ∧ lat w k ≤ 122 := h.2 _ (lat_mem h0 h1)
theorem enc_let {w : List Int} (h : Fw w) {k : Int} (h0 : 0 ≤ k) (h1 : k < w.length) : (((enc w).toUInt64 >>> ((iI (5 * k)).toInt64.toUInt64 &&& Int64.toUInt64 63)).toInt64 &&& 31).toInt32 = iI (lat w k - 97) := by
  obtain ⟨n, rfl⟩ := Int.eq_ofNat_of_zero_le h0
  have hn : n < w.length := by omega
  have h12 := h.1
  have hs : ∀ i : Fin 12, ((iI (5 * (i.1 : Int))).toInt64.toUInt64 &&& Int64.toUInt64 63) = UInt64.ofNat (5 * i.1) := by decide
  have hs' := hs ⟨n, by omega⟩
  simp only at hs'
  have hle := lat_let h h0 h1
  have hat := encL_at w n h.2 hn
  have hg : w.getD n 0 = lat w (n : Int) := by simp [lat]
  rw [hg] at hat
  have key : ∀ i : Fin 32, ((UInt64.ofNat i.1).toInt64).toInt32 = iI (i.1 : Int) := by decide
  have hv : ((enc w).toUInt64 >>> UInt64.ofNat (5 * n)).toInt64 &&& 31 = (UInt64.ofNat (lat w (n : Int) - 97).toNat).toInt64 := by
    have e : ((enc w).toUInt64 >>> UInt64.ofNat (5 * n)) &&& 31 = UInt64.ofNat (lat w (n : Int) - 97).toNat := by
      apply UInt64.toNat_inj.mp
      rw [UInt64.toNat_and, UInt64.toNat_shiftRight, enc_toNat h, UInt64.toNat_ofNat', UInt64.toNat_ofNat', Nat.shiftRight_eq_div_pow]
      have e5 : 5 * n % 2 ^ 64 % 64 = 5 * n := by omega
      have e31 : (31 : UInt64).toNat = 2 ^ 5 - 1 := by decide
      rw [e5, e31, Nat.and_two_pow_sub_one_eq_mod, Nat.mod_eq_of_lt (a := (lat w (n : Int) - 97).toNat) (by omega), ← hat, Nat.pow_mul]
      simp only [encN]
      have h3 : (2 : Nat) ^ 60 = (2 ^ 5) ^ n * (32 * 32 ^ (11 - n)) := by
        rw [show (2 : Nat) ^ 5 = 32 from rfl, ← Nat.pow_succ' (m := 32), ← Nat.pow_add, show n + (11 - n).succ = 12 by omega]
      rw [h3, show (2 : Nat) ^ 5 = 32 from rfl, show w.length * (32 ^ n * (32 * 32 ^ (11 - n))) + encL w = encL w + 32 ^ n * (w.length * 32 ^ (11 - n) * 32) by
        rw [Nat.add_comm]; congr 1; simp only [Nat.mul_comm, Nat.mul_left_comm], Nat.add_mul_div_left _ _ (Nat.pow_pos (by decide)), Nat.add_mul_mod_self_right]
    rw [← e]
    rfl
  rw [hs', hv]
  have := key ⟨(lat w (n : Int) - 97).toNat, by omega⟩
  rw [this]
  congr 1
  simp only
  omega
theorem iI_i2c {z : Int} (h : 0 ≤ z ∧ z < 65536) : ((iI z).toUInt32 % 65536).toInt32 = iI z := by
  obtain ⟨n, rfl⟩ := Int.eq_ofNat_of_zero_le h.1
  rw [← iI_nat, pk_char, show Int32.ofNat n = nI n from rfl, pk_tn (by omega), Nat.mod_eq_of_lt (by omega)]
theorem sh_or {a b k : Nat} {S : Int64} (hS : (S.toBitVec.smod 64).toNat = k) (hb : b < 2 ^ k) (hk : k < 64) (h : a * 2 ^ k + b < 2 ^ 64) : (Int64.ofNat a <<< S) ||| Int64.ofNat b = Int64.ofNat (a * 2 ^ k + b) := by
  apply Int64.toBitVec.inj
  apply BitVec.eq_of_toNat_eq
  have e1 : (Int64.ofNat a <<< S).toBitVec = (Int64.ofNat a).toBitVec <<< (S.toBitVec.smod 64) := rfl
  have e2 : ((Int64.ofNat a <<< S) ||| Int64.ofNat b).toBitVec = (Int64.ofNat a <<< S).toBitVec ||| (Int64.ofNat b).toBitVec := rfl
  have e3 : ∀ n : Nat, (Int64.ofNat n).toBitVec = BitVec.ofNat 64 n := fun n => rfl
  rw [e2, e1, e3, e3, e3, BitVec.toNat_or, BitVec.shiftLeft_eq', BitVec.toNat_shiftLeft, hS, BitVec.toNat_ofNat, BitVec.toNat_ofNat, BitVec.toNat_ofNat, Nat.shiftLeft_eq]
  have hbb : b < 2 ^ 64 := by omega
  have hp : 0 < 2 ^ k := Nat.pow_pos (by decide)
  have ha : a * 2 ^ k < 2 ^ 64 := by omega
  have ha' : a < 2 ^ 64 := Nat.lt_of_le_of_lt (Nat.le_mul_of_pos_right a hp) ha
  rw [Nat.mod_eq_of_lt ha', Nat.mod_eq_of_lt ha, Nat.mod_eq_of_lt hbb, Nat.mod_eq_of_lt h, Nat.mul_comm, Nat.two_pow_add_eq_or_of_lt hb]
theorem i2l_n {z : Int} (h : 0 ≤ z ∧ z < 2147483648) : (iI z).toInt64 = Int64.ofNat z.toNat := by
  obtain ⟨n, rfl⟩ := Int.eq_ofNat_of_zero_le h.1
  rw [← iI_nat]
  exact nI_l (by omega)
theorem encL_len (w : List Int) (hw : ∀ x ∈ w, 97 ≤ x ∧ x ≤ 122) (h : w.length ≤ 12) : encL w < 2 ^ 60 := encL_60 ⟨h, hw⟩
/-! rows for Object's constructor -/
section ADO
variable {p : Program} {l : Launch} {e : Env} {R : Room} {s : State} {m : MethodId} {args : Array Value} {below : List Frame} {meth : Method} {c : Code} {H : Heap} {locs : List Loc} {cells slots : Nat} {Q : State → Prop}
variable {own nm : String} {cc : ByteArray} {nL : Nat} {ret : Option FieldType} {D : va_G} {K : Nat → ClassId} {z0 : Nat} {A : Nat → Prop} {ws : va_W} {pc : Nat} {ls : Array Slot} {rest : List Value} {a : Nat}
def ad_oi (own : String) (idx : Nat) : Prop := Cond.methodLink own idx objectInit ∈ BIG ∧ Cond.instanceMethod objectInit ∈ BIG ∧ Cond.code objectInit ⟨#[0xb1]⟩ 1 none ∈ BIG
theorem ad_obji (F : ad_F p s m args meth c own nm cc nL ret D K z0 A) {idx : Nat} (X : ad_oi own idx) (hlv : ls.size = nL) (hf : 1 ≤ R.frames) (hl : (rest.map fun v => v.category).sum + 12 ≤ R.locals) (d : decode cc pc = .ok (.invokespecial idx, 3)) (k : W p l e R s m args below meth c H locs cells slots Q (F0 m (pc + 3) ls rest)) : W p l e R s m args below meth c H locs cells slots Q (F0 m pc ls (.ref a :: rest)) :=
  W.objInit F.1 F.2.1 F.2.2.2.2.1 (F.in X.1) (F.in X.2.1) (F.in X.2.2) rfl (hlv.trans F.2.2.2.1.symm) rfl d hf (by show 2 * 0 + _ + 12 ≤ _; omega) k
end ADO
