/-! the first place from z on at which no letter stands -/
def isLb (x : Int) : Bool := decide (97 ≤ x ∧ x ≤ 122)
def lend (w : List Int) (z : Int) : Int := z + (((w.drop z.toNat).takeWhile isLb).length : Int)
theorem tw_len {α : Type} (f : α → Bool) : ∀ (l : List α) (n : Nat), n ≤ l.length → (∀ j (h : j < l.length), j < n → f l[j] = true) → (∀ (h : n < l.length), f l[n] = false) → (l.takeWhile f).length = n
  | [], n, h, _, _ => by simp at h; simp [h]
  | x :: t, 0, _, _, h2 => by
    have := h2 (by simp)
    simp at this
    simp [this]
  | x :: t, n + 1, h, h1, h2 => by
    have hx := h1 0 (by simp) (by omega)
    simp at hx
    rw [List.takeWhile_cons_of_pos hx, List.length_cons, tw_len f t n (by simpa using h) (fun j hj hn => by have := h1 (j + 1) (Nat.succ_lt_succ hj) (by omega); rwa [List.getElem_cons_succ] at this) (fun hn => by have := h2 (Nat.succ_lt_succ hn); rwa [List.getElem_cons_succ] at this)]
theorem lend_eq {w : List Int} {z r : Int} (h0 : 0 ≤ z) (h1 : z ≤ r) (h2 : r ≤ w.length) (ha : ∀ j : Int, z ≤ j → j < r → isL (lat w j)) (he : r < w.length → ¬ isL (lat w r)) : lend w z = r := by
  have key : ∀ j : Nat, (h : j < (w.drop z.toNat).length) → (w.drop z.toNat)[j] = lat w (z + j) := fun j h => by
    have h : j < w.length - z.toNat := by simpa using h
    have e : 0 ≤ z + (j : Int) := by omega
    rw [List.getElem_drop, lat, if_pos e, gd_in (by omega)]
    congr 1
    omega
  have := tw_len isLb (w.drop z.toNat) (r - z).toNat (by simp; omega) (fun j hj hn => by rw [key j hj]; exact decide_eq_true (ha (z + j) (by omega) (by omega))) (fun hn => by
    rw [key _ hn]
    have hl : (r - z).toNat < w.length - z.toNat := by simpa using hn
    have := he (by omega)
    rw [show z + ((r - z).toNat : Int) = r by omega]
    exact decide_eq_false this)
  unfold lend
  rw [this]
  omega
/-! the state of reading: marked, letters, words, wanted words -/
abbrev PSt : Type := Int × Int × Int × Int
def acc (am wp : Int) (q : PSt) (x : Int) : Bool :=
  if 97 ≤ x ∧ x ≤ 122 then decide (q.2.1 + 1 ≤ 24)
  else if x = 39 then decide (am = 1 ∧ q.2.1 = 0 ∧ q.1 = 0)
  else decide (0 < q.2.1 ∧ ((x = 32 ∧ q.2.2.1 ≠ q.2.2.2) ∨ (x = 61 ∧ wp = 1 ∧ q.2.2.2 = 0)))
def nst (q : PSt) (x : Int) : PSt :=
  if 97 ≤ x ∧ x ≤ 122 then (q.1, q.2.1 + 1, q.2.2)
  else if x = 39 then (1, q.2.1, q.2.2)
  else if x = 32 then (0, 0, q.2.2.1 + 1, q.2.2.2)
  else (0, 0, 1, q.2.2.1)
def rnS (w : List Int) : Nat → PSt
  | 0 => (0, 0, 1, 0)
  | n + 1 => nst (rnS w n) (lat w n)
theorem rnS_s {w : List Int} {z : Int} (h : 0 ≤ z) : rnS w (z + 1).toNat = nst (rnS w z.toNat) (lat w z) := by
  obtain ⟨n, rfl⟩ := Int.eq_ofNat_of_zero_le h
  rfl
theorem rnS_b (w : List Int) : ∀ n : Nat, 0 ≤ (rnS w n).1 ∧ (rnS w n).1 ≤ 1 ∧ 0 ≤ (rnS w n).2.1 ∧ (rnS w n).2.1 ≤ n ∧ 1 ≤ (rnS w n).2.2.1 ∧ (rnS w n).2.2.1 ≤ n + 1 ∧ 0 ≤ (rnS w n).2.2.2 ∧ (rnS w n).2.2.2 ≤ n + 1
  | 0 => by simp [rnS]
  | n + 1 => by
    have := rnS_b w n
    simp only [rnS, nst]
    split
    · simp only; omega
    · split
      · simp only; omega
      · split <;> simp only <;> omega
def okA (am wp : Int) (w : List Int) (j : Int) : Prop := acc am wp (rnS w j.toNat) (lat w j) = true
def gdA (wp : Int) (q : PSt) : Prop := 0 < q.2.1 ∧ (wp = 0 ∨ q.2.2.1 = q.2.2.2)
/-- r is the error position, -1 where there is none -/
def PE (am wp : Int) (w : List Int) (r : Int) : Prop :=
  (0 ≤ r ∧ r < w.length ∧ ¬ okA am wp w r ∧ ∀ j : Int, 0 ≤ j → j < r → okA am wp w j) ∨
  ((∀ j : Int, 0 ≤ j → j < w.length → okA am wp w j) ∧ ((gdA wp (rnS w w.length) ∧ r = -1) ∨ (¬ gdA wp (rnS w w.length) ∧ r = w.length)))
theorem PE_uniq {am wp : Int} {w : List Int} {r r' : Int} (h : PE am wp w r) (h' : PE am wp w r') : r = r' := by
  rcases h with ⟨a1, a2, a3, a4⟩ | ⟨a1, a2⟩ <;> rcases h' with ⟨b1, b2, b3, b4⟩ | ⟨b1, b2⟩
  · rcases Int.lt_trichotomy r r' with h | h | h
    · exact absurd (b4 r a1 h) a3
    · exact h
    · exact absurd (a4 r' b1 h) b3
  · exact absurd (b1 r a1 a2) a3
  · exact absurd (a1 r' b1 b2) b3
  · rcases a2 with ⟨x, y⟩ | ⟨x, y⟩ <;> rcases b2 with ⟨x', y'⟩ | ⟨x', y'⟩
    · omega
    · exact absurd x x'
    · exact absurd x' x
    · omega
/-! a text of a rule -/
def imin (a b : Int) : Int := if b < a then b else a
def errR (w : List Int) : Int :=
  if imin (lend w 0) 6 = 0 ∨ lat w (imin (lend w 0) 6) ≠ 61 then imin (lend w 0) 6
  else if imin (lend w (imin (lend w 0) 6 + 1)) (imin (lend w 0) 6 + 1 + 12) < w.length then imin (lend w (imin (lend w 0) 6 + 1)) (imin (lend w 0) 6 + 1 + 12)
  else if 1 ≤ imin (lend w 0) 6 ∧ imin (lend w 0) 6 ≤ 6 ∧ imin (lend w (imin (lend w 0) 6 + 1)) (imin (lend w 0) 6 + 1 + 12) - (imin (lend w 0) 6 + 1) ≤ 12 ∧ imin (lend w 0) 6 < imin (lend w (imin (lend w 0) 6 + 1)) (imin (lend w 0) 6 + 1 + 12) - (imin (lend w 0) 6 + 1) then -1
  else w.length
def ad_mn (own : String) (idx : Nat) : Prop := Cond.methodLink own idx Lib.Math.min.name ∈ BIG ∧ Cond.static Lib.Math.min.name ∈ BIG ∧ Cond.initialized "java/lang/Math" ∈ BIG ∧ Cond.code Lib.Math.min.name Lib.Math.min.code 2 (some .int) ∈ BIG
theorem mn_X8_15 : ad_mn RX8 15 := ⟨ms_X8_15.1, ms_X8_15.2, my_J9_min_7cf53.2.2, by
  have := my_J9_min_7cf53.1
  have e : Cond.code Lib.Math.min.name Lib.Math.min.code 2 (some .int) = Cond.code yJ9_min_7cf53 cJ9_min_7cf53 2 (some .int) := by decide +kernel
  rw [e]; exact this⟩
theorem mn_X10_379 : ad_mn RX10 379 := ⟨ms_X10_379.1, ms_X10_379.2, mn_X8_15.2.2.1, mn_X8_15.2.2.2⟩
section ADM
variable {p : Program} {l : Launch} {e : Env} {R : Room} {s : State} {m : MethodId} {args : Array Value} {below : List Frame} {meth : Method} {c : Code} {H : Heap} {locs : List Loc} {cells slots : Nat} {Q : State → Prop}
variable {own nm : String} {cc : ByteArray} {nL : Nat} {ret : Option FieldType} {D : va_G} {K : Nat → ClassId} {z0 : Nat} {A : Nat → Prop} {ws : va_W} {pc : Nat} {ls : Array Slot} {rest : List Value} {a : Nat}
theorem ad_min (F : ad_F p s m args meth c own nm cc nL ret D K z0 A) {idx : Nat} (X : ad_mn own idx) (hlv : ls.size = nL) (hf : 1 ≤ R.frames) (hl : (rest.map fun v => v.category).sum + 13 ≤ R.locals) (hc : cells ≤ R.cells) (hs : slots ≤ R.slots) {x y : Int} (hr : -2147483648 ≤ x ∧ x < 2147483648 ∧ -2147483648 ≤ y ∧ y < 2147483648) (d : decode cc pc = .ok (.invokestatic idx, 3)) (k : W p l e R s m args below meth c H locs cells slots Q (F0 m (pc + 3) ls (.int (iI (imin x y)) :: rest))) : W p l e R s m args below meth c H locs cells slots Q (F0 m pc ls (.int (iI y) :: .int (iI x) :: rest)) := by
  refine va_mmin F.1 F.2.1 (F.2.2.2.1.trans hlv.symm) F.2.2.2.2.1 (F.in X.1) (F.in X.2.1) (F.in X.2.2.1) (F.in X.2.2.2) hf hl hc hs d ?_
  have e : (if iI y < iI x then iI y else iI x) = iI (imin x y) := by
    unfold imin
    by_cases h : y < x
    · rw [if_pos h, if_pos ((iI_lt (by omega)).mpr h)]
    · rw [if_neg h, if_neg (fun q => h ((iI_lt (by omega)).mp q))]
  rw [e]
  exact k
end ADM
