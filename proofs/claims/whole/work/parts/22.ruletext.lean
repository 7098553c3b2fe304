/-! a right text of a rule -/
theorem imin_sp (a b : Int) : imin a b ≤ a ∧ imin a b ≤ b ∧ (imin a b = a ∨ imin a b = b) := by unfold imin; split <;> omega
def shW (w : List Int) : List Int := sl w 0 (lend w 0)
def loW (w : List Int) : List Int := sl w (lend w 0 + 1) w.length
theorem sl_let {w : List Int} {i j : Int} (h0 : 0 ≤ i) (h1 : i ≤ j) (h2 : j ≤ w.length) (ha : ∀ k : Int, i ≤ k → k < j → isL (lat w k)) : ∀ x ∈ sl w i j, 97 ≤ x ∧ x ≤ 122 := by
  intro x hx
  obtain ⟨n, hn, rfl⟩ := List.getElem_of_mem hx
  have hl := sl_len h0 h1 h2
  have e : (sl w i j)[n] = lat (sl w i j) (n : Int) := by
    have h0 : (0 : Int) ≤ n := by omega
    rw [lat, if_pos h0, Int.toNat_natCast, gd_in hn]
  rw [e, sl_at h0 (by omega) (by omega)]
  exact ha _ (by omega) (by omega)
theorem errR_ok {w : List Int} (h : errR w = -1) : 1 ≤ lend w 0 ∧ lend w 0 ≤ 6 ∧ lend w 0 + 1 ≤ w.length ∧ (w.length : Int) - (lend w 0 + 1) ≤ 12 ∧ lend w 0 < (w.length : Int) - (lend w 0 + 1) ∧ Fw (shW w) ∧ Fw (loW w) ∧ ((shW w).length : Int) = lend w 0 ∧ ((loW w).length : Int) = w.length - (lend w 0 + 1) := by
  obtain ⟨l1, l2, l3, l4⟩ := lend_sp (w := w) (z := 0) (by omega) (by omega)
  obtain ⟨m1, m2, m3⟩ := imin_sp (lend w 0) 6
  unfold errR at h
  generalize hS : imin (lend w 0) 6 = S at *
  by_cases c1 : S = 0 ∨ lat w S ≠ 61
  · rw [if_pos c1] at h; omega
  · rw [if_neg c1] at h
    have c61 : lat w S = 61 := by omega
    have hSl : S < w.length := Decidable.byContradiction (fun q => by have := lat_out (w := w) (z := S) (Or.inr (by omega)); omega)
    have hSe : S = lend w 0 := by
      rcases m3 with h | h
      · exact h
      · by_cases e : lend w 0 = 6
        · omega
        · exfalso
          have := l3 S (by omega) (by omega)
          unfold isL at this
          omega
    obtain ⟨k1, k2, k3, k4⟩ := lend_sp (w := w) (z := S + 1) (by omega) (by omega)
    obtain ⟨n1, n2, n3⟩ := imin_sp (lend w (S + 1)) (S + 1 + 12)
    generalize hE : imin (lend w (S + 1)) (S + 1 + 12) = E at *
    by_cases c2 : E < w.length
    · rw [if_pos c2] at h; omega
    · rw [if_neg c2] at h
      by_cases c3 : 1 ≤ S ∧ S ≤ 6 ∧ E - (S + 1) ≤ 12 ∧ S < E - (S + 1)
      · have hEl : E = w.length := by omega
        have hle : lend w (S + 1) = w.length := by omega
        have q1 : ((shW w).length : Int) = lend w 0 := by
          unfold shW; rw [sl_len (by omega) (by omega) (by omega)]; omega
        have q2 : ((loW w).length : Int) = w.length - (lend w 0 + 1) := by
          unfold loW; rw [sl_len (by omega) (by omega) (by omega)]
        refine ⟨by omega, by omega, by omega, by omega, by omega, ⟨by omega, ?_⟩, ⟨by omega, ?_⟩, q1, q2⟩
        · exact sl_let (by omega) (by omega) (by omega) (fun k h1 h2 => l3 k h1 h2)
        · exact sl_let (by omega) (by omega) (by omega) (fun k h1 h2 => k3 k (by omega) (by omega))
      · rw [if_neg c3] at h; omega
theorem errR_b (w : List Int) : -1 ≤ errR w ∧ errR w ≤ w.length := by
  obtain ⟨l1, l2, l3, l4⟩ := lend_sp (w := w) (z := 0) (by omega) (by omega)
  obtain ⟨m1, m2, m3⟩ := imin_sp (lend w 0) 6
  unfold errR
  generalize hS : imin (lend w 0) 6 = S at *
  split
  · omega
  · have hSl : S < w.length := Decidable.byContradiction (fun q => by have := lat_out (w := w) (z := S) (Or.inr (by omega)); omega)
    obtain ⟨k1, k2, k3, k4⟩ := lend_sp (w := w) (z := S + 1) (by omega) (by omega)
    obtain ⟨n1, n2, n3⟩ := imin_sp (lend w (S + 1)) (S + 1 + 12)
    split
    · omega
    · split <;> omega
theorem RO_of {w : List Int} (h : errR w = -1) {k p c : Int} (h1 : 0 ≤ k ∧ k ≤ 2) (h2 : 0 ≤ p ∧ p ≤ 99) (h3 : 0 ≤ c ∧ c ≤ 4) : RO (k, p, c, shW w, loW w) := by
  obtain ⟨a1, a2, a3, a4, a5, a6, a7, a8, a9⟩ := errR_ok h
  exact ⟨h1, h2, h3, a6, a7, by simp only; omega, by simp only; omega, by simp only; omega⟩
def insR (rs : List Rl) (r : Rl) : List Rl := if rs.length < 24 then rs ++ [r] else rs
theorem PE_b {am wp : Int} {w : List Int} {r : Int} (h : PE am wp w r) : -1 ≤ r ∧ r ≤ w.length := by
  rcases h with ⟨a, b, -⟩ | ⟨-, ⟨-, a⟩ | ⟨-, a⟩⟩ <;> omega
theorem RW_lrnT {rs : List Rl} {ps : List Pr} {th : Int} {w : List Int} {n : Nat} {B : Int} (h : RW rs) (hP : PW ps B) (hB : 0 ≤ B) (hB2 : B + 25 ≤ 1000000) (ht : 1 ≤ th ∧ th ≤ 9) (hr : RP w n) : ∀ k : Nat, k ≤ n → RW (lrnT rs ps th w n k).1 ∧ PW (lrnT rs ps th w n k).2 (B + k)
  | 0, _ => ⟨h, by rw [show B + ((0 : Nat) : Int) = B by omega]; exact hP⟩
  | k + 1, hk => by
    obtain ⟨i1, i2⟩ := RW_lrnT h hP hB hB2 ht hr k (by omega)
    have hn := hr.2.1
    simp only [lrnT]
    split
    · rename_i hf
      have hpf := PF_of (hr.2.2.2.1 k (by omega)).1 (hr.2.2.2.1 (n + k) (by omega)).1 hf
      exact ⟨RW_lrn i1 ht hpf, by
        have := PW_lrn i2 (by omega) (by omega) hpf
        rwa [show B + (k : Int) + 1 = B + ((k + 1 : Nat) : Int) by omega] at this⟩
    · exact ⟨i1, i2.1, by omega, fun p hp => by
        obtain ⟨a, b, c⟩ := i2.2.2 p hp
        exact ⟨a, by omega, c⟩⟩
