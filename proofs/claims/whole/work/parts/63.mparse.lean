/-! the reference's way of reading, against the states of reading -/
def fA (am : Int) (w : List Int) (z : Int) : Int := if am = 1 then frm w z else z
def PSI (am wp : Int) (w : List Int) (n0 wt : Int) (n : Nat) : Prop :=
  0 ≤ stk w n ∧ stk w n ≤ w.length ∧ (∀ j : Int, 0 ≤ j → j < stk w n → okA am wp w j) ∧ rnS w (stk w n).toNat = (0, 0, (n : Int) - n0 + 1, wt) ∧ ∀ j : Nat, j < n → WdOk w j ∧ (bW w j = stk w j ∨ am = 1)
def PSX (am wp : Int) (w : List Int) (n0 wt : Int) (n : Nat) (f e wr : Int) : Prop :=
  ∃ mk : Int, (f = fA am w (stk w n) ∧ 0 ≤ stk w n ∧ stk w n ≤ f ∧ f ≤ stk w n + 1 ∧ f ≤ e ∧ e ≤ w.length ∧ e - f ≤ 24) ∧ (∀ j : Int, 0 ≤ j → j < e → okA am wp w j) ∧ rnS w e.toNat = (mk, e - f, (n : Int) - n0 + 1, wt) ∧ (∀ j : Int, f ≤ j → j < e → isL (lat w j)) ∧ ((wr = 0 ∧ f < e) ∨ (wr = 1 ∧ e = f)) ∧ (e < w.length → isL (lat w e) → e - f = 24) ∧ (wr = 1 → e < w.length → ¬ okA am wp w e) ∧ ∀ j : Nat, j < n → WdOk w j ∧ (bW w j = stk w j ∨ am = 1)
theorem psi_0 (am wp : Int) (w : List Int) : PSI am wp w 0 0 0 := ⟨by simp [stk], by simp only [stk]; omega, fun j h0 h1 => by simp only [stk] at h1; omega, rfl, fun j hj => absurd hj (Nat.not_lt_zero _)⟩
theorem psx_of {am wp : Int} {w : List Int} {n0 wt : Int} {n : Nat} {f e wr : Int} (h : PSI am wp w n0 wt n) (hf : f = fA am w (stk w n)) (he : e = imin (lend w f) (f + 24)) (hr : (wr = 0 ∧ f < e) ∨ (wr = 1 ∧ e = f)) : PSX am wp w n0 wt n f e wr := by
  obtain ⟨p0, p1, pk, pq, pw⟩ := h
  obtain ⟨mk, hf0, hf1, hfl, hfq, hfk, hfm⟩ : ∃ mk : Int, stk w n ≤ f ∧ f ≤ stk w n + 1 ∧ f ≤ w.length ∧ rnS w f.toNat = (mk, 0, (n : Int) - n0 + 1, wt) ∧ (∀ j : Int, 0 ≤ j → j < f → okA am wp w j) ∧ (am = 1 → mk = 0 → lat w f ≠ 39) := by
    by_cases hx : am = 1 ∧ lat w (stk w n) = 39
    · have hs : stk w n < w.length := Decidable.byContradiction (fun q => by have := lat_out (w := w) (z := stk w n) (Or.inr (by omega)); omega)
      have hfe : f = stk w n + 1 := by rw [hf, fA, if_pos hx.1, frm, if_pos hx.2]
      subst hfe
      refine ⟨1, by omega, by omega, by omega, ?_, fun j j0 j1 => ?_, fun _ q => absurd q (by decide)⟩
      · rw [rnS_s p0, pq, hx.2]; rfl
      · rcases (show j < stk w n ∨ j = stk w n by omega) with q | q
        · exact pk j j0 q
        · subst q
          unfold okA acc
          rw [pq, hx.2]
          simp [hx.1]
    · have hfe : f = stk w n := by
        rw [hf, fA]
        split
        · rename_i ha
          rw [frm, if_neg (fun q => hx ⟨ha, q⟩)]
        · rfl
      subst hfe
      exact ⟨0, by omega, by omega, p1, pq, pk, fun ha _ q => hx ⟨ha, q⟩⟩
  obtain ⟨l1, l2, l3, l4⟩ := lend_sp (w := w) (z := f) (by omega) hfl
  obtain ⟨m1, m2, m3⟩ := imin_sp (lend w f) (f + 24)
  rw [← he] at m1 m2 m3
  have hl : ∀ j : Int, f ≤ j → j < e → isL (lat w j) := fun j a b => l3 j a (by omega)
  have run := run_word (by omega) hfq hl
  have hre : rnS w e.toNat = (mk, e - f, (n : Int) - n0 + 1, wt) := by
    have := run (e - f).toNat (by omega)
    rw [show f + ((e - f).toNat : Int) = e by omega] at this
    rw [this]
    simp only [Prod.mk.injEq, true_and, and_true]
    omega
  refine ⟨mk, ⟨hf, p0, hf0, hf1, by omega, by omega, by omega⟩, fun j j0 j1 => ?_, hre, hl, hr, fun q1 q2 => ?_, fun q1 q2 => ?_, pw⟩
  · rcases (show j < f ∨ f ≤ j by omega) with q | q
    · exact hfk j j0 q
    · have hr := run (j - f).toNat (by omega)
      rw [show f + ((j - f).toNat : Int) = j by omega] at hr
      have hll : 97 ≤ lat w j ∧ lat w j ≤ 122 := hl j q j1
      unfold okA acc
      rw [hr, if_pos hll]
      exact decide_eq_true (by simp only; omega)
  · rcases m3 with q | q
    · exact absurd q2 (by rw [q]; exact l4 (by omega))
    · omega
  · have hef : e = f := by omega
    have hlf : lend w f = f := by rcases m3 with q | q <;> omega
    have hnl : ¬ (97 ≤ lat w f ∧ lat w f ≤ 122) := by have := l4 (by omega); rw [hlf] at this; exact this
    rw [hef]
    unfold okA acc
    rw [hfq, if_neg hnl]
    by_cases hx : lat w f = 39
    · rw [if_pos hx]
      intro q
      have q := of_decide_eq_true q
      exact hfm q.1 q.2.2 hx
    · rw [if_neg hx]
      intro q
      have q := of_decide_eq_true q
      exact absurd q.1 (by simp)
theorem psx_wd {am wp : Int} {w : List Int} {n0 wt : Int} {n : Nat} {f e : Int} (h : PSX am wp w n0 wt n f e 0) (hs : e < w.length → ¬ isL (lat w e)) : bW w n = f ∧ eW w n = e ∧ stk w (n + 1) = e + 1 ∧ ∀ j : Nat, j < n + 1 → WdOk w j ∧ (bW w j = stk w j ∨ am = 1) := by
  obtain ⟨mk, ⟨a1, a2, a3, a4, a5, a6, a7⟩, b, c, d, r, i, k, pw⟩ := h
  have hfe : f < e := by omega
  have hb : bW w n = f := by
    unfold bW
    by_cases ha : am = 1
    · rw [a1, fA, if_pos ha]
    · have hfs : f = stk w n := by rw [a1, fA, if_neg ha]
      have hl : 97 ≤ lat w f ∧ lat w f ≤ 122 := d f (by omega) hfe
      rw [← hfs, frm, if_neg (by omega)]
  have hbs : bW w n = stk w n ∨ am = 1 := by
    by_cases ha : am = 1
    · exact Or.inr ha
    · left; rw [hb, a1, fA, if_neg ha]
  have he : eW w n = e := by
    unfold eW
    rw [hb]
    exact lend_eq (by omega) (by omega) a6 d hs
  refine ⟨hb, he, by rw [stk_s, he], fun j hj => ?_⟩
  rcases (show j < n ∨ j = n by omega) with q | q
  · exact pw j q
  · subst q
    refine ⟨⟨a2, by omega, by omega, by omega, by omega, by rw [hb, he]; exact d, by omega⟩, hbs⟩
theorem psx_sp {am wp : Int} {w : List Int} {n0 wt : Int} {n : Nat} {f e : Int} (h : PSX am wp w n0 wt n f e 0) (hl : e < w.length) (hx : lat w e = 32) (hn : (n : Int) - n0 + 1 ≠ wt) : PSI am wp w n0 wt (n + 1) := by
  obtain ⟨hb, he, hs, hw⟩ := psx_wd h (fun _ q => by rw [hx] at q; exact absurd q (by unfold isL; omega))
  obtain ⟨mk, ⟨a1, a2, a3, a4, a5, a6, a7⟩, b, c, d, r, i, k, pw⟩ := h
  refine ⟨by omega, by omega, fun j j0 j1 => ?_, ?_, hw⟩
  · rcases (show j < e ∨ j = e by omega) with q | q
    · exact b j j0 q
    · subst q
      unfold okA acc
      rw [c, hx]
      simp only [show ¬ ((97 : Int) ≤ 32 ∧ (32 : Int) ≤ 122) by omega, if_false, show ¬ ((32 : Int) = 39) by omega]
      exact decide_eq_true ⟨by omega, Or.inl ⟨trivial, hn⟩⟩
  · rw [hs, rnS_s (by omega), c, hx]
    show ((0 : Int), (0 : Int), (n : Int) - n0 + 1 + 1, wt) = _
    simp only [Prod.mk.injEq, true_and, and_true]
    omega
theorem psx_eq {am : Int} {w : List Int} {n0 : Int} {n : Nat} {f e : Int} (h : PSX am 1 w n0 0 n f e 0) (hl : e < w.length) (hx : lat w e = 61) : PSI am 1 w ((n : Int) + 1) ((n : Int) - n0 + 1) (n + 1) := by
  obtain ⟨hb, he, hs, hw⟩ := psx_wd h (fun _ q => by rw [hx] at q; exact absurd q (by unfold isL; omega))
  obtain ⟨mk, ⟨a1, a2, a3, a4, a5, a6, a7⟩, b, c, d, r, i, k, pw⟩ := h
  refine ⟨by omega, by omega, fun j j0 j1 => ?_, ?_, hw⟩
  · rcases (show j < e ∨ j = e by omega) with q | q
    · exact b j j0 q
    · subst q
      unfold okA acc
      rw [c, hx]
      simp only [show ¬ ((97 : Int) ≤ 61 ∧ (61 : Int) ≤ 122) by omega, if_false, show ¬ ((61 : Int) = 39) by omega]
      exact decide_eq_true ⟨by omega, Or.inr (by simp)⟩
  · rw [hs, rnS_s (by omega), c, hx]
    show ((0 : Int), (0 : Int), (1 : Int), (n : Int) - n0 + 1) = _
    simp only [Prod.mk.injEq, true_and, and_true]
    omega
theorem psx_nok {am wp : Int} {w : List Int} {n0 wt : Int} {n : Nat} {f e wr : Int} (h : PSX am wp w n0 wt n f e wr) (hl : e < w.length) (h1 : wr = 0 → lat w e ≠ 32 ∨ (n : Int) - n0 + 1 = wt) (h2 : wr = 0 → lat w e ≠ 61 ∨ wp = 0 ∨ wt ≠ 0) : ¬ okA am wp w e := by
  obtain ⟨mk, ⟨a1, a2, a3, a4, a5, a6, a7⟩, b, c, d, r, i, k, pw⟩ := h
  rcases r with ⟨r1, r2⟩ | ⟨r1, r2⟩
  · have h1 := h1 r1
    have h2 := h2 r1
    unfold okA acc
    rw [c]
    split
    · rename_i q
      have := i hl q
      intro z
      have z := of_decide_eq_true z
      simp only at z
      omega
    · split
      · intro z
        have z := of_decide_eq_true z
        simp only at z
        omega
      · intro z
        have z := of_decide_eq_true z
        simp only at z
        omega
  · exact k r1 hl
theorem psx_err {am wp : Int} {w : List Int} {n0 wt : Int} {n : Nat} {f e wr : Int} (h : PSX am wp w n0 wt n f e wr) (h1 : e < w.length → ¬ okA am wp w e) (h2 : e = w.length → wr = 0 → ¬ (wp = 0 ∨ (n : Int) - n0 + 1 = wt)) : PE am wp w e := by
  obtain ⟨mk, ⟨a1, a2, a3, a4, a5, a6, a7⟩, b, c, d, r, i, k, pw⟩ := h
  rcases (show e < w.length ∨ e = w.length by omega) with q | q
  · exact Or.inl ⟨by omega, q, h1 q, b⟩
  · refine Or.inr ⟨fun j j0 j1 => b j j0 (by omega), Or.inr ⟨fun g => ?_, q⟩⟩
    rw [show w.length = e.toNat by omega, c] at g
    obtain ⟨g1, g2⟩ := g
    simp only at g1 g2
    exact h2 q (by omega) g2
theorem psx_good {am wp : Int} {w : List Int} {n0 wt : Int} {n : Nat} {f e : Int} (h : PSX am wp w n0 wt n f e 0) (he : e = w.length) (h2 : wp = 0 ∨ (n : Int) - n0 + 1 = wt) : PE am wp w (-1) := by
  obtain ⟨mk, ⟨a1, a2, a3, a4, a5, a6, a7⟩, b, c, d, r, i, k, pw⟩ := h
  refine Or.inr ⟨fun j j0 j1 => b j j0 (by omega), Or.inl ⟨?_, rfl⟩⟩
  rw [show w.length = e.toNat by omega, c]
  exact ⟨by show 0 < e - f; omega, h2⟩
theorem stk_uniq {w : List Int} {a b : Nat} (ha : stk w a = w.length + 1) (hb : stk w b = w.length + 1) (h1 : ∀ j : Nat, j < a → WdOk w j) (h2 : ∀ j : Nat, j < b → WdOk w j) : a = b := by
  rcases Nat.lt_trichotomy a b with h | h | h
  · obtain ⟨x1, x2, x3, x4, -⟩ := h2 a h; omega
  · exact h
  · obtain ⟨x1, x2, x3, x4, -⟩ := h1 b h; omega
theorem imin_lend {w : List Int} {z r m : Int} (h0 : 0 ≤ z) (h1 : z ≤ r) (h2 : r ≤ z + m) (h3 : r ≤ w.length) (hl : ∀ j : Int, z ≤ j → j < r → isL (lat w j)) (he : r < w.length → isL (lat w r) → r = z + m) : imin (lend w z) (z + m) = r := by
  obtain ⟨l1, l2, l3, l4⟩ := lend_sp (w := w) (z := z) h0 (by omega)
  unfold imin
  by_cases hr : r = z + m
  · have : z + m ≤ lend w z := Decidable.byContradiction (fun q => by
      have := l4 (by omega)
      exact this (hl _ (by omega) (by omega)))
    split <;> omega
  · have : lend w z = r := lend_eq h0 h1 h3 hl (fun a b => hr (he a b))
    split <;> omega
/-- the words that were read, as the arrays hold them -/
def mkW (w : List Int) (j : Nat) : Int := if lat w (stk w j) = 39 then 1 else 0
def RdW (gb gl gm : Nat → Int) (w : List Int) (n : Nat) : Prop := ∀ j : Nat, j < n → gb j = bW w j ∧ gl j = eW w j - bW w j ∧ gm j = mkW w j
theorem RdW_push {gb gl gm gm2 : Nat → Int} {w : List Int} {n : Nat} (h : RdW gb gl gm w n) {f e mk : Int} (hb : bW w n = f) (he : eW w n = e) (hm : mkW w n = mk) (h2 : ∀ j : Nat, (j : Int) ≠ n → gm2 j = gm j) (h3 : gm2 n = mk) : RdW (va_up gb (n : Int).toNat f) (va_up gl (n : Int).toNat (e - f)) gm2 w (n + 1) := by
  intro j hj
  by_cases e1 : j = n
  · subst e1
    simp only [va_up, Int.toNat_natCast, if_true]
    exact ⟨hb.symm, by rw [hb, he], by rw [h3, hm]⟩
  · have : ¬ j = (n : Int).toNat := by omega
    simp only [va_up, if_neg this]
    have := h j (by omega)
    rw [h2 j (by omega)]
    exact this
theorem errR_a {w : List Int} {S : Int} (hS : S = imin (lend w 0) (0 + 6)) (h : S = 0 ∨ lat w S ≠ 61) : errR w = S := by
  rw [show (0 : Int) + 6 = 6 by omega] at hS
  unfold errR
  rw [← hS, if_pos h]
theorem errR_b' {w : List Int} {S E : Int} (hS : S = imin (lend w 0) (0 + 6)) (h0 : S ≠ 0) (hx : lat w S = 61) (hE : E = imin (lend w (S + 1)) (S + 1 + 12)) : errR w = if E < w.length then E else if 1 ≤ S ∧ S ≤ 6 ∧ E - (S + 1) ≤ 12 ∧ S < E - (S + 1) then -1 else w.length := by
  rw [show (0 : Int) + 6 = 6 by omega] at hS
  unfold errR
  rw [← hS, if_neg (by omega), ← hE]
