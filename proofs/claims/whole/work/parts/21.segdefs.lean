/-! the words of a right text -/
def frm (w : List Int) (z : Int) : Int := if lat w z = 39 then z + 1 else z
def stk (w : List Int) : Nat → Int
  | 0 => 0
  | k + 1 => lend w (frm w (stk w k)) + 1
def bW (w : List Int) (k : Nat) : Int := frm w (stk w k)
def eW (w : List Int) (k : Nat) : Int := lend w (bW w k)
def wW (w : List Int) (k : Nat) : List Int := sl w (bW w k) (eW w k)
theorem stk_s (w : List Int) (k : Nat) : stk w (k + 1) = eW w k + 1 := rfl
def WdOk (w : List Int) (k : Nat) : Prop := 0 ≤ stk w k ∧ stk w k ≤ bW w k ∧ bW w k < eW w k ∧ eW w k ≤ w.length ∧ eW w k - bW w k ≤ 24 ∧ (∀ j : Int, bW w k ≤ j → j < eW w k → isL (lat w j)) ∧ bW w k ≤ stk w k + 1
theorem tw_pre {α : Type} (f : α → Bool) : ∀ (l : List α) (j : Nat) (h : j < l.length), j < (l.takeWhile f).length → f l[j] = true
  | [], j, h, _ => absurd h (by simp)
  | x :: t, j, h, h1 => by
    by_cases hx : f x = true
    · rw [List.takeWhile_cons_of_pos hx] at h1
      cases j with
      | zero => exact hx
      | succ j => exact tw_pre f t j (by simpa using h) (by simpa using h1)
    · rw [List.takeWhile_cons_of_neg hx] at h1
      simp at h1
theorem tw_end {α : Type} (f : α → Bool) : ∀ (l : List α) (h : (l.takeWhile f).length < l.length), f l[(l.takeWhile f).length] = false
  | [], h => absurd h (by simp)
  | x :: t, h => by
    by_cases hx : f x = true
    · simp only [List.takeWhile_cons_of_pos hx, List.length_cons, List.getElem_cons_succ] at h ⊢
      exact tw_end f t (by omega)
    · simp only [List.takeWhile_cons_of_neg hx, List.length_nil, List.getElem_cons_zero]
      simpa using hx
/-- what lend is -/
theorem lend_sp {w : List Int} {z : Int} (h0 : 0 ≤ z) (h1 : z ≤ w.length) : z ≤ lend w z ∧ lend w z ≤ w.length ∧ (∀ j : Int, z ≤ j → j < lend w z → isL (lat w j)) ∧ (lend w z < w.length → ¬ isL (lat w (lend w z))) := by
  have hle : ((w.drop z.toNat).takeWhile isLb).length ≤ (w.drop z.toNat).length := (List.takeWhile_prefix isLb).length_le
  have hl2 : (w.drop z.toNat).length = w.length - z.toNat := by simp
  have key : ∀ j : Nat, (h : j < (w.drop z.toNat).length) → (w.drop z.toNat)[j] = lat w (z + j) := fun j h => by
    have e : 0 ≤ z + (j : Int) := by omega
    rw [List.getElem_drop, lat, if_pos e, gd_in (by omega)]
    congr 1
    omega
  unfold lend
  refine ⟨by omega, by omega, fun j hj hn => ?_, fun hn => ?_⟩
  · have hjl : (j - z).toNat < (w.drop z.toNat).length := by omega
    have := tw_pre isLb (w.drop z.toNat) (j - z).toNat hjl (by omega)
    rw [key _ hjl, show z + ((j - z).toNat : Int) = j by omega] at this
    have this : (decide (97 ≤ lat w j ∧ lat w j ≤ 122)) = true := this
    show 97 ≤ lat w j ∧ lat w j ≤ 122
    exact of_decide_eq_true this
  · have hlt : ((w.drop z.toNat).takeWhile isLb).length < (w.drop z.toNat).length := by omega
    have := tw_end isLb (w.drop z.toNat) hlt
    rw [key _ hlt] at this
    have this : (decide (97 ≤ lat w (z + (((w.drop z.toNat).takeWhile isLb).length : Int)) ∧ lat w (z + (((w.drop z.toNat).takeWhile isLb).length : Int)) ≤ 122)) = false := this
    show ¬ (97 ≤ lat w (z + (((w.drop z.toNat).takeWhile isLb).length : Int)) ∧ lat w (z + (((w.drop z.toNat).takeWhile isLb).length : Int)) ≤ 122)
    exact of_decide_eq_false this
theorem nst_letter {q : PSt} {x : Int} (h : isL x) : nst q x = (q.1, q.2.1 + 1, q.2.2) := if_pos h
theorem run_word {w : List Int} {f e mk wd wt : Int} (h0 : 0 ≤ f) (hq : rnS w f.toNat = (mk, 0, wd, wt)) (ha : ∀ j : Int, f ≤ j → j < e → isL (lat w j)) : ∀ n : Nat, f + n ≤ e → rnS w (f + n).toNat = (mk, (n : Int), wd, wt)
  | 0, _ => by simpa using hq
  | n + 1, h => by
    have ih := run_word h0 hq ha n (by omega)
    rw [show f + ((n + 1 : Nat) : Int) = (f + n) + 1 by omega, rnS_s (by omega), ih, nst_letter (ha _ (by omega) (by omega))]
    simp only [Prod.mk.injEq, true_and, and_true]
    omega
/-- one word of a right text, from its first character on -/
theorem word_step {am wp : Int} {w : List Int} (hok : ∀ j : Int, 0 ≤ j → j < w.length → okA am wp w j) (hg : gdA wp (rnS w w.length)) {s wd wt : Int} (h0 : 0 ≤ s) (h1 : s ≤ w.length) (hq : rnS w s.toNat = (0, 0, wd, wt)) :
    s ≤ frm w s ∧ frm w s ≤ s + 1 ∧ (frm w s = s ∨ am = 1) ∧ frm w s < lend w (frm w s) ∧ lend w (frm w s) ≤ w.length ∧ lend w (frm w s) - frm w s ≤ 24 ∧ (∀ j : Int, frm w s ≤ j → j < lend w (frm w s) → isL (lat w j)) ∧
    ((lend w (frm w s) = w.length ∧ (wp = 0 ∨ wd = wt)) ∨ (lend w (frm w s) < w.length ∧ lat w (lend w (frm w s)) = 32 ∧ wd ≠ wt ∧ rnS w (lend w (frm w s) + 1).toNat = (0, 0, wd + 1, wt)) ∨
     (lend w (frm w s) < w.length ∧ lat w (lend w (frm w s)) = 61 ∧ wp = 1 ∧ wt = 0 ∧ rnS w (lend w (frm w s) + 1).toNat = (0, 0, 1, wd))) := by
  have fin : ∀ z : Int, 0 ≤ z → z = w.length → ∀ mk a b : Int, rnS w z.toNat = (mk, 0, a, b) → False := fun z hz he mk a b hr => by
    subst he
    rw [Int.toNat_natCast] at hr
    rw [hr] at hg
    exact absurd hg.1 (by simp)
  have hs : s < w.length := by
    rcases (show s < w.length ∨ (w.length : Int) ≤ s by omega) with h | h
    · exact h
    · exact (fin s h0 (by omega) _ _ _ hq).elim
  obtain ⟨mk, hf0, hf1, hfam, hfl, hfq, hfm⟩ : ∃ mk : Int, s ≤ frm w s ∧ frm w s ≤ s + 1 ∧ (frm w s = s ∨ am = 1) ∧ frm w s < w.length ∧ rnS w (frm w s).toNat = (mk, 0, wd, wt) ∧ (lat w (frm w s) = 39 → mk = 1) := by
    by_cases hx : lat w s = 39
    · have hk := hok s h0 hs
      unfold okA acc at hk
      rw [hq, hx] at hk
      simp at hk
      have hn : rnS w (s + 1).toNat = (1, 0, wd, wt) := by
        rw [rnS_s h0, hq, hx]
        rfl
      have hf : frm w s = s + 1 := if_pos hx
      rw [hf]
      refine ⟨1, by omega, by omega, Or.inr hk, ?_, hn, fun _ => rfl⟩
      rcases (show (s + 1) < (w.length : Int) ∨ (w.length : Int) ≤ (s + 1) by omega) with h | h
      · exact h
      · exact (fin (s + 1) (by omega) (by omega) _ _ _ hn).elim
    · have hf : frm w s = s := if_neg hx
      rw [hf]
      exact ⟨0, by omega, by omega, Or.inl rfl, hs, hq, fun h => absurd h hx⟩
  obtain ⟨l1, l2, l3, l4⟩ := lend_sp (w := w) (z := frm w s) (by omega) (by omega)
  generalize hE : lend w (frm w s) = E at *
  generalize hFf : frm w s = f at *
  have run := run_word (by omega) hfq l3
  have hrE : rnS w E.toNat = (mk, E - f, wd, wt) := by
    have := run (E - f).toNat (by omega)
    rw [show f + ((E - f).toNat : Int) = E by omega] at this
    rw [this]
    simp only [Prod.mk.injEq, true_and, and_true]
    omega
  have hfE : f < E := by
    rcases (show f < E ∨ E ≤ f by omega) with h | h
    · exact h
    · exfalso
      have hEf : E = f := by omega
      have hk := hok f (by omega) hfl
      have hnl : ¬ (97 ≤ lat w E ∧ lat w E ≤ 122) := l4 (by omega)
      rw [hEf] at hnl
      unfold okA acc at hk
      rw [hfq, if_neg hnl] at hk
      by_cases hx : lat w f = 39
      · rw [if_pos hx] at hk
        have := hfm hx
        simp [this] at hk
      · rw [if_neg hx] at hk
        simp at hk
  have h24 : E - f ≤ 24 := by
    have hk := hok (E - 1) (by omega) (by omega)
    have hr := run (E - 1 - f).toNat (by omega)
    rw [show f + ((E - 1 - f).toNat : Int) = E - 1 by omega] at hr
    unfold okA acc at hk
    have hll : 97 ≤ lat w (E - 1) ∧ lat w (E - 1) ≤ 122 := l3 (E - 1) (by omega) (by omega)
    rw [hr, if_pos hll] at hk
    have := of_decide_eq_true hk
    simp only at this
    omega
  refine ⟨hf0, hf1, hfam, hfE, l2, h24, l3, ?_⟩
  rcases (show E < w.length ∨ (w.length : Int) ≤ E by omega) with hEl | hEl
  · right
    have hk := hok E (by omega) hEl
    have hnl : ¬ (97 ≤ lat w E ∧ lat w E ≤ 122) := l4 hEl
    unfold okA acc at hk
    rw [hrE, if_neg hnl] at hk
    by_cases hx : lat w E = 39
    · rw [if_pos hx] at hk
      have := of_decide_eq_true hk
      simp only at this
      omega
    · rw [if_neg hx] at hk
      have hk := of_decide_eq_true hk
      simp only at hk
      have hn : rnS w (E + 1).toNat = nst (mk, E - f, wd, wt) (lat w E) := by rw [rnS_s (by omega), hrE]
      rcases hk.2 with ⟨a, b⟩ | ⟨a, b, c⟩
      · left
        refine ⟨hEl, a, b, ?_⟩
        rw [hn, a]
        rfl
      · right
        refine ⟨hEl, a, b, c, ?_⟩
        rw [hn, a]
        rfl
  · left
    have he : E = w.length := by omega
    have hg2 := hg
    rw [show w.length = E.toNat by omega, hrE] at hg2
    exact ⟨he, hg2.2⟩
theorem words_from {am : Int} {w : List Int} (hok : ∀ j : Int, 0 ≤ j → j < w.length → okA am 0 w j) (hg : gdA 0 (rnS w w.length)) : ∀ (m k : Nat), (w.length : Int) - stk w k < m → 0 ≤ stk w k → stk w k ≤ w.length → rnS w (stk w k).toNat = (0, 0, (k : Int) + 1, 0) →
    ∃ N : Nat, k < N ∧ stk w N = w.length + 1 ∧ ∀ j : Nat, k ≤ j → j < N → WdOk w j ∧ (bW w j = stk w j ∨ am = 1)
  | 0, k, h, h0, h1, hq => by omega
  | m + 1, k, h, h0, h1, hq => by
    obtain ⟨a1, a2, a3, a4, a5, a6, a7, a8⟩ := word_step hok hg h0 h1 hq
    have hw : WdOk w k := ⟨h0, a1, a4, a5, a6, a7, a2⟩
    rcases a8 with ⟨b1, b2⟩ | ⟨b1, b2, b3, b4⟩ | ⟨b1, b2, b3, b4⟩
    · refine ⟨k + 1, by omega, ?_, fun j hj hj2 => ?_⟩
      · show lend w (frm w (stk w k)) + 1 = _
        omega
      · have : j = k := by omega
        subst this
        exact ⟨hw, a3⟩
    · have hs : stk w (k + 1) = lend w (frm w (stk w k)) + 1 := rfl
      obtain ⟨N, n1, n2, n3⟩ := words_from hok hg m (k + 1) (by omega) (by omega) (by omega) (by rw [hs, b4]; simp)
      refine ⟨N, by omega, n2, fun j hj hj2 => ?_⟩
      by_cases e : j = k
      · subst e; exact ⟨hw, a3⟩
      · exact n3 j (by omega) hj2
    · omega
theorem stk_ge {w : List Int} : ∀ (n : Nat), (∀ j : Nat, j < n → WdOk w j) → 2 * (n : Int) ≤ stk w n
  | 0, _ => by simp [stk]
  | n + 1, h => by
    have ih := stk_ge n (fun j hj => h j (by omega))
    obtain ⟨a1, a2, a3, -⟩ := h n (by omega)
    rw [stk_s]
    omega
/-- a right text: K words -/
def RT (am : Int) (w : List Int) (N : Nat) : Prop := 1 ≤ N ∧ N ≤ 50 ∧ stk w N = w.length + 1 ∧ ∀ j : Nat, j < N → WdOk w j ∧ (bW w j = stk w j ∨ am = 1)
theorem PE_words {am : Int} {w : List Int} (h : PE am 0 w (-1)) (hl : w.length ≤ 100) : ∃ N : Nat, RT am w N := by
  rcases h with ⟨h, -⟩ | ⟨hok, ⟨hg, -⟩ | ⟨-, h⟩⟩
  · omega
  · obtain ⟨N, n1, n2, n3⟩ := words_from hok hg (w.length + 1) 0 (by simp only [stk]; omega) (by simp [stk]) (by simp only [stk]; omega) rfl
    have := stk_ge N (fun j hj => (n3 j (by omega) hj).1)
    exact ⟨N, by omega, by omega, n2, fun j hj => n3 j (by omega) hj⟩
  · omega
theorem pairs2 {w : List Int} (hok : ∀ j : Int, 0 ≤ j → j < w.length → okA 0 1 w j) (hg : gdA 1 (rnS w w.length)) {n : Int} (hn : 1 ≤ n) : ∀ (m k : Nat) (wd : Int), (w.length : Int) - stk w k < m → 0 ≤ stk w k → stk w k ≤ w.length → rnS w (stk w k).toNat = (0, 0, wd, n) →
    ∃ N : Nat, (N : Int) = k + (n - wd) + 1 ∧ wd ≤ n ∧ stk w N = w.length + 1 ∧ ∀ j : Nat, k ≤ j → j < N → WdOk w j ∧ bW w j = stk w j
  | 0, k, wd, h, h0, h1, hq => by omega
  | m + 1, k, wd, h, h0, h1, hq => by
    obtain ⟨a1, a2, a3, a4, a5, a6, a7, a8⟩ := word_step hok hg h0 h1 hq
    have hw : WdOk w k := ⟨h0, a1, a4, a5, a6, a7, a2⟩
    have hb : bW w k = stk w k := a3.elim id (fun h => by omega)
    rcases a8 with ⟨b1, b2⟩ | ⟨b1, b2, b3, b4⟩ | ⟨b1, b2, b3, b4, b5⟩
    · refine ⟨k + 1, by omega, by omega, ?_, fun j hj hj2 => ?_⟩
      · show lend w (frm w (stk w k)) + 1 = _
        omega
      · have : j = k := by omega
        subst this
        exact ⟨hw, hb⟩
    · have hs : stk w (k + 1) = lend w (frm w (stk w k)) + 1 := rfl
      obtain ⟨N, n1, n2, n3, n4⟩ := pairs2 hok hg hn m (k + 1) (wd + 1) (by omega) (by omega) (by omega) (by rw [hs, b4])
      refine ⟨N, by omega, by omega, n3, fun j hj hj2 => ?_⟩
      by_cases e : j = k
      · subst e; exact ⟨hw, hb⟩
      · exact n4 j (by omega) hj2
    · omega
theorem pairs1 {w : List Int} (hok : ∀ j : Int, 0 ≤ j → j < w.length → okA 0 1 w j) (hg : gdA 1 (rnS w w.length)) : ∀ (m k : Nat), (w.length : Int) - stk w k < m → 0 ≤ stk w k → stk w k ≤ w.length → rnS w (stk w k).toNat = (0, 0, (k : Int) + 1, 0) →
    ∃ n : Nat, k < n ∧ stk w (2 * n) = w.length + 1 ∧ (∀ j : Nat, k ≤ j → j < 2 * n → WdOk w j ∧ bW w j = stk w j) ∧ lat w (eW w (n - 1)) = 61 ∧ ∀ j : Int, stk w k ≤ j → j < eW w (n - 1) → lat w j ≠ 61
  | 0, k, h, h0, h1, hq => by omega
  | m + 1, k, h, h0, h1, hq => by
    obtain ⟨a1, a2, a3, a4, a5, a6, a7, a8⟩ := word_step hok hg h0 h1 hq
    have hw : WdOk w k := ⟨h0, a1, a4, a5, a6, a7, a2⟩
    have hb : bW w k = stk w k := a3.elim id (fun h => by omega)
    have hs : stk w (k + 1) = lend w (frm w (stk w k)) + 1 := rfl
    have hn61 : ∀ j : Int, stk w k ≤ j → j < lend w (frm w (stk w k)) → lat w j ≠ 61 := fun j hj hj2 => by
      have hb' : frm w (stk w k) = stk w k := hb
      have := a7 j (by omega) hj2
      unfold isL at this
      omega
    rcases a8 with ⟨b1, b2⟩ | ⟨b1, b2, b3, b4⟩ | ⟨b1, b2, b3, b4, b5⟩
    · omega
    · obtain ⟨n, n1, n2, n3, n4, n5⟩ := pairs1 hok hg m (k + 1) (by omega) (by omega) (by omega) (by rw [hs, b4]; simp)
      refine ⟨n, by omega, n2, fun j hj hj2 => ?_, n4, fun j hj hj2 => ?_⟩
      · by_cases e : j = k
        · subst e; exact ⟨hw, hb⟩
        · exact n3 j (by omega) hj2
      · rcases (show j < lend w (frm w (stk w k)) ∨ lend w (frm w (stk w k)) ≤ j by omega) with h | h
        · exact hn61 j hj h
        · by_cases e : j = lend w (frm w (stk w k))
          · rw [e, b2]; decide
          · exact n5 j (by omega) hj2
    · obtain ⟨N, n1, n2, n3, n4⟩ := pairs2 hok hg (n := (k : Int) + 1) (by omega) m (k + 1) 1 (by omega) (by omega) (by omega) (by rw [hs, b5])
      have hN : N = 2 * (k + 1) := by omega
      subst hN
      refine ⟨k + 1, by omega, n3, fun j hj hj2 => ?_, b2, fun j hj hj2 => hn61 j hj hj2⟩
      by_cases e : j = k
      · subst e; exact ⟨hw, hb⟩
      · exact n4 j (by omega) hj2
/-- a right text of n pairs -/
def RP (w : List Int) (n : Nat) : Prop := 1 ≤ n ∧ n ≤ 25 ∧ stk w (2 * n) = w.length + 1 ∧ (∀ j : Nat, j < 2 * n → WdOk w j ∧ bW w j = stk w j) ∧ lat w (eW w (n - 1)) = 61 ∧ ∀ j : Int, 0 ≤ j → j < eW w (n - 1) → lat w j ≠ 61
theorem PE_pairs {w : List Int} (h : PE 0 1 w (-1)) (hl : w.length ≤ 100) : ∃ n : Nat, RP w n := by
  rcases h with ⟨h, -⟩ | ⟨hok, ⟨hg, -⟩ | ⟨-, h⟩⟩
  · omega
  · obtain ⟨n, n1, n2, n3, n4, n5⟩ := pairs1 hok hg (w.length + 1) 0 (by simp only [stk]; omega) (by simp [stk]) (by simp only [stk]; omega) rfl
    have := stk_ge (2 * n) (fun j hj => (n3 j (by omega) hj).1)
    exact ⟨n, by omega, by omega, n2, fun j hj => n3 j (by omega) hj, n4, fun j hj hj2 => n5 j (by simpa [stk] using hj) hj2⟩
  · omega
/-! learning a text -/
def lrnT (rs : List Rl) (ps : List Pr) (th : Int) (w : List Int) (n : Nat) : Nat → List Rl × List Pr
  | 0 => (rs, ps)
  | k + 1 =>
    if 1 ≤ (wW w k).length ∧ (wW w k).length ≤ 6 ∧ (wW w (n + k)).length ≤ 12 ∧ (wW w k).length < (wW w (n + k)).length then
      (lrnR (lrnT rs ps th w n k).1 (lrnT rs ps th w n k).2 th (wW w k) (wW w (n + k)), lrnP (lrnT rs ps th w n k).2 (wW w k) (wW w (n + k)))
    else lrnT rs ps th w n k
theorem wW_len {w : List Int} {k : Nat} (h : WdOk w k) : ((wW w k).length : Int) = eW w k - bW w k := by
  obtain ⟨a1, a2, a3, a4, -⟩ := h
  exact sl_len (by omega) (by omega) a4
theorem wW_let {w : List Int} {k : Nat} (h : WdOk w k) : ∀ x ∈ wW w k, 97 ≤ x ∧ x ≤ 122 := by
  intro x hx
  obtain ⟨n, hn, rfl⟩ := List.getElem_of_mem hx
  have hl := wW_len h
  obtain ⟨a1, a2, a3, a4, a5, a6, -⟩ := h
  have e : (wW w k)[n] = lat (wW w k) (n : Int) := by
    have h0 : (0 : Int) ≤ n := by omega
    rw [lat, if_pos h0, Int.toNat_natCast, gd_in hn]
  rw [e]
  unfold wW
  rw [sl_at (by omega) (by omega) (by omega)]
  exact a6 _ (by omega) (by omega)
theorem wW_Fw {w : List Int} {k : Nat} (h : WdOk w k) (h12 : (wW w k).length ≤ 12) : Fw (wW w k) := ⟨h12, wW_let h⟩
theorem PF_of {w : List Int} {n k : Nat} (h : WdOk w k) (h' : WdOk w (n + k)) (hf : 1 ≤ (wW w k).length ∧ (wW w k).length ≤ 6 ∧ (wW w (n + k)).length ≤ 12 ∧ (wW w k).length < (wW w (n + k)).length) : PF (wW w k) (wW w (n + k)) :=
  ⟨wW_Fw h (by omega), wW_Fw h' hf.2.2.1, hf.1, hf.2.1, hf.2.2.2⟩
