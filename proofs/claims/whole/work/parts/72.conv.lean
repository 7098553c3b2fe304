/-! what becomes of the words of a text, one behind the other -/
theorem sp_0 {rs : List Rl} {u : List Int} {pl b : Int} (h : 0 ≤ bR rs u pl 0 b) : spm rs u pl b = bR rs u pl 0 b ∧ spe rs u pl b = -1 ∧ spw rs u pl b = fmo (rget rs (bR rs u pl 0 b)) (1 - b) := by
  have h1 : spm rs u pl b = bR rs u pl 0 b := by unfold spm; rw [if_pos h]
  have h2 : spe rs u pl b = -1 := by unfold spe; rw [if_pos h]
  refine ⟨h1, h2, ?_⟩
  unfold spw
  rw [h1, h2, fmo_m1, fmo_m1]
  have hl := (stb_len ((bR_b rs u pl 0 b).2.2 h).2).1 rfl
  rw [show (u.length : Int) - (([] : List Int).length : Int) = (fmo (rget rs (bR rs u pl 0 b)) b).length by simp; omega, sl_self]
  simp
theorem sp_n {rs : List Rl} {u : List Int} {pl b : Int} (h : bR rs u pl 0 b < 0) (ho : ¬ (0 ≤ bR rs u pl 1 b ∧ 0 ≤ bR rs u pl 2 b ∧ (u.length : Int) < (fmo (rget rs (bR rs u pl 1 b)) b).length + (fmo (rget rs (bR rs u pl 2 b)) b).length)) : spm rs u pl b = bR rs u pl 1 b ∧ spe rs u pl b = bR rs u pl 2 b := by
  have e : ovlb rs u pl b = false := decide_eq_false ho
  have hn : ¬ 0 ≤ bR rs u pl 0 b := by omega
  simp only [spm, spe, if_neg hn, e]
  simp
theorem sp_o {rs : List Rl} {u : List Int} {pl b : Int} (h : bR rs u pl 0 b < 0) (ho : 0 ≤ bR rs u pl 1 b ∧ 0 ≤ bR rs u pl 2 b ∧ (u.length : Int) < (fmo (rget rs (bR rs u pl 1 b)) b).length + (fmo (rget rs (bR rs u pl 2 b)) b).length) : (btr rs (bR rs u pl 1 b) (bR rs u pl 2 b) → spm rs u pl b = bR rs u pl 1 b ∧ spe rs u pl b = -1) ∧ (¬ btr rs (bR rs u pl 1 b) (bR rs u pl 2 b) → spm rs u pl b = -1 ∧ spe rs u pl b = bR rs u pl 2 b) := by
  have e : ovlb rs u pl b = true := decide_eq_true ho
  constructor
  · intro q
    have q2 := btb_iff.mpr q
    have hn : ¬ 0 ≤ bR rs u pl 0 b := by omega
    simp only [spm, spe, if_neg hn, e, q2]
    simp
  · intro q
    have q2 : btb rs (bR rs u pl 1 b) (bR rs u pl 2 b) = false := Bool.eq_false_iff.mpr (fun z => q (btb_iff.mp z))
    have hn : ¬ 0 ≤ bR rs u pl 0 b := by omega
    simp only [spm, spe, if_neg hn, e, q2]
    simp
theorem ded_0 {rs : List Rl} {u : List Int} {pl b : Int} (hW : RW rs) (h : ded rs (spm rs u pl b) (spe rs u pl b) = 0) : spw rs u pl b = u := by
  have h1 := spm_b rs u pl b
  have h2 := spe_b rs u pl b
  unfold ded at h
  split at h
  · omega
  · split at h
    · split at h <;> omega
    · split at h
      · omega
      · unfold spw
        rw [show spm rs u pl b = -1 by omega, show spe rs u pl b = -1 by omega, fmo_m1, fmo_m1]
        simp only [List.nil_append, List.append_nil, List.length_nil, Int.natCast_zero, Int.sub_zero]
        exact sl_all u
theorem sp_kind {rs : List Rl} {u : List Int} {pl b : Int} : (rget rs (spm rs u pl b)).1 = 0 → spe rs u pl b = -1 := by
  intro h
  by_cases h0 : 0 ≤ bR rs u pl 0 b
  · exact (sp_0 h0).2.1
  · exfalso
    have h1 := bR_b rs u pl 1 b
    by_cases ho : 0 ≤ bR rs u pl 1 b ∧ 0 ≤ bR rs u pl 2 b ∧ (u.length : Int) < (fmo (rget rs (bR rs u pl 1 b)) b).length + (fmo (rget rs (bR rs u pl 2 b)) b).length
    · have hs := sp_o (by omega) ho
      by_cases q : btr rs (bR rs u pl 1 b) (bR rs u pl 2 b)
      · rw [(hs.1 q).1, (h1.2.2 ho.1).1] at h; omega
      · rw [(hs.2 q).1, rget_m1] at h; simp [RD] at h
    · have hs := sp_n (by omega) ho
      rw [hs.1] at h
      by_cases q : 0 ≤ bR rs u pl 1 b
      · rw [(h1.2.2 q).1] at h; omega
      · rw [show bR rs u pl 1 b = -1 by omega, rget_m1] at h; simp [RD] at h
theorem ded_3 {rs : List Rl} {m e : Int} (hm : -1 ≤ m) (h : ded rs m e = 3) : m = -1 := by
  unfold ded at h
  split at h
  · omega
  · split at h
    · split at h <;> omega
    · omega
def tnW (rs : List Rl) (md ab : Int) (w : List Int) (k : Nat) (pl : Int) : Tn := if ab = 1 then abW rs md (wW w k) pl else if lat w (stk w k) = 39 then umW (wW w k) else exW rs (wW w k) pl
def lsW (u : List Int) : Int := lat u ((u.length : Int) - 1)
def plS (rs : List Rl) (md ab : Int) (w : List Int) : Nat → Int
  | 0 => 0
  | k + 1 => plB (lsW (if ab = 1 then wW w k else (tnW rs md ab w k (plS rs md ab w k)).1))
abbrev Rn : Type := List Int × List Wq × Int × Int × Int
def stR (rs : List Rl) (s : Rn) (T : Tn) (gl : Int) : Rn := (outM (outS s.1 s.2.1.length) T.2.1 ++ T.1, s.2.1 ++ [(T.2.2.1, T.2.2.2.1, T.2.2.2.2, gl, (T.1.length : Int), ((outS s.1 s.2.1.length).length : Int))], useU (useU s.2.2.1 T.2.2.2.1) T.2.2.2.2, priU rs (priU rs s.2.2.2.1 T.2.2.2.1) T.2.2.2.2, mkU s.2.2.2.2 T.2.1)
def rnR (rs : List Rl) (md ab : Int) (w : List Int) : Nat → Rn
  | 0 => ([], [], 0, 0, 0)
  | k + 1 => stR rs (rnR rs md ab w k) (tnW rs md ab w k (plS rs md ab w k)) ((wW w k).length : Int)
theorem rnR_len (rs : List Rl) (md ab : Int) (w : List Int) : ∀ k : Nat, (rnR rs md ab w k).2.1.length = k
  | 0 => rfl
  | k + 1 => by simp only [rnR, stR, List.length_append, List.length_singleton, rnR_len rs md ab w k]
theorem plB_b (x : Int) : 1 ≤ plB x ∧ plB x ≤ 2 := by unfold plB; split <;> omega
theorem plS_b (rs : List Rl) (md ab : Int) (w : List Int) (k : Nat) : 0 ≤ plS rs md ab w k ∧ plS rs md ab w k ≤ 2 := by
  cases k with
  | zero => simp [plS]
  | succ k =>
    have := plB_b (lsW (if ab = 1 then wW w k else (tnW rs md ab w k (plS rs md ab w k)).1))
    simp only [plS]
    omega
/-- what is known of a word's outcome -/
def TnOk (rs : List Rl) (u : List Int) (T : Tn) : Prop := Lt T.1 ∧ 1 ≤ T.1.length ∧ T.1.length ≤ u.length + 22 ∧ (T.1.length : Int) + T.2.1 ≤ 12 * u.length ∧ (0 ≤ T.2.1 ∧ T.2.1 ≤ 1) ∧ (-1 ≤ T.2.2.2.1 ∧ T.2.2.2.1 < rs.length) ∧ (-1 ≤ T.2.2.2.2 ∧ T.2.2.2.2 < rs.length) ∧ (0 ≤ T.2.2.1 ∧ T.2.2.1 ≤ 6)
theorem ded_b (rs : List Rl) (m e : Int) : 0 ≤ ded rs m e ∧ ded rs m e ≤ 4 := by unfold ded; (repeat' split) <;> omega
theorem exW_ok {rs : List Rl} (hW : RW rs) {u : List Int} (hu : Lt u) (h1 : 1 ≤ u.length) (pl : Int) : TnOk rs u (exW rs u pl) := by
  have a := spw_b hW h1 pl 0 (Or.inl rfl)
  exact ⟨spw_Lt hW hu pl 0, a.1, a.2.1, by show ((spw rs u pl 0).length : Int) + 0 ≤ _; omega, ⟨by show (0 : Int) ≤ 0; omega, by show (0 : Int) ≤ 1; omega⟩, spm_b rs u pl 0, spe_b rs u pl 0, by show 0 ≤ ded rs _ _ ∧ ded rs _ _ ≤ 6; have := ded_b rs (spm rs u pl 0) (spe rs u pl 0); omega⟩
theorem umW_ok {rs : List Rl} {u : List Int} (hu : Lt u) (h1 : 1 ≤ u.length) : TnOk rs u (umW u) := ⟨hu, h1, by show u.length ≤ _; omega, by show (u.length : Int) + 0 ≤ _; omega, ⟨by show (0 : Int) ≤ 0; omega, by show (0 : Int) ≤ 1; omega⟩, ⟨by show (-1 : Int) ≤ -1; omega, by show (-1 : Int) < rs.length; omega⟩, ⟨by show (-1 : Int) ≤ -1; omega, by show (-1 : Int) < rs.length; omega⟩, ⟨by show (0 : Int) ≤ 5; omega, by show (5 : Int) ≤ 6; omega⟩⟩
theorem abW_ok {rs : List Rl} (hW : RW rs) {md : Int} {u : List Int} (hu : Lt u) (h1 : 1 ≤ u.length) (pl : Int) : TnOk rs u (abW rs md u pl) := by
  have a := spw_b hW h1 pl 1 (Or.inr rfl)
  have b := a.2.2.2 rfl
  unfold abW
  split
  · exact ⟨spw_Lt hW hu pl 1, a.1, by show (spw rs u pl 1).length ≤ _; omega, by show ((spw rs u pl 1).length : Int) + 0 ≤ _; omega, ⟨by show (0 : Int) ≤ 0; omega, by show (0 : Int) ≤ 1; omega⟩, spm_b rs u pl 1, spe_b rs u pl 1, by show 0 ≤ ded rs _ _ ∧ ded rs _ _ ≤ 6; have := ded_b rs (spm rs u pl 1) (spe rs u pl 1); omega⟩
  · split
    · exact ⟨hu, h1, by show u.length ≤ _; omega, by show (u.length : Int) + 0 ≤ _; omega, ⟨by show (0 : Int) ≤ 0; omega, by show (0 : Int) ≤ 1; omega⟩, ⟨by show (-1 : Int) ≤ -1; omega, by show (-1 : Int) < rs.length; omega⟩, ⟨by show (-1 : Int) ≤ -1; omega, by show (-1 : Int) < rs.length; omega⟩, ⟨by show (0 : Int) ≤ 6; omega, by show (6 : Int) ≤ 6; omega⟩⟩
    · exact ⟨hu, h1, by show u.length ≤ _; omega, by show (u.length : Int) + 1 ≤ _; omega, ⟨by show (0 : Int) ≤ 1; omega, by show (1 : Int) ≤ 1; omega⟩, ⟨by show (-1 : Int) ≤ -1; omega, by show (-1 : Int) < rs.length; omega⟩, ⟨by show (-1 : Int) ≤ -1; omega, by show (-1 : Int) < rs.length; omega⟩, ⟨by show (0 : Int) ≤ 5; omega, by show (5 : Int) ≤ 6; omega⟩⟩
theorem tnW_ok {rs : List Rl} (hW : RW rs) {md ab : Int} {w : List Int} {k : Nat} (h : WdOk w k) (pl : Int) : TnOk rs (wW w k) (tnW rs md ab w k pl) := by
  have hl := wW_len h
  have hlt : Lt (wW w k) := wW_let h
  obtain ⟨a1, a2, a3, a4, a5, -⟩ := h
  unfold tnW
  split
  · exact abW_ok hW hlt (by omega) pl
  · split
    · exact umW_ok hlt (by omega)
    · exact exW_ok hW hlt (by omega) pl
/-- the output is no longer than twelve times what was read -/
theorem rnR_ok {rs : List Rl} (hW : RW rs) {md ab : Int} {w : List Int} : ∀ k : Nat, (∀ j : Nat, j < k → WdOk w j) → ((rnR rs md ab w k).1.length : Int) ≤ 12 * stk w k ∧ 0 ≤ stk w k ∧ (0 ≤ (rnR rs md ab w k).2.2.1 ∧ (rnR rs md ab w k).2.2.1 ≤ 2 * k) ∧ (0 ≤ (rnR rs md ab w k).2.2.2.1 ∧ (rnR rs md ab w k).2.2.2.1 ≤ 198 * k) ∧ (0 ≤ (rnR rs md ab w k).2.2.2.2 ∧ (rnR rs md ab w k).2.2.2.2 ≤ k)
  | 0, _ => ⟨by simp [rnR, stk], by simp [stk], by simp [rnR], by simp [rnR], by simp [rnR]⟩
  | k + 1, h => by
    obtain ⟨i1, i0, i2, i3, i4⟩ := rnR_ok hW (md := md) (ab := ab) k (fun j hj => h j (by omega))
    have hk := h k (by omega)
    obtain ⟨t1, t2, t3, t4, t5, t6, t7, t8⟩ := tnW_ok hW (md := md) (ab := ab) hk (plS rs md ab w k)
    have hl := wW_len hk
    obtain ⟨a1, a2, a3, a4, a5, -⟩ := hk
    have hs : stk w (k + 1) = eW w k + 1 := stk_s w k
    simp only [rnR]
    generalize tnW rs md ab w k (plS rs md ab w k) = T at *
    generalize rnR rs md ab w k = s at *
    have pb : ∀ z : Int, -1 ≤ z → z < rs.length → 0 ≤ z → 0 ≤ (rget rs z).2.1 ∧ (rget rs z).2.1 ≤ 99 := fun z z0 z1 z2 => by
      have := hW.bd z2 z1; omega
    refine ⟨?_, by omega, ?_, ?_, ?_⟩
    · have q1 := outS_len s.1 s.2.1.length
      have q2 : ((outM (outS s.1 s.2.1.length) T.2.1).length : Int) ≤ (outS s.1 s.2.1.length).length + T.2.1 := by
        unfold outM; split
        · omega
        · simp; omega
      simp only [stR, List.length_append]
      omega
    · simp only [stR, useU]
      split <;> split <;> omega
    · simp only [stR, priU]
      split
      · split
        · omega
        · have := pb _ t6.1 t6.2 (by omega); omega
      · have := pb _ t7.1 t7.2 (by omega)
        split
        · omega
        · have := pb _ t6.1 t6.2 (by omega); omega
    · simp only [stR, mkU]
      split <;> omega
/-- the first word that is not restored -/
def flW (rs : List Rl) (md : Int) (w : List Int) (N : Nat) (r : Int) : Prop := (∃ k : Nat, k < N ∧ r = k ∧ ¬ isRs rs md (wW w k) (plS rs md 1 w k) ∧ ∀ j : Nat, j < k → isRs rs md (wW w j) (plS rs md 1 w j)) ∨ (r = -1 ∧ ∀ j : Nat, j < N → isRs rs md (wW w j) (plS rs md 1 w j))
theorem flW_uniq {rs : List Rl} {md : Int} {w : List Int} {N : Nat} {r r' : Int} (h : flW rs md w N r) (h' : flW rs md w N r') : r = r' := by
  rcases h with ⟨k, a1, a2, a3, a4⟩ | ⟨a1, a2⟩ <;> rcases h' with ⟨k', b1, b2, b3, b4⟩ | ⟨b1, b2⟩
  · rcases Nat.lt_trichotomy k k' with q | q | q
    · exact absurd (b4 k q) a3
    · omega
    · exact absurd (a4 k' q) b3
  · exact absurd (b2 k a1) a3
  · exact absurd (a2 k' b1) b3
  · omega
