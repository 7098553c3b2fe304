theorem abW_b {rs : List Rl} {md pl : Int} {w : List Int} (hW : RW rs) (hLt : Lt w) (hw1 : 1 ≤ w.length) : Lt (abW rs md w pl).1 ∧ 1 ≤ (abW rs md w pl).1.length ∧ (abW rs md w pl).1.length ≤ w.length ∧ (0 ≤ (abW rs md w pl).2.1 ∧ (abW rs md w pl).2.1 ≤ 1) := by
  have h1 := spw_b hW hw1 pl 1 (Or.inr rfl)
  have h2 := spw_Lt hW hLt pl 1
  have h3 := h1.2.2.2 rfl
  unfold abW
  split
  · exact ⟨h2, h1.1, by omega, by simp only; omega⟩
  · split
    · exact ⟨hLt, hw1, Nat.le_refl _, by simp only; omega⟩
    · exact ⟨hLt, hw1, Nat.le_refl _, by simp only; omega⟩
def isRs (rs : List Rl) (md : Int) (w : List Int) (pl : Int) : Prop := (abW rs md w pl).2.1 ≠ 0 ∨ (exW rs (abW rs md w pl).1 pl).1 = w
