abbrev Wq : Type := Int × Int × Int × Int × Int × Int
def QD : Wq := (0, -1, -1, 0, 0, 0)
def qget (qs : List Wq) (z : Int) : Wq := if 0 ≤ z then qs.getD z.toNat QD else QD
def QRep (gd gm ge gv gn gt : Nat → Int) (qs : List Wq) : Prop := ∀ i : Nat, i < qs.length → gd i = (qs.getD i QD).1 ∧ gm i = (qs.getD i QD).2.1 ∧ ge i = (qs.getD i QD).2.2.1 ∧ gv i = (qs.getD i QD).2.2.2.1 ∧ gn i = (qs.getD i QD).2.2.2.2.1 ∧ gt i = (qs.getD i QD).2.2.2.2.2
theorem QRep_nil {gd gm ge gv gn gt : Nat → Int} : QRep gd gm ge gv gn gt [] := fun _ h => by simp at h
theorem QRep_push {gd gm ge gv gn gt : Nat → Int} {qs : List Wq} (h : QRep gd gm ge gv gn gt qs) (a b c d e f : Int) :
    QRep (va_up gd ((qs.length : Int)).toNat a) (va_up gm ((qs.length : Int)).toNat b) (va_up ge ((qs.length : Int)).toNat c) (va_up gv ((qs.length : Int)).toNat d) (va_up gn ((qs.length : Int)).toNat e) (va_up gt ((qs.length : Int)).toNat f) (qs ++ [(a, b, c, d, e, f)]) := by
  intro i hi
  rw [List.length_append, List.length_singleton] at hi
  rcases Nat.lt_or_ge i qs.length with h1 | h1
  · have h2 : (qs ++ [(a, b, c, d, e, f)]).getD i QD = qs.getD i QD := by
      rw [List.getD_eq_getElem?_getD, List.getD_eq_getElem?_getD, List.getElem?_append_left h1]
    have h3 : i ≠ ((qs.length : Int)).toNat := by omega
    rw [h2]
    have := h i h1
    simp only [va_up, if_neg h3]
    exact this
  · have h3 : i = qs.length := by omega
    have h2 : (qs ++ [(a, b, c, d, e, f)]).getD i QD = (a, b, c, d, e, f) := by
      subst h3
      rw [List.getD_eq_getElem?_getD, List.getElem?_append_right (Nat.le_refl _)]
      simp
    rw [h2, h3]
    simp [va_up]
theorem QRep_at {gd gm ge gv gn gt : Nat → Int} {qs : List Wq} (h : QRep gd gm ge gv gn gt qs) {z : Int} (h0 : 0 ≤ z) (h1 : z < qs.length) :
    gd z.toNat = (qget qs z).1 ∧ gm z.toNat = (qget qs z).2.1 ∧ ge z.toNat = (qget qs z).2.2.1 ∧ gv z.toNat = (qget qs z).2.2.2.1 ∧ gn z.toNat = (qget qs z).2.2.2.2.1 ∧ gt z.toNat = (qget qs z).2.2.2.2.2 := by
  have := h z.toNat (by omega)
  rw [qget, if_pos h0]; exact this
def outS (ow : List Int) (n : Int) : List Int := if 0 < n then ow ++ [32] else ow
def outM (ow : List Int) (mk : Int) : List Int := if mk = 0 then ow else ow ++ [39]
def mkU (mc mk : Int) : Int := if mk = 0 then mc else mc + 1
def useU (us r : Int) : Int := if r < 0 then us else us + 1
def priU (rs : List Rl) (pr r : Int) : Int := if r < 0 then pr else pr + (rget rs r).2.1
theorem outS_len (ow : List Int) (n : Int) : (outS ow n).length ≤ ow.length + 1 := by unfold outS; split <;> simp
theorem outM_len (ow : List Int) (n : Int) : (outM ow n).length ≤ ow.length + 1 := by unfold outM; split <;> simp
