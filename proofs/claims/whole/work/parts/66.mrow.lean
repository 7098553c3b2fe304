/-! the row of numbers as it is written -/
theorem va_upN {g : Nat → Int} {k : Int} {n : Nat} {v : Int} (hk : 0 ≤ k) (h : k ≠ n) : va_up g k.toNat v n = g n := by
  simp only [va_up]
  rw [if_neg (by omega)]
theorem va_upO {g : Nat → Int} {k z : Int} {v : Int} (hk : 0 ≤ k) (hz : 0 ≤ z) (h : z ≠ k) : va_up g k.toNat v z.toNat = g z.toNat := by rw [va_upI hk hz, if_neg h]
theorem va_upE {g : Nat → Int} {k z : Int} {v : Int} (h : z = k) : va_up g k.toNat v z.toNat = v := by rw [h]; simp [va_up]
def WF (g gv : Nat → Int) (p : Int) (u v : List Int) (k1 k2 : Int) : Prop := gv (p + 3).toNat = u.length ∧ gv (p + 4).toNat = v.length ∧ (∀ j : Int, 0 ≤ j → j < k1 → gv (p + 5 + j).toNat = lat u j) ∧ (∀ j : Int, 0 ≤ j → j < k2 → gv (p + 5 + 6 + j).toNat = lat v j) ∧ ∀ j : Int, 0 ≤ j → j < p + 3 ∨ p + 23 ≤ j → gv j.toNat = g j.toNat
theorem WF_0 {g : Nat → Int} {p : Int} (u v : List Int) (hp : 0 ≤ p) {x y : Int} (hx : x = u.length) (hy : y = v.length) : WF g (va_up (va_up g (p + 3).toNat x) (p + 4).toNat y) p u v 0 0 := by
  subst hx; subst hy
  refine ⟨by rw [va_upO (by omega) (by omega) (by omega), va_upE rfl], va_upE rfl, fun j h0 h1 => by omega, fun j h0 h1 => by omega, fun j h0 h1 => ?_⟩
  rw [va_upO (by omega) h0 (by omega), va_upO (by omega) h0 (by omega)]
theorem WF_1 {g gv : Nat → Int} {p : Int} {u v : List Int} {k x : Int} (h : WF g gv p u v k 0) (hp : 0 ≤ p) (h0 : 0 ≤ k) (h6 : k < 6) (hx : x = lat u k) : WF g (va_up gv (p + 5 + k).toNat x) p u v (k + 1) 0 := by
  obtain ⟨a, b, c, d, e⟩ := h
  refine ⟨by rw [va_upO (by omega) (by omega) (by omega)]; exact a, by rw [va_upO (by omega) (by omega) (by omega)]; exact b, fun j j0 j1 => ?_, fun j j0 j1 => by omega, fun j j0 j1 => ?_⟩
  · by_cases q : j = k
    · rw [va_upE (by omega), hx, q]
    · rw [va_upO (by omega) (by omega) (by omega)]; exact c j j0 (by omega)
  · rw [va_upO (by omega) j0 (by omega)]; exact e j j0 j1
theorem WF_2 {g gv : Nat → Int} {p : Int} {u v : List Int} {k x : Int} (h : WF g gv p u v 6 k) (hp : 0 ≤ p) (h0 : 0 ≤ k) (h6 : k < 12) (hx : x = lat v k) : WF g (va_up gv (p + 5 + 6 + k).toNat x) p u v 6 (k + 1) := by
  obtain ⟨a, b, c, d, e⟩ := h
  refine ⟨by rw [va_upO (by omega) (by omega) (by omega)]; exact a, by rw [va_upO (by omega) (by omega) (by omega)]; exact b, fun j j0 j1 => ?_, fun j j0 j1 => ?_, fun j j0 j1 => ?_⟩
  · rw [va_upO (by omega) (by omega) (by omega)]; exact c j j0 (by omega)
  · by_cases q : j = k
    · rw [va_upE (by omega), hx, q]
    · rw [va_upO (by omega) (by omega) (by omega)]; exact d j j0 (by omega)
  · rw [va_upO (by omega) j0 (by omega)]; exact e j j0 j1
theorem WF_M {g gv : Nat → Int} {p : Int} {u v : List Int} {k1 k2 : Int} (h : WF g gv p u v k1 k2) (h1 : k1 = 6) (h2 : k2 = 12) : MForm gv p u v ∧ ∀ j : Int, 0 ≤ j → j < p + 3 ∨ p + 23 ≤ j → gv j.toNat = g j.toNat := by
  subst h1; subst h2
  exact ⟨⟨h.1, h.2.1, h.2.2.1, h.2.2.2.1⟩, h.2.2.2.2⟩
theorem MForm.cg {g g2 : Nat → Int} {p : Int} {a b : List Int} (h : MForm g p a b) (hp : 0 ≤ p) (e : ∀ j : Int, p + 3 ≤ j → j < p + 23 → g2 j.toNat = g j.toNat) : MForm g2 p a b := by
  obtain ⟨h1, h2, h3, h4⟩ := h
  exact ⟨by rw [e _ (by omega) (by omega)]; exact h1, by rw [e _ (by omega) (by omega)]; exact h2, fun k k0 k1 => by rw [e _ (by omega) (by omega)]; exact h3 k k0 k1, fun k k0 k1 => by rw [e _ (by omega) (by omega)]; exact h4 k k0 k1⟩
theorem MForm.sh {g g2 : Nat → Int} {p q : Int} {a b : List Int} (h : MForm g p a b) (e : ∀ j : Int, 3 ≤ j → j < 23 → g2 (q + j).toNat = g (p + j).toNat) : MForm g2 q a b := by
  obtain ⟨h1, h2, h3, h4⟩ := h
  refine ⟨by rw [e _ (by omega) (by omega)]; exact h1, by rw [e _ (by omega) (by omega)]; exact h2, fun k k0 k1 => ?_, fun k k0 k1 => ?_⟩
  · have := e (5 + k) (by omega) (by omega)
    rw [show q + (5 + k) = q + 5 + k by omega, show p + (5 + k) = p + 5 + k by omega] at this
    rw [this]; exact h3 k k0 k1
  · have := e (11 + k) (by omega) (by omega)
    rw [show q + (11 + k) = q + 5 + 6 + k by omega, show p + (11 + k) = p + 5 + 6 + k by omega] at this
    rw [this]; exact h4 k k0 k1
abbrev MHead (g : Nat → Int) (a b c d e : Int) : Prop := g 0 = a ∧ g 1 = b ∧ g 2 = c ∧ g 3 = d ∧ g 4 = e
theorem MRow.pairs {g g2 : Nat → Int} {rs : List Rl} {ps : List Pr} {md th nc : Int} (h : MRow g rs ps md th nc) (e : ∀ j : Int, 557 ≤ j → g2 j.toNat = g j.toNat) : ∀ z : Int, 0 ≤ z → z < ps.length → g2 (557 + z * 23 + 0).toNat = (pget ps z).1 ∧ MForm g2 (557 + z * 23) (pget ps z).2.1 (pget ps z).2.2 := fun z h0 h1 => by
  obtain ⟨a, b⟩ := h.2.2 z h0 h1
  exact ⟨by rw [e _ (by omega)]; exact a, b.cg (by omega) (fun j j0 j1 => e j (by omega))⟩
theorem MRow.rule1 {g g2 : Nat → Int} {rs : List Rl} {ps : List Pr} {md th nc : Int} (h : MRow g rs ps md th nc) {z : Int} (h0 : 0 ≤ z) (h1 : z < rs.length) (e : ∀ j : Int, 5 + z * 23 ≤ j → j < 5 + z * 23 + 23 → g2 j.toNat = g j.toNat) : (g2 (5 + z * 23 + 0).toNat = (rget rs z).1 ∧ g2 (5 + z * 23 + 1).toNat = (rget rs z).2.1 ∧ g2 (5 + z * 23 + 2).toNat = (rget rs z).2.2.1) ∧ MForm g2 (5 + z * 23) (rget rs z).2.2.2.1 (rget rs z).2.2.2.2 := by
  obtain ⟨⟨a, b, c⟩, d⟩ := h.2.1 z h0 h1
  exact ⟨⟨by rw [e _ (by omega) (by omega)]; exact a, by rw [e _ (by omega) (by omega)]; exact b, by rw [e _ (by omega) (by omega)]; exact c⟩, d.cg (by omega) (fun j j0 j1 => e j (by omega) (by omega))⟩
theorem MRow_head {g g2 : Nat → Int} {rs : List Rl} {ps : List Pr} {md th nc md2 th2 nc2 : Int} (h : MRow g rs ps md th nc) (hh : MHead g2 rs.length ps.length md2 th2 nc2) (e : ∀ j : Int, 5 ≤ j → g2 j.toNat = g j.toNat) : MRow g2 rs ps md2 th2 nc2 :=
  ⟨hh, fun z h0 h1 => h.rule1 h0 h1 (fun j j0 j1 => e j (by omega)), h.pairs (fun j j0 => e j (by omega))⟩
theorem MRow_pushR {g g2 : Nat → Int} {rs : List Rl} {ps : List Pr} {md th nc md2 th2 nc2 k p c : Int} {a b : List Int} (h : MRow g rs ps md th nc) (hl : rs.length < 24) (hh : MHead g2 (rs.length + 1) ps.length md2 th2 nc2) (e0 : g2 (5 + (rs.length : Int) * 23 + 0).toNat = k) (e1 : g2 (5 + (rs.length : Int) * 23 + 1).toNat = p) (e2 : g2 (5 + (rs.length : Int) * 23 + 2).toNat = c) (hF : MForm g2 (5 + (rs.length : Int) * 23) a b)
    (ho : ∀ j : Int, 5 ≤ j → j < 5 + (rs.length : Int) * 23 ∨ 5 + (rs.length : Int) * 23 + 23 ≤ j → g2 j.toNat = g j.toNat) : MRow g2 (rs ++ [(k, p, c, a, b)]) ps md2 th2 nc2 := by
  refine ⟨⟨by rw [hh.1, List.length_append, List.length_singleton]; omega, hh.2⟩, fun z h0 h1 => ?_, h.pairs (fun j j0 => ho j (by omega) (by omega))⟩
  rw [List.length_append, List.length_singleton] at h1
  rw [rget_push h0 (by omega)]
  by_cases q : z = rs.length
  · rw [if_pos q, q]; exact ⟨⟨e0, e1, e2⟩, hF⟩
  · rw [if_neg q]; exact h.rule1 h0 (by omega) (fun j j0 j1 => ho j (by omega) (by omega))
theorem MRow_setp {g g2 : Nat → Int} {rs : List Rl} {ps : List Pr} {md th nc nc2 z v : Int} (h : MRow g rs ps md th nc) (hl : rs.length ≤ 24) (hz : 0 ≤ z) (hz1 : z < rs.length) (hh : MHead g2 rs.length ps.length md th nc2) (e : g2 (5 + z * 23 + 1).toNat = v) (ho : ∀ j : Int, 5 ≤ j → j ≠ 5 + z * 23 + 1 → g2 j.toNat = g j.toNat) : MRow g2 (rsetp rs z v) ps md th nc2 := by
  have hlen : (rsetp rs z v).length = rs.length := by simp [rsetp]
  refine ⟨⟨by rw [hlen]; exact hh.1, hh.2⟩, fun x h0 h1 => ?_, h.pairs (fun j j0 => ho j (by omega) (by omega))⟩
  rw [hlen] at h1
  unfold rsetp
  rw [rget_set hz h0 h1]
  by_cases q : x = z
  · subst q
    rw [if_pos rfl]
    obtain ⟨⟨a, b, c⟩, d⟩ := h.2.1 x h0 h1
    exact ⟨⟨by rw [ho _ (by omega) (by omega)]; exact a, e, by rw [ho _ (by omega) (by omega)]; exact c⟩, d.cg (by omega) (fun j j0 j1 => ho j (by omega) (by omega))⟩
  · rw [if_neg q]; exact h.rule1 h0 h1 (fun j j0 j1 => ho j (by omega) (by omega))
theorem MRow_setc {g g2 : Nat → Int} {rs : List Rl} {ps : List Pr} {md th nc nc2 z v : Int} (h : MRow g rs ps md th nc) (hl : rs.length ≤ 24) (hz : 0 ≤ z) (hz1 : z < rs.length) (hh : MHead g2 rs.length ps.length md th nc2) (e : g2 (5 + z * 23 + 2).toNat = v) (ho : ∀ j : Int, 5 ≤ j → j ≠ 5 + z * 23 + 2 → g2 j.toNat = g j.toNat) : MRow g2 (rsetc rs z v) ps md th nc2 := by
  have hlen : (rsetc rs z v).length = rs.length := by simp [rsetc]
  refine ⟨⟨by rw [hlen]; exact hh.1, hh.2⟩, fun x h0 h1 => ?_, h.pairs (fun j j0 => ho j (by omega) (by omega))⟩
  rw [hlen] at h1
  unfold rsetc
  rw [rget_set hz h0 h1]
  by_cases q : x = z
  · subst q
    rw [if_pos rfl]
    obtain ⟨⟨a, b, c⟩, d⟩ := h.2.1 x h0 h1
    exact ⟨⟨by rw [ho _ (by omega) (by omega)]; exact a, by rw [ho _ (by omega) (by omega)]; exact b, e⟩, d.cg (by omega) (fun j j0 j1 => ho j (by omega) (by omega))⟩
  · rw [if_neg q]; exact h.rule1 h0 h1 (fun j j0 j1 => ho j (by omega) (by omega))
theorem MRow_erase {g g2 : Nat → Int} {rs : List Rl} {ps : List Pr} {md th nc nc2 z : Int} (h : MRow g rs ps md th nc) (hl : rs.length ≤ 24) (hz : 0 ≤ z) (hz1 : z < rs.length) (hh : MHead g2 ((rs.length : Int) - 1) ps.length md th nc2) (ho : ∀ j : Int, 5 ≤ j → g2 j.toNat = if 5 + z * 23 ≤ j ∧ j < 5 + ((rs.length : Int) - 1) * 23 then g (j + 23).toNat else g j.toNat) : MRow g2 (rs.eraseIdx z.toNat) ps md th nc2 := by
  have hlen : ((rs.eraseIdx z.toNat).length : Int) = rs.length - 1 := by
    rw [List.length_eraseIdx]
    have : z.toNat < rs.length := by omega
    simp [this]; omega
  refine ⟨⟨by rw [hlen]; exact hh.1, hh.2⟩, fun x h0 h1 => ?_, h.pairs (fun j j0 => by rw [ho j (by omega), if_neg (by omega)])⟩
  rw [rget_erase hz hz1 h0 (by omega)]
  by_cases q : x < z
  · rw [if_pos q]; exact h.rule1 h0 (by omega) (fun j j0 j1 => by rw [ho j (by omega), if_neg (by omega)])
  · rw [if_neg q]
    obtain ⟨⟨a, b, c⟩, d⟩ := h.2.1 (x + 1) (by omega) (by omega)
    have f : ∀ k : Int, 0 ≤ k → k < 23 → g2 (5 + x * 23 + k).toNat = g (5 + (x + 1) * 23 + k).toNat := fun k k0 k1 => by
      rw [ho _ (by omega), if_pos (by omega), show 5 + x * 23 + k + 23 = 5 + (x + 1) * 23 + k by omega]
    exact ⟨⟨by rw [f _ (by omega) (by omega)]; exact a, by rw [f _ (by omega) (by omega)]; exact b, by rw [f _ (by omega) (by omega)]; exact c⟩, d.sh (fun j j0 j1 => f j (by omega) (by omega))⟩
def mh8 (x0 x1 x2 x3 x4 x5 x6 x7 : Nat → Int) : Nat → Nat → Int
  | 0 => x0 | 1 => x1 | 2 => x2 | 3 => x3 | 4 => x4 | 5 => x5 | 6 => x6 | _ => x7
/-- the rows of the history behind a remembering -/
def RmH (g : Nat → Int) (gh gh2 : Nat → Nat → Int) (r : Int) : Prop :=
  (r < 8 → (∀ j : Nat, j < 1247 → gh2 r.toNat j = g j) ∧ ∀ i : Nat, i < 8 → (i : Int) ≠ r → gh2 i = gh i) ∧ (r = 8 → (∀ j : Nat, j < 1247 → gh2 7 j = g j) ∧ ∀ i : Nat, i < 7 → ∀ j : Nat, j < 1247 → gh2 i j = gh (i + 1) j)
