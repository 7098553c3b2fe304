/-! one call more: what both sides owe -/
theorem PW.up {ps : List Pr} {B B' : Int} (h : PW ps B) (hB : B ≤ B') (hB2 : B' ≤ 1000000) : PW ps B' := ⟨h.1, hB2, fun p hp => by
  obtain ⟨h1, h2, h3⟩ := h.2.2 p hp
  exact ⟨h1, by omega, h3⟩⟩
theorem BkOk.up {B B' : Int} (hB : B ≤ B') (hB2 : B' ≤ 1000000) : ∀ {b : BkA}, BkOk B b → BkOk B' b
  | (_, _, _, _, _, _, _, _, _, _, _, _, _, _, _), ⟨h1, h2, h3, h4, h5⟩ => ⟨h1, h2, h3, h4.up hB hB2, h5⟩
theorem BkI.up {n : Nat} {b : Bk} (hn : n < 512) (h : BkI n b) : BkI (n + 1) b := by
  obtain ⟨h1, h2, h3, h4, h5, h6⟩ := h
  exact ⟨h1, h2.up (by omega) (by omega), h3, h4, h5, by omega⟩
theorem SxI.up {n : Nat} {S : Sx} (hn : n < 512) (h : SxI n S) : SxI (n + 1) S := by
  obtain ⟨h1, h2, h3, ⟨h4, h5⟩, h6, h7, h8, h9, h10, h11⟩ := h
  exact ⟨h1.up hn, h2, h3, ⟨h4, fun b hb => (h5 b hb).up hn⟩, h6, h7.up hn, h8, h9, h10, by omega⟩
theorem HisD.up {K : Nat → ClassId} {h a n : Nat} {pl : List Cm} {hs : List Bk} {W : va_W} (hn : n < 512) (H : HisD K h a n pl hs W) : HisD K h a (n + 1) pl hs W := by
  obtain ⟨gB, bs, h1, h2, h3, h4⟩ := H
  exact ⟨gB, bs, h1, fun b hb => (h2 b hb).up (by omega) (by omega), h3, h4⟩
theorem DkI.up {K : Nat → ClassId} {N : Nat → Nat} {n : Nat} {S : Sx} {fs : List Value} {wD : va_W} (hn : n < 512) (h : DkI K N n S fs wD) : DkI K N (n + 1) S fs wD := by
  obtain ⟨pl, wA, wB, wV, wH, wQ, w0, w1, wT, wU, wG, wP, h1, h2, h3, h4, h5⟩ := h
  exact ⟨pl, wA, wB, wV, wH, wQ, w0, w1, wT, wU, wG, wP, h1, h2, h3, h4.up hn, h5⟩
/-- an answer: the code of the throw (0: none), the value, the state after; c: the command that may have been made -/
abbrev An : Type := Cm → Int × Int × Sx
def PRg (K : Nat → ClassId) (N : Nat → Nat) (n : Nat) {α : Type} (a : Cm → Int × α × Sx) (z : α) (fs : List Value) (wD : va_W) : Prop := ∃ c : Cm, (a c).1 = 0 ∧ (a c).2.1 = z ∧ SxI (n + 1) (a c).2.2 ∧ DkI K N (n + 1) (a c).2.2 fs wD
def PXg (K : Nat → ClassId) (N : Nat → Nat) (n : Nat) {α : Type} (a : Cm → Int × α × Sx) (k : Int) (fs : List Value) (wD : va_W) : Prop := ∃ c : Cm, (a c).1 = k ∧ SxI (n + 1) (a c).2.2 ∧ DkI K N (n + 1) (a c).2.2 fs wD
def QRg (K : Nat → ClassId) (M MH ME MS : Nat → Nat) {α : Type} (a : Cm → Int × α × Sx) (z : α) (fm : List Value) (wM : va_W) : Prop := ∀ c : Cm, ((a c).1 = 0 → (a c).2.1 = z) ∧ MoI K M MH ME MS (a c).1 (a c).2.2 fm wM
def cm0 : Cm := (0, none, 0, 0, 0, 0, none)
def rmM : Room := { frames := 8, cells := 0, slots := 0, locals := 180 }
/-! append -/
def setW (S : Sx) (w : List Int) : Sx := (S.1, w, S.2.2)
def an_append (S : Sx) (x : Int) : An := fun _ => if 32 ≤ x ∧ x ≤ 126 then (if (sW S).length < 100 then (0, ((sW S ++ [x]).length : Int), setW S (sW S ++ [x])) else (2, 0, S)) else (1, 0, S)
theorem dk_append (l : Launch) (hl0 : l.stackTraces = false) (D : va_G) (K : Nat → ClassId) (z0 : Nat) (N : Nat → Nat) (d0 : Nat) {n : Nat} {S : Sx} {fs : List Value} {wD : va_W} (hn : n < 512) (hD : DkI K N n S fs wD) (hS : SxI n S) (x : Int) (hx : 0 ≤ x ∧ x < 65536) :
    CX l D K z0 yX10_append cX10_append 2 (some .int) rmD [.ref d0, .int (iI x)] ((d0, .inr (10, fs)) :: wD) (fun v u => ∃ (z : Int) (fs2 : List Value) (wD2 : va_W), v = some (.int (iI z)) ∧ PRg K N n (an_append S x) z fs2 wD2 ∧ u = (d0, .inr (10, fs2)) :: wD2) (fun E u => ∃ (fs2 : List Value) (wD2 : va_W), u = (d0, .inr (10, fs2)) :: wD2 ∧ ((E = "java/lang/IllegalArgumentException" ∧ PXg K N n (an_append S x) 1 fs2 wD2) ∨ (E = "java/lang/UnsupportedOperationException" ∧ PXg K N n (an_append S x) 2 fs2 wD2))) := by
  have hD0 := hD.up hn
  have hS0 := hS.up hn
  obtain ⟨pl, wA, wB, wV, wH, wQ, w0, w1, wT, wU, wG, wP, ⟨g, hT, rfl⟩, hB, hV, hH, hQ, h0, h1, hTu, hUu, hG, hP, rfl, rfl⟩ := hD
  refine CX.wide (CX.fr (wr := [wB, wV, wH, wQ, w0, w1, wT, wU, wG, wP, clW K pl].flatten) (c_X10_append l hl0 D K z0 d0 (N 0) (N 1) (N 2) (N 3) (N 4) (N 5) (N 6) (N 7) (N 8) (N 9) (N 10) (N 11) (N 12) (sE S) (sN S) (N 13) g (sW S) x hT hS.2.1.1 hS.2.1.2 hx) (List.Perm.refl _) (fun v u hp => ?_) (fun E u hp => ?_)) (by unfold rmLe; decide)
  · obtain ⟨g2, rfl, hc, hT2, rfl⟩ := hp
    refine ⟨_, frO.pm List.perm_append_comm, _, _, _, rfl, ⟨cm0, ?_, ?_, ?_, ?_⟩, rfl⟩
    · simp only [an_append, if_pos (show 32 ≤ x ∧ x ≤ 126 by omega), if_pos hc.2.2]
    · simp only [an_append, if_pos (show 32 ≤ x ∧ x ≤ 126 by omega), if_pos hc.2.2]
    · simp only [an_append, if_pos (show 32 ≤ x ∧ x ≤ 126 by omega), if_pos hc.2.2]
      exact ⟨hS0.1, ⟨fun y hy => by
        rcases List.mem_append.mp hy with h | h
        · exact hS.2.1.1 y h
        · rw [List.mem_singleton.mp h]; exact hx, by show (sW S ++ [x]).length ≤ 100; rw [List.length_append, List.length_singleton]; omega⟩, hS0.2.2⟩
    · simp only [an_append, if_pos (show 32 ≤ x ∧ x ≤ 126 by omega), if_pos hc.2.2]
      exact ⟨pl, _, wB, wV, wH, wQ, w0, w1, wT, wU, wG, wP, ⟨g2, hT2, rfl⟩, hB, hV, hH.up hn, hQ, h0, h1, hTu, hUu, hG, hP, rfl, rfl⟩
  · rcases hp with ⟨rfl, hc, rfl⟩ | ⟨rfl, hc, rfl⟩
    · refine ⟨_, frO.pm List.perm_append_comm, _, _, rfl, Or.inl ⟨rfl, cm0, ?_, ?_, ?_⟩⟩
      · simp only [an_append, if_neg hc]
      · simp only [an_append, if_neg hc]; exact hS0
      · simp only [an_append, if_neg hc]; exact hD0
    · refine ⟨_, frO.pm List.perm_append_comm, _, _, rfl, Or.inr ⟨rfl, cm0, ?_, ?_, ?_⟩⟩
      · simp only [an_append, if_pos hc.1, if_neg (show ¬ (sW S).length < 100 by omega)]
      · simp only [an_append, if_pos hc.1, if_neg (show ¬ (sW S).length < 100 by omega)]; exact hS0
      · simp only [an_append, if_pos hc.1, if_neg (show ¬ (sW S).length < 100 by omega)]; exact hD0
theorem md_append (l : Launch) (D : va_G) (K : Nat → ClassId) (z0 : Nat) (M MH ME MS : Nat → Nat) (m0 : Nat) {n : Nat} {xth : Int} {S : Sx} {fm : List Value} {wM : va_W} (hM : MoI K M MH ME MS xth S fm wM) (hS : SxI n S) (x : Int) (hx : 0 ≤ x ∧ x < 65536) :
    CT l D K z0 yX11_append cX11_append 2 (some .int) rmM [.ref m0, .int (iI x)] ((m0, .inr (11, fm)) :: wM) (fun v u => ∃ (z : Int) (fm2 : List Value) (wM2 : va_W), v = some (.int (iI z)) ∧ QRg K M MH ME MS (an_append S x) z fm2 wM2 ∧ u = (m0, .inr (11, fm2)) :: wM2) := by
  obtain ⟨wA, wB, wV, wH, wQ, wR, wX, ⟨g, hT, hcb, rfl⟩, hB, hV, hH, hQ, hR9, hX9, ⟨xat, xwr, xwd, xlo, xhi, xwl, xml, xkl, xfi, xse, xdn, xon, xtw, xol, xrw, xgl, xus, xpr, xmk, xab, hO, he⟩, rfl⟩ := hM
  rw [he]
  refine CT.wide (CT.fr (wr := [wB, wV, wH, wQ, wR, wX].flatten) (c_X11_append l D K z0 m0 M xth ((sH S).length : Int) (sN S) xat (sE S) xwr xwd xlo xhi xwl xml xkl xfi xse xdn xon xtw xol xrw xgl xus xpr xmk xab g (sW S) x hT hS.2.1.1 hS.2.1.2 hx hcb) (List.Perm.refl _) (fun v u hp => ?_)) (by unfold rmLe; decide)
  rcases hp with ⟨rfl, hc, rfl⟩ | ⟨rfl, hc, rfl⟩ | ⟨g2, rfl, hc, hT2, hcb2, rfl⟩
  · refine ⟨_, frO.pm List.perm_append_comm, _, _, _, rfl, fun c => ?_, rfl⟩
    simp only [an_append, if_neg hc]
    exact ⟨fun h => by simp at h, _, wB, wV, wH, wQ, wR, wX, ⟨g, hT, hcb, rfl⟩, hB, hV, hH, hQ, hR9, hX9, ⟨_, _, _, _, _, _, _, _, _, _, _, _, _, _, _, _, _, _, _, _, hO, rfl⟩, rfl⟩
  · refine ⟨_, frO.pm List.perm_append_comm, _, _, _, rfl, fun c => ?_, rfl⟩
    simp only [an_append, if_pos hc.1, if_neg (show ¬ (sW S).length < 100 by omega)]
    exact ⟨fun h => by simp at h, _, wB, wV, wH, wQ, wR, wX, ⟨g, hT, hcb, rfl⟩, hB, hV, hH, hQ, hR9, hX9, ⟨_, _, _, _, _, _, _, _, _, _, _, _, _, _, _, _, _, _, _, _, hO, rfl⟩, rfl⟩
  · refine ⟨_, frO.pm List.perm_append_comm, _, _, _, rfl, fun c => ?_, rfl⟩
    simp only [an_append, if_pos hc.1, if_pos hc.2]
    exact ⟨fun _ => (by first | exact rfl | trivial), _, wB, wV, wH, wQ, wR, wX, ⟨g2, hT2, hcb2, rfl⟩, hB, hV, hH, hQ, hR9, hX9, ⟨_, _, _, _, _, _, _, _, _, _, _, _, _, _, _, _, _, _, _, _, hO, rfl⟩, rfl⟩
