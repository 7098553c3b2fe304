def an_word (S : Sx) (z : Int) (w : Int) : An := fun _ => if sT S = 1 then (if 0 ≤ z ∧ z < (sQ S).2.1.length then (if 0 ≤ w ∧ w ≤ 5 then (0, quA (qget (sQ S).2.1 z) w, S) else (3, 0, S)) else (2, 0, S)) else (1, 0, S)
theorem dk_word (l : Launch) (hl0 : l.stackTraces = false) (D : va_G) (K : Nat → ClassId) (z0 : Nat) (N : Nat → Nat) (d0 : Nat) {n : Nat} {S : Sx} {fs : List Value} {wD : va_W} (hn : n < 512) (hD : DkI K N n S fs wD) (hS : SxI n S) (z : Int) (w : Int) (hz : -2147483648 ≤ z ∧ z < 2147483648) (hw : -2147483648 ≤ w ∧ w < 2147483648) :
    CX l D K z0 yX10_word cX10_word 3 (some .int) rmD [.ref d0, .int (iI z), .int (iI w)] ((d0, .inr (10, fs)) :: wD) (fun v u => ∃ (zr : Int) (fs2 : List Value) (wD2 : va_W), v = some (.int (iI zr)) ∧ PRg K N n (an_word S z w) zr fs2 wD2 ∧ u = (d0, .inr (10, fs2)) :: wD2) (fun E u => ∃ (fs2 : List Value) (wD2 : va_W), u = (d0, .inr (10, fs2)) :: wD2 ∧ ((E = "java/lang/IllegalStateException" ∧ PXg K N n (an_word S z w) 1 fs2 wD2) ∨ (E = "java/lang/IndexOutOfBoundsException" ∧ PXg K N n (an_word S z w) 2 fs2 wD2) ∨ (E = "java/lang/IllegalArgumentException" ∧ PXg K N n (an_word S z w) 3 fs2 wD2))) := by
  have hD0 := hD.up hn
  have hS0 := hS.up hn
  obtain ⟨pl, wA, wB, wV, wH, wQ, w0, w1, wT, wU, wG, wP, ⟨g, hT, rfl⟩, ⟨gk, gp, gc, gs, gl, gn, gq, gr, lc, hB, hP, hCh, rfl⟩, hV9, ⟨gB, bs, hH, hbs, hhl, rfl⟩, ⟨xg, gd, gm, ge, gv, gnn, gt, hTx, hQ9, rfl⟩, h0, h1, hTu, hUu, hG, hP9, rfl, rfl⟩ := hD
  refine CX.wide (CX.obj (c_X10_word l hl0 D K z0 d0 (N 0) (N 1) (N 2) (N 3) (N 4) (N 5) (N 6) (N 7) (N 8) (N 9) (N 11) (N 12) (sE S) (sN S) (N 10) (N 70) (N 72) (N 73) (N 74) (N 75) (N 76) (N 77) gd gm ge gv gnn gt (sQ S).2.1 (sQ S).2.2.1 (sQ S).2.2.2.1 (sQ S).2.2.2.2.1 (sQ S).2.2.2.2.2.1 (sQ S).2.2.2.2.2.2 (sT S) z w hS.2.2.2.2.2.2.1.1 hQ9 hS.2.2.2.2.2.2.1.2.2.2.1.1 hz hw) (pmE [[(N 0, .inr (7, [.ref (N 13), .int (iI ((sW S).length : Int))]))], [(N 13, aI (K 2) 100 g)], [(N 5, .inr (0, [.ref (N 40), .ref (N 41), .ref (N 42), .ref (N 43), .ref (N 44), .int (iI ((sB S).1.length : Int)), .ref (N 45), .ref (N 46), .ref (N 47), .int (iI ((sB S).2.1.length : Int)), .int (iI (sB S).2.2.1), .int (iI (sB S).2.2.2.1), va_rf lc, .int (iI ((sB S).2.2.2.2.length : Int))]))], [(N 40, aI (K 0) 24 gk)], [(N 41, aI (K 0) 24 gp)], [(N 42, aI (K 0) 24 gc)], [(N 43, aJ (K 1) 24 gs)], [(N 44, aJ (K 1) 24 gl)], [(N 45, aI (K 0) 30 gn)], [(N 46, aJ (K 1) 30 gq)], [(N 47, aJ (K 1) 30 gr)], wV, [(N 9, .inr (3, [.ref (N 15), .int (iI ((sH S).length : Int))]))], [(N 15, aR (K 5) 8 gB)], plW K bs, [(N 10, .inr (4, [.ref (N 70), .ref (N 72), .ref (N 73), .ref (N 74), .ref (N 75), .ref (N 76), .ref (N 77), .int (iI ((sQ S).2.1.length : Int)), .int (iI (sQ S).2.2.1), .int (iI (sQ S).2.2.2.1), .int (iI (sQ S).2.2.2.2.1), .int (iI (sQ S).2.2.2.2.2.1), .int (iI (sQ S).2.2.2.2.2.2), .int (iI (sT S))]))], [(N 70, .inr (7, [.ref (N 71), .int (iI ((sQ S).1.length : Int))]))], [(N 71, aI (K 2) 1200 xg)], [(N 72, aI (K 0) 50 gd)], [(N 73, aI (K 0) 50 gm)], [(N 74, aI (K 0) 50 ge)], [(N 75, aI (K 0) 50 gv)], [(N 76, aI (K 0) 50 gnn)], [(N 77, aI (K 0) 50 gt)], w0, w1, wT, wU, wG, wP, clW K pl] [[(N 10, .inr (4, [.ref (N 70), .ref (N 72), .ref (N 73), .ref (N 74), .ref (N 75), .ref (N 76), .ref (N 77), .int (iI ((sQ S).2.1.length : Int)), .int (iI (sQ S).2.2.1), .int (iI (sQ S).2.2.2.1), .int (iI (sQ S).2.2.2.2.1), .int (iI (sQ S).2.2.2.2.2.1), .int (iI (sQ S).2.2.2.2.2.2), .int (iI (sT S))]))], [(N 72, aI (K 0) 50 gd)], [(N 73, aI (K 0) 50 gm)], [(N 74, aI (K 0) 50 ge)], [(N 75, aI (K 0) 50 gv)], [(N 76, aI (K 0) 50 gnn)], [(N 77, aI (K 0) 50 gt)]] [15, 18, 19, 20, 21, 22, 23] [0, 1, 2, 3, 4, 5, 6, 7, 8, 9, 10, 11, 12, 13, 14, 16, 17, 24, 25, 26, 27, 28, 29, 30] rfl (n := 31) rfl (by decide) rfl rfl) (fun v u hp => ?_) (fun E u hp => ?_)) (by unfold rmLe; decide)
  · obtain ⟨rfl, hc0, hc1, hc2, rfl⟩ := hp
    refine ⟨_, rfl, _, _, _, rfl, ⟨cm0, ?_, ?_, ?_, ?_⟩, rfl⟩
    · simp only [an_word, if_pos hc0, if_pos hc1, if_pos hc2]
    · simp only [an_word, if_pos hc0, if_pos hc1, if_pos hc2]
    · simp only [an_word, if_pos hc0, if_pos hc1, if_pos hc2]; exact hS0
    · simp only [an_word, if_pos hc0, if_pos hc1, if_pos hc2]; exact hD0
  · rcases hp with ⟨rfl, hc0, rfl⟩ | ⟨rfl, hc0, hc1, rfl⟩ | ⟨rfl, hc0, hc1, hc2, rfl⟩
    · refine ⟨_, rfl, _, _, rfl, Or.inl ⟨rfl, cm0, ?_, ?_, ?_⟩⟩
      · simp only [an_word, if_neg (show ¬ sT S = 1 by omega)]
      · simp only [an_word, if_neg (show ¬ sT S = 1 by omega)]; exact hS0
      · simp only [an_word, if_neg (show ¬ sT S = 1 by omega)]; exact hD0
    · refine ⟨_, rfl, _, _, rfl, Or.inr (Or.inl ⟨rfl, cm0, ?_, ?_, ?_⟩)⟩
      · simp only [an_word, if_pos hc0, if_neg hc1]
      · simp only [an_word, if_pos hc0, if_neg hc1]; exact hS0
      · simp only [an_word, if_pos hc0, if_neg hc1]; exact hD0
    · refine ⟨_, rfl, _, _, rfl, Or.inr (Or.inr (⟨rfl, cm0, ?_, ?_, ?_⟩))⟩
      · simp only [an_word, if_pos hc0, if_pos hc1, if_neg hc2]
      · simp only [an_word, if_pos hc0, if_pos hc1, if_neg hc2]; exact hS0
      · simp only [an_word, if_pos hc0, if_pos hc1, if_neg hc2]; exact hD0
theorem md_word (l : Launch) (D : va_G) (K : Nat → ClassId) (z0 : Nat) (M MH ME MS : Nat → Nat) (m0 : Nat) {n : Nat} {xth : Int} {S : Sx} {fm : List Value} {wM : va_W} (hM : MoI K M MH ME MS xth S fm wM) (hS : SxI n S) (z : Int) (w : Int) (hz : -2147483648 ≤ z ∧ z < 2147483648) (hw : -2147483648 ≤ w ∧ w < 2147483648) :
    CT l D K z0 yX11_word cX11_word 3 (some .int) rmM [.ref m0, .int (iI z), .int (iI w)] ((m0, .inr (11, fm)) :: wM) (fun v u => ∃ (zr : Int) (fm2 : List Value) (wM2 : va_W), v = some (.int (iI zr)) ∧ QRg K M MH ME MS (an_word S z w) zr fm2 wM2 ∧ u = (m0, .inr (11, fm2)) :: wM2) := by
  obtain ⟨wA, wB, wV, wH, wQ, wR, wX, ⟨gbf, hT, hcb, rfl⟩, ⟨g, hM, rfl⟩, hV, hH, ⟨gou, q1, q2, q3, q4, q5, q6, hq, rfl⟩, hR9, hX9, ⟨xat, xwr, xwd, xlo, xhi, xwl, xml, xkl, xfi, xse, xdn, xon, xtw, xol, xrw, xgl, xus, xpr, xmk, xab, hO, he⟩, rfl⟩ := hM
  rw [he]
  have hq1 := hS.2.2.2.2.2.2.1.2.2.2.1.1
  rcases hO with ⟨ht, hxr⟩ | ⟨ht, ho1, ho2, ho3, ho4, ho5, ho6, ho7⟩
  · subst hxr
    refine CT.wide (CT.obj (c_X11_word_n l D K z0 m0 M xth ((sH S).length : Int) (sN S) ((sW S).length : Int) xat (sE S) xwr xwd xlo xhi xwl xml xkl xfi xse xdn xon xtw xol (-1) xgl xus xpr xmk xab q1 q2 q3 q4 q5 q6 z w hz hw (by omega) (by omega)) (pmE [[(M 6, aI (K 2) 100 gbf)], [(M 1, aI (K 0) 1247 g)], wV, wH, [(M 35, aI (K 0) 2000 gou)], [(M 29, aI (K 0) 60 q1)], [(M 30, aI (K 0) 60 q2)], [(M 31, aI (K 0) 60 q3)], [(M 32, aI (K 0) 60 q4)], [(M 33, aI (K 0) 60 q5)], [(M 34, aI (K 0) 60 q6)], wR, wX] [[(M 29, aI (K 0) 60 q1)], [(M 30, aI (K 0) 60 q2)], [(M 31, aI (K 0) 60 q3)], [(M 32, aI (K 0) 60 q4)], [(M 33, aI (K 0) 60 q5)], [(M 34, aI (K 0) 60 q6)]] [5, 6, 7, 8, 9, 10] [0, 1, 2, 3, 4, 11, 12] rfl (n := 13) rfl (by decide) rfl rfl) (fun v u hp => ?_)) (by unfold rmLe; decide)
    obtain ⟨rfl, rfl⟩ := hp
    refine ⟨_, rfl, _, _, _, rfl, fun c => ?_, rfl⟩
    simp only [an_word, if_neg (show ¬ sT S = 1 by omega)]
    exact ⟨fun h => (by first | exact rfl | trivial | simp at h), _, _, wV, wH, _, wR, wX, ⟨gbf, hT, hcb, rfl⟩, ⟨g, hM, rfl⟩, hV, hH, ⟨gou, q1, q2, q3, q4, q5, q6, hq, rfl⟩, hR9, hX9, ⟨_, _, _, _, _, _, _, _, _, _, _, _, _, _, _, _, _, _, _, _, Or.inl ⟨ht, rfl⟩, rfl⟩, rfl⟩
  · subst ho1; subst ho2; subst ho3; subst ho4; subst ho5; subst ho6; subst ho7
    obtain ⟨hTo, hQ⟩ := hq ht
    refine CT.wide (CT.obj (c_X11_word_t l D K z0 m0 M xth ((sH S).length : Int) (sN S) ((sW S).length : Int) xat (sE S) xwr xwd xlo xhi xwl xml xkl xfi xse xdn xon xtw ((sQ S).1.length : Int) (sQ S).2.2.1 (sQ S).2.2.2.1 (sQ S).2.2.2.2.1 (sQ S).2.2.2.2.2.1 (sQ S).2.2.2.2.2.2 q1 q2 q3 q4 q5 q6 (sQ S).2.1 z w hQ hq1 hz hw) (pmE [[(M 6, aI (K 2) 100 gbf)], [(M 1, aI (K 0) 1247 g)], wV, wH, [(M 35, aI (K 0) 2000 gou)], [(M 29, aI (K 0) 60 q1)], [(M 30, aI (K 0) 60 q2)], [(M 31, aI (K 0) 60 q3)], [(M 32, aI (K 0) 60 q4)], [(M 33, aI (K 0) 60 q5)], [(M 34, aI (K 0) 60 q6)], wR, wX] [[(M 29, aI (K 0) 60 q1)], [(M 30, aI (K 0) 60 q2)], [(M 31, aI (K 0) 60 q3)], [(M 32, aI (K 0) 60 q4)], [(M 33, aI (K 0) 60 q5)], [(M 34, aI (K 0) 60 q6)]] [5, 6, 7, 8, 9, 10] [0, 1, 2, 3, 4, 11, 12] rfl (n := 13) rfl (by decide) rfl rfl) (fun v u hp => ?_)) (by unfold rmLe; decide)
    rcases hp with ⟨rfl, hc0, rfl⟩ | ⟨rfl, hc0, hc1, rfl⟩ | ⟨rfl, hc0, hc1, rfl⟩
    · refine ⟨_, rfl, _, _, _, rfl, fun c => ?_, rfl⟩
      simp only [an_word, if_pos ht, if_neg hc0]
      exact ⟨fun h => (by first | exact rfl | trivial | simp at h), _, _, wV, wH, _, wR, wX, ⟨gbf, hT, hcb, rfl⟩, ⟨g, hM, rfl⟩, hV, hH, ⟨gou, q1, q2, q3, q4, q5, q6, hq, rfl⟩, hR9, hX9, ⟨_, _, _, _, _, _, _, _, _, _, _, _, _, _, _, _, _, _, _, _, Or.inr ⟨ht, rfl, rfl, rfl, rfl, rfl, rfl, rfl⟩, rfl⟩, rfl⟩
    · refine ⟨_, rfl, _, _, _, rfl, fun c => ?_, rfl⟩
      simp only [an_word, if_pos ht, if_pos hc0, if_neg hc1]
      exact ⟨fun h => (by first | exact rfl | trivial | simp at h), _, _, wV, wH, _, wR, wX, ⟨gbf, hT, hcb, rfl⟩, ⟨g, hM, rfl⟩, hV, hH, ⟨gou, q1, q2, q3, q4, q5, q6, hq, rfl⟩, hR9, hX9, ⟨_, _, _, _, _, _, _, _, _, _, _, _, _, _, _, _, _, _, _, _, Or.inr ⟨ht, rfl, rfl, rfl, rfl, rfl, rfl, rfl⟩, rfl⟩, rfl⟩
    · refine ⟨_, rfl, _, _, _, rfl, fun c => ?_, rfl⟩
      simp only [an_word, if_pos ht, if_pos hc0, if_pos hc1]
      exact ⟨fun h => (by first | exact rfl | trivial | simp at h), _, _, wV, wH, _, wR, wX, ⟨gbf, hT, hcb, rfl⟩, ⟨g, hM, rfl⟩, hV, hH, ⟨gou, q1, q2, q3, q4, q5, q6, hq, rfl⟩, hR9, hX9, ⟨_, _, _, _, _, _, _, _, _, _, _, _, _, _, _, _, _, _, _, _, Or.inr ⟨ht, rfl, rfl, rfl, rfl, rfl, rfl, rfl⟩, rfl⟩, rfl⟩
def an_result (S : Sx) (w : Int) : An := fun _ => if sT S = 1 then (if 0 ≤ w ∧ w ≤ 5 then (0, reA ((sQ S).2.1.length : Int) ((sQ S).1.length : Int) (sQ S).2.2.1 (sQ S).2.2.2.1 (sQ S).2.2.2.2.2.1 (sQ S).2.2.2.2.2.2 w, S) else (2, 0, S)) else (1, 0, S)
theorem dk_result (l : Launch) (hl0 : l.stackTraces = false) (D : va_G) (K : Nat → ClassId) (z0 : Nat) (N : Nat → Nat) (d0 : Nat) {n : Nat} {S : Sx} {fs : List Value} {wD : va_W} (hn : n < 512) (hD : DkI K N n S fs wD) (hS : SxI n S) (w : Int) (hw : -2147483648 ≤ w ∧ w < 2147483648) :
    CX l D K z0 yX10_result cX10_result 2 (some .int) rmD [.ref d0, .int (iI w)] ((d0, .inr (10, fs)) :: wD) (fun v u => ∃ (zr : Int) (fs2 : List Value) (wD2 : va_W), v = some (.int (iI zr)) ∧ PRg K N n (an_result S w) zr fs2 wD2 ∧ u = (d0, .inr (10, fs2)) :: wD2) (fun E u => ∃ (fs2 : List Value) (wD2 : va_W), u = (d0, .inr (10, fs2)) :: wD2 ∧ ((E = "java/lang/IllegalStateException" ∧ PXg K N n (an_result S w) 1 fs2 wD2) ∨ (E = "java/lang/IllegalArgumentException" ∧ PXg K N n (an_result S w) 2 fs2 wD2))) := by
  have hD0 := hD.up hn
  have hS0 := hS.up hn
  obtain ⟨pl, wA, wB, wV, wH, wQ, w0, w1, wT, wU, wG, wP, ⟨g, hT, rfl⟩, ⟨gk, gp, gc, gs, gl, gn, gq, gr, lc, hB, hP, hCh, rfl⟩, hV9, ⟨gB, bs, hH, hbs, hhl, rfl⟩, ⟨xg, gd, gm, ge, gv, gnn, gt, hTx, hQ9, rfl⟩, h0, h1, hTu, hUu, hG, hP9, rfl, rfl⟩ := hD
  refine CX.wide (CX.obj (c_X10_result l hl0 D K z0 d0 (N 0) (N 1) (N 2) (N 3) (N 4) (N 5) (N 6) (N 7) (N 8) (N 9) (N 11) (N 12) (sE S) (sN S) (N 10) (N 70) (N 71) (N 72) (N 73) (N 74) (N 75) (N 76) (N 77) (sQ S).2.2.1 (sQ S).2.2.2.1 (sQ S).2.2.2.2.1 (sQ S).2.2.2.2.2.1 (sQ S).2.2.2.2.2.2 (sT S) ((sQ S).2.1.length : Int) ((sQ S).1.length : Int) w hS.2.2.2.2.2.2.1.1 hS.2.2.2.2.2.2.1.2.2.2.2.2.1 hw) (pmE [[(N 0, .inr (7, [.ref (N 13), .int (iI ((sW S).length : Int))]))], [(N 13, aI (K 2) 100 g)], [(N 5, .inr (0, [.ref (N 40), .ref (N 41), .ref (N 42), .ref (N 43), .ref (N 44), .int (iI ((sB S).1.length : Int)), .ref (N 45), .ref (N 46), .ref (N 47), .int (iI ((sB S).2.1.length : Int)), .int (iI (sB S).2.2.1), .int (iI (sB S).2.2.2.1), va_rf lc, .int (iI ((sB S).2.2.2.2.length : Int))]))], [(N 40, aI (K 0) 24 gk)], [(N 41, aI (K 0) 24 gp)], [(N 42, aI (K 0) 24 gc)], [(N 43, aJ (K 1) 24 gs)], [(N 44, aJ (K 1) 24 gl)], [(N 45, aI (K 0) 30 gn)], [(N 46, aJ (K 1) 30 gq)], [(N 47, aJ (K 1) 30 gr)], wV, [(N 9, .inr (3, [.ref (N 15), .int (iI ((sH S).length : Int))]))], [(N 15, aR (K 5) 8 gB)], plW K bs, [(N 10, .inr (4, [.ref (N 70), .ref (N 72), .ref (N 73), .ref (N 74), .ref (N 75), .ref (N 76), .ref (N 77), .int (iI ((sQ S).2.1.length : Int)), .int (iI (sQ S).2.2.1), .int (iI (sQ S).2.2.2.1), .int (iI (sQ S).2.2.2.2.1), .int (iI (sQ S).2.2.2.2.2.1), .int (iI (sQ S).2.2.2.2.2.2), .int (iI (sT S))]))], [(N 70, .inr (7, [.ref (N 71), .int (iI ((sQ S).1.length : Int))]))], [(N 71, aI (K 2) 1200 xg)], [(N 72, aI (K 0) 50 gd)], [(N 73, aI (K 0) 50 gm)], [(N 74, aI (K 0) 50 ge)], [(N 75, aI (K 0) 50 gv)], [(N 76, aI (K 0) 50 gnn)], [(N 77, aI (K 0) 50 gt)], w0, w1, wT, wU, wG, wP, clW K pl] [[(N 10, .inr (4, [.ref (N 70), .ref (N 72), .ref (N 73), .ref (N 74), .ref (N 75), .ref (N 76), .ref (N 77), .int (iI ((sQ S).2.1.length : Int)), .int (iI (sQ S).2.2.1), .int (iI (sQ S).2.2.2.1), .int (iI (sQ S).2.2.2.2.1), .int (iI (sQ S).2.2.2.2.2.1), .int (iI (sQ S).2.2.2.2.2.2), .int (iI (sT S))]))], [(N 70, .inr (7, [.ref (N 71), .int (iI ((sQ S).1.length : Int))]))]] [15, 16] [0, 1, 2, 3, 4, 5, 6, 7, 8, 9, 10, 11, 12, 13, 14, 17, 18, 19, 20, 21, 22, 23, 24, 25, 26, 27, 28, 29, 30] rfl (n := 31) rfl (by decide) rfl rfl) (fun v u hp => ?_) (fun E u hp => ?_)) (by unfold rmLe; decide)
  · obtain ⟨rfl, hc0, hc1, rfl⟩ := hp
    refine ⟨_, rfl, _, _, _, rfl, ⟨cm0, ?_, ?_, ?_, ?_⟩, rfl⟩
    · simp only [an_result, if_pos hc0, if_pos hc1]
    · simp only [an_result, if_pos hc0, if_pos hc1]
    · simp only [an_result, if_pos hc0, if_pos hc1]; exact hS0
    · simp only [an_result, if_pos hc0, if_pos hc1]; exact hD0
  · rcases hp with ⟨rfl, hc0, rfl⟩ | ⟨rfl, hc0, hc1, rfl⟩
    · refine ⟨_, rfl, _, _, rfl, Or.inl ⟨rfl, cm0, ?_, ?_, ?_⟩⟩
      · simp only [an_result, if_neg (show ¬ sT S = 1 by omega)]
      · simp only [an_result, if_neg (show ¬ sT S = 1 by omega)]; exact hS0
      · simp only [an_result, if_neg (show ¬ sT S = 1 by omega)]; exact hD0
    · refine ⟨_, rfl, _, _, rfl, Or.inr (⟨rfl, cm0, ?_, ?_, ?_⟩)⟩
      · simp only [an_result, if_pos hc0, if_neg hc1]
      · simp only [an_result, if_pos hc0, if_neg hc1]; exact hS0
      · simp only [an_result, if_pos hc0, if_neg hc1]; exact hD0
theorem md_result (l : Launch) (D : va_G) (K : Nat → ClassId) (z0 : Nat) (M MH ME MS : Nat → Nat) (m0 : Nat) {n : Nat} {xth : Int} {S : Sx} {fm : List Value} {wM : va_W} (hM : MoI K M MH ME MS xth S fm wM) (hS : SxI n S) (w : Int) (hw : -2147483648 ≤ w ∧ w < 2147483648) :
    CT l D K z0 yX11_result cX11_result 2 (some .int) rmM [.ref m0, .int (iI w)] ((m0, .inr (11, fm)) :: wM) (fun v u => ∃ (zr : Int) (fm2 : List Value) (wM2 : va_W), v = some (.int (iI zr)) ∧ QRg K M MH ME MS (an_result S w) zr fm2 wM2 ∧ u = (m0, .inr (11, fm2)) :: wM2) := by
  obtain ⟨wA, wB, wV, wH, wQ, wR, wX, ⟨gbf, hT, hcb, rfl⟩, ⟨g, hM, rfl⟩, hV, hH, ⟨gou, q1, q2, q3, q4, q5, q6, hq, rfl⟩, hR9, hX9, ⟨xat, xwr, xwd, xlo, xhi, xwl, xml, xkl, xfi, xse, xdn, xon, xtw, xol, xrw, xgl, xus, xpr, xmk, xab, hO, he⟩, rfl⟩ := hM
  rw [he]
  have hq1 := hS.2.2.2.2.2.2.1.2.2.2.1.1
  rcases hO with ⟨ht, hxr⟩ | ⟨ht, ho1, ho2, ho3, ho4, ho5, ho6, ho7⟩
  · subst hxr
    refine CT.wide (CT.obj (c_X11_result_n l D K z0 m0 M xth ((sH S).length : Int) (sN S) ((sW S).length : Int) xat (sE S) xwr xwd xlo xhi xwl xml xkl xfi xse xdn xon xtw xol (-1) xgl xus xpr xmk xab w hw (by omega) (by omega)) (pmE [[(M 6, aI (K 2) 100 gbf)], [(M 1, aI (K 0) 1247 g)], wV, wH, [(M 35, aI (K 0) 2000 gou)], [(M 29, aI (K 0) 60 q1)], [(M 30, aI (K 0) 60 q2)], [(M 31, aI (K 0) 60 q3)], [(M 32, aI (K 0) 60 q4)], [(M 33, aI (K 0) 60 q5)], [(M 34, aI (K 0) 60 q6)], wR, wX] [] [] [0, 1, 2, 3, 4, 5, 6, 7, 8, 9, 10, 11, 12] rfl (n := 13) rfl (by decide) rfl rfl) (fun v u hp => ?_)) (by unfold rmLe; decide)
    obtain ⟨rfl, rfl⟩ := hp
    refine ⟨_, rfl, _, _, _, rfl, fun c => ?_, rfl⟩
    simp only [an_result, if_neg (show ¬ sT S = 1 by omega)]
    exact ⟨fun h => (by first | exact rfl | trivial | simp at h), _, _, wV, wH, _, wR, wX, ⟨gbf, hT, hcb, rfl⟩, ⟨g, hM, rfl⟩, hV, hH, ⟨gou, q1, q2, q3, q4, q5, q6, hq, rfl⟩, hR9, hX9, ⟨_, _, _, _, _, _, _, _, _, _, _, _, _, _, _, _, _, _, _, _, Or.inl ⟨ht, rfl⟩, rfl⟩, rfl⟩
  · subst ho1; subst ho2; subst ho3; subst ho4; subst ho5; subst ho6; subst ho7
    obtain ⟨hTo, hQ⟩ := hq ht
    refine CT.wide (CT.obj (c_X11_result_t l D K z0 m0 M xth ((sH S).length : Int) (sN S) ((sW S).length : Int) xat (sE S) xwr xwd xlo xhi xwl xml xkl xfi xse xdn xon xtw ((sQ S).1.length : Int) ((sQ S).2.1.length : Int) (sQ S).2.2.1 (sQ S).2.2.2.1 (sQ S).2.2.2.2.1 (sQ S).2.2.2.2.2.1 (sQ S).2.2.2.2.2.2 w (by omega) (by omega) hw) (pmE [[(M 6, aI (K 2) 100 gbf)], [(M 1, aI (K 0) 1247 g)], wV, wH, [(M 35, aI (K 0) 2000 gou)], [(M 29, aI (K 0) 60 q1)], [(M 30, aI (K 0) 60 q2)], [(M 31, aI (K 0) 60 q3)], [(M 32, aI (K 0) 60 q4)], [(M 33, aI (K 0) 60 q5)], [(M 34, aI (K 0) 60 q6)], wR, wX] [] [] [0, 1, 2, 3, 4, 5, 6, 7, 8, 9, 10, 11, 12] rfl (n := 13) rfl (by decide) rfl rfl) (fun v u hp => ?_)) (by unfold rmLe; decide)
    rcases hp with ⟨rfl, hc0, rfl⟩ | ⟨rfl, hc0, rfl⟩
    · refine ⟨_, rfl, _, _, _, rfl, fun c => ?_, rfl⟩
      simp only [an_result, if_pos ht, if_neg hc0]
      exact ⟨fun h => (by first | exact rfl | trivial | simp at h), _, _, wV, wH, _, wR, wX, ⟨gbf, hT, hcb, rfl⟩, ⟨g, hM, rfl⟩, hV, hH, ⟨gou, q1, q2, q3, q4, q5, q6, hq, rfl⟩, hR9, hX9, ⟨_, _, _, _, _, _, _, _, _, _, _, _, _, _, _, _, _, _, _, _, Or.inr ⟨ht, rfl, rfl, rfl, rfl, rfl, rfl, rfl⟩, rfl⟩, rfl⟩
    · refine ⟨_, rfl, _, _, _, rfl, fun c => ?_, rfl⟩
      simp only [an_result, if_pos ht, if_pos hc0]
      exact ⟨fun h => (by first | exact rfl | trivial | simp at h), _, _, wV, wH, _, wR, wX, ⟨gbf, hT, hcb, rfl⟩, ⟨g, hM, rfl⟩, hV, hH, ⟨gou, q1, q2, q3, q4, q5, q6, hq, rfl⟩, hR9, hX9, ⟨_, _, _, _, _, _, _, _, _, _, _, _, _, _, _, _, _, _, _, _, Or.inr ⟨ht, rfl, rfl, rfl, rfl, rfl, rfl, rfl⟩, rfl⟩, rfl⟩
def an_output (S : Sx) (z : Int) : An := fun _ => if sT S = 1 then (if 0 ≤ z ∧ z < (sQ S).1.length then (0, lat (sQ S).1 z, S) else (2, 0, S)) else (1, 0, S)
theorem dk_output (l : Launch) (hl0 : l.stackTraces = false) (D : va_G) (K : Nat → ClassId) (z0 : Nat) (N : Nat → Nat) (d0 : Nat) {n : Nat} {S : Sx} {fs : List Value} {wD : va_W} (hn : n < 512) (hD : DkI K N n S fs wD) (hS : SxI n S) (z : Int) (hz : -2147483648 ≤ z ∧ z < 2147483648) :
    CX l D K z0 yX10_output cX10_output 2 (some .char) rmD [.ref d0, .int (iI z)] ((d0, .inr (10, fs)) :: wD) (fun v u => ∃ (zr : Int) (fs2 : List Value) (wD2 : va_W), v = some (.int (iI zr)) ∧ PRg K N n (an_output S z) zr fs2 wD2 ∧ u = (d0, .inr (10, fs2)) :: wD2) (fun E u => ∃ (fs2 : List Value) (wD2 : va_W), u = (d0, .inr (10, fs2)) :: wD2 ∧ ((E = "java/lang/IllegalStateException" ∧ PXg K N n (an_output S z) 1 fs2 wD2) ∨ (E = "java/lang/IndexOutOfBoundsException" ∧ PXg K N n (an_output S z) 2 fs2 wD2))) := by
  have hD0 := hD.up hn
  have hS0 := hS.up hn
  obtain ⟨pl, wA, wB, wV, wH, wQ, w0, w1, wT, wU, wG, wP, ⟨g, hT, rfl⟩, ⟨gk, gp, gc, gs, gl, gn, gq, gr, lc, hB, hP, hCh, rfl⟩, hV9, ⟨gB, bs, hH, hbs, hhl, rfl⟩, ⟨xg, gd, gm, ge, gv, gnn, gt, hTx, hQ9, rfl⟩, h0, h1, hTu, hUu, hG, hP9, rfl, rfl⟩ := hD
  refine CX.wide (CX.obj (c_X10_output l hl0 D K z0 d0 (N 0) (N 1) (N 2) (N 3) (N 4) (N 5) (N 6) (N 7) (N 8) (N 9) (N 11) (N 12) (sE S) (sN S) (N 10) (N 70) (N 71) (N 72) (N 73) (N 74) (N 75) (N 76) (N 77) xg (sQ S).1 (sQ S).2.2.1 (sQ S).2.2.2.1 (sQ S).2.2.2.2.1 (sQ S).2.2.2.2.2.1 (sQ S).2.2.2.2.2.2 (sT S) ((sQ S).2.1.length : Int) z hS.2.2.2.2.2.2.1.1 hTx hS.2.2.2.2.2.2.1.2.1 hS.2.2.2.2.2.2.1.2.2.1 hz) (pmE [[(N 0, .inr (7, [.ref (N 13), .int (iI ((sW S).length : Int))]))], [(N 13, aI (K 2) 100 g)], [(N 5, .inr (0, [.ref (N 40), .ref (N 41), .ref (N 42), .ref (N 43), .ref (N 44), .int (iI ((sB S).1.length : Int)), .ref (N 45), .ref (N 46), .ref (N 47), .int (iI ((sB S).2.1.length : Int)), .int (iI (sB S).2.2.1), .int (iI (sB S).2.2.2.1), va_rf lc, .int (iI ((sB S).2.2.2.2.length : Int))]))], [(N 40, aI (K 0) 24 gk)], [(N 41, aI (K 0) 24 gp)], [(N 42, aI (K 0) 24 gc)], [(N 43, aJ (K 1) 24 gs)], [(N 44, aJ (K 1) 24 gl)], [(N 45, aI (K 0) 30 gn)], [(N 46, aJ (K 1) 30 gq)], [(N 47, aJ (K 1) 30 gr)], wV, [(N 9, .inr (3, [.ref (N 15), .int (iI ((sH S).length : Int))]))], [(N 15, aR (K 5) 8 gB)], plW K bs, [(N 10, .inr (4, [.ref (N 70), .ref (N 72), .ref (N 73), .ref (N 74), .ref (N 75), .ref (N 76), .ref (N 77), .int (iI ((sQ S).2.1.length : Int)), .int (iI (sQ S).2.2.1), .int (iI (sQ S).2.2.2.1), .int (iI (sQ S).2.2.2.2.1), .int (iI (sQ S).2.2.2.2.2.1), .int (iI (sQ S).2.2.2.2.2.2), .int (iI (sT S))]))], [(N 70, .inr (7, [.ref (N 71), .int (iI ((sQ S).1.length : Int))]))], [(N 71, aI (K 2) 1200 xg)], [(N 72, aI (K 0) 50 gd)], [(N 73, aI (K 0) 50 gm)], [(N 74, aI (K 0) 50 ge)], [(N 75, aI (K 0) 50 gv)], [(N 76, aI (K 0) 50 gnn)], [(N 77, aI (K 0) 50 gt)], w0, w1, wT, wU, wG, wP, clW K pl] [[(N 10, .inr (4, [.ref (N 70), .ref (N 72), .ref (N 73), .ref (N 74), .ref (N 75), .ref (N 76), .ref (N 77), .int (iI ((sQ S).2.1.length : Int)), .int (iI (sQ S).2.2.1), .int (iI (sQ S).2.2.2.1), .int (iI (sQ S).2.2.2.2.1), .int (iI (sQ S).2.2.2.2.2.1), .int (iI (sQ S).2.2.2.2.2.2), .int (iI (sT S))]))], [(N 70, .inr (7, [.ref (N 71), .int (iI ((sQ S).1.length : Int))]))], [(N 71, aI (K 2) 1200 xg)]] [15, 16, 17] [0, 1, 2, 3, 4, 5, 6, 7, 8, 9, 10, 11, 12, 13, 14, 18, 19, 20, 21, 22, 23, 24, 25, 26, 27, 28, 29, 30] rfl (n := 31) rfl (by decide) rfl rfl) (fun v u hp => ?_) (fun E u hp => ?_)) (by unfold rmLe; decide)
  · obtain ⟨rfl, hc0, hc1, rfl⟩ := hp
    refine ⟨_, rfl, _, _, _, rfl, ⟨cm0, ?_, ?_, ?_, ?_⟩, rfl⟩
    · simp only [an_output, if_pos hc0, if_pos hc1]
    · simp only [an_output, if_pos hc0, if_pos hc1]
    · simp only [an_output, if_pos hc0, if_pos hc1]; exact hS0
    · simp only [an_output, if_pos hc0, if_pos hc1]; exact hD0
  · rcases hp with ⟨rfl, hc0, rfl⟩ | ⟨rfl, hc0, hc1, rfl⟩
    · refine ⟨_, rfl, _, _, rfl, Or.inl ⟨rfl, cm0, ?_, ?_, ?_⟩⟩
      · simp only [an_output, if_neg (show ¬ sT S = 1 by omega)]
      · simp only [an_output, if_neg (show ¬ sT S = 1 by omega)]; exact hS0
      · simp only [an_output, if_neg (show ¬ sT S = 1 by omega)]; exact hD0
    · refine ⟨_, rfl, _, _, rfl, Or.inr (⟨rfl, cm0, ?_, ?_, ?_⟩)⟩
      · simp only [an_output, if_pos hc0, if_neg hc1]
      · simp only [an_output, if_pos hc0, if_neg hc1]; exact hS0
      · simp only [an_output, if_pos hc0, if_neg hc1]; exact hD0
theorem md_output (l : Launch) (D : va_G) (K : Nat → ClassId) (z0 : Nat) (M MH ME MS : Nat → Nat) (m0 : Nat) {n : Nat} {xth : Int} {S : Sx} {fm : List Value} {wM : va_W} (hM : MoI K M MH ME MS xth S fm wM) (hS : SxI n S) (z : Int) (hz : -2147483648 ≤ z ∧ z < 2147483648) :
    CT l D K z0 yX11_output cX11_output 2 (some .char) rmM [.ref m0, .int (iI z)] ((m0, .inr (11, fm)) :: wM) (fun v u => ∃ (zr : Int) (fm2 : List Value) (wM2 : va_W), v = some (.int (iI zr)) ∧ QRg K M MH ME MS (an_output S z) zr fm2 wM2 ∧ u = (m0, .inr (11, fm2)) :: wM2) := by
  obtain ⟨wA, wB, wV, wH, wQ, wR, wX, ⟨gbf, hT, hcb, rfl⟩, ⟨g, hM, rfl⟩, hV, hH, ⟨gou, q1, q2, q3, q4, q5, q6, hq, rfl⟩, hR9, hX9, ⟨xat, xwr, xwd, xlo, xhi, xwl, xml, xkl, xfi, xse, xdn, xon, xtw, xol, xrw, xgl, xus, xpr, xmk, xab, hO, he⟩, rfl⟩ := hM
  rw [he]
  have hq1 := hS.2.2.2.2.2.2.1.2.2.2.1.1
  rcases hO with ⟨ht, hxr⟩ | ⟨ht, ho1, ho2, ho3, ho4, ho5, ho6, ho7⟩
  · subst hxr
    refine CT.wide (CT.obj (c_X11_output_n l D K z0 m0 M xth ((sH S).length : Int) (sN S) ((sW S).length : Int) xat (sE S) xwr xwd xlo xhi xwl xml xkl xfi xse xdn xon xtw xol (-1) xgl xus xpr xmk xab gou z hz (by omega) (by omega)) (pmE [[(M 6, aI (K 2) 100 gbf)], [(M 1, aI (K 0) 1247 g)], wV, wH, [(M 35, aI (K 0) 2000 gou)], [(M 29, aI (K 0) 60 q1)], [(M 30, aI (K 0) 60 q2)], [(M 31, aI (K 0) 60 q3)], [(M 32, aI (K 0) 60 q4)], [(M 33, aI (K 0) 60 q5)], [(M 34, aI (K 0) 60 q6)], wR, wX] [[(M 35, aI (K 0) 2000 gou)]] [4] [0, 1, 2, 3, 5, 6, 7, 8, 9, 10, 11, 12] rfl (n := 13) rfl (by decide) rfl rfl) (fun v u hp => ?_)) (by unfold rmLe; decide)
    obtain ⟨rfl, rfl⟩ := hp
    refine ⟨_, rfl, _, _, _, rfl, fun c => ?_, rfl⟩
    simp only [an_output, if_neg (show ¬ sT S = 1 by omega)]
    exact ⟨fun h => (by first | exact rfl | trivial | simp at h), _, _, wV, wH, _, wR, wX, ⟨gbf, hT, hcb, rfl⟩, ⟨g, hM, rfl⟩, hV, hH, ⟨gou, q1, q2, q3, q4, q5, q6, hq, rfl⟩, hR9, hX9, ⟨_, _, _, _, _, _, _, _, _, _, _, _, _, _, _, _, _, _, _, _, Or.inl ⟨ht, rfl⟩, rfl⟩, rfl⟩
  · subst ho1; subst ho2; subst ho3; subst ho4; subst ho5; subst ho6; subst ho7
    obtain ⟨hTo, hQ⟩ := hq ht
    refine CT.wide (CT.obj (c_X11_output_t l D K z0 m0 M xth ((sH S).length : Int) (sN S) ((sW S).length : Int) xat (sE S) xwr xwd xlo xhi xwl xml xkl xfi xse xdn xon xtw ((sQ S).2.1.length : Int) (sQ S).2.2.1 (sQ S).2.2.2.1 (sQ S).2.2.2.2.1 (sQ S).2.2.2.2.2.1 (sQ S).2.2.2.2.2.2 gou (sQ S).1 z hTo hS.2.2.2.2.2.2.1.2.1 (by have := hS.2.2.2.2.2.2.1.2.2.1; omega) (by omega) (by omega) hz) (pmE [[(M 6, aI (K 2) 100 gbf)], [(M 1, aI (K 0) 1247 g)], wV, wH, [(M 35, aI (K 0) 2000 gou)], [(M 29, aI (K 0) 60 q1)], [(M 30, aI (K 0) 60 q2)], [(M 31, aI (K 0) 60 q3)], [(M 32, aI (K 0) 60 q4)], [(M 33, aI (K 0) 60 q5)], [(M 34, aI (K 0) 60 q6)], wR, wX] [[(M 35, aI (K 0) 2000 gou)]] [4] [0, 1, 2, 3, 5, 6, 7, 8, 9, 10, 11, 12] rfl (n := 13) rfl (by decide) rfl rfl) (fun v u hp => ?_)) (by unfold rmLe; decide)
    rcases hp with ⟨rfl, hc0, rfl⟩ | ⟨rfl, hc0, rfl⟩
    · refine ⟨_, rfl, _, _, _, rfl, fun c => ?_, rfl⟩
      simp only [an_output, if_pos ht, if_neg hc0]
      exact ⟨fun h => (by first | exact rfl | trivial | simp at h), _, _, wV, wH, _, wR, wX, ⟨gbf, hT, hcb, rfl⟩, ⟨g, hM, rfl⟩, hV, hH, ⟨gou, q1, q2, q3, q4, q5, q6, hq, rfl⟩, hR9, hX9, ⟨_, _, _, _, _, _, _, _, _, _, _, _, _, _, _, _, _, _, _, _, Or.inr ⟨ht, rfl, rfl, rfl, rfl, rfl, rfl, rfl⟩, rfl⟩, rfl⟩
    · refine ⟨_, rfl, _, _, _, rfl, fun c => ?_, rfl⟩
      simp only [an_output, if_pos ht, if_pos hc0]
      exact ⟨fun h => (by first | exact rfl | trivial | simp at h), _, _, wV, wH, _, wR, wX, ⟨gbf, hT, hcb, rfl⟩, ⟨g, hM, rfl⟩, hV, hH, ⟨gou, q1, q2, q3, q4, q5, q6, hq, rfl⟩, hR9, hX9, ⟨_, _, _, _, _, _, _, _, _, _, _, _, _, _, _, _, _, _, _, _, Or.inr ⟨ht, rfl, rfl, rfl, rfl, rfl, rfl, rfl⟩, rfl⟩, rfl⟩
def an_share (S : Sx) : Cm → Int × UInt64 × Sx := fun _ => if sT S = 1 then (0, shD ((sQ S).1.length : Int) (sQ S).2.2.1, S) else (1, 0, S)
theorem dk_share (l : Launch) (hl0 : l.stackTraces = false) (D : va_G) (K : Nat → ClassId) (z0 : Nat) (N : Nat → Nat) (d0 : Nat) {n : Nat} {S : Sx} {fs : List Value} {wD : va_W} (hn : n < 512) (hD : DkI K N n S fs wD) (hS : SxI n S)   :
    CX l D K z0 yX10_share cX10_share 5 (some .double) rmD [.ref d0] ((d0, .inr (10, fs)) :: wD) (fun v u => ∃ (zr : UInt64) (fs2 : List Value) (wD2 : va_W), v = some (.double zr) ∧ PRg K N n (an_share S) zr fs2 wD2 ∧ u = (d0, .inr (10, fs2)) :: wD2) (fun E u => ∃ (fs2 : List Value) (wD2 : va_W), u = (d0, .inr (10, fs2)) :: wD2 ∧ ((E = "java/lang/IllegalStateException" ∧ PXg K N n (an_share S) 1 fs2 wD2))) := by
  have hD0 := hD.up hn
  have hS0 := hS.up hn
  obtain ⟨pl, wA, wB, wV, wH, wQ, w0, w1, wT, wU, wG, wP, ⟨g, hT, rfl⟩, ⟨gk, gp, gc, gs, gl, gn, gq, gr, lc, hB, hP, hCh, rfl⟩, hV9, ⟨gB, bs, hH, hbs, hhl, rfl⟩, ⟨xg, gd, gm, ge, gv, gnn, gt, hTx, hQ9, rfl⟩, h0, h1, hTu, hUu, hG, hP9, rfl, rfl⟩ := hD
  refine CX.wide (CX.obj (c_X10_share l hl0 D K z0 d0 (N 0) (N 1) (N 2) (N 3) (N 4) (N 5) (N 6) (N 7) (N 8) (N 9) (N 11) (N 12) (sE S) (sN S) (N 10) (N 70) (N 71) (N 72) (N 73) (N 74) (N 75) (N 76) (N 77) (sQ S).2.2.1 (sQ S).2.2.2.1 (sQ S).2.2.2.2.1 (sQ S).2.2.2.2.2.1 (sQ S).2.2.2.2.2.2 (sT S) ((sQ S).2.1.length : Int) ((sQ S).1.length : Int) hS.2.2.2.2.2.2.1.1 (fun h => by have := hS.2.2.2.2.2.2.1.2.2.1; have := hS.2.2.2.2.2.2.1.2.2.2.2.2.2 h; omega)) (pmE [[(N 0, .inr (7, [.ref (N 13), .int (iI ((sW S).length : Int))]))], [(N 13, aI (K 2) 100 g)], [(N 5, .inr (0, [.ref (N 40), .ref (N 41), .ref (N 42), .ref (N 43), .ref (N 44), .int (iI ((sB S).1.length : Int)), .ref (N 45), .ref (N 46), .ref (N 47), .int (iI ((sB S).2.1.length : Int)), .int (iI (sB S).2.2.1), .int (iI (sB S).2.2.2.1), va_rf lc, .int (iI ((sB S).2.2.2.2.length : Int))]))], [(N 40, aI (K 0) 24 gk)], [(N 41, aI (K 0) 24 gp)], [(N 42, aI (K 0) 24 gc)], [(N 43, aJ (K 1) 24 gs)], [(N 44, aJ (K 1) 24 gl)], [(N 45, aI (K 0) 30 gn)], [(N 46, aJ (K 1) 30 gq)], [(N 47, aJ (K 1) 30 gr)], wV, [(N 9, .inr (3, [.ref (N 15), .int (iI ((sH S).length : Int))]))], [(N 15, aR (K 5) 8 gB)], plW K bs, [(N 10, .inr (4, [.ref (N 70), .ref (N 72), .ref (N 73), .ref (N 74), .ref (N 75), .ref (N 76), .ref (N 77), .int (iI ((sQ S).2.1.length : Int)), .int (iI (sQ S).2.2.1), .int (iI (sQ S).2.2.2.1), .int (iI (sQ S).2.2.2.2.1), .int (iI (sQ S).2.2.2.2.2.1), .int (iI (sQ S).2.2.2.2.2.2), .int (iI (sT S))]))], [(N 70, .inr (7, [.ref (N 71), .int (iI ((sQ S).1.length : Int))]))], [(N 71, aI (K 2) 1200 xg)], [(N 72, aI (K 0) 50 gd)], [(N 73, aI (K 0) 50 gm)], [(N 74, aI (K 0) 50 ge)], [(N 75, aI (K 0) 50 gv)], [(N 76, aI (K 0) 50 gnn)], [(N 77, aI (K 0) 50 gt)], w0, w1, wT, wU, wG, wP, clW K pl] [[(N 10, .inr (4, [.ref (N 70), .ref (N 72), .ref (N 73), .ref (N 74), .ref (N 75), .ref (N 76), .ref (N 77), .int (iI ((sQ S).2.1.length : Int)), .int (iI (sQ S).2.2.1), .int (iI (sQ S).2.2.2.1), .int (iI (sQ S).2.2.2.2.1), .int (iI (sQ S).2.2.2.2.2.1), .int (iI (sQ S).2.2.2.2.2.2), .int (iI (sT S))]))], [(N 70, .inr (7, [.ref (N 71), .int (iI ((sQ S).1.length : Int))]))]] [15, 16] [0, 1, 2, 3, 4, 5, 6, 7, 8, 9, 10, 11, 12, 13, 14, 17, 18, 19, 20, 21, 22, 23, 24, 25, 26, 27, 28, 29, 30] rfl (n := 31) rfl (by decide) rfl rfl) (fun v u hp => ?_) (fun E u hp => ?_)) (by unfold rmLe; decide)
  · obtain ⟨rfl, hc0, rfl⟩ := hp
    refine ⟨_, rfl, _, _, _, rfl, ⟨cm0, ?_, ?_, ?_, ?_⟩, rfl⟩
    · simp only [an_share, if_pos hc0]
    · simp only [an_share, if_pos hc0]
    · simp only [an_share, if_pos hc0]; exact hS0
    · simp only [an_share, if_pos hc0]; exact hD0
  · obtain ⟨rfl, hc0, rfl⟩ := hp
    refine ⟨_, rfl, _, _, rfl, ⟨rfl, cm0, ?_, ?_, ?_⟩⟩
    · simp only [an_share, if_neg (show ¬ sT S = 1 by omega)]
    · simp only [an_share, if_neg (show ¬ sT S = 1 by omega)]; exact hS0
    · simp only [an_share, if_neg (show ¬ sT S = 1 by omega)]; exact hD0
theorem md_share (l : Launch) (D : va_G) (K : Nat → ClassId) (z0 : Nat) (M MH ME MS : Nat → Nat) (m0 : Nat) {n : Nat} {xth : Int} {S : Sx} {fm : List Value} {wM : va_W} (hM : MoI K M MH ME MS xth S fm wM) (hS : SxI n S)   :
    CT l D K z0 yX11_share cX11_share 1 (some .double) rmM [.ref m0] ((m0, .inr (11, fm)) :: wM) (fun v u => ∃ (zr : UInt64) (fm2 : List Value) (wM2 : va_W), v = some (.double zr) ∧ QRg K M MH ME MS (an_share S) zr fm2 wM2 ∧ u = (m0, .inr (11, fm2)) :: wM2) := by
  obtain ⟨wA, wB, wV, wH, wQ, wR, wX, ⟨gbf, hT, hcb, rfl⟩, ⟨g, hM, rfl⟩, hV, hH, ⟨gou, q1, q2, q3, q4, q5, q6, hq, rfl⟩, hR9, hX9, ⟨xat, xwr, xwd, xlo, xhi, xwl, xml, xkl, xfi, xse, xdn, xon, xtw, xol, xrw, xgl, xus, xpr, xmk, xab, hO, he⟩, rfl⟩ := hM
  rw [he]
  have hq1 := hS.2.2.2.2.2.2.1.2.2.2.1.1
  rcases hO with ⟨ht, hxr⟩ | ⟨ht, ho1, ho2, ho3, ho4, ho5, ho6, ho7⟩
  · subst hxr
    refine CT.wide (CT.obj (c_X11_share_n l D K z0 m0 M xth ((sH S).length : Int) (sN S) ((sW S).length : Int) xat (sE S) xwr xwd xlo xhi xwl xml xkl xfi xse xdn xon xtw xol (-1) xgl xus xpr xmk xab (by omega) (by omega)) (pmE [[(M 6, aI (K 2) 100 gbf)], [(M 1, aI (K 0) 1247 g)], wV, wH, [(M 35, aI (K 0) 2000 gou)], [(M 29, aI (K 0) 60 q1)], [(M 30, aI (K 0) 60 q2)], [(M 31, aI (K 0) 60 q3)], [(M 32, aI (K 0) 60 q4)], [(M 33, aI (K 0) 60 q5)], [(M 34, aI (K 0) 60 q6)], wR, wX] [] [] [0, 1, 2, 3, 4, 5, 6, 7, 8, 9, 10, 11, 12] rfl (n := 13) rfl (by decide) rfl rfl) (fun v u hp => ?_)) (by unfold rmLe; decide)
    obtain ⟨rfl, rfl⟩ := hp
    refine ⟨_, rfl, _, _, _, rfl, fun c => ?_, rfl⟩
    simp only [an_share, if_neg (show ¬ sT S = 1 by omega)]
    exact ⟨fun h => (by first | exact rfl | trivial | simp at h), _, _, wV, wH, _, wR, wX, ⟨gbf, hT, hcb, rfl⟩, ⟨g, hM, rfl⟩, hV, hH, ⟨gou, q1, q2, q3, q4, q5, q6, hq, rfl⟩, hR9, hX9, ⟨_, _, _, _, _, _, _, _, _, _, _, _, _, _, _, _, _, _, _, _, Or.inl ⟨ht, rfl⟩, rfl⟩, rfl⟩
  · subst ho1; subst ho2; subst ho3; subst ho4; subst ho5; subst ho6; subst ho7
    obtain ⟨hTo, hQ⟩ := hq ht
    refine CT.wide (CT.obj (c_X11_share_t l D K z0 m0 M xth ((sH S).length : Int) (sN S) ((sW S).length : Int) xat (sE S) xwr xwd xlo xhi xwl xml xkl xfi xse xdn xon xtw ((sQ S).1.length : Int) ((sQ S).2.1.length : Int) (sQ S).2.2.1 (sQ S).2.2.2.1 (sQ S).2.2.2.2.1 (sQ S).2.2.2.2.2.1 (sQ S).2.2.2.2.2.2 (by omega) (by omega) (by have := hS.2.2.2.2.2.2.1.2.2.1; have := hS.2.2.2.2.2.2.1.2.2.2.2.2.2 ht; omega)) (pmE [[(M 6, aI (K 2) 100 gbf)], [(M 1, aI (K 0) 1247 g)], wV, wH, [(M 35, aI (K 0) 2000 gou)], [(M 29, aI (K 0) 60 q1)], [(M 30, aI (K 0) 60 q2)], [(M 31, aI (K 0) 60 q3)], [(M 32, aI (K 0) 60 q4)], [(M 33, aI (K 0) 60 q5)], [(M 34, aI (K 0) 60 q6)], wR, wX] [] [] [0, 1, 2, 3, 4, 5, 6, 7, 8, 9, 10, 11, 12] rfl (n := 13) rfl (by decide) rfl rfl) (fun v u hp => ?_)) (by unfold rmLe; decide)
    obtain ⟨rfl, rfl⟩ := hp
    refine ⟨_, rfl, _, _, _, rfl, fun c => ?_, rfl⟩
    simp only [an_share, if_pos ht]
    exact ⟨fun h => (by first | exact rfl | trivial | simp at h), _, _, wV, wH, _, wR, wX, ⟨gbf, hT, hcb, rfl⟩, ⟨g, hM, rfl⟩, hV, hH, ⟨gou, q1, q2, q3, q4, q5, q6, hq, rfl⟩, hR9, hX9, ⟨_, _, _, _, _, _, _, _, _, _, _, _, _, _, _, _, _, _, _, _, Or.inr ⟨ht, rfl, rfl, rfl, rfl, rfl, rfl, rfl⟩, rfl⟩, rfl⟩
