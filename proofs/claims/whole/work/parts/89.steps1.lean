/-! methods that change the object at most -/
section OBJ
variable {l : Launch} {D : va_G} {K : Nat → ClassId} {z0 : Nat} {y : MethodName} {cc : ByteArray} {nL : Nat} {ret : Option FieldType} {rm : Room} {avs : List Value} {c1 w : va_W} {x : Nat × va_E} {Ps Ps' : Option Value → va_W → Prop} {Px Px' : String → va_W → Prop}
theorem obj_perm {r : va_W} (h : w.Perm (c1 ++ r)) (x' : Nat × va_E) : frO r (x' :: c1) (x' :: w) := by
  refine frO.pm ?_
  have h1 : (r ++ (x' :: c1)).Perm ((x' :: c1) ++ r) := List.perm_append_comm
  exact h1.trans (h.symm.cons x')
theorem CX.obj (M : CX l D K z0 y cc nL ret rm avs (x :: c1) Ps Px) (hw : ∃ r : va_W, w.Perm (c1 ++ r)) (hp : ∀ v u, Ps v u → ∃ x', u = x' :: c1 ∧ Ps' v (x' :: w)) (hx : ∀ E u, Px E u → ∃ x', u = x' :: c1 ∧ Px' E (x' :: w)) : CX l D K z0 y cc nL ret rm avs (x :: w) Ps' Px' := by
  obtain ⟨r, hw⟩ := hw
  refine CX.fr (wr := r) M (hw.cons x) (fun v u h => ?_) (fun E u h => ?_)
  · obtain ⟨x', rfl, h2⟩ := hp v u h
    exact ⟨_, obj_perm hw x', h2⟩
  · obtain ⟨x', rfl, h2⟩ := hx E u h
    exact ⟨_, obj_perm hw x', h2⟩
theorem CT.obj (M : CT l D K z0 y cc nL ret rm avs (x :: c1) Ps) (hw : ∃ r : va_W, w.Perm (c1 ++ r)) (hp : ∀ v u, Ps v u → ∃ x', u = x' :: c1 ∧ Ps' v (x' :: w)) : CT l D K z0 y cc nL ret rm avs (x :: w) Ps' := by
  obtain ⟨r, hw⟩ := hw
  refine CT.fr (wr := r) M (hw.cons x) (fun v u h => ?_)
  obtain ⟨x', rfl, h2⟩ := hp v u h
  exact ⟨_, obj_perm hw x', h2⟩
theorem pmE (B B' : List va_W) (is js : List Nat) (e1 : w = B.flatten) {n : Nat} (hn : B.length = n) (h : (is ++ js).isPerm (List.range n) = true) (hm : is.map (fun i => B[i]?) = B'.map some) (e2 : B'.flatten = c1) : ∃ r : va_W, w.Perm (c1 ++ r) := by
  subst e1; subst e2; subst hn
  exact pmB is js h hm
end OBJ
def an_rule (S : Sx) (z : Int) (w : Int) : An := fun _ => if 0 ≤ z ∧ z < (sB S).1.length then (if 0 ≤ w ∧ w ≤ 5 then (0, ruA (sB S).1 z w, S) else (2, 0, S)) else (1, 0, S)
theorem dk_rule (l : Launch) (hl0 : l.stackTraces = false) (D : va_G) (K : Nat → ClassId) (z0 : Nat) (N : Nat → Nat) (d0 : Nat) {n : Nat} {S : Sx} {fs : List Value} {wD : va_W} (hn : n < 512) (hD : DkI K N n S fs wD) (hS : SxI n S) (z : Int) (w : Int) (hz : -2147483648 ≤ z ∧ z < 2147483648) (hw : -2147483648 ≤ w ∧ w < 2147483648) :
    CX l D K z0 yX10_rule cX10_rule 3 (some .int) rmD [.ref d0, .int (iI z), .int (iI w)] ((d0, .inr (10, fs)) :: wD) (fun v u => ∃ (zr : Int) (fs2 : List Value) (wD2 : va_W), v = some (.int (iI zr)) ∧ PRg K N n (an_rule S z w) zr fs2 wD2 ∧ u = (d0, .inr (10, fs2)) :: wD2) (fun E u => ∃ (fs2 : List Value) (wD2 : va_W), u = (d0, .inr (10, fs2)) :: wD2 ∧ ((E = "java/lang/IndexOutOfBoundsException" ∧ PXg K N n (an_rule S z w) 1 fs2 wD2) ∨ (E = "java/lang/IllegalArgumentException" ∧ PXg K N n (an_rule S z w) 2 fs2 wD2))) := by
  have hD0 := hD.up hn
  have hS0 := hS.up hn
  obtain ⟨pl, wA, wB, wV, wH, wQ, w0, w1, wT, wU, wG, wP, ⟨g, hT, rfl⟩, ⟨gk, gp, gc, gs, gl, gn, gq, gr, lc, hB, hP, hCh, rfl⟩, hV9, ⟨gB, bs, hH, hbs, hhl, rfl⟩, ⟨xg, gd, gm, ge, gv, gnn, gt, hTx, hQ9, rfl⟩, h0, h1, hTu, hUu, hG, hP9, rfl, rfl⟩ := hD
  refine CX.wide (CX.obj (c_X10_rule l hl0 D K z0 d0 (N 0) (N 1) (N 2) (N 3) (N 4) (N 5) (N 6) (N 7) (N 8) (N 9) (N 10) (N 11) (N 12) (sE S) (sN S) (N 40) (N 41) (N 42) (N 43) (N 44) (N 45) (N 46) (N 47) lc gk gp gc gs gl (sB S).1 ((sB S).2.1.length : Int) (sB S).2.2.1 (sB S).2.2.2.1 ((sB S).2.2.2.2.length : Int) z w hB hS.1.1 hz hw) (pmE [[(N 0, .inr (7, [.ref (N 13), .int (iI ((sW S).length : Int))]))], [(N 13, aI (K 2) 100 g)], [(N 5, .inr (0, [.ref (N 40), .ref (N 41), .ref (N 42), .ref (N 43), .ref (N 44), .int (iI ((sB S).1.length : Int)), .ref (N 45), .ref (N 46), .ref (N 47), .int (iI ((sB S).2.1.length : Int)), .int (iI (sB S).2.2.1), .int (iI (sB S).2.2.2.1), va_rf lc, .int (iI ((sB S).2.2.2.2.length : Int))]))], [(N 40, aI (K 0) 24 gk)], [(N 41, aI (K 0) 24 gp)], [(N 42, aI (K 0) 24 gc)], [(N 43, aJ (K 1) 24 gs)], [(N 44, aJ (K 1) 24 gl)], [(N 45, aI (K 0) 30 gn)], [(N 46, aJ (K 1) 30 gq)], [(N 47, aJ (K 1) 30 gr)], wV, [(N 9, .inr (3, [.ref (N 15), .int (iI ((sH S).length : Int))]))], [(N 15, aR (K 5) 8 gB)], plW K bs, [(N 10, .inr (4, [.ref (N 70), .ref (N 72), .ref (N 73), .ref (N 74), .ref (N 75), .ref (N 76), .ref (N 77), .int (iI ((sQ S).2.1.length : Int)), .int (iI (sQ S).2.2.1), .int (iI (sQ S).2.2.2.1), .int (iI (sQ S).2.2.2.2.1), .int (iI (sQ S).2.2.2.2.2.1), .int (iI (sQ S).2.2.2.2.2.2), .int (iI (sT S))]))], [(N 70, .inr (7, [.ref (N 71), .int (iI ((sQ S).1.length : Int))]))], [(N 71, aI (K 2) 1200 xg)], [(N 72, aI (K 0) 50 gd)], [(N 73, aI (K 0) 50 gm)], [(N 74, aI (K 0) 50 ge)], [(N 75, aI (K 0) 50 gv)], [(N 76, aI (K 0) 50 gnn)], [(N 77, aI (K 0) 50 gt)], w0, w1, wT, wU, wG, wP, clW K pl] [[(N 5, .inr (0, [.ref (N 40), .ref (N 41), .ref (N 42), .ref (N 43), .ref (N 44), .int (iI ((sB S).1.length : Int)), .ref (N 45), .ref (N 46), .ref (N 47), .int (iI ((sB S).2.1.length : Int)), .int (iI (sB S).2.2.1), .int (iI (sB S).2.2.2.1), va_rf lc, .int (iI ((sB S).2.2.2.2.length : Int))]))], [(N 40, aI (K 0) 24 gk)], [(N 41, aI (K 0) 24 gp)], [(N 42, aI (K 0) 24 gc)], [(N 43, aJ (K 1) 24 gs)], [(N 44, aJ (K 1) 24 gl)]] [2, 3, 4, 5, 6, 7] [0, 1, 8, 9, 10, 11, 12, 13, 14, 15, 16, 17, 18, 19, 20, 21, 22, 23, 24, 25, 26, 27, 28, 29, 30] rfl (n := 31) rfl (by decide) rfl rfl) (fun v u hp => ?_) (fun E u hp => ?_)) (by unfold rmLe; decide)
  · obtain ⟨rfl, hc0, hc1, rfl⟩ := hp
    refine ⟨_, rfl, _, _, _, rfl, ⟨cm0, ?_, ?_, ?_, ?_⟩, rfl⟩
    · simp only [an_rule, if_pos hc0, if_pos hc1]
    · simp only [an_rule, if_pos hc0, if_pos hc1]
    · simp only [an_rule, if_pos hc0, if_pos hc1]; exact hS0
    · simp only [an_rule, if_pos hc0, if_pos hc1]; exact hD0
  · rcases hp with ⟨rfl, hc0, rfl⟩ | ⟨rfl, hc0, hc1, rfl⟩
    · refine ⟨_, rfl, _, _, rfl, Or.inl ⟨rfl, cm0, ?_, ?_, ?_⟩⟩
      · simp only [an_rule, if_neg hc0]
      · simp only [an_rule, if_neg hc0]; exact hS0
      · simp only [an_rule, if_neg hc0]; exact hD0
    · refine ⟨_, rfl, _, _, rfl, Or.inr (⟨rfl, cm0, ?_, ?_, ?_⟩)⟩
      · simp only [an_rule, if_pos hc0, if_neg hc1]
      · simp only [an_rule, if_pos hc0, if_neg hc1]; exact hS0
      · simp only [an_rule, if_pos hc0, if_neg hc1]; exact hD0
theorem md_rule (l : Launch) (D : va_G) (K : Nat → ClassId) (z0 : Nat) (M MH ME MS : Nat → Nat) (m0 : Nat) {n : Nat} {xth : Int} {S : Sx} {fm : List Value} {wM : va_W} (hM : MoI K M MH ME MS xth S fm wM) (hS : SxI n S) (z : Int) (w : Int) (hz : -2147483648 ≤ z ∧ z < 2147483648) (hw : -2147483648 ≤ w ∧ w < 2147483648) :
    CT l D K z0 yX11_rule cX11_rule 3 (some .int) rmM [.ref m0, .int (iI z), .int (iI w)] ((m0, .inr (11, fm)) :: wM) (fun v u => ∃ (zr : Int) (fm2 : List Value) (wM2 : va_W), v = some (.int (iI zr)) ∧ QRg K M MH ME MS (an_rule S z w) zr fm2 wM2 ∧ u = (m0, .inr (11, fm2)) :: wM2) := by
  obtain ⟨wA, wB, wV, wH, wQ, wR, wX, ⟨gbf, hT, hcb, rfl⟩, ⟨g, hM, rfl⟩, hV, hH, hQ, hR9, hX9, ⟨xat, xwr, xwd, xlo, xhi, xwl, xml, xkl, xfi, xse, xdn, xon, xtw, xol, xrw, xgl, xus, xpr, xmk, xab, hO, he⟩, rfl⟩ := hM
  rw [he]
  refine CT.wide (CT.obj (c_X11_rule l D K z0 m0 M xth ((sH S).length : Int) (sN S) ((sW S).length : Int) xat (sE S) xwr xwd xlo xhi xwl xml xkl xfi xse xdn xon xtw xol xrw xgl xus xpr xmk xab g (sB S).1 (sB S).2.1 (sB S).2.2.1 (sB S).2.2.2.1 ((sB S).2.2.2.2.length : Int) z w hM hS.1.1 hz hw) (pmE [[(M 6, aI (K 2) 100 gbf)], [(M 1, aI (K 0) 1247 g)], wV, wH, wQ, wR, wX] [[(M 1, aI (K 0) 1247 g)]] [1] [0, 2, 3, 4, 5, 6] rfl (n := 7) rfl (by decide) rfl rfl) (fun v u hp => ?_)) (by unfold rmLe; decide)
  rcases hp with ⟨rfl, hc0, rfl⟩ | ⟨rfl, hc0, hc1, rfl⟩ | ⟨rfl, hc0, hc1, rfl⟩
  · refine ⟨_, rfl, _, _, _, rfl, fun c => ?_, rfl⟩
    simp only [an_rule, if_neg hc0]
    exact ⟨fun h => (by first | exact rfl | trivial | simp at h), _, _, wV, wH, wQ, wR, wX, ⟨gbf, hT, hcb, rfl⟩, ⟨g, hM, rfl⟩, hV, hH, hQ, hR9, hX9, ⟨_, _, _, _, _, _, _, _, _, _, _, _, _, _, _, _, _, _, _, _, hO, rfl⟩, rfl⟩
  · refine ⟨_, rfl, _, _, _, rfl, fun c => ?_, rfl⟩
    simp only [an_rule, if_pos hc0, if_neg hc1]
    exact ⟨fun h => (by first | exact rfl | trivial | simp at h), _, _, wV, wH, wQ, wR, wX, ⟨gbf, hT, hcb, rfl⟩, ⟨g, hM, rfl⟩, hV, hH, hQ, hR9, hX9, ⟨_, _, _, _, _, _, _, _, _, _, _, _, _, _, _, _, _, _, _, _, hO, rfl⟩, rfl⟩
  · refine ⟨_, rfl, _, _, _, rfl, fun c => ?_, rfl⟩
    simp only [an_rule, if_pos hc0, if_pos hc1]
    exact ⟨fun h => (by first | exact rfl | trivial | simp at h), _, _, wV, wH, wQ, wR, wX, ⟨gbf, hT, hcb, rfl⟩, ⟨g, hM, rfl⟩, hV, hH, hQ, hR9, hX9, ⟨_, _, _, _, _, _, _, _, _, _, _, _, _, _, _, _, _, _, _, _, hO, rfl⟩, rfl⟩
def an_letter (S : Sx) (z : Int) (b : Int) (k : Int) : An := fun _ => if 0 ≤ z ∧ z < (sB S).1.length then (if 0 ≤ k ∧ k < (fmo (rget (sB S).1 z) b).length then (0, lat (fmo (rget (sB S).1 z) b) k, S) else (2, 0, S)) else (1, 0, S)
theorem dk_letter (l : Launch) (hl0 : l.stackTraces = false) (D : va_G) (K : Nat → ClassId) (z0 : Nat) (N : Nat → Nat) (d0 : Nat) {n : Nat} {S : Sx} {fs : List Value} {wD : va_W} (hn : n < 512) (hD : DkI K N n S fs wD) (hS : SxI n S) (z : Int) (b : Int) (k : Int) (hz : -2147483648 ≤ z ∧ z < 2147483648) (hbb : b = 0 ∨ b = 1) (hk : -2147483648 ≤ k ∧ k < 2147483648) :
    CX l D K z0 yX10_letter cX10_letter 6 (some .char) rmD [.ref d0, .int (iI z), .int (iI b), .int (iI k)] ((d0, .inr (10, fs)) :: wD) (fun v u => ∃ (zr : Int) (fs2 : List Value) (wD2 : va_W), v = some (.int (iI zr)) ∧ PRg K N n (an_letter S z b k) zr fs2 wD2 ∧ u = (d0, .inr (10, fs2)) :: wD2) (fun E u => ∃ (fs2 : List Value) (wD2 : va_W), u = (d0, .inr (10, fs2)) :: wD2 ∧ ((E = "java/lang/IndexOutOfBoundsException" ∧ PXg K N n (an_letter S z b k) 1 fs2 wD2) ∨ (E = "java/util/NoSuchElementException" ∧ PXg K N n (an_letter S z b k) 2 fs2 wD2))) := by
  have hD0 := hD.up hn
  have hS0 := hS.up hn
  obtain ⟨pl, wA, wB, wV, wH, wQ, w0, w1, wT, wU, wG, wP, ⟨g, hT, rfl⟩, ⟨gk, gp, gc, gs, gl, gn, gq, gr, lc, hB, hP, hCh, rfl⟩, hV9, ⟨gB, bs, hH, hbs, hhl, rfl⟩, ⟨xg, gd, gm, ge, gv, gnn, gt, hTx, hQ9, rfl⟩, h0, h1, hTu, hUu, hG, hP9, rfl, rfl⟩ := hD
  refine CX.wide (CX.obj (c_X10_letter l hl0 D K z0 d0 (N 0) (N 1) (N 2) (N 3) (N 4) (N 5) (N 6) (N 7) (N 8) (N 9) (N 10) (N 11) (N 12) (sE S) (sN S) (N 40) (N 41) (N 42) (N 43) (N 44) (N 45) (N 46) (N 47) lc gk gp gc gs gl (sB S).1 ((sB S).2.1.length : Int) (sB S).2.2.1 (sB S).2.2.2.1 ((sB S).2.2.2.2.length : Int) z b k hB hS.1.1 hz hbb hk) (pmE [[(N 0, .inr (7, [.ref (N 13), .int (iI ((sW S).length : Int))]))], [(N 13, aI (K 2) 100 g)], [(N 5, .inr (0, [.ref (N 40), .ref (N 41), .ref (N 42), .ref (N 43), .ref (N 44), .int (iI ((sB S).1.length : Int)), .ref (N 45), .ref (N 46), .ref (N 47), .int (iI ((sB S).2.1.length : Int)), .int (iI (sB S).2.2.1), .int (iI (sB S).2.2.2.1), va_rf lc, .int (iI ((sB S).2.2.2.2.length : Int))]))], [(N 40, aI (K 0) 24 gk)], [(N 41, aI (K 0) 24 gp)], [(N 42, aI (K 0) 24 gc)], [(N 43, aJ (K 1) 24 gs)], [(N 44, aJ (K 1) 24 gl)], [(N 45, aI (K 0) 30 gn)], [(N 46, aJ (K 1) 30 gq)], [(N 47, aJ (K 1) 30 gr)], wV, [(N 9, .inr (3, [.ref (N 15), .int (iI ((sH S).length : Int))]))], [(N 15, aR (K 5) 8 gB)], plW K bs, [(N 10, .inr (4, [.ref (N 70), .ref (N 72), .ref (N 73), .ref (N 74), .ref (N 75), .ref (N 76), .ref (N 77), .int (iI ((sQ S).2.1.length : Int)), .int (iI (sQ S).2.2.1), .int (iI (sQ S).2.2.2.1), .int (iI (sQ S).2.2.2.2.1), .int (iI (sQ S).2.2.2.2.2.1), .int (iI (sQ S).2.2.2.2.2.2), .int (iI (sT S))]))], [(N 70, .inr (7, [.ref (N 71), .int (iI ((sQ S).1.length : Int))]))], [(N 71, aI (K 2) 1200 xg)], [(N 72, aI (K 0) 50 gd)], [(N 73, aI (K 0) 50 gm)], [(N 74, aI (K 0) 50 ge)], [(N 75, aI (K 0) 50 gv)], [(N 76, aI (K 0) 50 gnn)], [(N 77, aI (K 0) 50 gt)], w0, w1, wT, wU, wG, wP, clW K pl] [[(N 5, .inr (0, [.ref (N 40), .ref (N 41), .ref (N 42), .ref (N 43), .ref (N 44), .int (iI ((sB S).1.length : Int)), .ref (N 45), .ref (N 46), .ref (N 47), .int (iI ((sB S).2.1.length : Int)), .int (iI (sB S).2.2.1), .int (iI (sB S).2.2.2.1), va_rf lc, .int (iI ((sB S).2.2.2.2.length : Int))]))], [(N 43, aJ (K 1) 24 gs)], [(N 44, aJ (K 1) 24 gl)]] [2, 6, 7] [0, 1, 3, 4, 5, 8, 9, 10, 11, 12, 13, 14, 15, 16, 17, 18, 19, 20, 21, 22, 23, 24, 25, 26, 27, 28, 29, 30] rfl (n := 31) rfl (by decide) rfl rfl) (fun v u hp => ?_) (fun E u hp => ?_)) (by unfold rmLe; decide)
  · obtain ⟨rfl, hc0, hc1, rfl⟩ := hp
    refine ⟨_, rfl, _, _, _, rfl, ⟨cm0, ?_, ?_, ?_, ?_⟩, rfl⟩
    · simp only [an_letter, if_pos hc0, if_pos hc1]
    · simp only [an_letter, if_pos hc0, if_pos hc1]
    · simp only [an_letter, if_pos hc0, if_pos hc1]; exact hS0
    · simp only [an_letter, if_pos hc0, if_pos hc1]; exact hD0
  · rcases hp with ⟨rfl, hc0, rfl⟩ | ⟨rfl, hc0, hc1, rfl⟩
    · refine ⟨_, rfl, _, _, rfl, Or.inl ⟨rfl, cm0, ?_, ?_, ?_⟩⟩
      · simp only [an_letter, if_neg hc0]
      · simp only [an_letter, if_neg hc0]; exact hS0
      · simp only [an_letter, if_neg hc0]; exact hD0
    · refine ⟨_, rfl, _, _, rfl, Or.inr (⟨rfl, cm0, ?_, ?_, ?_⟩)⟩
      · simp only [an_letter, if_pos hc0, if_neg hc1]
      · simp only [an_letter, if_pos hc0, if_neg hc1]; exact hS0
      · simp only [an_letter, if_pos hc0, if_neg hc1]; exact hD0
theorem md_letter (l : Launch) (D : va_G) (K : Nat → ClassId) (z0 : Nat) (M MH ME MS : Nat → Nat) (m0 : Nat) {n : Nat} {xth : Int} {S : Sx} {fm : List Value} {wM : va_W} (hM : MoI K M MH ME MS xth S fm wM) (hS : SxI n S) (z : Int) (b : Int) (k : Int) (hz : -2147483648 ≤ z ∧ z < 2147483648) (hbb : b = 0 ∨ b = 1) (hk : -2147483648 ≤ k ∧ k < 2147483648) :
    CT l D K z0 yX11_letter cX11_letter 4 (some .char) rmM [.ref m0, .int (iI z), .int (iI b), .int (iI k)] ((m0, .inr (11, fm)) :: wM) (fun v u => ∃ (zr : Int) (fm2 : List Value) (wM2 : va_W), v = some (.int (iI zr)) ∧ QRg K M MH ME MS (an_letter S z b k) zr fm2 wM2 ∧ u = (m0, .inr (11, fm2)) :: wM2) := by
  obtain ⟨wA, wB, wV, wH, wQ, wR, wX, ⟨gbf, hT, hcb, rfl⟩, ⟨g, hM, rfl⟩, hV, hH, hQ, hR9, hX9, ⟨xat, xwr, xwd, xlo, xhi, xwl, xml, xkl, xfi, xse, xdn, xon, xtw, xol, xrw, xgl, xus, xpr, xmk, xab, hO, he⟩, rfl⟩ := hM
  rw [he]
  refine CT.wide (CT.obj (c_X11_letter l D K z0 m0 M xth ((sH S).length : Int) (sN S) ((sW S).length : Int) xat (sE S) xwr xwd xlo xhi xwl xml xkl xfi xse xdn xon xtw xol xrw xgl xus xpr xmk xab g (sB S).1 (sB S).2.1 (sB S).2.2.1 (sB S).2.2.2.1 ((sB S).2.2.2.2.length : Int) z b k hM hS.1.1 hz hbb hk) (pmE [[(M 6, aI (K 2) 100 gbf)], [(M 1, aI (K 0) 1247 g)], wV, wH, wQ, wR, wX] [[(M 1, aI (K 0) 1247 g)]] [1] [0, 2, 3, 4, 5, 6] rfl (n := 7) rfl (by decide) rfl rfl) (fun v u hp => ?_)) (by unfold rmLe; decide)
  rcases hp with ⟨rfl, hc0, rfl⟩ | ⟨rfl, hc0, hc1, rfl⟩ | ⟨rfl, hc0, hc1, rfl⟩
  · refine ⟨_, rfl, _, _, _, rfl, fun c => ?_, rfl⟩
    simp only [an_letter, if_neg hc0]
    exact ⟨fun h => (by first | exact rfl | trivial | simp at h), _, _, wV, wH, wQ, wR, wX, ⟨gbf, hT, hcb, rfl⟩, ⟨g, hM, rfl⟩, hV, hH, hQ, hR9, hX9, ⟨_, _, _, _, _, _, _, _, _, _, _, _, _, _, _, _, _, _, _, _, hO, rfl⟩, rfl⟩
  · refine ⟨_, rfl, _, _, _, rfl, fun c => ?_, rfl⟩
    simp only [an_letter, if_pos hc0, if_neg hc1]
    exact ⟨fun h => (by first | exact rfl | trivial | simp at h), _, _, wV, wH, wQ, wR, wX, ⟨gbf, hT, hcb, rfl⟩, ⟨g, hM, rfl⟩, hV, hH, hQ, hR9, hX9, ⟨_, _, _, _, _, _, _, _, _, _, _, _, _, _, _, _, _, _, _, _, hO, rfl⟩, rfl⟩
  · refine ⟨_, rfl, _, _, _, rfl, fun c => ?_, rfl⟩
    simp only [an_letter, if_pos hc0, if_pos hc1]
    exact ⟨fun h => (by first | exact rfl | trivial | simp at h), _, _, wV, wH, wQ, wR, wX, ⟨gbf, hT, hcb, rfl⟩, ⟨g, hM, rfl⟩, hV, hH, hQ, hR9, hX9, ⟨_, _, _, _, _, _, _, _, _, _, _, _, _, _, _, _, _, _, _, _, hO, rfl⟩, rfl⟩
def an_count (S : Sx) (w : Int) : An := fun _ => if 0 ≤ w ∧ w ≤ 7 then (0, cnA (sB S).1 (sB S).2.1 (sB S).2.2.1 (sB S).2.2.2.1 ((sW S).length : Int) ((sH S).length : Int) ((sB S).2.2.2.2.length : Int) w, S) else (1, 0, S)
theorem dk_count (l : Launch) (hl0 : l.stackTraces = false) (D : va_G) (K : Nat → ClassId) (z0 : Nat) (N : Nat → Nat) (d0 : Nat) {n : Nat} {S : Sx} {fs : List Value} {wD : va_W} (hn : n < 512) (hD : DkI K N n S fs wD) (hS : SxI n S) (w : Int) (hw : -2147483648 ≤ w ∧ w < 2147483648) :
    CX l D K z0 yX10_count cX10_count 2 (some .int) rmD [.ref d0, .int (iI w)] ((d0, .inr (10, fs)) :: wD) (fun v u => ∃ (zr : Int) (fs2 : List Value) (wD2 : va_W), v = some (.int (iI zr)) ∧ PRg K N n (an_count S w) zr fs2 wD2 ∧ u = (d0, .inr (10, fs2)) :: wD2) (fun E u => ∃ (fs2 : List Value) (wD2 : va_W), u = (d0, .inr (10, fs2)) :: wD2 ∧ ((E = "java/lang/IllegalArgumentException" ∧ PXg K N n (an_count S w) 1 fs2 wD2))) := by
  have hD0 := hD.up hn
  have hS0 := hS.up hn
  obtain ⟨pl, wA, wB, wV, wH, wQ, w0, w1, wT, wU, wG, wP, ⟨g, hT, rfl⟩, ⟨gk, gp, gc, gs, gl, gn, gq, gr, lc, hB, hP, hCh, rfl⟩, hV9, ⟨gB, bs, hH, hbs, hhl, rfl⟩, ⟨xg, gd, gm, ge, gv, gnn, gt, hTx, hQ9, rfl⟩, h0, h1, hTu, hUu, hG, hP9, rfl, rfl⟩ := hD
  refine CX.wide (CX.obj (c_X10_count l hl0 D K z0 d0 (N 0) (N 1) (N 2) (N 3) (N 4) (N 5) (N 6) (N 7) (N 8) (N 9) (N 10) (N 11) (N 12) (sE S) (sN S) (N 40) (N 41) (N 42) (N 43) (N 44) (N 45) (N 46) (N 47) lc gk gp gc gs gl (sB S).1 ((sB S).2.1.length : Int) (sB S).2.2.1 (sB S).2.2.2.1 ((sB S).2.2.2.2.length : Int) (N 13) ((sW S).length : Int) (N 15) ((sH S).length : Int) w (sB S).2.1 hB hS.1.1 hw) (pmE [[(N 0, .inr (7, [.ref (N 13), .int (iI ((sW S).length : Int))]))], [(N 13, aI (K 2) 100 g)], [(N 5, .inr (0, [.ref (N 40), .ref (N 41), .ref (N 42), .ref (N 43), .ref (N 44), .int (iI ((sB S).1.length : Int)), .ref (N 45), .ref (N 46), .ref (N 47), .int (iI ((sB S).2.1.length : Int)), .int (iI (sB S).2.2.1), .int (iI (sB S).2.2.2.1), va_rf lc, .int (iI ((sB S).2.2.2.2.length : Int))]))], [(N 40, aI (K 0) 24 gk)], [(N 41, aI (K 0) 24 gp)], [(N 42, aI (K 0) 24 gc)], [(N 43, aJ (K 1) 24 gs)], [(N 44, aJ (K 1) 24 gl)], [(N 45, aI (K 0) 30 gn)], [(N 46, aJ (K 1) 30 gq)], [(N 47, aJ (K 1) 30 gr)], wV, [(N 9, .inr (3, [.ref (N 15), .int (iI ((sH S).length : Int))]))], [(N 15, aR (K 5) 8 gB)], plW K bs, [(N 10, .inr (4, [.ref (N 70), .ref (N 72), .ref (N 73), .ref (N 74), .ref (N 75), .ref (N 76), .ref (N 77), .int (iI ((sQ S).2.1.length : Int)), .int (iI (sQ S).2.2.1), .int (iI (sQ S).2.2.2.1), .int (iI (sQ S).2.2.2.2.1), .int (iI (sQ S).2.2.2.2.2.1), .int (iI (sQ S).2.2.2.2.2.2), .int (iI (sT S))]))], [(N 70, .inr (7, [.ref (N 71), .int (iI ((sQ S).1.length : Int))]))], [(N 71, aI (K 2) 1200 xg)], [(N 72, aI (K 0) 50 gd)], [(N 73, aI (K 0) 50 gm)], [(N 74, aI (K 0) 50 ge)], [(N 75, aI (K 0) 50 gv)], [(N 76, aI (K 0) 50 gnn)], [(N 77, aI (K 0) 50 gt)], w0, w1, wT, wU, wG, wP, clW K pl] [[(N 5, .inr (0, [.ref (N 40), .ref (N 41), .ref (N 42), .ref (N 43), .ref (N 44), .int (iI ((sB S).1.length : Int)), .ref (N 45), .ref (N 46), .ref (N 47), .int (iI ((sB S).2.1.length : Int)), .int (iI (sB S).2.2.1), .int (iI (sB S).2.2.2.1), va_rf lc, .int (iI ((sB S).2.2.2.2.length : Int))]))], [(N 40, aI (K 0) 24 gk)], [(N 42, aI (K 0) 24 gc)], [(N 43, aJ (K 1) 24 gs)], [(N 44, aJ (K 1) 24 gl)], [(N 0, .inr (7, [.ref (N 13), .int (iI ((sW S).length : Int))]))], [(N 9, .inr (3, [.ref (N 15), .int (iI ((sH S).length : Int))]))]] [2, 3, 5, 6, 7, 0, 12] [1, 4, 8, 9, 10, 11, 13, 14, 15, 16, 17, 18, 19, 20, 21, 22, 23, 24, 25, 26, 27, 28, 29, 30] rfl (n := 31) rfl (by decide) rfl rfl) (fun v u hp => ?_) (fun E u hp => ?_)) (by unfold rmLe; decide)
  · obtain ⟨rfl, hc0, rfl⟩ := hp
    refine ⟨_, rfl, _, _, _, rfl, ⟨cm0, ?_, ?_, ?_, ?_⟩, rfl⟩
    · simp only [an_count, if_pos hc0]
    · simp only [an_count, if_pos hc0]
    · simp only [an_count, if_pos hc0]; exact hS0
    · simp only [an_count, if_pos hc0]; exact hD0
  · obtain ⟨rfl, hc0, rfl⟩ := hp
    refine ⟨_, rfl, _, _, rfl, ⟨rfl, cm0, ?_, ?_, ?_⟩⟩
    · simp only [an_count, if_neg hc0]
    · simp only [an_count, if_neg hc0]; exact hS0
    · simp only [an_count, if_neg hc0]; exact hD0
theorem md_count (l : Launch) (D : va_G) (K : Nat → ClassId) (z0 : Nat) (M MH ME MS : Nat → Nat) (m0 : Nat) {n : Nat} {xth : Int} {S : Sx} {fm : List Value} {wM : va_W} (hM : MoI K M MH ME MS xth S fm wM) (hS : SxI n S) (w : Int) (hw : -2147483648 ≤ w ∧ w < 2147483648) :
    CT l D K z0 yX11_count cX11_count 2 (some .int) rmM [.ref m0, .int (iI w)] ((m0, .inr (11, fm)) :: wM) (fun v u => ∃ (zr : Int) (fm2 : List Value) (wM2 : va_W), v = some (.int (iI zr)) ∧ QRg K M MH ME MS (an_count S w) zr fm2 wM2 ∧ u = (m0, .inr (11, fm2)) :: wM2) := by
  obtain ⟨wA, wB, wV, wH, wQ, wR, wX, ⟨gbf, hT, hcb, rfl⟩, ⟨g, hM, rfl⟩, hV, hH, hQ, hR9, hX9, ⟨xat, xwr, xwd, xlo, xhi, xwl, xml, xkl, xfi, xse, xdn, xon, xtw, xol, xrw, xgl, xus, xpr, xmk, xab, hO, he⟩, rfl⟩ := hM
  rw [he]
  refine CT.wide (CT.obj (c_X11_count l D K z0 m0 M xth ((sH S).length : Int) (sN S) ((sW S).length : Int) xat (sE S) xwr xwd xlo xhi xwl xml xkl xfi xse xdn xon xtw xol xrw xgl xus xpr xmk xab g (sB S).1 (sB S).2.1 (sB S).2.2.1 (sB S).2.2.2.1 ((sB S).2.2.2.2.length : Int) w hM hS.1.1 hw) (pmE [[(M 6, aI (K 2) 100 gbf)], [(M 1, aI (K 0) 1247 g)], wV, wH, wQ, wR, wX] [[(M 1, aI (K 0) 1247 g)]] [1] [0, 2, 3, 4, 5, 6] rfl (n := 7) rfl (by decide) rfl rfl) (fun v u hp => ?_)) (by unfold rmLe; decide)
  rcases hp with ⟨rfl, hc0, rfl⟩ | ⟨lo2, hi2, rfl, hc0, rfl⟩
  · refine ⟨_, rfl, _, _, _, rfl, fun c => ?_, rfl⟩
    simp only [an_count, if_neg hc0]
    exact ⟨fun h => (by first | exact rfl | trivial | simp at h), _, _, wV, wH, wQ, wR, wX, ⟨gbf, hT, hcb, rfl⟩, ⟨g, hM, rfl⟩, hV, hH, hQ, hR9, hX9, ⟨_, _, _, _, _, _, _, _, _, _, _, _, _, _, _, _, _, _, _, _, hO, rfl⟩, rfl⟩
  · refine ⟨_, rfl, _, _, _, rfl, fun c => ?_, rfl⟩
    simp only [an_count, if_pos hc0]
    exact ⟨fun h => (by first | exact rfl | trivial | simp at h), _, _, wV, wH, wQ, wR, wX, ⟨gbf, hT, hcb, rfl⟩, ⟨g, hM, rfl⟩, hV, hH, hQ, hR9, hX9, ⟨_, _, _, _, _, _, _, _, _, _, _, _, _, _, _, _, _, _, _, _, hO, rfl⟩, rfl⟩
def an_shadow (S : Sx) (z : Int) (b : Int) : An := fun _ => if 0 ≤ z ∧ z < (sB S).1.length then (0, shG (sB S).1 z b (sB S).1.length, S) else (1, 0, S)
theorem dk_shadow (l : Launch) (hl0 : l.stackTraces = false) (D : va_G) (K : Nat → ClassId) (z0 : Nat) (N : Nat → Nat) (d0 : Nat) {n : Nat} {S : Sx} {fs : List Value} {wD : va_W} (hn : n < 512) (hD : DkI K N n S fs wD) (hS : SxI n S) (z : Int) (b : Int) (hz : -2147483648 ≤ z ∧ z < 2147483648) (hbb : b = 0 ∨ b = 1) :
    CX l D K z0 yX10_shadow cX10_shadow 5 (some .int) rmD [.ref d0, .int (iI z), .int (iI b)] ((d0, .inr (10, fs)) :: wD) (fun v u => ∃ (zr : Int) (fs2 : List Value) (wD2 : va_W), v = some (.int (iI zr)) ∧ PRg K N n (an_shadow S z b) zr fs2 wD2 ∧ u = (d0, .inr (10, fs2)) :: wD2) (fun E u => ∃ (fs2 : List Value) (wD2 : va_W), u = (d0, .inr (10, fs2)) :: wD2 ∧ ((E = "java/lang/IndexOutOfBoundsException" ∧ PXg K N n (an_shadow S z b) 1 fs2 wD2))) := by
  have hD0 := hD.up hn
  have hS0 := hS.up hn
  obtain ⟨pl, wA, wB, wV, wH, wQ, w0, w1, wT, wU, wG, wP, ⟨g, hT, rfl⟩, ⟨gk, gp, gc, gs, gl, gn, gq, gr, lc, hB, hP, hCh, rfl⟩, hV9, ⟨gB, bs, hH, hbs, hhl, rfl⟩, ⟨xg, gd, gm, ge, gv, gnn, gt, hTx, hQ9, rfl⟩, h0, h1, hTu, hUu, hG, hP9, rfl, rfl⟩ := hD
  refine CX.wide (CX.obj (c_X10_shadow l hl0 D K z0 d0 (N 0) (N 1) (N 2) (N 3) (N 4) (N 5) (N 6) (N 7) (N 8) (N 9) (N 10) (N 11) (N 12) (sE S) (sN S) (N 40) (N 41) (N 42) (N 43) (N 44) (N 45) (N 46) (N 47) lc gk gp gc gs gl (sB S).1 ((sB S).2.1.length : Int) (sB S).2.2.1 (sB S).2.2.2.1 ((sB S).2.2.2.2.length : Int) z b hB hS.1.1 hz hbb) (pmE [[(N 0, .inr (7, [.ref (N 13), .int (iI ((sW S).length : Int))]))], [(N 13, aI (K 2) 100 g)], [(N 5, .inr (0, [.ref (N 40), .ref (N 41), .ref (N 42), .ref (N 43), .ref (N 44), .int (iI ((sB S).1.length : Int)), .ref (N 45), .ref (N 46), .ref (N 47), .int (iI ((sB S).2.1.length : Int)), .int (iI (sB S).2.2.1), .int (iI (sB S).2.2.2.1), va_rf lc, .int (iI ((sB S).2.2.2.2.length : Int))]))], [(N 40, aI (K 0) 24 gk)], [(N 41, aI (K 0) 24 gp)], [(N 42, aI (K 0) 24 gc)], [(N 43, aJ (K 1) 24 gs)], [(N 44, aJ (K 1) 24 gl)], [(N 45, aI (K 0) 30 gn)], [(N 46, aJ (K 1) 30 gq)], [(N 47, aJ (K 1) 30 gr)], wV, [(N 9, .inr (3, [.ref (N 15), .int (iI ((sH S).length : Int))]))], [(N 15, aR (K 5) 8 gB)], plW K bs, [(N 10, .inr (4, [.ref (N 70), .ref (N 72), .ref (N 73), .ref (N 74), .ref (N 75), .ref (N 76), .ref (N 77), .int (iI ((sQ S).2.1.length : Int)), .int (iI (sQ S).2.2.1), .int (iI (sQ S).2.2.2.1), .int (iI (sQ S).2.2.2.2.1), .int (iI (sQ S).2.2.2.2.2.1), .int (iI (sQ S).2.2.2.2.2.2), .int (iI (sT S))]))], [(N 70, .inr (7, [.ref (N 71), .int (iI ((sQ S).1.length : Int))]))], [(N 71, aI (K 2) 1200 xg)], [(N 72, aI (K 0) 50 gd)], [(N 73, aI (K 0) 50 gm)], [(N 74, aI (K 0) 50 ge)], [(N 75, aI (K 0) 50 gv)], [(N 76, aI (K 0) 50 gnn)], [(N 77, aI (K 0) 50 gt)], w0, w1, wT, wU, wG, wP, clW K pl] [[(N 5, .inr (0, [.ref (N 40), .ref (N 41), .ref (N 42), .ref (N 43), .ref (N 44), .int (iI ((sB S).1.length : Int)), .ref (N 45), .ref (N 46), .ref (N 47), .int (iI ((sB S).2.1.length : Int)), .int (iI (sB S).2.2.1), .int (iI (sB S).2.2.2.1), va_rf lc, .int (iI ((sB S).2.2.2.2.length : Int))]))], [(N 40, aI (K 0) 24 gk)], [(N 41, aI (K 0) 24 gp)], [(N 42, aI (K 0) 24 gc)], [(N 43, aJ (K 1) 24 gs)], [(N 44, aJ (K 1) 24 gl)]] [2, 3, 4, 5, 6, 7] [0, 1, 8, 9, 10, 11, 12, 13, 14, 15, 16, 17, 18, 19, 20, 21, 22, 23, 24, 25, 26, 27, 28, 29, 30] rfl (n := 31) rfl (by decide) rfl rfl) (fun v u hp => ?_) (fun E u hp => ?_)) (by unfold rmLe; decide)
  · obtain ⟨rfl, hc0, rfl⟩ := hp
    refine ⟨_, rfl, _, _, _, rfl, ⟨cm0, ?_, ?_, ?_, ?_⟩, rfl⟩
    · simp only [an_shadow, if_pos hc0]
    · simp only [an_shadow, if_pos hc0]
    · simp only [an_shadow, if_pos hc0]; exact hS0
    · simp only [an_shadow, if_pos hc0]; exact hD0
  · obtain ⟨rfl, hc0, rfl⟩ := hp
    refine ⟨_, rfl, _, _, rfl, ⟨rfl, cm0, ?_, ?_, ?_⟩⟩
    · simp only [an_shadow, if_neg hc0]
    · simp only [an_shadow, if_neg hc0]; exact hS0
    · simp only [an_shadow, if_neg hc0]; exact hD0
theorem md_shadow (l : Launch) (D : va_G) (K : Nat → ClassId) (z0 : Nat) (M MH ME MS : Nat → Nat) (m0 : Nat) {n : Nat} {xth : Int} {S : Sx} {fm : List Value} {wM : va_W} (hM : MoI K M MH ME MS xth S fm wM) (hS : SxI n S) (z : Int) (b : Int) (hz : -2147483648 ≤ z ∧ z < 2147483648) (hbb : b = 0 ∨ b = 1) :
    CT l D K z0 yX11_shadow cX11_shadow 6 (some .int) rmM [.ref m0, .int (iI z), .int (iI b)] ((m0, .inr (11, fm)) :: wM) (fun v u => ∃ (zr : Int) (fm2 : List Value) (wM2 : va_W), v = some (.int (iI zr)) ∧ QRg K M MH ME MS (an_shadow S z b) zr fm2 wM2 ∧ u = (m0, .inr (11, fm2)) :: wM2) := by
  obtain ⟨wA, wB, wV, wH, wQ, wR, wX, ⟨gbf, hT, hcb, rfl⟩, ⟨g, hM, rfl⟩, hV, hH, hQ, hR9, hX9, ⟨xat, xwr, xwd, xlo, xhi, xwl, xml, xkl, xfi, xse, xdn, xon, xtw, xol, xrw, xgl, xus, xpr, xmk, xab, hO, he⟩, rfl⟩ := hM
  rw [he]
  refine CT.wide (CT.obj (c_X11_shadow l D K z0 m0 M xth ((sH S).length : Int) (sN S) ((sW S).length : Int) xat (sE S) xwr xwd xlo xhi xwl xml xkl xfi xse xdn xon xtw xol xrw xgl xus xpr xmk xab g (sB S).1 (sB S).2.1 (sB S).2.2.1 (sB S).2.2.2.1 ((sB S).2.2.2.2.length : Int) z b hM hS.1.1 hz hbb) (pmE [[(M 6, aI (K 2) 100 gbf)], [(M 1, aI (K 0) 1247 g)], wV, wH, wQ, wR, wX] [[(M 1, aI (K 0) 1247 g)]] [1] [0, 2, 3, 4, 5, 6] rfl (n := 7) rfl (by decide) rfl rfl) (fun v u hp => ?_)) (by unfold rmLe; decide)
  rcases hp with ⟨rfl, hc0, rfl⟩ | ⟨rfl, hc0, rfl⟩
  · refine ⟨_, rfl, _, _, _, rfl, fun c => ?_, rfl⟩
    simp only [an_shadow, if_neg hc0]
    exact ⟨fun h => (by first | exact rfl | trivial | simp at h), _, _, wV, wH, wQ, wR, wX, ⟨gbf, hT, hcb, rfl⟩, ⟨g, hM, rfl⟩, hV, hH, hQ, hR9, hX9, ⟨_, _, _, _, _, _, _, _, _, _, _, _, _, _, _, _, _, _, _, _, hO, rfl⟩, rfl⟩
  · refine ⟨_, rfl, _, _, _, rfl, fun c => ?_, rfl⟩
    simp only [an_shadow, if_pos hc0]
    exact ⟨fun h => (by first | exact rfl | trivial | simp at h), _, _, wV, wH, wQ, wR, wX, ⟨gbf, hT, hcb, rfl⟩, ⟨g, hM, rfl⟩, hV, hH, hQ, hR9, hX9, ⟨_, _, _, _, _, _, _, _, _, _, _, _, _, _, _, _, _, _, _, _, hO, rfl⟩, rfl⟩
def an_letterCount (S : Sx) (x : Int) (b : Int) : An := fun _ => if 97 ≤ x ∧ x ≤ 122 then (0, sumb (tmsA (sB S).1 x b) (sB S).1.length, S) else (1, 0, S)
theorem dk_letterCount (l : Launch) (hl0 : l.stackTraces = false) (D : va_G) (K : Nat → ClassId) (z0 : Nat) (N : Nat → Nat) (d0 : Nat) {n : Nat} {S : Sx} {fs : List Value} {wD : va_W} (hn : n < 512) (hD : DkI K N n S fs wD) (hS : SxI n S) (x : Int) (b : Int) (hx : 0 ≤ x ∧ x < 65536) (hbb : b = 0 ∨ b = 1) :
    CX l D K z0 yX10_letterCount cX10_letterCount 5 (some .int) rmD [.ref d0, .int (iI x), .int (iI b)] ((d0, .inr (10, fs)) :: wD) (fun v u => ∃ (zr : Int) (fs2 : List Value) (wD2 : va_W), v = some (.int (iI zr)) ∧ PRg K N n (an_letterCount S x b) zr fs2 wD2 ∧ u = (d0, .inr (10, fs2)) :: wD2) (fun E u => ∃ (fs2 : List Value) (wD2 : va_W), u = (d0, .inr (10, fs2)) :: wD2 ∧ ((E = "java/lang/IllegalArgumentException" ∧ PXg K N n (an_letterCount S x b) 1 fs2 wD2))) := by
  have hD0 := hD.up hn
  have hS0 := hS.up hn
  obtain ⟨pl, wA, wB, wV, wH, wQ, w0, w1, wT, wU, wG, wP, ⟨g, hT, rfl⟩, ⟨gk, gp, gc, gs, gl, gn, gq, gr, lc, hB, hP, hCh, rfl⟩, hV9, ⟨gB, bs, hH, hbs, hhl, rfl⟩, ⟨xg, gd, gm, ge, gv, gnn, gt, hTx, hQ9, rfl⟩, h0, h1, hTu, hUu, hG, hP9, rfl, rfl⟩ := hD
  refine CX.wide (CX.obj (c_X10_letterCount l hl0 D K z0 d0 (N 0) (N 1) (N 2) (N 3) (N 4) (N 5) (N 6) (N 7) (N 8) (N 9) (N 10) (N 11) (N 12) (sE S) (sN S) (N 40) (N 41) (N 42) (N 43) (N 44) (N 45) (N 46) (N 47) lc gk gp gc gs gl (sB S).1 ((sB S).2.1.length : Int) (sB S).2.2.1 (sB S).2.2.2.1 ((sB S).2.2.2.2.length : Int) x b hB hS.1.1 hx hbb) (pmE [[(N 0, .inr (7, [.ref (N 13), .int (iI ((sW S).length : Int))]))], [(N 13, aI (K 2) 100 g)], [(N 5, .inr (0, [.ref (N 40), .ref (N 41), .ref (N 42), .ref (N 43), .ref (N 44), .int (iI ((sB S).1.length : Int)), .ref (N 45), .ref (N 46), .ref (N 47), .int (iI ((sB S).2.1.length : Int)), .int (iI (sB S).2.2.1), .int (iI (sB S).2.2.2.1), va_rf lc, .int (iI ((sB S).2.2.2.2.length : Int))]))], [(N 40, aI (K 0) 24 gk)], [(N 41, aI (K 0) 24 gp)], [(N 42, aI (K 0) 24 gc)], [(N 43, aJ (K 1) 24 gs)], [(N 44, aJ (K 1) 24 gl)], [(N 45, aI (K 0) 30 gn)], [(N 46, aJ (K 1) 30 gq)], [(N 47, aJ (K 1) 30 gr)], wV, [(N 9, .inr (3, [.ref (N 15), .int (iI ((sH S).length : Int))]))], [(N 15, aR (K 5) 8 gB)], plW K bs, [(N 10, .inr (4, [.ref (N 70), .ref (N 72), .ref (N 73), .ref (N 74), .ref (N 75), .ref (N 76), .ref (N 77), .int (iI ((sQ S).2.1.length : Int)), .int (iI (sQ S).2.2.1), .int (iI (sQ S).2.2.2.1), .int (iI (sQ S).2.2.2.2.1), .int (iI (sQ S).2.2.2.2.2.1), .int (iI (sQ S).2.2.2.2.2.2), .int (iI (sT S))]))], [(N 70, .inr (7, [.ref (N 71), .int (iI ((sQ S).1.length : Int))]))], [(N 71, aI (K 2) 1200 xg)], [(N 72, aI (K 0) 50 gd)], [(N 73, aI (K 0) 50 gm)], [(N 74, aI (K 0) 50 ge)], [(N 75, aI (K 0) 50 gv)], [(N 76, aI (K 0) 50 gnn)], [(N 77, aI (K 0) 50 gt)], w0, w1, wT, wU, wG, wP, clW K pl] [[(N 5, .inr (0, [.ref (N 40), .ref (N 41), .ref (N 42), .ref (N 43), .ref (N 44), .int (iI ((sB S).1.length : Int)), .ref (N 45), .ref (N 46), .ref (N 47), .int (iI ((sB S).2.1.length : Int)), .int (iI (sB S).2.2.1), .int (iI (sB S).2.2.2.1), va_rf lc, .int (iI ((sB S).2.2.2.2.length : Int))]))], [(N 43, aJ (K 1) 24 gs)], [(N 44, aJ (K 1) 24 gl)]] [2, 6, 7] [0, 1, 3, 4, 5, 8, 9, 10, 11, 12, 13, 14, 15, 16, 17, 18, 19, 20, 21, 22, 23, 24, 25, 26, 27, 28, 29, 30] rfl (n := 31) rfl (by decide) rfl rfl) (fun v u hp => ?_) (fun E u hp => ?_)) (by unfold rmLe; decide)
  · obtain ⟨rfl, hc0, rfl⟩ := hp
    refine ⟨_, rfl, _, _, _, rfl, ⟨cm0, ?_, ?_, ?_, ?_⟩, rfl⟩
    · simp only [an_letterCount, if_pos hc0]
    · simp only [an_letterCount, if_pos hc0]
    · simp only [an_letterCount, if_pos hc0]; exact hS0
    · simp only [an_letterCount, if_pos hc0]; exact hD0
  · obtain ⟨rfl, hc0, rfl⟩ := hp
    refine ⟨_, rfl, _, _, rfl, ⟨rfl, cm0, ?_, ?_, ?_⟩⟩
    · simp only [an_letterCount, if_neg hc0]
    · simp only [an_letterCount, if_neg hc0]; exact hS0
    · simp only [an_letterCount, if_neg hc0]; exact hD0
theorem md_letterCount (l : Launch) (D : va_G) (K : Nat → ClassId) (z0 : Nat) (M MH ME MS : Nat → Nat) (m0 : Nat) {n : Nat} {xth : Int} {S : Sx} {fm : List Value} {wM : va_W} (hM : MoI K M MH ME MS xth S fm wM) (hS : SxI n S) (x : Int) (b : Int) (hx : 0 ≤ x ∧ x < 65536) (hbb : b = 0 ∨ b = 1) :
    CT l D K z0 yX11_letterCount cX11_letterCount 6 (some .int) rmM [.ref m0, .int (iI x), .int (iI b)] ((m0, .inr (11, fm)) :: wM) (fun v u => ∃ (zr : Int) (fm2 : List Value) (wM2 : va_W), v = some (.int (iI zr)) ∧ QRg K M MH ME MS (an_letterCount S x b) zr fm2 wM2 ∧ u = (m0, .inr (11, fm2)) :: wM2) := by
  obtain ⟨wA, wB, wV, wH, wQ, wR, wX, ⟨gbf, hT, hcb, rfl⟩, ⟨g, hM, rfl⟩, hV, hH, hQ, hR9, hX9, ⟨xat, xwr, xwd, xlo, xhi, xwl, xml, xkl, xfi, xse, xdn, xon, xtw, xol, xrw, xgl, xus, xpr, xmk, xab, hO, he⟩, rfl⟩ := hM
  rw [he]
  refine CT.wide (CT.obj (c_X11_letterCount l D K z0 m0 M xth ((sH S).length : Int) (sN S) ((sW S).length : Int) xat (sE S) xwr xwd xlo xhi xwl xml xkl xfi xse xdn xon xtw xol xrw xgl xus xpr xmk xab g (sB S).1 (sB S).2.1 (sB S).2.2.1 (sB S).2.2.2.1 ((sB S).2.2.2.2.length : Int) x b hM hS.1.1 hx hbb) (pmE [[(M 6, aI (K 2) 100 gbf)], [(M 1, aI (K 0) 1247 g)], wV, wH, wQ, wR, wX] [[(M 1, aI (K 0) 1247 g)]] [1] [0, 2, 3, 4, 5, 6] rfl (n := 7) rfl (by decide) rfl rfl) (fun v u hp => ?_)) (by unfold rmLe; decide)
  rcases hp with ⟨rfl, hc0, rfl⟩ | ⟨rfl, hc0, rfl⟩
  · refine ⟨_, rfl, _, _, _, rfl, fun c => ?_, rfl⟩
    simp only [an_letterCount, if_neg hc0]
    exact ⟨fun h => (by first | exact rfl | trivial | simp at h), _, _, wV, wH, wQ, wR, wX, ⟨gbf, hT, hcb, rfl⟩, ⟨g, hM, rfl⟩, hV, hH, hQ, hR9, hX9, ⟨_, _, _, _, _, _, _, _, _, _, _, _, _, _, _, _, _, _, _, _, hO, rfl⟩, rfl⟩
  · refine ⟨_, rfl, _, _, _, rfl, fun c => ?_, rfl⟩
    simp only [an_letterCount, if_pos hc0]
    exact ⟨fun h => (by first | exact rfl | trivial | simp at h), _, _, wV, wH, wQ, wR, wX, ⟨gbf, hT, hcb, rfl⟩, ⟨g, hM, rfl⟩, hV, hH, hQ, hR9, hX9, ⟨_, _, _, _, _, _, _, _, _, _, _, _, _, _, _, _, _, _, _, _, hO, rfl⟩, rfl⟩
def an_saving (S : Sx) (k : Int) : An := fun _ => if -1 ≤ k ∧ k ≤ 2 then (0, sumb (savA (sB S).1 k) (sB S).1.length, S) else (1, 0, S)
theorem dk_saving (l : Launch) (hl0 : l.stackTraces = false) (D : va_G) (K : Nat → ClassId) (z0 : Nat) (N : Nat → Nat) (d0 : Nat) {n : Nat} {S : Sx} {fs : List Value} {wD : va_W} (hn : n < 512) (hD : DkI K N n S fs wD) (hS : SxI n S) (k : Int) (hk : -2147483648 ≤ k ∧ k < 2147483648) :
    CX l D K z0 yX10_saving cX10_saving 4 (some .int) rmD [.ref d0, .int (iI k)] ((d0, .inr (10, fs)) :: wD) (fun v u => ∃ (zr : Int) (fs2 : List Value) (wD2 : va_W), v = some (.int (iI zr)) ∧ PRg K N n (an_saving S k) zr fs2 wD2 ∧ u = (d0, .inr (10, fs2)) :: wD2) (fun E u => ∃ (fs2 : List Value) (wD2 : va_W), u = (d0, .inr (10, fs2)) :: wD2 ∧ ((E = "java/lang/IllegalArgumentException" ∧ PXg K N n (an_saving S k) 1 fs2 wD2))) := by
  have hD0 := hD.up hn
  have hS0 := hS.up hn
  obtain ⟨pl, wA, wB, wV, wH, wQ, w0, w1, wT, wU, wG, wP, ⟨g, hT, rfl⟩, ⟨gk, gp, gc, gs, gl, gn, gq, gr, lc, hB, hP, hCh, rfl⟩, hV9, ⟨gB, bs, hH, hbs, hhl, rfl⟩, ⟨xg, gd, gm, ge, gv, gnn, gt, hTx, hQ9, rfl⟩, h0, h1, hTu, hUu, hG, hP9, rfl, rfl⟩ := hD
  refine CX.wide (CX.obj (c_X10_saving l hl0 D K z0 d0 (N 0) (N 1) (N 2) (N 3) (N 4) (N 5) (N 6) (N 7) (N 8) (N 9) (N 10) (N 11) (N 12) (sE S) (sN S) (N 40) (N 41) (N 42) (N 43) (N 44) (N 45) (N 46) (N 47) lc gk gp gc gs gl (sB S).1 ((sB S).2.1.length : Int) (sB S).2.2.1 (sB S).2.2.2.1 ((sB S).2.2.2.2.length : Int) k hB hS.1.1 hk) (pmE [[(N 0, .inr (7, [.ref (N 13), .int (iI ((sW S).length : Int))]))], [(N 13, aI (K 2) 100 g)], [(N 5, .inr (0, [.ref (N 40), .ref (N 41), .ref (N 42), .ref (N 43), .ref (N 44), .int (iI ((sB S).1.length : Int)), .ref (N 45), .ref (N 46), .ref (N 47), .int (iI ((sB S).2.1.length : Int)), .int (iI (sB S).2.2.1), .int (iI (sB S).2.2.2.1), va_rf lc, .int (iI ((sB S).2.2.2.2.length : Int))]))], [(N 40, aI (K 0) 24 gk)], [(N 41, aI (K 0) 24 gp)], [(N 42, aI (K 0) 24 gc)], [(N 43, aJ (K 1) 24 gs)], [(N 44, aJ (K 1) 24 gl)], [(N 45, aI (K 0) 30 gn)], [(N 46, aJ (K 1) 30 gq)], [(N 47, aJ (K 1) 30 gr)], wV, [(N 9, .inr (3, [.ref (N 15), .int (iI ((sH S).length : Int))]))], [(N 15, aR (K 5) 8 gB)], plW K bs, [(N 10, .inr (4, [.ref (N 70), .ref (N 72), .ref (N 73), .ref (N 74), .ref (N 75), .ref (N 76), .ref (N 77), .int (iI ((sQ S).2.1.length : Int)), .int (iI (sQ S).2.2.1), .int (iI (sQ S).2.2.2.1), .int (iI (sQ S).2.2.2.2.1), .int (iI (sQ S).2.2.2.2.2.1), .int (iI (sQ S).2.2.2.2.2.2), .int (iI (sT S))]))], [(N 70, .inr (7, [.ref (N 71), .int (iI ((sQ S).1.length : Int))]))], [(N 71, aI (K 2) 1200 xg)], [(N 72, aI (K 0) 50 gd)], [(N 73, aI (K 0) 50 gm)], [(N 74, aI (K 0) 50 ge)], [(N 75, aI (K 0) 50 gv)], [(N 76, aI (K 0) 50 gnn)], [(N 77, aI (K 0) 50 gt)], w0, w1, wT, wU, wG, wP, clW K pl] [[(N 5, .inr (0, [.ref (N 40), .ref (N 41), .ref (N 42), .ref (N 43), .ref (N 44), .int (iI ((sB S).1.length : Int)), .ref (N 45), .ref (N 46), .ref (N 47), .int (iI ((sB S).2.1.length : Int)), .int (iI (sB S).2.2.1), .int (iI (sB S).2.2.2.1), va_rf lc, .int (iI ((sB S).2.2.2.2.length : Int))]))], [(N 40, aI (K 0) 24 gk)], [(N 43, aJ (K 1) 24 gs)], [(N 44, aJ (K 1) 24 gl)]] [2, 3, 6, 7] [0, 1, 4, 5, 8, 9, 10, 11, 12, 13, 14, 15, 16, 17, 18, 19, 20, 21, 22, 23, 24, 25, 26, 27, 28, 29, 30] rfl (n := 31) rfl (by decide) rfl rfl) (fun v u hp => ?_) (fun E u hp => ?_)) (by unfold rmLe; decide)
  · obtain ⟨rfl, hc0, rfl⟩ := hp
    refine ⟨_, rfl, _, _, _, rfl, ⟨cm0, ?_, ?_, ?_, ?_⟩, rfl⟩
    · simp only [an_saving, if_pos (show -1 ≤ k ∧ k ≤ 2 by omega)]
    · simp only [an_saving, if_pos (show -1 ≤ k ∧ k ≤ 2 by omega)]
    · simp only [an_saving, if_pos (show -1 ≤ k ∧ k ≤ 2 by omega)]; exact hS0
    · simp only [an_saving, if_pos (show -1 ≤ k ∧ k ≤ 2 by omega)]; exact hD0
  · obtain ⟨rfl, hc0, rfl⟩ := hp
    refine ⟨_, rfl, _, _, rfl, ⟨rfl, cm0, ?_, ?_, ?_⟩⟩
    · simp only [an_saving, if_neg (show ¬ (-1 ≤ k ∧ k ≤ 2) by omega)]
    · simp only [an_saving, if_neg (show ¬ (-1 ≤ k ∧ k ≤ 2) by omega)]; exact hS0
    · simp only [an_saving, if_neg (show ¬ (-1 ≤ k ∧ k ≤ 2) by omega)]; exact hD0
theorem md_saving (l : Launch) (D : va_G) (K : Nat → ClassId) (z0 : Nat) (M MH ME MS : Nat → Nat) (m0 : Nat) {n : Nat} {xth : Int} {S : Sx} {fm : List Value} {wM : va_W} (hM : MoI K M MH ME MS xth S fm wM) (hS : SxI n S) (k : Int) (hk : -2147483648 ≤ k ∧ k < 2147483648) :
    CT l D K z0 yX11_saving cX11_saving 5 (some .int) rmM [.ref m0, .int (iI k)] ((m0, .inr (11, fm)) :: wM) (fun v u => ∃ (zr : Int) (fm2 : List Value) (wM2 : va_W), v = some (.int (iI zr)) ∧ QRg K M MH ME MS (an_saving S k) zr fm2 wM2 ∧ u = (m0, .inr (11, fm2)) :: wM2) := by
  obtain ⟨wA, wB, wV, wH, wQ, wR, wX, ⟨gbf, hT, hcb, rfl⟩, ⟨g, hM, rfl⟩, hV, hH, hQ, hR9, hX9, ⟨xat, xwr, xwd, xlo, xhi, xwl, xml, xkl, xfi, xse, xdn, xon, xtw, xol, xrw, xgl, xus, xpr, xmk, xab, hO, he⟩, rfl⟩ := hM
  rw [he]
  refine CT.wide (CT.obj (c_X11_saving l D K z0 m0 M xth ((sH S).length : Int) (sN S) ((sW S).length : Int) xat (sE S) xwr xwd xlo xhi xwl xml xkl xfi xse xdn xon xtw xol xrw xgl xus xpr xmk xab g (sB S).1 (sB S).2.1 (sB S).2.2.1 (sB S).2.2.2.1 ((sB S).2.2.2.2.length : Int) k hM hS.1.1 hk) (pmE [[(M 6, aI (K 2) 100 gbf)], [(M 1, aI (K 0) 1247 g)], wV, wH, wQ, wR, wX] [[(M 1, aI (K 0) 1247 g)]] [1] [0, 2, 3, 4, 5, 6] rfl (n := 7) rfl (by decide) rfl rfl) (fun v u hp => ?_)) (by unfold rmLe; decide)
  rcases hp with ⟨rfl, hc0, rfl⟩ | ⟨rfl, hc0, rfl⟩
  · refine ⟨_, rfl, _, _, _, rfl, fun c => ?_, rfl⟩
    simp only [an_saving, if_neg (show ¬ (-1 ≤ k ∧ k ≤ 2) by omega)]
    exact ⟨fun h => (by first | exact rfl | trivial | simp at h), _, _, wV, wH, wQ, wR, wX, ⟨gbf, hT, hcb, rfl⟩, ⟨g, hM, rfl⟩, hV, hH, hQ, hR9, hX9, ⟨_, _, _, _, _, _, _, _, _, _, _, _, _, _, _, _, _, _, _, _, hO, rfl⟩, rfl⟩
  · refine ⟨_, rfl, _, _, _, rfl, fun c => ?_, rfl⟩
    simp only [an_saving, if_pos (show -1 ≤ k ∧ k ≤ 2 by omega)]
    exact ⟨fun h => (by first | exact rfl | trivial | simp at h), _, _, wV, wH, wQ, wR, wX, ⟨gbf, hT, hcb, rfl⟩, ⟨g, hM, rfl⟩, hV, hH, hQ, hR9, hX9, ⟨_, _, _, _, _, _, _, _, _, _, _, _, _, _, _, _, _, _, _, _, hO, rfl⟩, rfl⟩
def an_pair (S : Sx) (z : Int) (w : Int) : An := fun _ => if 0 ≤ z ∧ z < (sB S).2.1.length then (if 0 ≤ w ∧ w ≤ 3 then (0, paA (sB S).1 (sB S).2.1 z w, S) else (2, 0, S)) else (1, 0, S)
theorem dk_pair (l : Launch) (hl0 : l.stackTraces = false) (D : va_G) (K : Nat → ClassId) (z0 : Nat) (N : Nat → Nat) (d0 : Nat) {n : Nat} {S : Sx} {fs : List Value} {wD : va_W} (hn : n < 512) (hD : DkI K N n S fs wD) (hS : SxI n S) (z : Int) (w : Int) (hz : -2147483648 ≤ z ∧ z < 2147483648) (hw : -2147483648 ≤ w ∧ w < 2147483648) :
    CX l D K z0 yX10_pair cX10_pair 3 (some .int) rmD [.ref d0, .int (iI z), .int (iI w)] ((d0, .inr (10, fs)) :: wD) (fun v u => ∃ (zr : Int) (fs2 : List Value) (wD2 : va_W), v = some (.int (iI zr)) ∧ PRg K N n (an_pair S z w) zr fs2 wD2 ∧ u = (d0, .inr (10, fs2)) :: wD2) (fun E u => ∃ (fs2 : List Value) (wD2 : va_W), u = (d0, .inr (10, fs2)) :: wD2 ∧ ((E = "java/lang/IndexOutOfBoundsException" ∧ PXg K N n (an_pair S z w) 1 fs2 wD2) ∨ (E = "java/lang/IllegalArgumentException" ∧ PXg K N n (an_pair S z w) 2 fs2 wD2))) := by
  have hD0 := hD.up hn
  have hS0 := hS.up hn
  obtain ⟨pl, wA, wB, wV, wH, wQ, w0, w1, wT, wU, wG, wP, ⟨g, hT, rfl⟩, ⟨gk, gp, gc, gs, gl, gn, gq, gr, lc, hB, hP, hCh, rfl⟩, hV9, ⟨gB, bs, hH, hbs, hhl, rfl⟩, ⟨xg, gd, gm, ge, gv, gnn, gt, hTx, hQ9, rfl⟩, h0, h1, hTu, hUu, hG, hP9, rfl, rfl⟩ := hD
  refine CX.wide (CX.obj (c_X10_pair l hl0 D K z0 d0 (N 0) (N 1) (N 2) (N 3) (N 4) (N 5) (N 6) (N 7) (N 8) (N 9) (N 10) (N 11) (N 12) (sE S) (sN S) (N 40) (N 41) (N 42) (N 43) (N 44) (N 45) (N 46) (N 47) lc gk gp gc gs gl (sB S).1 ((sB S).2.1.length : Int) (sB S).2.2.1 (sB S).2.2.2.1 ((sB S).2.2.2.2.length : Int) gn gq gr (sB S).2.1 (25 * (n : Int)) z w hB hS.1.1 hP hS.1.2.1 hz hw) (pmE [[(N 0, .inr (7, [.ref (N 13), .int (iI ((sW S).length : Int))]))], [(N 13, aI (K 2) 100 g)], [(N 5, .inr (0, [.ref (N 40), .ref (N 41), .ref (N 42), .ref (N 43), .ref (N 44), .int (iI ((sB S).1.length : Int)), .ref (N 45), .ref (N 46), .ref (N 47), .int (iI ((sB S).2.1.length : Int)), .int (iI (sB S).2.2.1), .int (iI (sB S).2.2.2.1), va_rf lc, .int (iI ((sB S).2.2.2.2.length : Int))]))], [(N 40, aI (K 0) 24 gk)], [(N 41, aI (K 0) 24 gp)], [(N 42, aI (K 0) 24 gc)], [(N 43, aJ (K 1) 24 gs)], [(N 44, aJ (K 1) 24 gl)], [(N 45, aI (K 0) 30 gn)], [(N 46, aJ (K 1) 30 gq)], [(N 47, aJ (K 1) 30 gr)], wV, [(N 9, .inr (3, [.ref (N 15), .int (iI ((sH S).length : Int))]))], [(N 15, aR (K 5) 8 gB)], plW K bs, [(N 10, .inr (4, [.ref (N 70), .ref (N 72), .ref (N 73), .ref (N 74), .ref (N 75), .ref (N 76), .ref (N 77), .int (iI ((sQ S).2.1.length : Int)), .int (iI (sQ S).2.2.1), .int (iI (sQ S).2.2.2.1), .int (iI (sQ S).2.2.2.2.1), .int (iI (sQ S).2.2.2.2.2.1), .int (iI (sQ S).2.2.2.2.2.2), .int (iI (sT S))]))], [(N 70, .inr (7, [.ref (N 71), .int (iI ((sQ S).1.length : Int))]))], [(N 71, aI (K 2) 1200 xg)], [(N 72, aI (K 0) 50 gd)], [(N 73, aI (K 0) 50 gm)], [(N 74, aI (K 0) 50 ge)], [(N 75, aI (K 0) 50 gv)], [(N 76, aI (K 0) 50 gnn)], [(N 77, aI (K 0) 50 gt)], w0, w1, wT, wU, wG, wP, clW K pl] [[(N 5, .inr (0, [.ref (N 40), .ref (N 41), .ref (N 42), .ref (N 43), .ref (N 44), .int (iI ((sB S).1.length : Int)), .ref (N 45), .ref (N 46), .ref (N 47), .int (iI ((sB S).2.1.length : Int)), .int (iI (sB S).2.2.1), .int (iI (sB S).2.2.2.1), va_rf lc, .int (iI ((sB S).2.2.2.2.length : Int))]))], [(N 40, aI (K 0) 24 gk)], [(N 43, aJ (K 1) 24 gs)], [(N 44, aJ (K 1) 24 gl)], [(N 45, aI (K 0) 30 gn)], [(N 46, aJ (K 1) 30 gq)], [(N 47, aJ (K 1) 30 gr)]] [2, 3, 6, 7, 8, 9, 10] [0, 1, 4, 5, 11, 12, 13, 14, 15, 16, 17, 18, 19, 20, 21, 22, 23, 24, 25, 26, 27, 28, 29, 30] rfl (n := 31) rfl (by decide) rfl rfl) (fun v u hp => ?_) (fun E u hp => ?_)) (by unfold rmLe; decide)
  · obtain ⟨rfl, hc0, hc1, rfl⟩ := hp
    refine ⟨_, rfl, _, _, _, rfl, ⟨cm0, ?_, ?_, ?_, ?_⟩, rfl⟩
    · simp only [an_pair, if_pos hc0, if_pos hc1]
    · simp only [an_pair, if_pos hc0, if_pos hc1]
    · simp only [an_pair, if_pos hc0, if_pos hc1]; exact hS0
    · simp only [an_pair, if_pos hc0, if_pos hc1]; exact hD0
  · rcases hp with ⟨rfl, hc0, rfl⟩ | ⟨rfl, hc0, hc1, rfl⟩
    · refine ⟨_, rfl, _, _, rfl, Or.inl ⟨rfl, cm0, ?_, ?_, ?_⟩⟩
      · simp only [an_pair, if_neg hc0]
      · simp only [an_pair, if_neg hc0]; exact hS0
      · simp only [an_pair, if_neg hc0]; exact hD0
    · refine ⟨_, rfl, _, _, rfl, Or.inr (⟨rfl, cm0, ?_, ?_, ?_⟩)⟩
      · simp only [an_pair, if_pos hc0, if_neg hc1]
      · simp only [an_pair, if_pos hc0, if_neg hc1]; exact hS0
      · simp only [an_pair, if_pos hc0, if_neg hc1]; exact hD0
theorem md_pair (l : Launch) (D : va_G) (K : Nat → ClassId) (z0 : Nat) (M MH ME MS : Nat → Nat) (m0 : Nat) {n : Nat} {xth : Int} {S : Sx} {fm : List Value} {wM : va_W} (hM : MoI K M MH ME MS xth S fm wM) (hS : SxI n S) (z : Int) (w : Int) (hz : -2147483648 ≤ z ∧ z < 2147483648) (hw : -2147483648 ≤ w ∧ w < 2147483648) :
    CT l D K z0 yX11_pair cX11_pair 4 (some .int) rmM [.ref m0, .int (iI z), .int (iI w)] ((m0, .inr (11, fm)) :: wM) (fun v u => ∃ (zr : Int) (fm2 : List Value) (wM2 : va_W), v = some (.int (iI zr)) ∧ QRg K M MH ME MS (an_pair S z w) zr fm2 wM2 ∧ u = (m0, .inr (11, fm2)) :: wM2) := by
  obtain ⟨wA, wB, wV, wH, wQ, wR, wX, ⟨gbf, hT, hcb, rfl⟩, ⟨g, hM, rfl⟩, hV, hH, hQ, hR9, hX9, ⟨xat, xwr, xwd, xlo, xhi, xwl, xml, xkl, xfi, xse, xdn, xon, xtw, xol, xrw, xgl, xus, xpr, xmk, xab, hO, he⟩, rfl⟩ := hM
  rw [he]
  refine CT.wide (CT.obj (c_X11_pair l D K z0 m0 M xth ((sH S).length : Int) (sN S) ((sW S).length : Int) xat (sE S) xwr xwd xlo xhi xwl xml xkl xfi xse xdn xon xtw xol xrw xgl xus xpr xmk xab g (sB S).1 (sB S).2.1 (sB S).2.2.1 (sB S).2.2.2.1 ((sB S).2.2.2.2.length : Int) z w (25 * (n : Int)) hM hS.1.1 hS.1.2.1 hz hw) (pmE [[(M 6, aI (K 2) 100 gbf)], [(M 1, aI (K 0) 1247 g)], wV, wH, wQ, wR, wX] [[(M 1, aI (K 0) 1247 g)]] [1] [0, 2, 3, 4, 5, 6] rfl (n := 7) rfl (by decide) rfl rfl) (fun v u hp => ?_)) (by unfold rmLe; decide)
  rcases hp with ⟨rfl, hc0, rfl⟩ | ⟨rfl, hc0, hc1, rfl⟩ | ⟨rfl, hc0, hc1, rfl⟩
  · refine ⟨_, rfl, _, _, _, rfl, fun c => ?_, rfl⟩
    simp only [an_pair, if_neg hc0]
    exact ⟨fun h => (by first | exact rfl | trivial | simp at h), _, _, wV, wH, wQ, wR, wX, ⟨gbf, hT, hcb, rfl⟩, ⟨g, hM, rfl⟩, hV, hH, hQ, hR9, hX9, ⟨_, _, _, _, _, _, _, _, _, _, _, _, _, _, _, _, _, _, _, _, hO, rfl⟩, rfl⟩
  · refine ⟨_, rfl, _, _, _, rfl, fun c => ?_, rfl⟩
    simp only [an_pair, if_pos hc0, if_neg hc1]
    exact ⟨fun h => (by first | exact rfl | trivial | simp at h), _, _, wV, wH, wQ, wR, wX, ⟨gbf, hT, hcb, rfl⟩, ⟨g, hM, rfl⟩, hV, hH, hQ, hR9, hX9, ⟨_, _, _, _, _, _, _, _, _, _, _, _, _, _, _, _, _, _, _, _, hO, rfl⟩, rfl⟩
  · refine ⟨_, rfl, _, _, _, rfl, fun c => ?_, rfl⟩
    simp only [an_pair, if_pos hc0, if_pos hc1]
    exact ⟨fun h => (by first | exact rfl | trivial | simp at h), _, _, wV, wH, wQ, wR, wX, ⟨gbf, hT, hcb, rfl⟩, ⟨g, hM, rfl⟩, hV, hH, hQ, hR9, hX9, ⟨_, _, _, _, _, _, _, _, _, _, _, _, _, _, _, _, _, _, _, _, hO, rfl⟩, rfl⟩
def an_errorPosition (S : Sx) : An := fun _ => if 0 ≤ sE S then (0, sE S, S) else (1, 0, S)
theorem dk_errorPosition (l : Launch) (hl0 : l.stackTraces = false) (D : va_G) (K : Nat → ClassId) (z0 : Nat) (N : Nat → Nat) (d0 : Nat) {n : Nat} {S : Sx} {fs : List Value} {wD : va_W} (hn : n < 512) (hD : DkI K N n S fs wD) (hS : SxI n S)   :
    CX l D K z0 yX10_errorPosition cX10_errorPosition 1 (some .int) rmD [.ref d0] ((d0, .inr (10, fs)) :: wD) (fun v u => ∃ (zr : Int) (fs2 : List Value) (wD2 : va_W), v = some (.int (iI zr)) ∧ PRg K N n (an_errorPosition S) zr fs2 wD2 ∧ u = (d0, .inr (10, fs2)) :: wD2) (fun E u => ∃ (fs2 : List Value) (wD2 : va_W), u = (d0, .inr (10, fs2)) :: wD2 ∧ ((E = "java/util/NoSuchElementException" ∧ PXg K N n (an_errorPosition S) 1 fs2 wD2))) := by
  have hD0 := hD.up hn
  have hS0 := hS.up hn
  obtain ⟨pl, wA, wB, wV, wH, wQ, w0, w1, wT, wU, wG, wP, ⟨g, hT, rfl⟩, ⟨gk, gp, gc, gs, gl, gn, gq, gr, lc, hB, hP, hCh, rfl⟩, hV9, ⟨gB, bs, hH, hbs, hhl, rfl⟩, ⟨xg, gd, gm, ge, gv, gnn, gt, hTx, hQ9, rfl⟩, h0, h1, hTu, hUu, hG, hP9, rfl, rfl⟩ := hD
  refine CX.wide (CX.obj (c_X10_errorPosition l hl0 D K z0 d0 (N 0) (N 1) (N 2) (N 3) (N 4) (N 5) (N 6) (N 7) (N 8) (N 9) (N 10) (N 11) (N 12) (sE S) (sN S) (by have := hS.2.2.1; omega)) (pmE [[(N 0, .inr (7, [.ref (N 13), .int (iI ((sW S).length : Int))]))], [(N 13, aI (K 2) 100 g)], [(N 5, .inr (0, [.ref (N 40), .ref (N 41), .ref (N 42), .ref (N 43), .ref (N 44), .int (iI ((sB S).1.length : Int)), .ref (N 45), .ref (N 46), .ref (N 47), .int (iI ((sB S).2.1.length : Int)), .int (iI (sB S).2.2.1), .int (iI (sB S).2.2.2.1), va_rf lc, .int (iI ((sB S).2.2.2.2.length : Int))]))], [(N 40, aI (K 0) 24 gk)], [(N 41, aI (K 0) 24 gp)], [(N 42, aI (K 0) 24 gc)], [(N 43, aJ (K 1) 24 gs)], [(N 44, aJ (K 1) 24 gl)], [(N 45, aI (K 0) 30 gn)], [(N 46, aJ (K 1) 30 gq)], [(N 47, aJ (K 1) 30 gr)], wV, [(N 9, .inr (3, [.ref (N 15), .int (iI ((sH S).length : Int))]))], [(N 15, aR (K 5) 8 gB)], plW K bs, [(N 10, .inr (4, [.ref (N 70), .ref (N 72), .ref (N 73), .ref (N 74), .ref (N 75), .ref (N 76), .ref (N 77), .int (iI ((sQ S).2.1.length : Int)), .int (iI (sQ S).2.2.1), .int (iI (sQ S).2.2.2.1), .int (iI (sQ S).2.2.2.2.1), .int (iI (sQ S).2.2.2.2.2.1), .int (iI (sQ S).2.2.2.2.2.2), .int (iI (sT S))]))], [(N 70, .inr (7, [.ref (N 71), .int (iI ((sQ S).1.length : Int))]))], [(N 71, aI (K 2) 1200 xg)], [(N 72, aI (K 0) 50 gd)], [(N 73, aI (K 0) 50 gm)], [(N 74, aI (K 0) 50 ge)], [(N 75, aI (K 0) 50 gv)], [(N 76, aI (K 0) 50 gnn)], [(N 77, aI (K 0) 50 gt)], w0, w1, wT, wU, wG, wP, clW K pl] [] [] [0, 1, 2, 3, 4, 5, 6, 7, 8, 9, 10, 11, 12, 13, 14, 15, 16, 17, 18, 19, 20, 21, 22, 23, 24, 25, 26, 27, 28, 29, 30] rfl (n := 31) rfl (by decide) rfl rfl) (fun v u hp => ?_) (fun E u hp => ?_)) (by unfold rmLe; decide)
  · obtain ⟨rfl, hc0, rfl⟩ := hp
    refine ⟨_, rfl, _, _, _, rfl, ⟨cm0, ?_, ?_, ?_, ?_⟩, rfl⟩
    · simp only [an_errorPosition, if_pos (show 0 ≤ sE S by omega)]
    · simp only [an_errorPosition, if_pos (show 0 ≤ sE S by omega)]
    · simp only [an_errorPosition, if_pos (show 0 ≤ sE S by omega)]; exact hS0
    · simp only [an_errorPosition, if_pos (show 0 ≤ sE S by omega)]; exact hD0
  · obtain ⟨rfl, hc0, rfl⟩ := hp
    refine ⟨_, rfl, _, _, rfl, ⟨rfl, cm0, ?_, ?_, ?_⟩⟩
    · simp only [an_errorPosition, if_neg (show ¬ 0 ≤ sE S by omega)]
    · simp only [an_errorPosition, if_neg (show ¬ 0 ≤ sE S by omega)]; exact hS0
    · simp only [an_errorPosition, if_neg (show ¬ 0 ≤ sE S by omega)]; exact hD0
theorem md_errorPosition (l : Launch) (D : va_G) (K : Nat → ClassId) (z0 : Nat) (M MH ME MS : Nat → Nat) (m0 : Nat) {n : Nat} {xth : Int} {S : Sx} {fm : List Value} {wM : va_W} (hM : MoI K M MH ME MS xth S fm wM) (hS : SxI n S)   :
    CT l D K z0 yX11_errorPosition cX11_errorPosition 1 (some .int) rmM [.ref m0] ((m0, .inr (11, fm)) :: wM) (fun v u => ∃ (zr : Int) (fm2 : List Value) (wM2 : va_W), v = some (.int (iI zr)) ∧ QRg K M MH ME MS (an_errorPosition S) zr fm2 wM2 ∧ u = (m0, .inr (11, fm2)) :: wM2) := by
  obtain ⟨wA, wB, wV, wH, wQ, wR, wX, ⟨gbf, hT, hcb, rfl⟩, ⟨g, hM, rfl⟩, hV, hH, hQ, hR9, hX9, ⟨xat, xwr, xwd, xlo, xhi, xwl, xml, xkl, xfi, xse, xdn, xon, xtw, xol, xrw, xgl, xus, xpr, xmk, xab, hO, he⟩, rfl⟩ := hM
  rw [he]
  refine CT.wide (CT.obj (c_X11_errorPosition l D K z0 m0 M xth ((sH S).length : Int) (sN S) ((sW S).length : Int) xat (sE S) xwr xwd xlo xhi xwl xml xkl xfi xse xdn xon xtw xol xrw xgl xus xpr xmk xab (by have := hS.2.2.1; omega)) (pmE [[(M 6, aI (K 2) 100 gbf)], [(M 1, aI (K 0) 1247 g)], wV, wH, wQ, wR, wX] [] [] [0, 1, 2, 3, 4, 5, 6] rfl (n := 7) rfl (by decide) rfl rfl) (fun v u hp => ?_)) (by unfold rmLe; decide)
  rcases hp with ⟨rfl, hc0, rfl⟩ | ⟨rfl, hc0, rfl⟩
  · refine ⟨_, rfl, _, _, _, rfl, fun c => ?_, rfl⟩
    simp only [an_errorPosition, if_neg (show ¬ 0 ≤ sE S by omega)]
    exact ⟨fun h => (by first | exact rfl | trivial | simp at h), _, _, wV, wH, wQ, wR, wX, ⟨gbf, hT, hcb, rfl⟩, ⟨g, hM, rfl⟩, hV, hH, hQ, hR9, hX9, ⟨_, _, _, _, _, _, _, _, _, _, _, _, _, _, _, _, _, _, _, _, hO, rfl⟩, rfl⟩
  · refine ⟨_, rfl, _, _, _, rfl, fun c => ?_, rfl⟩
    simp only [an_errorPosition, if_pos (show 0 ≤ sE S by omega)]
    exact ⟨fun h => (by first | exact rfl | trivial | simp at h), _, _, wV, wH, wQ, wR, wX, ⟨gbf, hT, hcb, rfl⟩, ⟨g, hM, rfl⟩, hV, hH, hQ, hR9, hX9, ⟨_, _, _, _, _, _, _, _, _, _, _, _, _, _, _, _, _, _, _, _, hO, rfl⟩, rfl⟩
def an_collision (S : Sx) (z : Int) (b : Int) : An := fun _ => if z < 0 ∨ ((colO (sB S).1 (sB S).1.length).length : Int) ≤ z then (1, 0, S) else (0, (match (colO (sB S).1 (sB S).1.length)[z.toNat]? with | some (x, y) => if b = 1 then y else x | none => 0), S)
theorem dk_collision (l : Launch) (hl0 : l.stackTraces = false) (D : va_G) (K : Nat → ClassId) (z0 : Nat) (N : Nat → Nat) (d0 : Nat) {n : Nat} {S : Sx} {fs : List Value} {wD : va_W} (hn : n < 512) (hD : DkI K N n S fs wD) (hS : SxI n S) (z : Int) (b : Int) (hz : -2147483648 ≤ z ∧ z < 2147483648) (hbb : b = 0 ∨ b = 1) :
    CX l D K z0 yX10_collision cX10_collision 4 (some .int) rmD [.ref d0, .int (iI z), .int (iI b)] ((d0, .inr (10, fs)) :: wD) (fun v u => ∃ (zr : Int) (fs2 : List Value) (wD2 : va_W), v = some (.int (iI zr)) ∧ PRg K N n (an_collision S z b) zr fs2 wD2 ∧ u = (d0, .inr (10, fs2)) :: wD2) (fun E u => ∃ (fs2 : List Value) (wD2 : va_W), u = (d0, .inr (10, fs2)) :: wD2 ∧ ((E = "java/util/NoSuchElementException" ∧ PXg K N n (an_collision S z b) 1 fs2 wD2))) := by
  have hD0 := hD.up hn
  have hS0 := hS.up hn
  obtain ⟨pl, wA, wB, wV, wH, wQ, w0, w1, wT, wU, wG, wP, ⟨g, hT, rfl⟩, ⟨gk, gp, gc, gs, gl, gn, gq, gr, lc, hB, hP, hCh, rfl⟩, hV9, ⟨gB, bs, hH, hbs, hhl, rfl⟩, ⟨xg, gd, gm, ge, gv, gnn, gt, hTx, hQ9, rfl⟩, h0, h1, hTu, hUu, hG, hP9, rfl, rfl⟩ := hD
  refine CX.wide (CX.obj (c_X10_collision l hl0 D K z0 d0 (N 0) (N 1) (N 2) (N 3) (N 4) (N 5) (N 6) (N 7) (N 8) (N 9) (N 10) (N 11) (N 12) (sE S) (sN S) (N 40) (N 41) (N 42) (N 43) (N 44) (N 45) (N 46) (N 47) lc gk gp gc gs gl (sB S).1 ((sB S).2.1.length : Int) (sB S).2.2.1 (sB S).2.2.2.1 ((sB S).2.2.2.2.length : Int) z b hB hS.1.1 hz hbb) (pmE [[(N 0, .inr (7, [.ref (N 13), .int (iI ((sW S).length : Int))]))], [(N 13, aI (K 2) 100 g)], [(N 5, .inr (0, [.ref (N 40), .ref (N 41), .ref (N 42), .ref (N 43), .ref (N 44), .int (iI ((sB S).1.length : Int)), .ref (N 45), .ref (N 46), .ref (N 47), .int (iI ((sB S).2.1.length : Int)), .int (iI (sB S).2.2.1), .int (iI (sB S).2.2.2.1), va_rf lc, .int (iI ((sB S).2.2.2.2.length : Int))]))], [(N 40, aI (K 0) 24 gk)], [(N 41, aI (K 0) 24 gp)], [(N 42, aI (K 0) 24 gc)], [(N 43, aJ (K 1) 24 gs)], [(N 44, aJ (K 1) 24 gl)], [(N 45, aI (K 0) 30 gn)], [(N 46, aJ (K 1) 30 gq)], [(N 47, aJ (K 1) 30 gr)], wV, [(N 9, .inr (3, [.ref (N 15), .int (iI ((sH S).length : Int))]))], [(N 15, aR (K 5) 8 gB)], plW K bs, [(N 10, .inr (4, [.ref (N 70), .ref (N 72), .ref (N 73), .ref (N 74), .ref (N 75), .ref (N 76), .ref (N 77), .int (iI ((sQ S).2.1.length : Int)), .int (iI (sQ S).2.2.1), .int (iI (sQ S).2.2.2.1), .int (iI (sQ S).2.2.2.2.1), .int (iI (sQ S).2.2.2.2.2.1), .int (iI (sQ S).2.2.2.2.2.2), .int (iI (sT S))]))], [(N 70, .inr (7, [.ref (N 71), .int (iI ((sQ S).1.length : Int))]))], [(N 71, aI (K 2) 1200 xg)], [(N 72, aI (K 0) 50 gd)], [(N 73, aI (K 0) 50 gm)], [(N 74, aI (K 0) 50 ge)], [(N 75, aI (K 0) 50 gv)], [(N 76, aI (K 0) 50 gnn)], [(N 77, aI (K 0) 50 gt)], w0, w1, wT, wU, wG, wP, clW K pl] [[(N 5, .inr (0, [.ref (N 40), .ref (N 41), .ref (N 42), .ref (N 43), .ref (N 44), .int (iI ((sB S).1.length : Int)), .ref (N 45), .ref (N 46), .ref (N 47), .int (iI ((sB S).2.1.length : Int)), .int (iI (sB S).2.2.1), .int (iI (sB S).2.2.2.1), va_rf lc, .int (iI ((sB S).2.2.2.2.length : Int))]))], [(N 40, aI (K 0) 24 gk)], [(N 42, aI (K 0) 24 gc)], [(N 43, aJ (K 1) 24 gs)], [(N 44, aJ (K 1) 24 gl)]] [2, 3, 5, 6, 7] [0, 1, 4, 8, 9, 10, 11, 12, 13, 14, 15, 16, 17, 18, 19, 20, 21, 22, 23, 24, 25, 26, 27, 28, 29, 30] rfl (n := 31) rfl (by decide) rfl rfl) (fun v u hp => ?_) (fun E u hp => ?_)) (by unfold rmLe; decide)
  · obtain ⟨r, rfl, hc0, rfl⟩ := hp
    refine ⟨_, rfl, _, _, _, rfl, ⟨cm0, ?_, ?_, ?_, ?_⟩, rfl⟩
    · obtain ⟨x9, y9, h90, h91, rfl⟩ := hc0; have h92 := (List.getElem?_eq_some_iff.mp h91).1; simp only [an_collision, if_neg (show ¬ (z < 0 ∨ ((colO (sB S).1 (sB S).1.length).length : Int) ≤ z) by omega), h91]
    · obtain ⟨x9, y9, h90, h91, rfl⟩ := hc0; have h92 := (List.getElem?_eq_some_iff.mp h91).1; simp only [an_collision, if_neg (show ¬ (z < 0 ∨ ((colO (sB S).1 (sB S).1.length).length : Int) ≤ z) by omega), h91]
    · obtain ⟨x9, y9, h90, h91, rfl⟩ := hc0; have h92 := (List.getElem?_eq_some_iff.mp h91).1; simp only [an_collision, if_neg (show ¬ (z < 0 ∨ ((colO (sB S).1 (sB S).1.length).length : Int) ≤ z) by omega), h91]; exact hS0
    · obtain ⟨x9, y9, h90, h91, rfl⟩ := hc0; have h92 := (List.getElem?_eq_some_iff.mp h91).1; simp only [an_collision, if_neg (show ¬ (z < 0 ∨ ((colO (sB S).1 (sB S).1.length).length : Int) ≤ z) by omega), h91]; exact hD0
  · obtain ⟨rfl, hc0, rfl⟩ := hp
    refine ⟨_, rfl, _, _, rfl, ⟨rfl, cm0, ?_, ?_, ?_⟩⟩
    · simp only [an_collision, if_pos hc0]
    · simp only [an_collision, if_pos hc0]; exact hS0
    · simp only [an_collision, if_pos hc0]; exact hD0
theorem md_collision (l : Launch) (D : va_G) (K : Nat → ClassId) (z0 : Nat) (M MH ME MS : Nat → Nat) (m0 : Nat) {n : Nat} {xth : Int} {S : Sx} {fm : List Value} {wM : va_W} (hM : MoI K M MH ME MS xth S fm wM) (hS : SxI n S) (z : Int) (b : Int) (hz : -2147483648 ≤ z ∧ z < 2147483648) (hbb : b = 0 ∨ b = 1) :
    CT l D K z0 yX11_collision cX11_collision 3 (some .int) rmM [.ref m0, .int (iI z), .int (iI b)] ((m0, .inr (11, fm)) :: wM) (fun v u => ∃ (zr : Int) (fm2 : List Value) (wM2 : va_W), v = some (.int (iI zr)) ∧ QRg K M MH ME MS (an_collision S z b) zr fm2 wM2 ∧ u = (m0, .inr (11, fm2)) :: wM2) := by
  obtain ⟨wA, wB, wV, wH, wQ, wR, wX, ⟨gbf, hT, hcb, rfl⟩, ⟨g, hM, rfl⟩, hV, hH, hQ, hR9, hX9, ⟨xat, xwr, xwd, xlo, xhi, xwl, xml, xkl, xfi, xse, xdn, xon, xtw, xol, xrw, xgl, xus, xpr, xmk, xab, hO, he⟩, rfl⟩ := hM
  rw [he]
  refine CT.wide (CT.obj (c_X11_collision l D K z0 m0 M xth ((sH S).length : Int) (sN S) ((sW S).length : Int) xat (sE S) xwr xwd xlo xhi xwl xml xkl xfi xse xdn xon xtw xol xrw xgl xus xpr xmk xab g (sB S).1 (sB S).2.1 (sB S).2.2.1 (sB S).2.2.2.1 ((sB S).2.2.2.2.length : Int) z b hM hS.1.1 hz hbb) (pmE [[(M 6, aI (K 2) 100 gbf)], [(M 1, aI (K 0) 1247 g)], wV, wH, wQ, wR, wX] [[(M 1, aI (K 0) 1247 g)]] [1] [0, 2, 3, 4, 5, 6] rfl (n := 7) rfl (by decide) rfl rfl) (fun v u hp => ?_)) (by unfold rmLe; decide)
  rcases hp with ⟨lo2, hi2, rfl, hc0, rfl⟩ | ⟨r, lo2, hi2, rfl, hc0, rfl⟩
  · refine ⟨_, rfl, _, _, _, rfl, fun c => ?_, rfl⟩
    simp only [an_collision, if_pos hc0]
    exact ⟨fun h => (by first | exact rfl | trivial | simp at h), _, _, wV, wH, wQ, wR, wX, ⟨gbf, hT, hcb, rfl⟩, ⟨g, hM, rfl⟩, hV, hH, hQ, hR9, hX9, ⟨_, _, _, _, _, _, _, _, _, _, _, _, _, _, _, _, _, _, _, _, hO, rfl⟩, rfl⟩
  · refine ⟨_, rfl, _, _, _, rfl, fun c => ?_, rfl⟩
    obtain ⟨x9, y9, h90, h91, rfl⟩ := hc0; have h92 := (List.getElem?_eq_some_iff.mp h91).1; simp only [an_collision, if_neg (show ¬ (z < 0 ∨ ((colO (sB S).1 (sB S).1.length).length : Int) ≤ z) by omega), h91]
    exact ⟨fun h => (by first | exact rfl | trivial | simp at h), _, _, wV, wH, wQ, wR, wX, ⟨gbf, hT, hcb, rfl⟩, ⟨g, hM, rfl⟩, hV, hH, hQ, hR9, hX9, ⟨_, _, _, _, _, _, _, _, _, _, _, _, _, _, _, _, _, _, _, _, hO, rfl⟩, rfl⟩
