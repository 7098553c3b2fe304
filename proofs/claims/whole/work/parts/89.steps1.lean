/-! methods that change the object at most -/
section OBJ
variable {l : Launch} {D : va_G} {K : Nat → ClassId} {z0 : Nat} {y : MethodName} {cc : ByteArray} {nL : Nat} {ret : Option FieldType} {rm : Room} {avs : List Value} {c1 w : va_W} {x : Nat × va_E} {Ps Ps' : Option Value → va_W → Prop} {Px Px' : String → va_W → Prop}
theorem obj_perm {r : va_W} (h : w.Perm (c1 ++ r)) (x' : Nat × va_E) : frO r (x' :: c1) (x' :: w) := by
  refine frO.pm ?_
  have h1 : (r ++ (x' :: c1)).Perm ((x' :: c1) ++ r) := List.perm_append_comm
  exact h1.trans (h.symm.cons x')
theorem CX.obj (M : CX l D K z0 y cc nL ret rm avs (x :: c1) Ps Px) (hw : ∃ r : va_W, w.Perm (c1 ++ r)) (hp : ∀ v u, Ps v u → ∃ x', u = x' :: c1 ∧ Ps' v (x' :: w)) (hx : ∀ E u, Px E u → ∃ x', u = x' :: c1 ∧ Px' E (x' :: w)) : CX l D K z0 y cc nL ret rm avs (x :: w) Ps' Px' := by
  obtain ⟨r, hw⟩ := hw
  refine CX.fr (wr := r) M (hw.cons x) (fun v u h => ?_) (fun E u h => ?_)
  · obtain ⟨x', rfl, h2⟩ := hp v u h
    exact ⟨_, obj_perm hw x', h2⟩
  · obtain ⟨x', rfl, h2⟩ := hx E u h
    exact ⟨_, obj_perm hw x', h2⟩
theorem CT.obj (M : CT l D K z0 y cc nL ret rm avs (x :: c1) Ps) (hw : ∃ r : va_W, w.Perm (c1 ++ r)) (hp : ∀ v u, Ps v u → ∃ x', u = x' :: c1 ∧ Ps' v (x' :: w)) : CT l D K z0 y cc nL ret rm avs (x :: w) Ps' := by
  obtain ⟨r, hw⟩ := hw
  refine CT.fr (wr := r) M (hw.cons x) (fun v u h => ?_)
  obtain ⟨x', rfl, h2⟩ := hp v u h
  exact ⟨_, obj_perm hw x', h2⟩
theorem pmE (B B' : List va_W) (is js : List Nat) (e1 : w = B.flatten) {n : Nat} (hn : B.length = n) (h : (is ++ js).isPerm (List.range n) = true) (hm : is.map (fun i => B[i]?) = B'.map some) (e2 : B'.flatten = c1) : ∃ r : va_W, w.Perm (c1 ++ r) := by
  subst e1; subst e2; subst hn
  exact pmB is js h hm
end OBJ
def an_rule (S : Sx) (z : Int) (w : Int) : An := fun _ => if 0 ≤ z ∧ z < (sB S).1.length then (if 0 ≤ w ∧ w ≤ 5 then (0, ruA (sB S).1 z w, S) else (2, 0, S)) else (1, 0, S)
theorem dk_rule (l : Launch) (hl0 : l.stackTraces = false) (D : va_G) (K : Nat → ClassId) (z0 : Nat) (N : Nat → Nat) (d0 : Nat) {n : Nat} {S : Sx} {fs : List Value} {wD : va_W} (hn : n < 512) (hD : DkI K N n S fs wD) (hS : SxI n S) (z : Int) (w : Int) (hz : -2147483648 ≤ z ∧ z < 2147483648) (hw : -2147483648 ≤ w ∧ w < 2147483648) :
    CX l D K z0 yX10_rule cX10_rule 3 (some .int) rmD [.ref d0, .int (iI z), .int (iI w)] ((d0, .inr (10, fs)) :: wD) (fun v u => ∃ (zr : Int) (fs2 : List Value) (wD2 : va_W), v = some (.int (iI zr)) ∧ PRg K N n (an_rule S z w) zr fs2 wD2 ∧ u = (d0, .inr (10, fs2)) :: wD2) (fun E u => ∃ (fs2 : List Value) (wD2 : va_W), u = (d0, .inr (10, fs2)) :: wD2 ∧ ((E = "java/lang/IndexOutOfBoundsException" ∧ PXg K N n (an_rule S z w) 1 fs2 wD2) ∨ (E = "java/lang/IllegalArgumentException" ∧ PXg K N n (an_rule S z w) 2 fs2 wD2))) := by
  have hD0 := hD.up hn
  have hS0 := hS.up hn
  obtain ⟨pl, wA, wB, wV, wH, wQ, w0, w1, wT, wU, wG, wP, ⟨g, hT, rfl⟩, ⟨gk, gp, gc, gs, gl, gn, gq, gr, lc, hB, hP, hCh, rfl⟩, hV9, ⟨gB, bs, hH, hbs, hhl, rfl⟩, ⟨xg, gd, gm, ge, gv, gnn, gt, hTx, hQ9, rfl⟩, h0, h1, hTu, hUu, hG, hP9, rfl, rfl⟩ := hD
  refine CX.wide (CX.obj (c_X10_rule l hl0 D K z0 d0 (N 0) (N 1) (N 2) (N 3) (N 4) (N 5) (N 6) (N 7) (N 8) (N 9) (N 10) (N 11) (N 12) (sE S) (sN S) (N 40) (N 41) (N 42) (N 43) (N 44) (N 45) (N 46) (N 47) lc gk gp gc gs gl (sB S).1 ((sB S).2.1.length : Int) (sB S).2.2.1 (sB S).2.2.2.1 ((sB S).2.2.2.2.length : Int) z w hB hS.1.1 hz hw) (pmE [[(N 0, .inr (7, [.ref (N 13), .int (iI ((sW S).length : Int))]))], [(N 13, aI (K 2) 100 g)], [(N 5, .inr (0, [.ref (N 40), .ref (N 41), .ref (N 42), .ref (N 43), .ref (N 44), .int (iI ((sB S).1.length : Int)), .ref (N 45), .ref (N 46), .ref (N 47), .int (iI ((sB S).2.1.length : Int)), .int (iI (sB S).2.2.1), .int (iI (sB S).2.2.2.1), va_rf lc, .int (iI ((sB S).2.2.2.2.length : Int))]))], [(N 40, aI (K 0) 24 gk)], [(N 41, aI (K 0) 24 gp)], [(N 42, aI (K 0) 24 gc)], [(N 43, aJ (K 1) 24 gs)], [(N 44, aJ (K 1) 24 gl)], [(N 45, aI (K 0) 30 gn)], [(N 46, aJ (K 1) 30 gq)], [(N 47, aJ (K 1) 30 gr)], wV, [(N 9, .inr (3, [.ref (N 15), .int (iI ((sH S).length : Int))]))], [(N 15, aR (K 5) 8 gB)], plW K bs, [(N 10, .inr (4, [.ref (N 70), .ref (N 72), .ref (N 73), .ref (N 74), .ref (N 75), .ref (N 76), .ref (N 77), .int (iI ((sQ S).2.1.length : Int)), .int (iI (sQ S).2.2.1), .int (iI (sQ S).2.2.2.1), .int (iI (sQ S).2.2.2.2.1), .int (iI (sQ S).2.2.2.2.2.1), .int (iI (sQ S).2.2.2.2.2.2), .int (iI (sT S))]))], [(N 70, .inr (7, [.ref (N 71), .int (iI ((sQ S).1.length : Int))]))], [(N 71, aI (K 2) 1200 xg)], [(N 72, aI (K 0) 50 gd)], [(N 73, aI (K 0) 50 gm)], [(N 74, aI (K 0) 50 ge)], [(N 75, aI (K 0) 50 gv)], [(N 76, aI (K 0) 50 gnn)], [(N 77, aI (K 0) 50 gt)], w0, w1, wT, wU, wG, wP, clW K pl] [[(N 5, .inr (0, [.ref (N 40), .ref (N 41), .ref (N 42), .ref (N 43), .ref (N 44), .int (iI ((sB S).1.length : Int)), .ref (N 45), .ref (N 46), .ref (N 47), .int (iI ((sB S).2.1.length : Int)), .int (iI (sB S).2.2.1), .int (iI (sB S).2.2.2.1), va_rf lc, .int (iI ((sB S).2.2.2.2.length : Int))]))], [(N 40, aI (K 0) 24 gk)], [(N 41, aI (K 0) 24 gp)], [(N 42, aI (K 0) 24 gc)], [(N 43, aJ (K 1) 24 gs)], [(N 44, aJ (K 1) 24 gl)]] [2, 3, 4, 5, 6, 7] [0, 1, 8, 9, 10, 11, 12, 13, 14, 15, 16, 17, 18, 19, 20, 21, 22, 23, 24, 25, 26, 27, 28, 29, 30] rfl (n := 31) rfl (by decide) rfl rfl) (fun v u hp => ?_) (fun E u hp => ?_)) (by unfold rmLe; decide)
  · obtain ⟨rfl, hc0, hc1, rfl⟩ := hp
    refine ⟨_, rfl, _, _, _, rfl, ⟨cm0, ?_, ?_, ?_, ?_⟩, rfl⟩
    · simp only [an_rule, if_pos hc0, if_pos hc1]
    · simp only [an_rule, if_pos hc0, if_pos hc1]
    · simp only [an_rule, if_pos hc0, if_pos hc1]; exact hS0
    · simp only [an_rule, if_pos hc0, if_pos hc1]; exact hD0
  · rcases hp with ⟨rfl, hc0, rfl⟩ | ⟨rfl, hc0, hc1, rfl⟩
    · refine ⟨_, rfl, _, _, rfl, Or.inl ⟨rfl, cm0, ?_, ?_, ?_⟩⟩
      · simp only [an_rule, if_neg hc0]
      · simp only [an_rule, if_neg hc0]; exact hS0
      · simp only [an_rule, if_neg hc0]; exact hD0
    · refine ⟨_, rfl, _, _, rfl, Or.inr (⟨rfl, cm0, ?_, ?_, ?_⟩)⟩
      · simp only [an_rule, if_pos hc0, if_neg hc1]
      · simp only [an_rule, if_pos hc0, if_neg hc1]; exact hS0
      · simp only [an_rule, if_pos hc0, if_neg hc1]; exact hD0
theorem md_rule (l : Launch) (D : va_G) (K : Nat → ClassId) (z0 : Nat) (M MH ME MS : Nat → Nat) (m0 : Nat) {n : Nat} {xth : Int} {S : Sx} {fm : List Value} {wM : va_W} (hM : MoI K M MH ME MS xth S fm wM) (hS : SxI n S) (z : Int) (w : Int) (hz : -2147483648 ≤ z ∧ z < 2147483648) (hw : -2147483648 ≤ w ∧ w < 2147483648) :
    CT l D K z0 yX11_rule cX11_rule 3 (some .int) rmM [.ref m0, .int (iI z), .int (iI w)] ((m0, .inr (11, fm)) :: wM) (fun v u => ∃ (zr : Int) (fm2 : List Value) (wM2 : va_W), v = some (.int (iI zr)) ∧ QRg K M MH ME MS (an_rule S z w) zr fm2 wM2 ∧ u = (m0, .inr (11, fm2)) :: wM2) := by
  obtain ⟨wA, wB, wV, wH, wQ, wR, wX, ⟨gbf, hT, hcb, rfl⟩, ⟨g, hM, rfl⟩, hV, hH, hQ, hR9, hX9, ⟨xat, xwr, xwd, xlo, xhi, xwl, xml, xkl, xfi, xse, xdn, xon, xtw, xol, xrw, xgl, xus, xpr, xmk, xab, hO, he⟩, rfl⟩ := hM
  rw [he]
  refine CT.wide (CT.obj (c_X11_rule l D K z0 m0 M xth ((sH S).length : Int) (sN S) ((sW S).length : Int) xat (sE S) xwr xwd xlo xhi xwl xml xkl xfi xse xdn xon xtw xol xrw xgl xus xpr xmk xab g (sB S).1 (sB S).2.1 (sB S).2.2.1 (sB S).2.2.2.1 ((sB S).2.2.2.2.length : Int) z w hM hS.1.1 hz hw) (pmE [[(M 6, aI (K 2) 100 gbf)], [(M 1, aI (K 0) 1247 g)], wV, wH, wQ, wR, wX] [[(M 1, aI (K 0) 1247 g)]] [1] [0, 2, 3, 4, 5, 6] rfl (n := 7) rfl (by decide) rfl rfl) (fun v u hp => ?_)) (by unfold rmLe; decide)
  rcases hp with ⟨rfl, hc0, rfl⟩ | ⟨rfl, hc0, hc1, rfl⟩ | ⟨rfl, hc0, hc1, rfl⟩
  · refine ⟨_, rfl, _, _, _, rfl, fun c => ?_, rfl⟩
    simp only [an_rule, if_neg hc0]
    exact ⟨fun h => (by first | exact rfl | trivial | simp at h), _, _, wV, wH, wQ, wR, wX, ⟨gbf, hT, hcb, rfl⟩, ⟨g, hM, rfl⟩, hV, hH, hQ, hR9, hX9, ⟨_, _, _, _, _, _, _, _, _, _, _, _, _, _, _, _, _, _, _, _, hO, rfl⟩, rfl⟩
  · refine ⟨_, rfl, _, _, _, rfl, fun c => ?_, rfl⟩
    simp only [an_rule, if_pos hc0, if_neg hc1]
    exact ⟨fun h => (by first | exact rfl | trivial | simp at h), _, _, wV, wH, wQ, wR, wX, ⟨gbf, hT, hcb, rfl⟩, ⟨g, hM, rfl⟩, hV, hH, hQ, hR9, hX9, ⟨_, _, _, _, _, _, _, _, _, _, _, _, _, _, _, _, _, _, _, _, hO, rfl⟩, rfl⟩
  · refine ⟨_, rfl, _, _, _, rfl, fun c => ?_, rfl⟩
    simp only [an_rule, if_pos hc0, if_pos hc1]
    exact ⟨fun h => (by first | exact rfl | trivial | simp at h), _, _, wV, wH, wQ, wR, wX, ⟨gbf, hT, hcb, rfl⟩, ⟨g, hM, rfl⟩, hV, hH, hQ, hR9, hX9, ⟨_, _, _, _, _, _, _, _, _, _, _, _, _, _, _, _, _, _, _, _, hO, rfl⟩, rfl⟩
