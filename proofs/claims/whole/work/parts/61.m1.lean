theorem fmo_6 {rs : List Rl} (h : RW rs) {z b : Int} (h0 : 0 ≤ z) (h1 : z < rs.length) (hb : b = 0 ∨ b = 1) : b = 0 → (fmo (rget rs z) b).length ≤ 6 := by
  intro e
  subst e
  have := h.bd h0 h1
  show (rget rs z).2.2.2.1.length ≤ 6
  omega
theorem MRow.ru {g : Nat → Int} {rs : List Rl} {ps : List Pr} {md th nc : Int} (h : MRow g rs ps md th nc) {z w : Int} (h0 : 0 ≤ z) (h1 : z < rs.length) (hw : 0 ≤ w ∧ w ≤ 4) : g (5 + z * 23 + w).toNat = ruA rs z w := by
  obtain ⟨-, h2, -⟩ := h
  obtain ⟨⟨a0, a1, a2⟩, a3, a4, -⟩ := h2 z h0 h1
  rcases (show w = 0 ∨ w = 1 ∨ w = 2 ∨ w = 3 ∨ w = 4 by omega) with rfl | rfl | rfl | rfl | rfl
  · exact a0
  · exact a1
  · exact a2
  · exact a3
  · exact a4
theorem btr_irr {rs : List Rl} {x z : Int} (e : x = z) : ¬ btr rs x z := by subst e; unfold btr; omega
def rm_X11_thrown : Room := { frames := 1, cells := 0, slots := 0, locals := 12 }
set_option maxHeartbeats 4000000 in
set_option maxRecDepth 100000 in
theorem c_X11_thrown (l : Launch) (D : va_G) (K : Nat → ClassId) (z0 : Nat) (m0 : Nat) (M : Nat → Nat) (xth : Int) (xrm : Int) (xsv : Int) (xln : Int) (xat : Int) (xer : Int) (xwr : Int) (xwd : Int) (xlo : Int) (xhi : Int) (xwl : Int) (xml : Int) (xkl : Int) (xfi : Int) (xse : Int) (xdn : Int) (xon : Int) (xtw : Int) (xol : Int) (xrw : Int) (xgl : Int) (xus : Int) (xpr : Int) (xmk : Int) (xab : Int) : CT l D K z0 yX11_thrown cX11_thrown 1 (some .int) rm_X11_thrown [.ref m0] [(m0, mO M xth xrm xsv xln xat xer xwr xwd xlo xhi xwl xml xkl xfi xse xdn xon xtw xol xrw xgl xus xpr xmk xab)] (fun v9 u9 => v9 = some (.int (iI xth)) ∧ u9 = [(m0, mO M xth xrm xsv xln xat xer xwr xwd xlo xhi xwl xml xkl xfi xse xdn xon xtw xol xrw xgl xus xpr xmk xab)]) := by
  refine CT.start RX11 "thrown" (by decide) rfl rfl (Nat.le_of_ble_eq_true rfl) ?_
  intro p9 e9 s9 m9 ag9 bl9 mt9 c9 A9 Q9 ls F G hR hl
  have hl : lv_has ls 1 [(0, .ref m0)] := hl
  refine lv_aload_n F.1 F.2.1 dX11_thrown_0 rfl (lv_at hl 0 rfl) ?_
  refine ad_get F G fl_X11_89 0 rfl rfl dX11_thrown_1 ?_
  exact ad_ireturn F G hR rfl (Nat.le_of_ble_eq_true rfl) (Nat.le_of_ble_eq_true rfl) ⟨rfl, rfl⟩ dX11_thrown_4

def rm_X11_isBetween : Room := { frames := 1, cells := 0, slots := 0, locals := 12 }
set_option maxHeartbeats 4000000 in
set_option maxRecDepth 100000 in
theorem c_X11_isBetween (l : Launch) (D : va_G) (K : Nat → ClassId) (z0 : Nat) (v : Int) (lo : Int) (hi : Int) (hv : -2147483648 ≤ v ∧ v < 2147483648) (hlo : -2147483648 ≤ lo ∧ lo < 2147483648) (hhi : -2147483648 ≤ hi ∧ hi < 2147483648) : CT l D K z0 yX11_isBetween cX11_isBetween 3 (some .boolean) rm_X11_isBetween [.int (iI v), .int (iI lo), .int (iI hi)] [] (fun v9 u9 => (v9 = some (.int (iI 1)) ∧ (lo ≤ v ∧ v ≤ hi) ∧ u9 = []) ∨ (v9 = some (.int (iI 0)) ∧ (¬ (lo ≤ v ∧ v ≤ hi)) ∧ u9 = [])) := by
  refine CT.start RX11 "isBetween" (by decide) rfl rfl (Nat.le_of_ble_eq_true rfl) ?_
  intro p9 e9 s9 m9 ag9 bl9 mt9 c9 A9 Q9 ls F G hR hl
  have hl : lv_has ls 3 [(0, .int (iI v)), (1, .int (iI lo)), (2, .int (iI hi))] := hl
  refine lv_iload_n F.1 F.2.1 dX11_isBetween_0 rfl (lv_at hl 0 rfl) ?_
  refine lv_iload_n F.1 F.2.1 dX11_isBetween_1 rfl (lv_at hl 1 rfl) ?_
  refine ad_icmp_lt (tgt := 14) F (by omega) dX11_isBetween_2 (by decide) (fun cc_1 => ?_) (fun cc_1 => ?_)
  · refine ad_iconst F dX11_isBetween_14 ?_
    exact ad_zreturn F G hR rfl (Nat.le_of_ble_eq_true rfl) (Nat.le_of_ble_eq_true rfl) rfl (Or.inr (⟨rfl, (by omega), rfl⟩)) dX11_isBetween_15
  · refine lv_iload_n F.1 F.2.1 dX11_isBetween_5 rfl (lv_at hl 0 rfl) ?_
    refine lv_iload_n F.1 F.2.1 dX11_isBetween_6 rfl (lv_at hl 2 rfl) ?_
    refine ad_icmp_gt (tgt := 14) F (by omega) dX11_isBetween_7 (by decide) (fun cc_2 => ?_) (fun cc_2 => ?_)
    · refine ad_iconst F dX11_isBetween_14 ?_
      exact ad_zreturn F G hR rfl (Nat.le_of_ble_eq_true rfl) (Nat.le_of_ble_eq_true rfl) rfl (Or.inr (⟨rfl, (by omega), rfl⟩)) dX11_isBetween_15
    · refine ad_iconst F dX11_isBetween_10 ?_
      refine lv_goto (tgt := 15) F.1 F.2.1 dX11_isBetween_11 (by decide) ?_
      exact ad_zreturn F G hR rfl (Nat.le_of_ble_eq_true rfl) (Nat.le_of_ble_eq_true rfl) rfl (Or.inl ⟨rfl, (by omega), rfl⟩) dX11_isBetween_15

def rm_X11_copyRow : Room := { frames := 1, cells := 0, slots := 0, locals := 12 }
set_option maxHeartbeats 4000000 in
set_option maxRecDepth 100000 in
theorem c_X11_copyRow (l : Launch) (D : va_G) (K : Nat → ClassId) (z0 : Nat) (p1 : Nat) (p2 : Nat) (g1 : Nat → Int) (g2 : Nat → Int) : CT l D K z0 yX11_copyRow cX11_copyRow 3 none rm_X11_copyRow [.ref p1, .ref p2] [(p1, aI (K 0) 1247 g1), (p2, aI (K 0) 1247 g2)] (fun v9 u9 => ∃ (g3 : Nat → Int), v9 = none ∧ (∀ j : Nat, j < 1247 → g3 j = g1 j) ∧ u9 = [(p1, aI (K 0) 1247 g1), (p2, aI (K 0) 1247 g3)]) := by
  refine CT.start RX11 "copyRow" (by decide) rfl rfl (Nat.le_of_ble_eq_true rfl) ?_
  intro p9 e9 s9 m9 ag9 bl9 mt9 c9 A9 Q9 ls F G hR hl
  have hl : lv_has ls 3 [(0, .ref p1), (1, .ref p2)] := hl
  refine ad_iconst F dX11_copyRow_0 ?_
  refine lv_istore_n (lv' := [(2, .int (iI 0)), (0, .ref p1), (1, .ref p2)]) F.1 F.2.1 dX11_copyRow_1 rfl hl (by decide) rfl (fun ls hl => ?_)
  have lp2 : ∀ (n2 : Nat) (i : Int) (gv : Nat → Int) (H : Heap) (locs : List Loc) (ls : Array Slot), (0 ≤ i ∧ i ≤ 1247) → (∀ j : Nat, (j : Int) < i → gv j = g1 j) → (1247 - i) < (n2 : Int) → ad_G D A9 s9.heap H locs [(p1, aI (K 0) 1247 g1), (p2, aI (K 0) 1247 gv)] → lv_has ls 3 [(0, .ref p1), (1, .ref p2), (2, .int (iI i))] → W p9 l e9 rm_X11_copyRow s9 m9 ag9 bl9 mt9 c9 H locs 0 0 Q9 (F0 m9 2 ls []) := by
    intro n2
    induction n2 with
    | zero =>
      intro i gv H locs ls hi hg hm2
      exact absurd hm2 (by omega)
    | succ n2 ih2 =>
      intro i gv H locs ls hi hg hm2 G hl
      refine lv_iload_n F.1 F.2.1 dX11_copyRow_2 rfl (lv_at hl 2 rfl) ?_
      refine ad_sipush F dX11_copyRow_3 (by decide) ?_
      refine ad_icmp_ge (tgt := 21) F (by omega) dX11_copyRow_6 (by decide) (fun cc_1 => ?_) (fun cc_1 => ?_)
      · exact ad_vreturn F G hR rfl (Nat.le_of_ble_eq_true rfl) (Nat.le_of_ble_eq_true rfl) ⟨gv, rfl, (fun j h => hg j (by omega)), rfl⟩ dX11_copyRow_21
      · refine lv_aload_n F.1 F.2.1 dX11_copyRow_9 rfl (lv_at hl 1 rfl) ?_
        refine lv_iload_n F.1 F.2.1 dX11_copyRow_10 rfl (lv_at hl 2 rfl) ?_
        refine lv_aload_n F.1 F.2.1 dX11_copyRow_11 rfl (lv_at hl 0 rfl) ?_
        refine lv_iload_n F.1 F.2.1 dX11_copyRow_12 rfl (lv_at hl 2 rfl) ?_
        refine ad_iald F G 0 rfl (w := g1 i.toNat) (by omega) rfl dX11_copyRow_13 ?_
        refine ad_iast F G 1 rfl (by omega) (ws' := [(p1, aI (K 0) 1247 g1), (p2, aI (K 0) 1247 (va_up gv i.toNat (g1 i.toNat)))]) rfl dX11_copyRow_14 (fun H locs G => ?_)
        refine ad_iinc (lv' := [(2, .int (iI (i + 1))), (0, .ref p1), (1, .ref p2)]) F dX11_copyRow_15 hl (k := 2) rfl (by decide) rfl (fun ls hl => ?_)
        refine lv_goto (tgt := 2) F.1 F.2.1 dX11_copyRow_18 (by decide) ?_
        exact ih2 (i + 1) (va_up gv i.toNat (g1 i.toNat)) _ _ _ (by omega) (fun j h => by simp only [va_up]; split; (rename_i e; rw [e]); exact hg j (by omega)) (by omega) (G.perm (ws' := [(p1, aI (K 0) 1247 g1), (p2, aI (K 0) 1247 (va_up gv i.toNat (g1 i.toNat)))]) [0, 1] rfl rfl) (lv_sub hl [1, 2, 0] rfl)
  exact lp2 ((((1247 - 0 : Int)) + 1).toNat) 0 g2 _ _ _ (by omega) (fun j h => by omega) (by omega) (G.perm (ws' := [(p1, aI (K 0) 1247 g1), (p2, aI (K 0) 1247 g2)]) [0, 1] rfl rfl) (lv_sub hl [1, 2, 0] rfl)

def rm_X11_fails_0 : Room := { frames := 1, cells := 0, slots := 0, locals := 12 }
set_option maxHeartbeats 4000000 in
set_option maxRecDepth 100000 in
theorem c_X11_fails_0 (l : Launch) (D : va_G) (K : Nat → ClassId) (z0 : Nat) (m0 : Nat) (M : Nat → Nat) (xth : Int) (xrm : Int) (xsv : Int) (xln : Int) (xat : Int) (xer : Int) (xwr : Int) (xwd : Int) (xlo : Int) (xhi : Int) (xwl : Int) (xml : Int) (xkl : Int) (xfi : Int) (xse : Int) (xdn : Int) (xon : Int) (xtw : Int) (xol : Int) (xrw : Int) (xgl : Int) (xus : Int) (xpr : Int) (xmk : Int) (xab : Int) (n : Int) (hn : -2147483648 ≤ n ∧ n < 2147483648) : CT l D K z0 yX11_fails cX11_fails 3 (some .boolean) rm_X11_fails_0 [.ref m0, .int (iI n), .int (iI 0)] [(m0, mO M xth xrm xsv xln xat xer xwr xwd xlo xhi xwl xml xkl xfi xse xdn xon xtw xol xrw xgl xus xpr xmk xab)] (fun v9 u9 => v9 = some (.int (iI 0)) ∧ u9 = [(m0, mO M 0 xrm xsv xln xat xer xwr xwd xlo xhi xwl xml xkl xfi xse xdn xon xtw xol xrw xgl xus xpr xmk xab)]) := by
  refine CT.start RX11 "fails" (by decide) rfl rfl (Nat.le_of_ble_eq_true rfl) ?_
  intro p9 e9 s9 m9 ag9 bl9 mt9 c9 A9 Q9 ls F G hR hl
  have hl : lv_has ls 3 [(0, .ref m0), (1, .int (iI n)), (2, .int (iI 0))] := hl
  refine lv_aload_n F.1 F.2.1 dX11_fails_0 rfl (lv_at hl 0 rfl) ?_
  refine lv_iload_n F.1 F.2.1 dX11_fails_1 rfl (lv_at hl 2 rfl) ?_
  refine ad_if_eq (tgt := 9) F (by decide) dX11_fails_2 (by decide) (fun _ => ?_) (fun cc_1 => absurd cc_1 (by decide))
  refine ad_iconst F dX11_fails_9 ?_
  refine ad_put F G fl_X11_89 0 rfl rfl rfl (Nat.le_of_ble_eq_true rfl) (ws' := [(m0, mO M 0 xrm xsv xln xat xer xwr xwd xlo xhi xwl xml xkl xfi xse xdn xon xtw xol xrw xgl xus xpr xmk xab)]) rfl dX11_fails_10 (fun H locs G => ?_)
  refine lv_iload_n F.1 F.2.1 dX11_fails_13 rfl (lv_at hl 2 rfl) ?_
  exact ad_zreturn F G hR rfl (Nat.le_of_ble_eq_true rfl) (Nat.le_of_ble_eq_true rfl) rfl ⟨rfl, rfl⟩ dX11_fails_14

def rm_X11_fails_1 : Room := { frames := 1, cells := 0, slots := 0, locals := 12 }
set_option maxHeartbeats 4000000 in
set_option maxRecDepth 100000 in
theorem c_X11_fails_1 (l : Launch) (D : va_G) (K : Nat → ClassId) (z0 : Nat) (m0 : Nat) (M : Nat → Nat) (xth : Int) (xrm : Int) (xsv : Int) (xln : Int) (xat : Int) (xer : Int) (xwr : Int) (xwd : Int) (xlo : Int) (xhi : Int) (xwl : Int) (xml : Int) (xkl : Int) (xfi : Int) (xse : Int) (xdn : Int) (xon : Int) (xtw : Int) (xol : Int) (xrw : Int) (xgl : Int) (xus : Int) (xpr : Int) (xmk : Int) (xab : Int) (n : Int) (hn : -2147483648 ≤ n ∧ n < 2147483648) : CT l D K z0 yX11_fails cX11_fails 3 (some .boolean) rm_X11_fails_1 [.ref m0, .int (iI n), .int (iI 1)] [(m0, mO M xth xrm xsv xln xat xer xwr xwd xlo xhi xwl xml xkl xfi xse xdn xon xtw xol xrw xgl xus xpr xmk xab)] (fun v9 u9 => v9 = some (.int (iI 1)) ∧ u9 = [(m0, mO M n xrm xsv xln xat xer xwr xwd xlo xhi xwl xml xkl xfi xse xdn xon xtw xol xrw xgl xus xpr xmk xab)]) := by
  refine CT.start RX11 "fails" (by decide) rfl rfl (Nat.le_of_ble_eq_true rfl) ?_
  intro p9 e9 s9 m9 ag9 bl9 mt9 c9 A9 Q9 ls F G hR hl
  have hl : lv_has ls 3 [(0, .ref m0), (1, .int (iI n)), (2, .int (iI 1))] := hl
  refine lv_aload_n F.1 F.2.1 dX11_fails_0 rfl (lv_at hl 0 rfl) ?_
  refine lv_iload_n F.1 F.2.1 dX11_fails_1 rfl (lv_at hl 2 rfl) ?_
  refine ad_if_eq (tgt := 9) F (by decide) dX11_fails_2 (by decide) (fun cc_1 => absurd cc_1 (by decide)) (fun _ => ?_)
  refine lv_iload_n F.1 F.2.1 dX11_fails_5 rfl (lv_at hl 1 rfl) ?_
  refine lv_goto (tgt := 10) F.1 F.2.1 dX11_fails_6 (by decide) ?_
  refine ad_put F G fl_X11_89 0 rfl rfl rfl (Nat.le_of_ble_eq_true rfl) (ws' := [(m0, mO M n xrm xsv xln xat xer xwr xwd xlo xhi xwl xml xkl xfi xse xdn xon xtw xol xrw xgl xus xpr xmk xab)]) rfl dX11_fails_10 (fun H locs G => ?_)
  refine lv_iload_n F.1 F.2.1 dX11_fails_13 rfl (lv_at hl 2 rfl) ?_
  exact ad_zreturn F G hR rfl (Nat.le_of_ble_eq_true rfl) (Nat.le_of_ble_eq_true rfl) rfl ⟨rfl, rfl⟩ dX11_fails_14

def rm_X11_of_0 : Room := { frames := 1, cells := 0, slots := 0, locals := 12 }
set_option maxHeartbeats 4000000 in
set_option maxRecDepth 100000 in
theorem c_X11_of_0 (l : Launch) (D : va_G) (K : Nat → ClassId) (z0 : Nat) (m0 : Nat) (M : Nat → Nat) (xth : Int) (xrm : Int) (xsv : Int) (xln : Int) (xat : Int) (xer : Int) (xwr : Int) (xwd : Int) (xlo : Int) (xhi : Int) (xwl : Int) (xml : Int) (xkl : Int) (xfi : Int) (xse : Int) (xdn : Int) (xon : Int) (xtw : Int) (xol : Int) (xrw : Int) (xgl : Int) (xus : Int) (xpr : Int) (xmk : Int) (xab : Int) (g : Nat → Int) (rs : List Rl) (ps : List Pr) (md : Int) (th : Int) (nc : Int) (z : Int) (hM : MRow g rs ps md th nc) (hW : RW rs) (hz : 0 ≤ z ∧ z < rs.length) : CT l D K z0 yX11_of cX11_of 3 (some .int) rm_X11_of_0 [.ref m0, .int (iI z), .int (iI 0)] [(m0, mO M xth xrm xsv xln xat xer xwr xwd xlo xhi xwl xml xkl xfi xse xdn xon xtw xol xrw xgl xus xpr xmk xab), (M 1, aI (K 0) 1247 g)] (fun v9 u9 => v9 = some (.int (iI ((rget rs z).1))) ∧ u9 = [(m0, mO M xth xrm xsv xln xat xer xwr xwd xlo xhi xwl xml xkl xfi xse xdn xon xtw xol xrw xgl xus xpr xmk xab), (M 1, aI (K 0) 1247 g)]) := by
  refine CT.start RX11 "of" (by decide) rfl rfl (Nat.le_of_ble_eq_true rfl) ?_
  intro p9 e9 s9 m9 ag9 bl9 mt9 c9 A9 Q9 ls F G hR hl
  have hl : lv_has ls 3 [(0, .ref m0), (1, .int (iI z)), (2, .int (iI 0))] := hl
  have hn := hW.1
  refine lv_aload_n F.1 F.2.1 dX11_of_0 rfl (lv_at hl 0 rfl) ?_
  refine ad_get F G fl_X11_9 0 rfl rfl dX11_of_1 ?_
  refine ad_iconst F dX11_of_4 ?_
  refine lv_iload_n F.1 F.2.1 dX11_of_5 rfl (lv_at hl 1 rfl) ?_
  refine ad_bipush F dX11_of_6 (by decide) ?_
  refine ad_imul F dX11_of_8 ?_
  refine ad_iadd F dX11_of_9 ?_
  refine lv_iload_n F.1 F.2.1 dX11_of_10 rfl (lv_at hl 2 rfl) ?_
  refine ad_iadd F dX11_of_11 ?_
  refine ad_iald F G 1 rfl (w := (rget rs z).1) (by omega) (hM.2.1 z hz.1 hz.2).1.1 dX11_of_12 ?_
  exact ad_ireturn F G hR rfl (Nat.le_of_ble_eq_true rfl) (Nat.le_of_ble_eq_true rfl) ⟨rfl, rfl⟩ dX11_of_13

def rm_X11_of_1 : Room := { frames := 1, cells := 0, slots := 0, locals := 12 }
set_option maxHeartbeats 4000000 in
set_option maxRecDepth 100000 in
theorem c_X11_of_1 (l : Launch) (D : va_G) (K : Nat → ClassId) (z0 : Nat) (m0 : Nat) (M : Nat → Nat) (xth : Int) (xrm : Int) (xsv : Int) (xln : Int) (xat : Int) (xer : Int) (xwr : Int) (xwd : Int) (xlo : Int) (xhi : Int) (xwl : Int) (xml : Int) (xkl : Int) (xfi : Int) (xse : Int) (xdn : Int) (xon : Int) (xtw : Int) (xol : Int) (xrw : Int) (xgl : Int) (xus : Int) (xpr : Int) (xmk : Int) (xab : Int) (g : Nat → Int) (rs : List Rl) (ps : List Pr) (md : Int) (th : Int) (nc : Int) (z : Int) (hM : MRow g rs ps md th nc) (hW : RW rs) (hz : 0 ≤ z ∧ z < rs.length) : CT l D K z0 yX11_of cX11_of 3 (some .int) rm_X11_of_1 [.ref m0, .int (iI z), .int (iI 1)] [(m0, mO M xth xrm xsv xln xat xer xwr xwd xlo xhi xwl xml xkl xfi xse xdn xon xtw xol xrw xgl xus xpr xmk xab), (M 1, aI (K 0) 1247 g)] (fun v9 u9 => v9 = some (.int (iI ((rget rs z).2.1))) ∧ u9 = [(m0, mO M xth xrm xsv xln xat xer xwr xwd xlo xhi xwl xml xkl xfi xse xdn xon xtw xol xrw xgl xus xpr xmk xab), (M 1, aI (K 0) 1247 g)]) := by
  refine CT.start RX11 "of" (by decide) rfl rfl (Nat.le_of_ble_eq_true rfl) ?_
  intro p9 e9 s9 m9 ag9 bl9 mt9 c9 A9 Q9 ls F G hR hl
  have hl : lv_has ls 3 [(0, .ref m0), (1, .int (iI z)), (2, .int (iI 1))] := hl
  have hn := hW.1
  refine lv_aload_n F.1 F.2.1 dX11_of_0 rfl (lv_at hl 0 rfl) ?_
  refine ad_get F G fl_X11_9 0 rfl rfl dX11_of_1 ?_
  refine ad_iconst F dX11_of_4 ?_
  refine lv_iload_n F.1 F.2.1 dX11_of_5 rfl (lv_at hl 1 rfl) ?_
  refine ad_bipush F dX11_of_6 (by decide) ?_
  refine ad_imul F dX11_of_8 ?_
  refine ad_iadd F dX11_of_9 ?_
  refine lv_iload_n F.1 F.2.1 dX11_of_10 rfl (lv_at hl 2 rfl) ?_
  refine ad_iadd F dX11_of_11 ?_
  refine ad_iald F G 1 rfl (w := (rget rs z).2.1) (by omega) (hM.2.1 z hz.1 hz.2).1.2.1 dX11_of_12 ?_
  exact ad_ireturn F G hR rfl (Nat.le_of_ble_eq_true rfl) (Nat.le_of_ble_eq_true rfl) ⟨rfl, rfl⟩ dX11_of_13

def rm_X11_of_2 : Room := { frames := 1, cells := 0, slots := 0, locals := 12 }
set_option maxHeartbeats 4000000 in
set_option maxRecDepth 100000 in
theorem c_X11_of_2 (l : Launch) (D : va_G) (K : Nat → ClassId) (z0 : Nat) (m0 : Nat) (M : Nat → Nat) (xth : Int) (xrm : Int) (xsv : Int) (xln : Int) (xat : Int) (xer : Int) (xwr : Int) (xwd : Int) (xlo : Int) (xhi : Int) (xwl : Int) (xml : Int) (xkl : Int) (xfi : Int) (xse : Int) (xdn : Int) (xon : Int) (xtw : Int) (xol : Int) (xrw : Int) (xgl : Int) (xus : Int) (xpr : Int) (xmk : Int) (xab : Int) (g : Nat → Int) (rs : List Rl) (ps : List Pr) (md : Int) (th : Int) (nc : Int) (z : Int) (hM : MRow g rs ps md th nc) (hW : RW rs) (hz : 0 ≤ z ∧ z < rs.length) : CT l D K z0 yX11_of cX11_of 3 (some .int) rm_X11_of_2 [.ref m0, .int (iI z), .int (iI 2)] [(m0, mO M xth xrm xsv xln xat xer xwr xwd xlo xhi xwl xml xkl xfi xse xdn xon xtw xol xrw xgl xus xpr xmk xab), (M 1, aI (K 0) 1247 g)] (fun v9 u9 => v9 = some (.int (iI ((rget rs z).2.2.1))) ∧ u9 = [(m0, mO M xth xrm xsv xln xat xer xwr xwd xlo xhi xwl xml xkl xfi xse xdn xon xtw xol xrw xgl xus xpr xmk xab), (M 1, aI (K 0) 1247 g)]) := by
  refine CT.start RX11 "of" (by decide) rfl rfl (Nat.le_of_ble_eq_true rfl) ?_
  intro p9 e9 s9 m9 ag9 bl9 mt9 c9 A9 Q9 ls F G hR hl
  have hl : lv_has ls 3 [(0, .ref m0), (1, .int (iI z)), (2, .int (iI 2))] := hl
  have hn := hW.1
  refine lv_aload_n F.1 F.2.1 dX11_of_0 rfl (lv_at hl 0 rfl) ?_
  refine ad_get F G fl_X11_9 0 rfl rfl dX11_of_1 ?_
  refine ad_iconst F dX11_of_4 ?_
  refine lv_iload_n F.1 F.2.1 dX11_of_5 rfl (lv_at hl 1 rfl) ?_
  refine ad_bipush F dX11_of_6 (by decide) ?_
  refine ad_imul F dX11_of_8 ?_
  refine ad_iadd F dX11_of_9 ?_
  refine lv_iload_n F.1 F.2.1 dX11_of_10 rfl (lv_at hl 2 rfl) ?_
  refine ad_iadd F dX11_of_11 ?_
  refine ad_iald F G 1 rfl (w := (rget rs z).2.2.1) (by omega) (hM.2.1 z hz.1 hz.2).1.2.2 dX11_of_12 ?_
  exact ad_ireturn F G hR rfl (Nat.le_of_ble_eq_true rfl) (Nat.le_of_ble_eq_true rfl) ⟨rfl, rfl⟩ dX11_of_13

def rm_X11_of_3 : Room := { frames := 1, cells := 0, slots := 0, locals := 12 }
set_option maxHeartbeats 4000000 in
set_option maxRecDepth 100000 in
theorem c_X11_of_3 (l : Launch) (D : va_G) (K : Nat → ClassId) (z0 : Nat) (m0 : Nat) (M : Nat → Nat) (xth : Int) (xrm : Int) (xsv : Int) (xln : Int) (xat : Int) (xer : Int) (xwr : Int) (xwd : Int) (xlo : Int) (xhi : Int) (xwl : Int) (xml : Int) (xkl : Int) (xfi : Int) (xse : Int) (xdn : Int) (xon : Int) (xtw : Int) (xol : Int) (xrw : Int) (xgl : Int) (xus : Int) (xpr : Int) (xmk : Int) (xab : Int) (g : Nat → Int) (rs : List Rl) (ps : List Pr) (md : Int) (th : Int) (nc : Int) (z : Int) (hM : MRow g rs ps md th nc) (hW : RW rs) (hz : 0 ≤ z ∧ z < rs.length) : CT l D K z0 yX11_of cX11_of 3 (some .int) rm_X11_of_3 [.ref m0, .int (iI z), .int (iI 3)] [(m0, mO M xth xrm xsv xln xat xer xwr xwd xlo xhi xwl xml xkl xfi xse xdn xon xtw xol xrw xgl xus xpr xmk xab), (M 1, aI (K 0) 1247 g)] (fun v9 u9 => v9 = some (.int (iI ((rget rs z).2.2.2.1.length : Int))) ∧ u9 = [(m0, mO M xth xrm xsv xln xat xer xwr xwd xlo xhi xwl xml xkl xfi xse xdn xon xtw xol xrw xgl xus xpr xmk xab), (M 1, aI (K 0) 1247 g)]) := by
  refine CT.start RX11 "of" (by decide) rfl rfl (Nat.le_of_ble_eq_true rfl) ?_
  intro p9 e9 s9 m9 ag9 bl9 mt9 c9 A9 Q9 ls F G hR hl
  have hl : lv_has ls 3 [(0, .ref m0), (1, .int (iI z)), (2, .int (iI 3))] := hl
  have hn := hW.1
  refine lv_aload_n F.1 F.2.1 dX11_of_0 rfl (lv_at hl 0 rfl) ?_
  refine ad_get F G fl_X11_9 0 rfl rfl dX11_of_1 ?_
  refine ad_iconst F dX11_of_4 ?_
  refine lv_iload_n F.1 F.2.1 dX11_of_5 rfl (lv_at hl 1 rfl) ?_
  refine ad_bipush F dX11_of_6 (by decide) ?_
  refine ad_imul F dX11_of_8 ?_
  refine ad_iadd F dX11_of_9 ?_
  refine lv_iload_n F.1 F.2.1 dX11_of_10 rfl (lv_at hl 2 rfl) ?_
  refine ad_iadd F dX11_of_11 ?_
  refine ad_iald F G 1 rfl (w := ((rget rs z).2.2.2.1.length : Int)) (by omega) (hM.2.1 z hz.1 hz.2).2.1 dX11_of_12 ?_
  exact ad_ireturn F G hR rfl (Nat.le_of_ble_eq_true rfl) (Nat.le_of_ble_eq_true rfl) ⟨rfl, rfl⟩ dX11_of_13

def rm_X11_of_4 : Room := { frames := 1, cells := 0, slots := 0, locals := 12 }
set_option maxHeartbeats 4000000 in
set_option maxRecDepth 100000 in
theorem c_X11_of_4 (l : Launch) (D : va_G) (K : Nat → ClassId) (z0 : Nat) (m0 : Nat) (M : Nat → Nat) (xth : Int) (xrm : Int) (xsv : Int) (xln : Int) (xat : Int) (xer : Int) (xwr : Int) (xwd : Int) (xlo : Int) (xhi : Int) (xwl : Int) (xml : Int) (xkl : Int) (xfi : Int) (xse : Int) (xdn : Int) (xon : Int) (xtw : Int) (xol : Int) (xrw : Int) (xgl : Int) (xus : Int) (xpr : Int) (xmk : Int) (xab : Int) (g : Nat → Int) (rs : List Rl) (ps : List Pr) (md : Int) (th : Int) (nc : Int) (z : Int) (hM : MRow g rs ps md th nc) (hW : RW rs) (hz : 0 ≤ z ∧ z < rs.length) : CT l D K z0 yX11_of cX11_of 3 (some .int) rm_X11_of_4 [.ref m0, .int (iI z), .int (iI 4)] [(m0, mO M xth xrm xsv xln xat xer xwr xwd xlo xhi xwl xml xkl xfi xse xdn xon xtw xol xrw xgl xus xpr xmk xab), (M 1, aI (K 0) 1247 g)] (fun v9 u9 => v9 = some (.int (iI ((rget rs z).2.2.2.2.length : Int))) ∧ u9 = [(m0, mO M xth xrm xsv xln xat xer xwr xwd xlo xhi xwl xml xkl xfi xse xdn xon xtw xol xrw xgl xus xpr xmk xab), (M 1, aI (K 0) 1247 g)]) := by
  refine CT.start RX11 "of" (by decide) rfl rfl (Nat.le_of_ble_eq_true rfl) ?_
  intro p9 e9 s9 m9 ag9 bl9 mt9 c9 A9 Q9 ls F G hR hl
  have hl : lv_has ls 3 [(0, .ref m0), (1, .int (iI z)), (2, .int (iI 4))] := hl
  have hn := hW.1
  refine lv_aload_n F.1 F.2.1 dX11_of_0 rfl (lv_at hl 0 rfl) ?_
  refine ad_get F G fl_X11_9 0 rfl rfl dX11_of_1 ?_
  refine ad_iconst F dX11_of_4 ?_
  refine lv_iload_n F.1 F.2.1 dX11_of_5 rfl (lv_at hl 1 rfl) ?_
  refine ad_bipush F dX11_of_6 (by decide) ?_
  refine ad_imul F dX11_of_8 ?_
  refine ad_iadd F dX11_of_9 ?_
  refine lv_iload_n F.1 F.2.1 dX11_of_10 rfl (lv_at hl 2 rfl) ?_
  refine ad_iadd F dX11_of_11 ?_
  refine ad_iald F G 1 rfl (w := ((rget rs z).2.2.2.2.length : Int)) (by omega) (hM.2.1 z hz.1 hz.2).2.2.1 dX11_of_12 ?_
  exact ad_ireturn F G hR rfl (Nat.le_of_ble_eq_true rfl) (Nat.le_of_ble_eq_true rfl) ⟨rfl, rfl⟩ dX11_of_13

def rm_X11_of_x : Room := { frames := 1, cells := 0, slots := 0, locals := 12 }
set_option maxHeartbeats 4000000 in
set_option maxRecDepth 100000 in
theorem c_X11_of_x (l : Launch) (D : va_G) (K : Nat → ClassId) (z0 : Nat) (m0 : Nat) (M : Nat → Nat) (xth : Int) (xrm : Int) (xsv : Int) (xln : Int) (xat : Int) (xer : Int) (xwr : Int) (xwd : Int) (xlo : Int) (xhi : Int) (xwl : Int) (xml : Int) (xkl : Int) (xfi : Int) (xse : Int) (xdn : Int) (xon : Int) (xtw : Int) (xol : Int) (xrw : Int) (xgl : Int) (xus : Int) (xpr : Int) (xmk : Int) (xab : Int) (g : Nat → Int) (z : Int) (w : Int) (hz : 0 ≤ z ∧ z < 30) (hw : 0 ≤ 5 + z * 23 + w ∧ 5 + z * 23 + w < 1247) : CT l D K z0 yX11_of cX11_of 3 (some .int) rm_X11_of_x [.ref m0, .int (iI z), .int (iI w)] [(m0, mO M xth xrm xsv xln xat xer xwr xwd xlo xhi xwl xml xkl xfi xse xdn xon xtw xol xrw xgl xus xpr xmk xab), (M 1, aI (K 0) 1247 g)] (fun v9 u9 => v9 = some (.int (iI (g (5 + z * 23 + w).toNat))) ∧ u9 = [(m0, mO M xth xrm xsv xln xat xer xwr xwd xlo xhi xwl xml xkl xfi xse xdn xon xtw xol xrw xgl xus xpr xmk xab), (M 1, aI (K 0) 1247 g)]) := by
  refine CT.start RX11 "of" (by decide) rfl rfl (Nat.le_of_ble_eq_true rfl) ?_
  intro p9 e9 s9 m9 ag9 bl9 mt9 c9 A9 Q9 ls F G hR hl
  have hl : lv_has ls 3 [(0, .ref m0), (1, .int (iI z)), (2, .int (iI w))] := hl
  refine lv_aload_n F.1 F.2.1 dX11_of_0 rfl (lv_at hl 0 rfl) ?_
  refine ad_get F G fl_X11_9 0 rfl rfl dX11_of_1 ?_
  refine ad_iconst F dX11_of_4 ?_
  refine lv_iload_n F.1 F.2.1 dX11_of_5 rfl (lv_at hl 1 rfl) ?_
  refine ad_bipush F dX11_of_6 (by decide) ?_
  refine ad_imul F dX11_of_8 ?_
  refine ad_iadd F dX11_of_9 ?_
  refine lv_iload_n F.1 F.2.1 dX11_of_10 rfl (lv_at hl 2 rfl) ?_
  refine ad_iadd F dX11_of_11 ?_
  refine ad_iald F G 1 rfl (w := g ((5 + (z * 23)) + w).toNat) (by omega) rfl dX11_of_12 ?_
  exact ad_ireturn F G hR rfl (Nat.le_of_ble_eq_true rfl) (Nat.le_of_ble_eq_true rfl) ⟨(ad_eqi (by omega)), rfl⟩ dX11_of_13

def rm_X11_of_w : Room := { frames := 1, cells := 0, slots := 0, locals := 12 }
set_option maxHeartbeats 4000000 in
set_option maxRecDepth 100000 in
theorem c_X11_of_w (l : Launch) (D : va_G) (K : Nat → ClassId) (z0 : Nat) (m0 : Nat) (M : Nat → Nat) (xth : Int) (xrm : Int) (xsv : Int) (xln : Int) (xat : Int) (xer : Int) (xwr : Int) (xwd : Int) (xlo : Int) (xhi : Int) (xwl : Int) (xml : Int) (xkl : Int) (xfi : Int) (xse : Int) (xdn : Int) (xon : Int) (xtw : Int) (xol : Int) (xrw : Int) (xgl : Int) (xus : Int) (xpr : Int) (xmk : Int) (xab : Int) (g : Nat → Int) (rs : List Rl) (ps : List Pr) (md : Int) (th : Int) (nc : Int) (z : Int) (w : Int) (hM : MRow g rs ps md th nc) (hW : RW rs) (hz : 0 ≤ z ∧ z < rs.length) (hw : 0 ≤ w ∧ w ≤ 4) : CT l D K z0 yX11_of cX11_of 3 (some .int) rm_X11_of_w [.ref m0, .int (iI z), .int (iI w)] [(m0, mO M xth xrm xsv xln xat xer xwr xwd xlo xhi xwl xml xkl xfi xse xdn xon xtw xol xrw xgl xus xpr xmk xab), (M 1, aI (K 0) 1247 g)] (fun v9 u9 => v9 = some (.int (iI (ruA rs z w))) ∧ u9 = [(m0, mO M xth xrm xsv xln xat xer xwr xwd xlo xhi xwl xml xkl xfi xse xdn xon xtw xol xrw xgl xus xpr xmk xab), (M 1, aI (K 0) 1247 g)]) := by
  refine CT.start RX11 "of" (by decide) rfl rfl (Nat.le_of_ble_eq_true rfl) ?_
  intro p9 e9 s9 m9 ag9 bl9 mt9 c9 A9 Q9 ls F G hR hl
  have hl : lv_has ls 3 [(0, .ref m0), (1, .int (iI z)), (2, .int (iI w))] := hl
  have hn := hW.1
  refine lv_aload_n F.1 F.2.1 dX11_of_0 rfl (lv_at hl 0 rfl) ?_
  refine ad_get F G fl_X11_9 0 rfl rfl dX11_of_1 ?_
  refine ad_iconst F dX11_of_4 ?_
  refine lv_iload_n F.1 F.2.1 dX11_of_5 rfl (lv_at hl 1 rfl) ?_
  refine ad_bipush F dX11_of_6 (by decide) ?_
  refine ad_imul F dX11_of_8 ?_
  refine ad_iadd F dX11_of_9 ?_
  refine lv_iload_n F.1 F.2.1 dX11_of_10 rfl (lv_at hl 2 rfl) ?_
  refine ad_iadd F dX11_of_11 ?_
  refine ad_iald F G 1 rfl (w := ruA rs z w) (by omega) (hM.ru hz.1 hz.2 hw) dX11_of_12 ?_
  exact ad_ireturn F G hR rfl (Nat.le_of_ble_eq_true rfl) (Nat.le_of_ble_eq_true rfl) ⟨rfl, rfl⟩ dX11_of_13

def rm_X11_formAt : Room := { frames := 1, cells := 0, slots := 0, locals := 12 }
set_option maxHeartbeats 4000000 in
set_option maxRecDepth 100000 in
theorem c_X11_formAt (l : Launch) (D : va_G) (K : Nat → ClassId) (z0 : Nat) (b : Int) (hb : b = 0 ∨ b = 1) : CT l D K z0 yX11_formAt cX11_formAt 1 (some .int) rm_X11_formAt [.int (iI b)] [] (fun v9 u9 => v9 = some (.int (iI (if b = 1 then 11 else 5))) ∧ u9 = []) := by
  refine CT.start RX11 "formAt" (by decide) rfl rfl (Nat.le_of_ble_eq_true rfl) ?_
  intro p9 e9 s9 m9 ag9 bl9 mt9 c9 A9 Q9 ls F G hR hl
  have hl : lv_has ls 1 [(0, .int (iI b))] := hl
  refine lv_iload_n F.1 F.2.1 dX11_formAt_0 rfl (lv_at hl 0 rfl) ?_
  refine ad_if_eq (tgt := 9) F (by omega) dX11_formAt_1 (by decide) (fun cc_1 => ?_) (fun cc_1 => ?_)
  · refine ad_iconst F dX11_formAt_9 ?_
    exact ad_ireturn F G hR rfl (Nat.le_of_ble_eq_true rfl) (Nat.le_of_ble_eq_true rfl) ⟨(ad_eqi (by split <;> omega)), rfl⟩ dX11_formAt_10
  · refine ad_bipush F dX11_formAt_4 (by decide) ?_
    refine lv_goto (tgt := 10) F.1 F.2.1 dX11_formAt_6 (by decide) ?_
    exact ad_ireturn F G hR rfl (Nat.le_of_ble_eq_true rfl) (Nat.le_of_ble_eq_true rfl) ⟨(ad_eqi (by split <;> omega)), rfl⟩ dX11_formAt_10

def rm_X11_lengthOf : Room := { frames := 2, cells := 0, slots := 0, locals := 34 }
set_option maxHeartbeats 4000000 in
set_option maxRecDepth 100000 in
theorem c_X11_lengthOf (l : Launch) (D : va_G) (K : Nat → ClassId) (z0 : Nat) (m0 : Nat) (M : Nat → Nat) (xth : Int) (xrm : Int) (xsv : Int) (xln : Int) (xat : Int) (xer : Int) (xwr : Int) (xwd : Int) (xlo : Int) (xhi : Int) (xwl : Int) (xml : Int) (xkl : Int) (xfi : Int) (xse : Int) (xdn : Int) (xon : Int) (xtw : Int) (xol : Int) (xrw : Int) (xgl : Int) (xus : Int) (xpr : Int) (xmk : Int) (xab : Int) (g : Nat → Int) (rs : List Rl) (ps : List Pr) (md : Int) (th : Int) (nc : Int) (z : Int) (b : Int) (hM : MRow g rs ps md th nc) (hW : RW rs) (hz : 0 ≤ z ∧ z < rs.length) (hb : b = 0 ∨ b = 1) : CT l D K z0 yX11_lengthOf cX11_lengthOf 3 (some .int) rm_X11_lengthOf [.ref m0, .int (iI z), .int (iI b)] [(m0, mO M xth xrm xsv xln xat xer xwr xwd xlo xhi xwl xml xkl xfi xse xdn xon xtw xol xrw xgl xus xpr xmk xab), (M 1, aI (K 0) 1247 g)] (fun v9 u9 => v9 = some (.int (iI ((fmo (rget rs z) b).length : Int))) ∧ u9 = [(m0, mO M xth xrm xsv xln xat xer xwr xwd xlo xhi xwl xml xkl xfi xse xdn xon xtw xol xrw xgl xus xpr xmk xab), (M 1, aI (K 0) 1247 g)]) := by
  refine CT.start RX11 "lengthOf" (by decide) rfl rfl (Nat.le_of_ble_eq_true rfl) ?_
  intro p9 e9 s9 m9 ag9 bl9 mt9 c9 A9 Q9 ls F G hR hl
  have hl : lv_has ls 3 [(0, .ref m0), (1, .int (iI z)), (2, .int (iI b))] := hl
  refine lv_aload_n F.1 F.2.1 dX11_lengthOf_0 rfl (lv_at hl 0 rfl) ?_
  refine lv_iload_n F.1 F.2.1 dX11_lengthOf_1 rfl (lv_at hl 1 rfl) ?_
  refine lv_iload_n F.1 F.2.1 dX11_lengthOf_2 rfl (lv_at hl 2 rfl) ?_
  refine ad_if_eq (tgt := 10) F (by omega) dX11_lengthOf_3 (by decide) (fun cc_1 => ?_) (fun cc_1 => ?_)
  · refine ad_iconst F dX11_lengthOf_10 ?_
    refine ad_callV (As := [.int (iI z), .int (iI 3)]) (rest := []) F G (c_X11_of_3 l D K z0 m0 M xth xrm xsv xln xat xer xwr xwd xlo xhi xwl xml xkl xfi xse xdn xon xtw xol xrw xgl xus xpr xmk xab g rs ps md th nc z hM hW hz) my_X11_of mv_X11_99 (wr := []) (isC := [0, 1]) (isR := []) ⟨rfl, rfl, rfl, rfl, by decide⟩ 11 0 rfl rfl rfl rfl ⟨Nat.le_of_ble_eq_true rfl, Nat.le_of_ble_eq_true rfl⟩ ⟨Nat.le_of_ble_eq_true rfl, Nat.le_of_ble_eq_true rfl⟩ (Nat.le_of_ble_eq_true rfl) hl.1 (cells9 := 0) (slots9 := 0) ⟨rfl, rfl⟩ dX11_lengthOf_11 (fun v u H locs hw_2 G => ?_)
    obtain ⟨rfl, rfl⟩ := hw_2
    replace G := G.perm (ws' := [(m0, mO M xth xrm xsv xln xat xer xwr xwd xlo xhi xwl xml xkl xfi xse xdn xon xtw xol xrw xgl xus xpr xmk xab), (M 1, aI (K 0) 1247 g)]) [0, 1] rfl rfl
    refine W.eq (g2 := F0 m9 14 ls [.int (iI ((rget rs z).2.2.2.1.length : Int))]) rfl ?_
    exact ad_ireturn F G hR rfl (Nat.le_of_ble_eq_true rfl) (Nat.le_of_ble_eq_true rfl) ⟨(ad_eqi (by rw [show b = 0 by omega]; rfl)), rfl⟩ dX11_lengthOf_14
  · refine ad_iconst F dX11_lengthOf_6 ?_
    refine lv_goto (tgt := 11) F.1 F.2.1 dX11_lengthOf_7 (by decide) ?_
    refine ad_callV (As := [.int (iI z), .int (iI 4)]) (rest := []) F G (c_X11_of_4 l D K z0 m0 M xth xrm xsv xln xat xer xwr xwd xlo xhi xwl xml xkl xfi xse xdn xon xtw xol xrw xgl xus xpr xmk xab g rs ps md th nc z hM hW hz) my_X11_of mv_X11_99 (wr := []) (isC := [0, 1]) (isR := []) ⟨rfl, rfl, rfl, rfl, by decide⟩ 11 0 rfl rfl rfl rfl ⟨Nat.le_of_ble_eq_true rfl, Nat.le_of_ble_eq_true rfl⟩ ⟨Nat.le_of_ble_eq_true rfl, Nat.le_of_ble_eq_true rfl⟩ (Nat.le_of_ble_eq_true rfl) hl.1 (cells9 := 0) (slots9 := 0) ⟨rfl, rfl⟩ dX11_lengthOf_11 (fun v u H locs hw_3 G => ?_)
    obtain ⟨rfl, rfl⟩ := hw_3
    replace G := G.perm (ws' := [(m0, mO M xth xrm xsv xln xat xer xwr xwd xlo xhi xwl xml xkl xfi xse xdn xon xtw xol xrw xgl xus xpr xmk xab), (M 1, aI (K 0) 1247 g)]) [0, 1] rfl rfl
    refine W.eq (g2 := F0 m9 14 ls [.int (iI ((rget rs z).2.2.2.2.length : Int))]) rfl ?_
    exact ad_ireturn F G hR rfl (Nat.le_of_ble_eq_true rfl) (Nat.le_of_ble_eq_true rfl) ⟨(ad_eqi (by rw [show b = 1 by omega]; rfl)), rfl⟩ dX11_lengthOf_14

def rm_X11_letterOf : Room := { frames := 2, cells := 0, slots := 0, locals := 34 }
set_option maxHeartbeats 4000000 in
set_option maxRecDepth 100000 in
theorem c_X11_letterOf (l : Launch) (D : va_G) (K : Nat → ClassId) (z0 : Nat) (m0 : Nat) (M : Nat → Nat) (xth : Int) (xrm : Int) (xsv : Int) (xln : Int) (xat : Int) (xer : Int) (xwr : Int) (xwd : Int) (xlo : Int) (xhi : Int) (xwl : Int) (xml : Int) (xkl : Int) (xfi : Int) (xse : Int) (xdn : Int) (xon : Int) (xtw : Int) (xol : Int) (xrw : Int) (xgl : Int) (xus : Int) (xpr : Int) (xmk : Int) (xab : Int) (g : Nat → Int) (rs : List Rl) (ps : List Pr) (md : Int) (th : Int) (nc : Int) (z : Int) (b : Int) (k : Int) (hM : MRow g rs ps md th nc) (hW : RW rs) (hz : 0 ≤ z ∧ z < rs.length) (hb : b = 0 ∨ b = 1) (hk : 0 ≤ k ∧ k < (fmo (rget rs z) b).length) : CT l D K z0 yX11_letterOf cX11_letterOf 4 (some .int) rm_X11_letterOf [.ref m0, .int (iI z), .int (iI b), .int (iI k)] [(m0, mO M xth xrm xsv xln xat xer xwr xwd xlo xhi xwl xml xkl xfi xse xdn xon xtw xol xrw xgl xus xpr xmk xab), (M 1, aI (K 0) 1247 g)] (fun v9 u9 => v9 = some (.int (iI (lat (fmo (rget rs z) b) k))) ∧ u9 = [(m0, mO M xth xrm xsv xln xat xer xwr xwd xlo xhi xwl xml xkl xfi xse xdn xon xtw xol xrw xgl xus xpr xmk xab), (M 1, aI (K 0) 1247 g)]) := by
  refine CT.start RX11 "letterOf" (by decide) rfl rfl (Nat.le_of_ble_eq_true rfl) ?_
  intro p9 e9 s9 m9 ag9 bl9 mt9 c9 A9 Q9 ls F G hR hl
  have hl : lv_has ls 4 [(0, .ref m0), (1, .int (iI z)), (2, .int (iI b)), (3, .int (iI k))] := hl
  have hn := hW.1
  have h12 := fmo_len hW z b
  have h6 := fmo_6 hW hz.1 hz.2 hb
  refine lv_aload_n F.1 F.2.1 dX11_letterOf_0 rfl (lv_at hl 0 rfl) ?_
  refine lv_iload_n F.1 F.2.1 dX11_letterOf_1 rfl (lv_at hl 1 rfl) ?_
  refine lv_iload_n F.1 F.2.1 dX11_letterOf_2 rfl (lv_at hl 2 rfl) ?_
  refine ad_callS (As := [.int (iI b)]) (rest := [.int (iI z), .ref m0]) F G (c_X11_formAt l D K z0 b hb) my_X11_formAt ms_X11_103 (wr := [(m0, mO M xth xrm xsv xln xat xer xwr xwd xlo xhi xwl xml xkl xfi xse xdn xon xtw xol xrw xgl xus xpr xmk xab), (M 1, aI (K 0) 1247 g)]) (isC := []) (isR := [0, 1]) ⟨rfl, rfl, rfl, rfl, by decide⟩ rfl rfl ⟨Nat.le_of_ble_eq_true rfl, Nat.le_of_ble_eq_true rfl⟩ ⟨Nat.le_of_ble_eq_true rfl, Nat.le_of_ble_eq_true rfl⟩ (Nat.le_of_ble_eq_true rfl) hl.1 (cells9 := 0) (slots9 := 0) ⟨rfl, rfl⟩ dX11_letterOf_3 (fun v u H locs hw_1 G => ?_)
  obtain ⟨rfl, rfl⟩ := hw_1
  replace G := G.perm (ws' := [(m0, mO M xth xrm xsv xln xat xer xwr xwd xlo xhi xwl xml xkl xfi xse xdn xon xtw xol xrw xgl xus xpr xmk xab), (M 1, aI (K 0) 1247 g)]) [0, 1] rfl rfl
  refine W.eq (g2 := F0 m9 6 ls [.int (iI (if b = 1 then 11 else 5)), .int (iI z), .ref m0]) rfl ?_
  refine lv_iload_n F.1 F.2.1 dX11_letterOf_6 rfl (lv_at hl 3 rfl) ?_
  refine ad_iadd F dX11_letterOf_7 ?_
  refine ad_callV (As := [.int (iI z), .int (iI ((if b = 1 then 11 else 5) + k))]) (rest := []) F G (c_X11_of_x l D K z0 m0 M xth xrm xsv xln xat xer xwr xwd xlo xhi xwl xml xkl xfi xse xdn xon xtw xol xrw xgl xus xpr xmk xab g z ((if b = 1 then 11 else 5) + k) (by omega) (by omega)) my_X11_of mv_X11_99 (wr := []) (isC := [0, 1]) (isR := []) ⟨rfl, rfl, rfl, rfl, by decide⟩ 11 0 rfl rfl rfl rfl ⟨Nat.le_of_ble_eq_true rfl, Nat.le_of_ble_eq_true rfl⟩ ⟨Nat.le_of_ble_eq_true rfl, Nat.le_of_ble_eq_true rfl⟩ (Nat.le_of_ble_eq_true rfl) hl.1 (cells9 := 0) (slots9 := 0) ⟨rfl, rfl⟩ dX11_letterOf_8 (fun v u H locs hw_2 G => ?_)
  obtain ⟨rfl, rfl⟩ := hw_2
  replace G := G.perm (ws' := [(m0, mO M xth xrm xsv xln xat xer xwr xwd xlo xhi xwl xml xkl xfi xse xdn xon xtw xol xrw xgl xus xpr xmk xab), (M 1, aI (K 0) 1247 g)]) [0, 1] rfl rfl
  refine W.eq (g2 := F0 m9 11 ls [.int (iI (g (5 + z * 23 + ((if b = 1 then 11 else 5) + k)).toNat))]) rfl ?_
  refine ad_topi (y := lat (fmo (rget rs z) b) k) (hM.let hz.1 hz.2 hb hk.1 (by omega)) ?_
  exact ad_ireturn F G hR rfl (Nat.le_of_ble_eq_true rfl) (Nat.le_of_ble_eq_true rfl) ⟨rfl, rfl⟩ dX11_letterOf_11

def rm_X11_isRule : Room := { frames := 2, cells := 0, slots := 0, locals := 34 }
set_option maxHeartbeats 4000000 in
set_option maxRecDepth 100000 in
theorem c_X11_isRule (l : Launch) (D : va_G) (K : Nat → ClassId) (z0 : Nat) (m0 : Nat) (M : Nat → Nat) (xth : Int) (xrm : Int) (xsv : Int) (xln : Int) (xat : Int) (xer : Int) (xwr : Int) (xwd : Int) (xlo : Int) (xhi : Int) (xwl : Int) (xml : Int) (xkl : Int) (xfi : Int) (xse : Int) (xdn : Int) (xon : Int) (xtw : Int) (xol : Int) (xrw : Int) (xgl : Int) (xus : Int) (xpr : Int) (xmk : Int) (xab : Int) (g : Nat → Int) (rs : List Rl) (ps : List Pr) (md : Int) (th : Int) (nc : Int) (z : Int) (hM : MRow g rs ps md th nc) (hW : RW rs) (hz : -2147483648 ≤ z ∧ z < 2147483648) : CT l D K z0 yX11_isRule cX11_isRule 2 (some .boolean) rm_X11_isRule [.ref m0, .int (iI z)] [(m0, mO M xth xrm xsv xln xat xer xwr xwd xlo xhi xwl xml xkl xfi xse xdn xon xtw xol xrw xgl xus xpr xmk xab), (M 1, aI (K 0) 1247 g)] (fun v9 u9 => (v9 = some (.int (iI 1)) ∧ (0 ≤ z ∧ z < rs.length) ∧ u9 = [(m0, mO M xth xrm xsv xln xat xer xwr xwd xlo xhi xwl xml xkl xfi xse xdn xon xtw xol xrw xgl xus xpr xmk xab), (M 1, aI (K 0) 1247 g)]) ∨ (v9 = some (.int (iI 0)) ∧ (¬ (0 ≤ z ∧ z < rs.length)) ∧ u9 = [(m0, mO M xth xrm xsv xln xat xer xwr xwd xlo xhi xwl xml xkl xfi xse xdn xon xtw xol xrw xgl xus xpr xmk xab), (M 1, aI (K 0) 1247 g)])) := by
  refine CT.start RX11 "isRule" (by decide) rfl rfl (Nat.le_of_ble_eq_true rfl) ?_
  intro p9 e9 s9 m9 ag9 bl9 mt9 c9 A9 Q9 ls F G hR hl
  have hl : lv_has ls 2 [(0, .ref m0), (1, .int (iI z))] := hl
  have hn := hW.1
  refine lv_iload_n F.1 F.2.1 dX11_isRule_0 rfl (lv_at hl 1 rfl) ?_
  refine ad_iconst F dX11_isRule_1 ?_
  refine lv_aload_n F.1 F.2.1 dX11_isRule_2 rfl (lv_at hl 0 rfl) ?_
  refine ad_get F G fl_X11_9 0 rfl rfl dX11_isRule_3 ?_
  refine ad_iconst F dX11_isRule_6 ?_
  refine ad_iald F G 1 rfl (w := (rs.length : Int)) (by omega) (hM.1.1) dX11_isRule_7 ?_
  refine ad_iconst F dX11_isRule_8 ?_
  refine ad_isub F dX11_isRule_9 ?_
  refine ad_callS (As := [.int (iI z), .int (iI 0), .int (iI ((rs.length : Int) - 1))]) (rest := []) F G (c_X11_isBetween l D K z0 z 0 ((rs.length : Int) - 1) hz (by omega) (by omega)) my_X11_isBetween ms_X11_107 (wr := [(m0, mO M xth xrm xsv xln xat xer xwr xwd xlo xhi xwl xml xkl xfi xse xdn xon xtw xol xrw xgl xus xpr xmk xab), (M 1, aI (K 0) 1247 g)]) (isC := []) (isR := [0, 1]) ⟨rfl, rfl, rfl, rfl, by decide⟩ rfl rfl ⟨Nat.le_of_ble_eq_true rfl, Nat.le_of_ble_eq_true rfl⟩ ⟨Nat.le_of_ble_eq_true rfl, Nat.le_of_ble_eq_true rfl⟩ (Nat.le_of_ble_eq_true rfl) hl.1 (cells9 := 0) (slots9 := 0) ⟨rfl, rfl⟩ dX11_isRule_10 (fun v u H locs hw_1 G => ?_)
  rcases hw_1 with ⟨rfl, hc_2, rfl⟩ | ⟨rfl, hc_3, rfl⟩
  · replace G := G.perm (ws' := [(m0, mO M xth xrm xsv xln xat xer xwr xwd xlo xhi xwl xml xkl xfi xse xdn xon xtw xol xrw xgl xus xpr xmk xab), (M 1, aI (K 0) 1247 g)]) [0, 1] rfl rfl
    refine W.eq (g2 := F0 m9 13 ls [.int (iI 1)]) rfl ?_
    exact ad_zreturn F G hR rfl (Nat.le_of_ble_eq_true rfl) (Nat.le_of_ble_eq_true rfl) rfl (Or.inl ⟨rfl, (by omega), rfl⟩) dX11_isRule_13
  · replace G := G.perm (ws' := [(m0, mO M xth xrm xsv xln xat xer xwr xwd xlo xhi xwl xml xkl xfi xse xdn xon xtw xol xrw xgl xus xpr xmk xab), (M 1, aI (K 0) 1247 g)]) [0, 1] rfl rfl
    refine W.eq (g2 := F0 m9 13 ls [.int (iI 0)]) rfl ?_
    exact ad_zreturn F G hR rfl (Nat.le_of_ble_eq_true rfl) (Nat.le_of_ble_eq_true rfl) rfl (Or.inr (⟨rfl, (by omega), rfl⟩)) dX11_isRule_13

def rm_X11_isBetter : Room := { frames := 2, cells := 0, slots := 0, locals := 34 }
set_option maxHeartbeats 4000000 in
set_option maxRecDepth 100000 in
theorem c_X11_isBetter (l : Launch) (D : va_G) (K : Nat → ClassId) (z0 : Nat) (m0 : Nat) (M : Nat → Nat) (xth : Int) (xrm : Int) (xsv : Int) (xln : Int) (xat : Int) (xer : Int) (xwr : Int) (xwd : Int) (xlo : Int) (xhi : Int) (xwl : Int) (xml : Int) (xkl : Int) (xfi : Int) (xse : Int) (xdn : Int) (xon : Int) (xtw : Int) (xol : Int) (xrw : Int) (xgl : Int) (xus : Int) (xpr : Int) (xmk : Int) (xab : Int) (g : Nat → Int) (rs : List Rl) (ps : List Pr) (md : Int) (th : Int) (nc : Int) (x : Int) (y : Int) (hM : MRow g rs ps md th nc) (hW : RW rs) (hx : 0 ≤ x ∧ x < rs.length) (hy : 0 ≤ y ∧ y < rs.length) : CT l D K z0 yX11_isBetter cX11_isBetter 3 (some .boolean) rm_X11_isBetter [.ref m0, .int (iI x), .int (iI y)] [(m0, mO M xth xrm xsv xln xat xer xwr xwd xlo xhi xwl xml xkl xfi xse xdn xon xtw xol xrw xgl xus xpr xmk xab), (M 1, aI (K 0) 1247 g)] (fun v9 u9 => (v9 = some (.int (iI 1)) ∧ (btr rs x y) ∧ u9 = [(m0, mO M xth xrm xsv xln xat xer xwr xwd xlo xhi xwl xml xkl xfi xse xdn xon xtw xol xrw xgl xus xpr xmk xab), (M 1, aI (K 0) 1247 g)]) ∨ (v9 = some (.int (iI 0)) ∧ (¬ btr rs x y) ∧ u9 = [(m0, mO M xth xrm xsv xln xat xer xwr xwd xlo xhi xwl xml xkl xfi xse xdn xon xtw xol xrw xgl xus xpr xmk xab), (M 1, aI (K 0) 1247 g)])) := by
  refine CT.start RX11 "isBetter" (by decide) rfl rfl (Nat.le_of_ble_eq_true rfl) ?_
  intro p9 e9 s9 m9 ag9 bl9 mt9 c9 A9 Q9 ls F G hR hl
  have hl : lv_has ls 3 [(0, .ref m0), (1, .int (iI x)), (2, .int (iI y))] := hl
  have hn := hW.1
  have b1 := hW.bd hx.1 hx.2
  have b2 := hW.bd hy.1 hy.2
  refine lv_aload_n F.1 F.2.1 dX11_isBetter_0 rfl (lv_at hl 0 rfl) ?_
  refine lv_iload_n F.1 F.2.1 dX11_isBetter_1 rfl (lv_at hl 1 rfl) ?_
  refine ad_iconst F dX11_isBetter_2 ?_
  refine ad_callV (As := [.int (iI x), .int (iI 1)]) (rest := []) F G (c_X11_of_1 l D K z0 m0 M xth xrm xsv xln xat xer xwr xwd xlo xhi xwl xml xkl xfi xse xdn xon xtw xol xrw xgl xus xpr xmk xab g rs ps md th nc x hM hW hx) my_X11_of mv_X11_99 (wr := []) (isC := [0, 1]) (isR := []) ⟨rfl, rfl, rfl, rfl, by decide⟩ 11 0 rfl rfl rfl rfl ⟨Nat.le_of_ble_eq_true rfl, Nat.le_of_ble_eq_true rfl⟩ ⟨Nat.le_of_ble_eq_true rfl, Nat.le_of_ble_eq_true rfl⟩ (Nat.le_of_ble_eq_true rfl) hl.1 (cells9 := 0) (slots9 := 0) ⟨rfl, rfl⟩ dX11_isBetter_3 (fun v u H locs hw_1 G => ?_)
  obtain ⟨rfl, rfl⟩ := hw_1
  replace G := G.perm (ws' := [(m0, mO M xth xrm xsv xln xat xer xwr xwd xlo xhi xwl xml xkl xfi xse xdn xon xtw xol xrw xgl xus xpr xmk xab), (M 1, aI (K 0) 1247 g)]) [0, 1] rfl rfl
  refine W.eq (g2 := F0 m9 6 ls [.int (iI ((rget rs x).2.1))]) rfl ?_
  refine lv_aload_n F.1 F.2.1 dX11_isBetter_6 rfl (lv_at hl 0 rfl) ?_
  refine lv_iload_n F.1 F.2.1 dX11_isBetter_7 rfl (lv_at hl 2 rfl) ?_
  refine ad_iconst F dX11_isBetter_8 ?_
  refine ad_callV (As := [.int (iI y), .int (iI 1)]) (rest := [.int (iI ((rget rs x).2.1))]) F G (c_X11_of_1 l D K z0 m0 M xth xrm xsv xln xat xer xwr xwd xlo xhi xwl xml xkl xfi xse xdn xon xtw xol xrw xgl xus xpr xmk xab g rs ps md th nc y hM hW hy) my_X11_of mv_X11_99 (wr := []) (isC := [0, 1]) (isR := []) ⟨rfl, rfl, rfl, rfl, by decide⟩ 11 0 rfl rfl rfl rfl ⟨Nat.le_of_ble_eq_true rfl, Nat.le_of_ble_eq_true rfl⟩ ⟨Nat.le_of_ble_eq_true rfl, Nat.le_of_ble_eq_true rfl⟩ (Nat.le_of_ble_eq_true rfl) hl.1 (cells9 := 0) (slots9 := 0) ⟨rfl, rfl⟩ dX11_isBetter_9 (fun v u H locs hw_2 G => ?_)
  obtain ⟨rfl, rfl⟩ := hw_2
  replace G := G.perm (ws' := [(m0, mO M xth xrm xsv xln xat xer xwr xwd xlo xhi xwl xml xkl xfi xse xdn xon xtw xol xrw xgl xus xpr xmk xab), (M 1, aI (K 0) 1247 g)]) [0, 1] rfl rfl
  refine W.eq (g2 := F0 m9 12 ls [.int (iI ((rget rs y).2.1)), .int (iI ((rget rs x).2.1))]) rfl ?_
  refine ad_icmp_eq (tgt := 36) F (by omega) dX11_isBetter_12 (by decide) (fun cc_3 => ?_) (fun cc_3 => ?_)
  · refine lv_aload_n F.1 F.2.1 dX11_isBetter_36 rfl (lv_at hl 0 rfl) ?_
    refine lv_iload_n F.1 F.2.1 dX11_isBetter_37 rfl (lv_at hl 1 rfl) ?_
    refine ad_iconst F dX11_isBetter_38 ?_
    refine ad_callV (As := [.int (iI x), .int (iI 4)]) (rest := []) F G (c_X11_of_4 l D K z0 m0 M xth xrm xsv xln xat xer xwr xwd xlo xhi xwl xml xkl xfi xse xdn xon xtw xol xrw xgl xus xpr xmk xab g rs ps md th nc x hM hW hx) my_X11_of mv_X11_99 (wr := []) (isC := [0, 1]) (isR := []) ⟨rfl, rfl, rfl, rfl, by decide⟩ 11 0 rfl rfl rfl rfl ⟨Nat.le_of_ble_eq_true rfl, Nat.le_of_ble_eq_true rfl⟩ ⟨Nat.le_of_ble_eq_true rfl, Nat.le_of_ble_eq_true rfl⟩ (Nat.le_of_ble_eq_true rfl) hl.1 (cells9 := 0) (slots9 := 0) ⟨rfl, rfl⟩ dX11_isBetter_39 (fun v u H locs hw_4 G => ?_)
    obtain ⟨rfl, rfl⟩ := hw_4
    replace G := G.perm (ws' := [(m0, mO M xth xrm xsv xln xat xer xwr xwd xlo xhi xwl xml xkl xfi xse xdn xon xtw xol xrw xgl xus xpr xmk xab), (M 1, aI (K 0) 1247 g)]) [0, 1] rfl rfl
    refine W.eq (g2 := F0 m9 42 ls [.int (iI ((rget rs x).2.2.2.2.length : Int))]) rfl ?_
    refine lv_aload_n F.1 F.2.1 dX11_isBetter_42 rfl (lv_at hl 0 rfl) ?_
    refine lv_iload_n F.1 F.2.1 dX11_isBetter_43 rfl (lv_at hl 2 rfl) ?_
    refine ad_iconst F dX11_isBetter_44 ?_
    refine ad_callV (As := [.int (iI y), .int (iI 4)]) (rest := [.int (iI ((rget rs x).2.2.2.2.length : Int))]) F G (c_X11_of_4 l D K z0 m0 M xth xrm xsv xln xat xer xwr xwd xlo xhi xwl xml xkl xfi xse xdn xon xtw xol xrw xgl xus xpr xmk xab g rs ps md th nc y hM hW hy) my_X11_of mv_X11_99 (wr := []) (isC := [0, 1]) (isR := []) ⟨rfl, rfl, rfl, rfl, by decide⟩ 11 0 rfl rfl rfl rfl ⟨Nat.le_of_ble_eq_true rfl, Nat.le_of_ble_eq_true rfl⟩ ⟨Nat.le_of_ble_eq_true rfl, Nat.le_of_ble_eq_true rfl⟩ (Nat.le_of_ble_eq_true rfl) hl.1 (cells9 := 0) (slots9 := 0) ⟨rfl, rfl⟩ dX11_isBetter_45 (fun v u H locs hw_5 G => ?_)
    obtain ⟨rfl, rfl⟩ := hw_5
    replace G := G.perm (ws' := [(m0, mO M xth xrm xsv xln xat xer xwr xwd xlo xhi xwl xml xkl xfi xse xdn xon xtw xol xrw xgl xus xpr xmk xab), (M 1, aI (K 0) 1247 g)]) [0, 1] rfl rfl
    refine W.eq (g2 := F0 m9 48 ls [.int (iI ((rget rs y).2.2.2.2.length : Int)), .int (iI ((rget rs x).2.2.2.2.length : Int))]) rfl ?_
    refine ad_icmp_eq (tgt := 72) F (by omega) dX11_isBetter_48 (by decide) (fun cc_6 => ?_) (fun cc_6 => ?_)
    · refine lv_iload_n F.1 F.2.1 dX11_isBetter_72 rfl (lv_at hl 1 rfl) ?_
      refine lv_iload_n F.1 F.2.1 dX11_isBetter_73 rfl (lv_at hl 2 rfl) ?_
      refine ad_icmp_ge (tgt := 81) F (by omega) dX11_isBetter_74 (by decide) (fun cc_7 => ?_) (fun cc_7 => ?_)
      · refine ad_iconst F dX11_isBetter_81 ?_
        exact ad_zreturn F G hR rfl (Nat.le_of_ble_eq_true rfl) (Nat.le_of_ble_eq_true rfl) rfl (Or.inr (⟨rfl, (by unfold btr; omega), rfl⟩)) dX11_isBetter_82
      · refine ad_iconst F dX11_isBetter_77 ?_
        refine lv_goto (tgt := 82) F.1 F.2.1 dX11_isBetter_78 (by decide) ?_
        exact ad_zreturn F G hR rfl (Nat.le_of_ble_eq_true rfl) (Nat.le_of_ble_eq_true rfl) rfl (Or.inl ⟨rfl, (by unfold btr; omega), rfl⟩) dX11_isBetter_82
    · refine lv_aload_n F.1 F.2.1 dX11_isBetter_51 rfl (lv_at hl 0 rfl) ?_
      refine lv_iload_n F.1 F.2.1 dX11_isBetter_52 rfl (lv_at hl 1 rfl) ?_
      refine ad_iconst F dX11_isBetter_53 ?_
      refine ad_callV (As := [.int (iI x), .int (iI 4)]) (rest := []) F G (c_X11_of_4 l D K z0 m0 M xth xrm xsv xln xat xer xwr xwd xlo xhi xwl xml xkl xfi xse xdn xon xtw xol xrw xgl xus xpr xmk xab g rs ps md th nc x hM hW hx) my_X11_of mv_X11_99 (wr := []) (isC := [0, 1]) (isR := []) ⟨rfl, rfl, rfl, rfl, by decide⟩ 11 0 rfl rfl rfl rfl ⟨Nat.le_of_ble_eq_true rfl, Nat.le_of_ble_eq_true rfl⟩ ⟨Nat.le_of_ble_eq_true rfl, Nat.le_of_ble_eq_true rfl⟩ (Nat.le_of_ble_eq_true rfl) hl.1 (cells9 := 0) (slots9 := 0) ⟨rfl, rfl⟩ dX11_isBetter_54 (fun v u H locs hw_8 G => ?_)
      obtain ⟨rfl, rfl⟩ := hw_8
      replace G := G.perm (ws' := [(m0, mO M xth xrm xsv xln xat xer xwr xwd xlo xhi xwl xml xkl xfi xse xdn xon xtw xol xrw xgl xus xpr xmk xab), (M 1, aI (K 0) 1247 g)]) [0, 1] rfl rfl
      refine W.eq (g2 := F0 m9 57 ls [.int (iI ((rget rs x).2.2.2.2.length : Int))]) rfl ?_
      refine lv_aload_n F.1 F.2.1 dX11_isBetter_57 rfl (lv_at hl 0 rfl) ?_
      refine lv_iload_n F.1 F.2.1 dX11_isBetter_58 rfl (lv_at hl 2 rfl) ?_
      refine ad_iconst F dX11_isBetter_59 ?_
      refine ad_callV (As := [.int (iI y), .int (iI 4)]) (rest := [.int (iI ((rget rs x).2.2.2.2.length : Int))]) F G (c_X11_of_4 l D K z0 m0 M xth xrm xsv xln xat xer xwr xwd xlo xhi xwl xml xkl xfi xse xdn xon xtw xol xrw xgl xus xpr xmk xab g rs ps md th nc y hM hW hy) my_X11_of mv_X11_99 (wr := []) (isC := [0, 1]) (isR := []) ⟨rfl, rfl, rfl, rfl, by decide⟩ 11 0 rfl rfl rfl rfl ⟨Nat.le_of_ble_eq_true rfl, Nat.le_of_ble_eq_true rfl⟩ ⟨Nat.le_of_ble_eq_true rfl, Nat.le_of_ble_eq_true rfl⟩ (Nat.le_of_ble_eq_true rfl) hl.1 (cells9 := 0) (slots9 := 0) ⟨rfl, rfl⟩ dX11_isBetter_60 (fun v u H locs hw_9 G => ?_)
      obtain ⟨rfl, rfl⟩ := hw_9
      replace G := G.perm (ws' := [(m0, mO M xth xrm xsv xln xat xer xwr xwd xlo xhi xwl xml xkl xfi xse xdn xon xtw xol xrw xgl xus xpr xmk xab), (M 1, aI (K 0) 1247 g)]) [0, 1] rfl rfl
      refine W.eq (g2 := F0 m9 63 ls [.int (iI ((rget rs y).2.2.2.2.length : Int)), .int (iI ((rget rs x).2.2.2.2.length : Int))]) rfl ?_
      refine ad_icmp_le (tgt := 70) F (by omega) dX11_isBetter_63 (by decide) (fun cc_10 => ?_) (fun cc_10 => ?_)
      · refine ad_iconst F dX11_isBetter_70 ?_
        exact ad_zreturn F G hR rfl (Nat.le_of_ble_eq_true rfl) (Nat.le_of_ble_eq_true rfl) rfl (Or.inr (⟨rfl, (by unfold btr; omega), rfl⟩)) dX11_isBetter_71
      · refine ad_iconst F dX11_isBetter_66 ?_
        refine lv_goto (tgt := 71) F.1 F.2.1 dX11_isBetter_67 (by decide) ?_
        exact ad_zreturn F G hR rfl (Nat.le_of_ble_eq_true rfl) (Nat.le_of_ble_eq_true rfl) rfl (Or.inl ⟨rfl, (by unfold btr; omega), rfl⟩) dX11_isBetter_71
  · refine lv_aload_n F.1 F.2.1 dX11_isBetter_15 rfl (lv_at hl 0 rfl) ?_
    refine lv_iload_n F.1 F.2.1 dX11_isBetter_16 rfl (lv_at hl 1 rfl) ?_
    refine ad_iconst F dX11_isBetter_17 ?_
    refine ad_callV (As := [.int (iI x), .int (iI 1)]) (rest := []) F G (c_X11_of_1 l D K z0 m0 M xth xrm xsv xln xat xer xwr xwd xlo xhi xwl xml xkl xfi xse xdn xon xtw xol xrw xgl xus xpr xmk xab g rs ps md th nc x hM hW hx) my_X11_of mv_X11_99 (wr := []) (isC := [0, 1]) (isR := []) ⟨rfl, rfl, rfl, rfl, by decide⟩ 11 0 rfl rfl rfl rfl ⟨Nat.le_of_ble_eq_true rfl, Nat.le_of_ble_eq_true rfl⟩ ⟨Nat.le_of_ble_eq_true rfl, Nat.le_of_ble_eq_true rfl⟩ (Nat.le_of_ble_eq_true rfl) hl.1 (cells9 := 0) (slots9 := 0) ⟨rfl, rfl⟩ dX11_isBetter_18 (fun v u H locs hw_11 G => ?_)
    obtain ⟨rfl, rfl⟩ := hw_11
    replace G := G.perm (ws' := [(m0, mO M xth xrm xsv xln xat xer xwr xwd xlo xhi xwl xml xkl xfi xse xdn xon xtw xol xrw xgl xus xpr xmk xab), (M 1, aI (K 0) 1247 g)]) [0, 1] rfl rfl
    refine W.eq (g2 := F0 m9 21 ls [.int (iI ((rget rs x).2.1))]) rfl ?_
    refine lv_aload_n F.1 F.2.1 dX11_isBetter_21 rfl (lv_at hl 0 rfl) ?_
    refine lv_iload_n F.1 F.2.1 dX11_isBetter_22 rfl (lv_at hl 2 rfl) ?_
    refine ad_iconst F dX11_isBetter_23 ?_
    refine ad_callV (As := [.int (iI y), .int (iI 1)]) (rest := [.int (iI ((rget rs x).2.1))]) F G (c_X11_of_1 l D K z0 m0 M xth xrm xsv xln xat xer xwr xwd xlo xhi xwl xml xkl xfi xse xdn xon xtw xol xrw xgl xus xpr xmk xab g rs ps md th nc y hM hW hy) my_X11_of mv_X11_99 (wr := []) (isC := [0, 1]) (isR := []) ⟨rfl, rfl, rfl, rfl, by decide⟩ 11 0 rfl rfl rfl rfl ⟨Nat.le_of_ble_eq_true rfl, Nat.le_of_ble_eq_true rfl⟩ ⟨Nat.le_of_ble_eq_true rfl, Nat.le_of_ble_eq_true rfl⟩ (Nat.le_of_ble_eq_true rfl) hl.1 (cells9 := 0) (slots9 := 0) ⟨rfl, rfl⟩ dX11_isBetter_24 (fun v u H locs hw_12 G => ?_)
    obtain ⟨rfl, rfl⟩ := hw_12
    replace G := G.perm (ws' := [(m0, mO M xth xrm xsv xln xat xer xwr xwd xlo xhi xwl xml xkl xfi xse xdn xon xtw xol xrw xgl xus xpr xmk xab), (M 1, aI (K 0) 1247 g)]) [0, 1] rfl rfl
    refine W.eq (g2 := F0 m9 27 ls [.int (iI ((rget rs y).2.1)), .int (iI ((rget rs x).2.1))]) rfl ?_
    refine ad_icmp_le (tgt := 34) F (by omega) dX11_isBetter_27 (by decide) (fun cc_13 => ?_) (fun cc_13 => ?_)
    · refine ad_iconst F dX11_isBetter_34 ?_
      exact ad_zreturn F G hR rfl (Nat.le_of_ble_eq_true rfl) (Nat.le_of_ble_eq_true rfl) rfl (Or.inr (⟨rfl, (by unfold btr; omega), rfl⟩)) dX11_isBetter_35
    · refine ad_iconst F dX11_isBetter_30 ?_
      refine lv_goto (tgt := 35) F.1 F.2.1 dX11_isBetter_31 (by decide) ?_
      exact ad_zreturn F G hR rfl (Nat.le_of_ble_eq_true rfl) (Nat.le_of_ble_eq_true rfl) rfl (Or.inl ⟨rfl, (by unfold btr; omega), rfl⟩) dX11_isBetter_35

def rm_X11_countBetter : Room := { frames := 3, cells := 0, slots := 0, locals := 56 }
set_option maxHeartbeats 4000000 in
set_option maxRecDepth 100000 in
theorem c_X11_countBetter (l : Launch) (D : va_G) (K : Nat → ClassId) (z0 : Nat) (m0 : Nat) (M : Nat → Nat) (xth : Int) (xrm : Int) (xsv : Int) (xln : Int) (xat : Int) (xer : Int) (xwr : Int) (xwd : Int) (xlo : Int) (xhi : Int) (xwl : Int) (xml : Int) (xkl : Int) (xfi : Int) (xse : Int) (xdn : Int) (xon : Int) (xtw : Int) (xol : Int) (xrw : Int) (xgl : Int) (xus : Int) (xpr : Int) (xmk : Int) (xab : Int) (g : Nat → Int) (rs : List Rl) (ps : List Pr) (md : Int) (th : Int) (nc : Int) (z : Int) (hM : MRow g rs ps md th nc) (hW : RW rs) (hz : 0 ≤ z ∧ z < rs.length) : CT l D K z0 yX11_countBetter cX11_countBetter 4 (some .int) rm_X11_countBetter [.ref m0, .int (iI z)] [(m0, mO M xth xrm xsv xln xat xer xwr xwd xlo xhi xwl xml xkl xfi xse xdn xon xtw xol xrw xgl xus xpr xmk xab), (M 1, aI (K 0) 1247 g)] (fun v9 u9 => v9 = some (.int (iI (cntb (fun o => btb rs o z) rs.length))) ∧ u9 = [(m0, mO M xth xrm xsv xln xat xer xwr xwd xlo xhi xwl xml xkl xfi xse xdn xon xtw xol xrw xgl xus xpr xmk xab), (M 1, aI (K 0) 1247 g)]) := by
  refine CT.start RX11 "countBetter" (by decide) rfl rfl (Nat.le_of_ble_eq_true rfl) ?_
  intro p9 e9 s9 m9 ag9 bl9 mt9 c9 A9 Q9 ls F G hR hl
  have hl : lv_has ls 4 [(0, .ref m0), (1, .int (iI z))] := hl
  have hn := hW.1
  refine ad_iconst F dX11_countBetter_0 ?_
  refine lv_istore_n (lv' := [(2, .int (iI 0)), (0, .ref m0), (1, .int (iI z))]) F.1 F.2.1 dX11_countBetter_1 rfl hl (by decide) rfl (fun ls hl => ?_)
  refine ad_iconst F dX11_countBetter_2 ?_
  refine lv_istore_n (lv' := [(3, .int (iI 0)), (2, .int (iI 0)), (0, .ref m0), (1, .int (iI z))]) F.1 F.2.1 dX11_countBetter_3 rfl hl (by decide) rfl (fun ls hl => ?_)
  have lp4 : ∀ (n4 : Nat) (i : Int) (k : Int) (H : Heap) (locs : List Loc) (ls : Array Slot), (0 ≤ i ∧ i ≤ rs.length) → (k = cntb (fun o => btb rs o z) i.toNat) → (rs.length - i) < (n4 : Int) → ad_G D A9 s9.heap H locs [(m0, mO M xth xrm xsv xln xat xer xwr xwd xlo xhi xwl xml xkl xfi xse xdn xon xtw xol xrw xgl xus xpr xmk xab), (M 1, aI (K 0) 1247 g)] → lv_has ls 4 [(0, .ref m0), (1, .int (iI z)), (2, .int (iI k)), (3, .int (iI i))] → W p9 l e9 rm_X11_countBetter s9 m9 ag9 bl9 mt9 c9 H locs 0 0 Q9 (F0 m9 4 ls []) := by
    intro n4
    induction n4 with
    | zero =>
      intro i k H locs ls hi hk hm4
      exact absurd hm4 (by omega)
    | succ n4 ih4 =>
      intro i k H locs ls hi hk hm4 G hl
      refine lv_iload_n F.1 F.2.1 dX11_countBetter_4 rfl (lv_at hl 3 rfl) ?_
      refine lv_aload_n F.1 F.2.1 dX11_countBetter_5 rfl (lv_at hl 0 rfl) ?_
      refine ad_get F G fl_X11_9 0 rfl rfl dX11_countBetter_6 ?_
      refine ad_iconst F dX11_countBetter_9 ?_
      refine ad_iald F G 1 rfl (w := (rs.length : Int)) (by omega) (hM.1.1) dX11_countBetter_10 ?_
      refine ad_icmp_ge (tgt := 42) F (by omega) dX11_countBetter_11 (by decide) (fun cc_1 => ?_) (fun cc_1 => ?_)
      · refine lv_iload_n F.1 F.2.1 dX11_countBetter_42 rfl (lv_at hl 2 rfl) ?_
        exact ad_ireturn F G hR rfl (Nat.le_of_ble_eq_true rfl) (Nat.le_of_ble_eq_true rfl) ⟨(ad_eqi (by rw [hk, show i = rs.length by omega]; rfl)), rfl⟩ dX11_countBetter_43
      · refine lv_iload_n F.1 F.2.1 dX11_countBetter_14 rfl (lv_at hl 2 rfl) ?_
        refine lv_iload_n F.1 F.2.1 dX11_countBetter_15 rfl (lv_at hl 3 rfl) ?_
        refine lv_iload_n F.1 F.2.1 dX11_countBetter_16 rfl (lv_at hl 1 rfl) ?_
        refine ad_icmp_eq (tgt := 33) F (by omega) dX11_countBetter_17 (by decide) (fun cc_2 => ?_) (fun cc_2 => ?_)
        · refine ad_iconst F dX11_countBetter_33 ?_
          refine ad_iadd F dX11_countBetter_34 ?_
          refine lv_istore_n (lv' := [(2, .int (iI (k + 0))), (0, .ref m0), (1, .int (iI z)), (3, .int (iI i))]) F.1 F.2.1 dX11_countBetter_35 rfl hl (by decide) rfl (fun ls hl => ?_)
          refine ad_iinc (lv' := [(3, .int (iI (i + 1))), (2, .int (iI (k + 0))), (0, .ref m0), (1, .int (iI z))]) F dX11_countBetter_36 hl (k := 3) rfl (by decide) rfl (fun ls hl => ?_)
          refine lv_goto (tgt := 4) F.1 F.2.1 dX11_countBetter_39 (by decide) ?_
          exact ih4 (i + 1) (k + 0) _ _ _ (by omega) (by rw [cntb_s (by omega), ← hk, if_neg (fun q => btr_irr cc_2 (btb_iff.mp q))]) (by omega) (G.perm (ws' := [(m0, mO M xth xrm xsv xln xat xer xwr xwd xlo xhi xwl xml xkl xfi xse xdn xon xtw xol xrw xgl xus xpr xmk xab), (M 1, aI (K 0) 1247 g)]) [0, 1] rfl rfl) (lv_sub hl [2, 3, 1, 0] rfl)
        · refine lv_aload_n F.1 F.2.1 dX11_countBetter_20 rfl (lv_at hl 0 rfl) ?_
          refine lv_iload_n F.1 F.2.1 dX11_countBetter_21 rfl (lv_at hl 3 rfl) ?_
          refine lv_iload_n F.1 F.2.1 dX11_countBetter_22 rfl (lv_at hl 1 rfl) ?_
          refine ad_callV (As := [.int (iI i), .int (iI z)]) (rest := [.int (iI k)]) F G (c_X11_isBetter l D K z0 m0 M xth xrm xsv xln xat xer xwr xwd xlo xhi xwl xml xkl xfi xse xdn xon xtw xol xrw xgl xus xpr xmk xab g rs ps md th nc i z hM hW (by omega) hz) my_X11_isBetter mv_X11_178 (wr := []) (isC := [0, 1]) (isR := []) ⟨rfl, rfl, rfl, rfl, by decide⟩ 11 0 rfl rfl rfl rfl ⟨Nat.le_of_ble_eq_true rfl, Nat.le_of_ble_eq_true rfl⟩ ⟨Nat.le_of_ble_eq_true rfl, Nat.le_of_ble_eq_true rfl⟩ (Nat.le_of_ble_eq_true rfl) hl.1 (cells9 := 0) (slots9 := 0) ⟨rfl, rfl⟩ dX11_countBetter_23 (fun v u H locs hw_3 G => ?_)
          rcases hw_3 with ⟨rfl, hc_4, rfl⟩ | ⟨rfl, hc_5, rfl⟩
          · replace G := G.perm (ws' := [(m0, mO M xth xrm xsv xln xat xer xwr xwd xlo xhi xwl xml xkl xfi xse xdn xon xtw xol xrw xgl xus xpr xmk xab), (M 1, aI (K 0) 1247 g)]) [0, 1] rfl rfl
            refine W.eq (g2 := F0 m9 26 ls [.int (iI 1), .int (iI k)]) rfl ?_
            refine ad_if_eq (tgt := 33) F (by decide) dX11_countBetter_26 (by decide) (fun cc_6 => absurd cc_6 (by decide)) (fun _ => ?_)
            refine ad_iconst F dX11_countBetter_29 ?_
            refine lv_goto (tgt := 34) F.1 F.2.1 dX11_countBetter_30 (by decide) ?_
            refine ad_iadd F dX11_countBetter_34 ?_
            refine lv_istore_n (lv' := [(2, .int (iI (k + 1))), (0, .ref m0), (1, .int (iI z)), (3, .int (iI i))]) F.1 F.2.1 dX11_countBetter_35 rfl hl (by decide) rfl (fun ls hl => ?_)
            refine ad_iinc (lv' := [(3, .int (iI (i + 1))), (2, .int (iI (k + 1))), (0, .ref m0), (1, .int (iI z))]) F dX11_countBetter_36 hl (k := 3) rfl (by decide) rfl (fun ls hl => ?_)
            refine lv_goto (tgt := 4) F.1 F.2.1 dX11_countBetter_39 (by decide) ?_
            exact ih4 (i + 1) (k + 1) _ _ _ (by omega) (by rw [cntb_s (by omega), ← hk, if_pos (btb_iff.mpr hc_4)]) (by omega) (G.perm (ws' := [(m0, mO M xth xrm xsv xln xat xer xwr xwd xlo xhi xwl xml xkl xfi xse xdn xon xtw xol xrw xgl xus xpr xmk xab), (M 1, aI (K 0) 1247 g)]) [0, 1] rfl rfl) (lv_sub hl [2, 3, 1, 0] rfl)
          · replace G := G.perm (ws' := [(m0, mO M xth xrm xsv xln xat xer xwr xwd xlo xhi xwl xml xkl xfi xse xdn xon xtw xol xrw xgl xus xpr xmk xab), (M 1, aI (K 0) 1247 g)]) [0, 1] rfl rfl
            refine W.eq (g2 := F0 m9 26 ls [.int (iI 0), .int (iI k)]) rfl ?_
            refine ad_if_eq (tgt := 33) F (by decide) dX11_countBetter_26 (by decide) (fun _ => ?_) (fun cc_7 => absurd cc_7 (by decide))
            refine ad_iconst F dX11_countBetter_33 ?_
            refine ad_iadd F dX11_countBetter_34 ?_
            refine lv_istore_n (lv' := [(2, .int (iI (k + 0))), (0, .ref m0), (1, .int (iI z)), (3, .int (iI i))]) F.1 F.2.1 dX11_countBetter_35 rfl hl (by decide) rfl (fun ls hl => ?_)
            refine ad_iinc (lv' := [(3, .int (iI (i + 1))), (2, .int (iI (k + 0))), (0, .ref m0), (1, .int (iI z))]) F dX11_countBetter_36 hl (k := 3) rfl (by decide) rfl (fun ls hl => ?_)
            refine lv_goto (tgt := 4) F.1 F.2.1 dX11_countBetter_39 (by decide) ?_
            exact ih4 (i + 1) (k + 0) _ _ _ (by omega) (by rw [cntb_s (by omega), ← hk, if_neg (fun q => hc_5 (btb_iff.mp q))]) (by omega) (G.perm (ws' := [(m0, mO M xth xrm xsv xln xat xer xwr xwd xlo xhi xwl xml xkl xfi xse xdn xon xtw xol xrw xgl xus xpr xmk xab), (M 1, aI (K 0) 1247 g)]) [0, 1] rfl rfl) (lv_sub hl [2, 3, 1, 0] rfl)
  exact lp4 ((((rs.length - 0 : Int)) + 1).toNat) 0 0 _ _ _ (by omega) rfl (by omega) (G.perm (ws' := [(m0, mO M xth xrm xsv xln xat xer xwr xwd xlo xhi xwl xml xkl xfi xse xdn xon xtw xol xrw xgl xus xpr xmk xab), (M 1, aI (K 0) 1247 g)]) [0, 1] rfl rfl) (lv_sub hl [2, 3, 1, 0] rfl)

def rm_X11_fits : Room := { frames := 1, cells := 0, slots := 0, locals := 12 }
set_option maxHeartbeats 4000000 in
set_option maxRecDepth 100000 in
theorem c_X11_fits (l : Launch) (D : va_G) (K : Nat → ClassId) (z0 : Nat) (c : Int) (pl : Int) (hc : 0 ≤ c ∧ c ≤ 4) (hp : 0 ≤ pl ∧ pl ≤ 2) : CT l D K z0 yX11_fits cX11_fits 2 (some .boolean) rm_X11_fits [.int (iI c), .int (iI pl)] [] (fun v9 u9 => (v9 = some (.int (iI 1)) ∧ (fitb c pl = true) ∧ u9 = []) ∨ (v9 = some (.int (iI 0)) ∧ (¬ fitb c pl = true) ∧ u9 = [])) := by
  refine CT.start RX11 "fits" (by decide) rfl rfl (Nat.le_of_ble_eq_true rfl) ?_
  intro p9 e9 s9 m9 ag9 bl9 mt9 c9 A9 Q9 ls F G hR hl
  have hl : lv_has ls 2 [(0, .int (iI c)), (1, .int (iI pl))] := hl
  refine lv_iload_n F.1 F.2.1 dX11_fits_0 rfl (lv_at hl 0 rfl) ?_
  rcases (show (c < 0 ∨ 2 < c) ∨ c = 0 ∨ c = 1 ∨ c = 2 by omega) with cs_1 | cs_1 | cs_1 | cs_1
  · refine ad_tabOut (tgt := 50) F dX11_fits_1 (by omega) cs_1 (by decide) ?_
    refine lv_iload_n F.1 F.2.1 dX11_fits_50 rfl (lv_at hl 1 rfl) ?_
    refine lv_iload_n F.1 F.2.1 dX11_fits_51 rfl (lv_at hl 0 rfl) ?_
    refine ad_iconst F dX11_fits_52 ?_
    refine ad_isub F dX11_fits_53 ?_
    refine ad_icmp_ne (tgt := 61) F (by omega) dX11_fits_54 (by decide) (fun cc_2 => ?_) (fun cc_2 => ?_)
    · refine ad_iconst F dX11_fits_61 ?_
      exact ad_zreturn F G hR rfl (Nat.le_of_ble_eq_true rfl) (Nat.le_of_ble_eq_true rfl) rfl (Or.inr (⟨rfl, (fun q => by have := (fit_c hc hp).mp q; omega), rfl⟩)) dX11_fits_62
    · refine ad_iconst F dX11_fits_57 ?_
      refine lv_goto (tgt := 62) F.1 F.2.1 dX11_fits_58 (by decide) ?_
      exact ad_zreturn F G hR rfl (Nat.le_of_ble_eq_true rfl) (Nat.le_of_ble_eq_true rfl) rfl (Or.inl ⟨rfl, ((fit_c hc hp).mpr (by omega)), rfl⟩) dX11_fits_62
  · refine ad_tabIn (v := 0) (tgt := 28) F dX11_fits_1 cs_1 (by decide) (by decide) (by decide) rfl (by decide) ?_
    refine ad_iconst F dX11_fits_28 ?_
    exact ad_zreturn F G hR rfl (Nat.le_of_ble_eq_true rfl) (Nat.le_of_ble_eq_true rfl) rfl (Or.inl ⟨rfl, ((fit_c hc hp).mpr (by omega)), rfl⟩) dX11_fits_29
  · refine ad_tabIn (v := 1) (tgt := 30) F dX11_fits_1 cs_1 (by decide) (by decide) (by decide) rfl (by decide) ?_
    refine lv_iload_n F.1 F.2.1 dX11_fits_30 rfl (lv_at hl 1 rfl) ?_
    refine ad_if_ne (tgt := 38) F (by omega) dX11_fits_31 (by decide) (fun cc_3 => ?_) (fun cc_3 => ?_)
    · refine ad_iconst F dX11_fits_38 ?_
      exact ad_zreturn F G hR rfl (Nat.le_of_ble_eq_true rfl) (Nat.le_of_ble_eq_true rfl) rfl (Or.inr (⟨rfl, (fun q => by have := (fit_c hc hp).mp q; omega), rfl⟩)) dX11_fits_39
    · refine ad_iconst F dX11_fits_34 ?_
      refine lv_goto (tgt := 39) F.1 F.2.1 dX11_fits_35 (by decide) ?_
      exact ad_zreturn F G hR rfl (Nat.le_of_ble_eq_true rfl) (Nat.le_of_ble_eq_true rfl) rfl (Or.inl ⟨rfl, ((fit_c hc hp).mpr (by omega)), rfl⟩) dX11_fits_39
  · refine ad_tabIn (v := 2) (tgt := 40) F dX11_fits_1 cs_1 (by decide) (by decide) (by decide) rfl (by decide) ?_
    refine lv_iload_n F.1 F.2.1 dX11_fits_40 rfl (lv_at hl 1 rfl) ?_
    refine ad_if_le (tgt := 48) F (by omega) dX11_fits_41 (by decide) (fun cc_4 => ?_) (fun cc_4 => ?_)
    · refine ad_iconst F dX11_fits_48 ?_
      exact ad_zreturn F G hR rfl (Nat.le_of_ble_eq_true rfl) (Nat.le_of_ble_eq_true rfl) rfl (Or.inr (⟨rfl, (fun q => by have := (fit_c hc hp).mp q; omega), rfl⟩)) dX11_fits_49
    · refine ad_iconst F dX11_fits_44 ?_
      refine lv_goto (tgt := 49) F.1 F.2.1 dX11_fits_45 (by decide) ?_
      exact ad_zreturn F G hR rfl (Nat.le_of_ble_eq_true rfl) (Nat.le_of_ble_eq_true rfl) rfl (Or.inl ⟨rfl, ((fit_c hc hp).mpr (by omega)), rfl⟩) dX11_fits_49

def rm_X11_placeBehind : Room := { frames := 1, cells := 0, slots := 0, locals := 12 }
set_option maxHeartbeats 4000000 in
set_option maxRecDepth 100000 in
theorem c_X11_placeBehind (l : Launch) (D : va_G) (K : Nat → ClassId) (z0 : Nat) (x : Int) (hx : -2147483648 ≤ x ∧ x < 2147483648) : CT l D K z0 yX11_placeBehind cX11_placeBehind 1 (some .int) rm_X11_placeBehind [.int (iI x)] [] (fun v9 u9 => v9 = some (.int (iI (plB x))) ∧ u9 = []) := by
  refine CT.start RX11 "placeBehind" (by decide) rfl rfl (Nat.le_of_ble_eq_true rfl) ?_
  intro p9 e9 s9 m9 ag9 bl9 mt9 c9 A9 Q9 ls F G hR hl
  have hl : lv_has ls 1 [(0, .int (iI x))] := hl
  refine lv_iload_n F.1 F.2.1 dX11_placeBehind_0 rfl (lv_at hl 0 rfl) ?_
  refine ad_bipush F dX11_placeBehind_1 (by decide) ?_
  refine ad_icmp_eq (tgt := 30) F (by omega) dX11_placeBehind_3 (by decide) (fun cc_1 => ?_) (fun cc_1 => ?_)
  · refine ad_iconst F dX11_placeBehind_30 ?_
    refine lv_goto (tgt := 35) F.1 F.2.1 dX11_placeBehind_31 (by decide) ?_
    exact ad_ireturn F G hR rfl (Nat.le_of_ble_eq_true rfl) (Nat.le_of_ble_eq_true rfl) ⟨(ad_eqi (by unfold plB; rw [if_pos (by omega)])), rfl⟩ dX11_placeBehind_35
  · refine lv_iload_n F.1 F.2.1 dX11_placeBehind_6 rfl (lv_at hl 0 rfl) ?_
    refine ad_bipush F dX11_placeBehind_7 (by decide) ?_
    refine ad_icmp_eq (tgt := 30) F (by omega) dX11_placeBehind_9 (by decide) (fun cc_2 => ?_) (fun cc_2 => ?_)
    · refine ad_iconst F dX11_placeBehind_30 ?_
      refine lv_goto (tgt := 35) F.1 F.2.1 dX11_placeBehind_31 (by decide) ?_
      exact ad_ireturn F G hR rfl (Nat.le_of_ble_eq_true rfl) (Nat.le_of_ble_eq_true rfl) ⟨(ad_eqi (by unfold plB; rw [if_pos (by omega)])), rfl⟩ dX11_placeBehind_35
    · refine lv_iload_n F.1 F.2.1 dX11_placeBehind_12 rfl (lv_at hl 0 rfl) ?_
      refine ad_bipush F dX11_placeBehind_13 (by decide) ?_
      refine ad_icmp_eq (tgt := 30) F (by omega) dX11_placeBehind_15 (by decide) (fun cc_3 => ?_) (fun cc_3 => ?_)
      · refine ad_iconst F dX11_placeBehind_30 ?_
        refine lv_goto (tgt := 35) F.1 F.2.1 dX11_placeBehind_31 (by decide) ?_
        exact ad_ireturn F G hR rfl (Nat.le_of_ble_eq_true rfl) (Nat.le_of_ble_eq_true rfl) ⟨(ad_eqi (by unfold plB; rw [if_pos (by omega)])), rfl⟩ dX11_placeBehind_35
      · refine lv_iload_n F.1 F.2.1 dX11_placeBehind_18 rfl (lv_at hl 0 rfl) ?_
        refine ad_bipush F dX11_placeBehind_19 (by decide) ?_
        refine ad_icmp_eq (tgt := 30) F (by omega) dX11_placeBehind_21 (by decide) (fun cc_4 => ?_) (fun cc_4 => ?_)
        · refine ad_iconst F dX11_placeBehind_30 ?_
          refine lv_goto (tgt := 35) F.1 F.2.1 dX11_placeBehind_31 (by decide) ?_
          exact ad_ireturn F G hR rfl (Nat.le_of_ble_eq_true rfl) (Nat.le_of_ble_eq_true rfl) ⟨(ad_eqi (by unfold plB; rw [if_pos (by omega)])), rfl⟩ dX11_placeBehind_35
        · refine lv_iload_n F.1 F.2.1 dX11_placeBehind_24 rfl (lv_at hl 0 rfl) ?_
          refine ad_bipush F dX11_placeBehind_25 (by decide) ?_
          refine ad_icmp_ne (tgt := 34) F (by omega) dX11_placeBehind_27 (by decide) (fun cc_5 => ?_) (fun cc_5 => ?_)
          · refine ad_iconst F dX11_placeBehind_34 ?_
            exact ad_ireturn F G hR rfl (Nat.le_of_ble_eq_true rfl) (Nat.le_of_ble_eq_true rfl) ⟨(ad_eqi (by unfold plB; rw [if_neg (by omega)])), rfl⟩ dX11_placeBehind_35
          · refine ad_iconst F dX11_placeBehind_30 ?_
            refine lv_goto (tgt := 35) F.1 F.2.1 dX11_placeBehind_31 (by decide) ?_
            exact ad_ireturn F G hR rfl (Nat.le_of_ble_eq_true rfl) (Nat.le_of_ble_eq_true rfl) ⟨(ad_eqi (by unfold plB; rw [if_pos (by omega)])), rfl⟩ dX11_placeBehind_35

def rm_X11_haveSame : Room := { frames := 3, cells := 0, slots := 0, locals := 57 }
set_option maxHeartbeats 4000000 in
set_option maxRecDepth 100000 in
theorem c_X11_haveSame (l : Launch) (D : va_G) (K : Nat → ClassId) (z0 : Nat) (m0 : Nat) (M : Nat → Nat) (xth : Int) (xrm : Int) (xsv : Int) (xln : Int) (xat : Int) (xer : Int) (xwr : Int) (xwd : Int) (xlo : Int) (xhi : Int) (xwl : Int) (xml : Int) (xkl : Int) (xfi : Int) (xse : Int) (xdn : Int) (xon : Int) (xtw : Int) (xol : Int) (xrw : Int) (xgl : Int) (xus : Int) (xpr : Int) (xmk : Int) (xab : Int) (g : Nat → Int) (rs : List Rl) (ps : List Pr) (md : Int) (th : Int) (nc : Int) (x : Int) (y : Int) (b : Int) (hM : MRow g rs ps md th nc) (hW : RW rs) (hx : 0 ≤ x ∧ x < rs.length) (hy : 0 ≤ y ∧ y < rs.length) (hb : b = 0 ∨ b = 1) : CT l D K z0 yX11_haveSame cX11_haveSame 6 (some .boolean) rm_X11_haveSame [.ref m0, .int (iI x), .int (iI y), .int (iI b)] [(m0, mO M xth xrm xsv xln xat xer xwr xwd xlo xhi xwl xml xkl xfi xse xdn xon xtw xol xrw xgl xus xpr xmk xab), (M 1, aI (K 0) 1247 g)] (fun v9 u9 => (v9 = some (.int (iI 1)) ∧ ((fmo (rget rs x) b) = (fmo (rget rs y) b)) ∧ u9 = [(m0, mO M xth xrm xsv xln xat xer xwr xwd xlo xhi xwl xml xkl xfi xse xdn xon xtw xol xrw xgl xus xpr xmk xab), (M 1, aI (K 0) 1247 g)]) ∨ (v9 = some (.int (iI 0)) ∧ (¬ (fmo (rget rs x) b) = (fmo (rget rs y) b)) ∧ u9 = [(m0, mO M xth xrm xsv xln xat xer xwr xwd xlo xhi xwl xml xkl xfi xse xdn xon xtw xol xrw xgl xus xpr xmk xab), (M 1, aI (K 0) 1247 g)])) := by
  refine CT.start RX11 "haveSame" (by decide) rfl rfl (Nat.le_of_ble_eq_true rfl) ?_
  intro p9 e9 s9 m9 ag9 bl9 mt9 c9 A9 Q9 ls F G hR hl
  have hl : lv_has ls 6 [(0, .ref m0), (1, .int (iI x)), (2, .int (iI y)), (3, .int (iI b))] := hl
  have hn := hW.1
  have b1 := hW.bd hx.1 hx.2
  have b2 := hW.bd hy.1 hy.2
  have l1 := fmo_len hW x b
  have l2 := fmo_len hW y b
  refine lv_aload_n F.1 F.2.1 dX11_haveSame_0 rfl (lv_at hl 0 rfl) ?_
  refine lv_iload_n F.1 F.2.1 dX11_haveSame_1 rfl (lv_at hl 1 rfl) ?_
  refine lv_iload_n F.1 F.2.1 dX11_haveSame_2 rfl (lv_at hl 3 rfl) ?_
  refine ad_callV (As := [.int (iI x), .int (iI b)]) (rest := []) F G (c_X11_lengthOf l D K z0 m0 M xth xrm xsv xln xat xer xwr xwd xlo xhi xwl xml xkl xfi xse xdn xon xtw xol xrw xgl xus xpr xmk xab g rs ps md th nc x b hM hW hx hb) my_X11_lengthOf mv_X11_185 (wr := []) (isC := [0, 1]) (isR := []) ⟨rfl, rfl, rfl, rfl, by decide⟩ 11 0 rfl rfl rfl rfl ⟨Nat.le_of_ble_eq_true rfl, Nat.le_of_ble_eq_true rfl⟩ ⟨Nat.le_of_ble_eq_true rfl, Nat.le_of_ble_eq_true rfl⟩ (Nat.le_of_ble_eq_true rfl) hl.1 (cells9 := 0) (slots9 := 0) ⟨rfl, rfl⟩ dX11_haveSame_3 (fun v u H locs hw_1 G => ?_)
  obtain ⟨rfl, rfl⟩ := hw_1
  replace G := G.perm (ws' := [(m0, mO M xth xrm xsv xln xat xer xwr xwd xlo xhi xwl xml xkl xfi xse xdn xon xtw xol xrw xgl xus xpr xmk xab), (M 1, aI (K 0) 1247 g)]) [0, 1] rfl rfl
  refine W.eq (g2 := F0 m9 6 ls [.int (iI ((fmo (rget rs x) b).length : Int))]) rfl ?_
  refine lv_aload_n F.1 F.2.1 dX11_haveSame_6 rfl (lv_at hl 0 rfl) ?_
  refine lv_iload_n F.1 F.2.1 dX11_haveSame_7 rfl (lv_at hl 2 rfl) ?_
  refine lv_iload_n F.1 F.2.1 dX11_haveSame_8 rfl (lv_at hl 3 rfl) ?_
  refine ad_callV (As := [.int (iI y), .int (iI b)]) (rest := [.int (iI ((fmo (rget rs x) b).length : Int))]) F G (c_X11_lengthOf l D K z0 m0 M xth xrm xsv xln xat xer xwr xwd xlo xhi xwl xml xkl xfi xse xdn xon xtw xol xrw xgl xus xpr xmk xab g rs ps md th nc y b hM hW hy hb) my_X11_lengthOf mv_X11_185 (wr := []) (isC := [0, 1]) (isR := []) ⟨rfl, rfl, rfl, rfl, by decide⟩ 11 0 rfl rfl rfl rfl ⟨Nat.le_of_ble_eq_true rfl, Nat.le_of_ble_eq_true rfl⟩ ⟨Nat.le_of_ble_eq_true rfl, Nat.le_of_ble_eq_true rfl⟩ (Nat.le_of_ble_eq_true rfl) hl.1 (cells9 := 0) (slots9 := 0) ⟨rfl, rfl⟩ dX11_haveSame_9 (fun v u H locs hw_2 G => ?_)
  obtain ⟨rfl, rfl⟩ := hw_2
  replace G := G.perm (ws' := [(m0, mO M xth xrm xsv xln xat xer xwr xwd xlo xhi xwl xml xkl xfi xse xdn xon xtw xol xrw xgl xus xpr xmk xab), (M 1, aI (K 0) 1247 g)]) [0, 1] rfl rfl
  refine W.eq (g2 := F0 m9 12 ls [.int (iI ((fmo (rget rs y) b).length : Int)), .int (iI ((fmo (rget rs x) b).length : Int))]) rfl ?_
  refine ad_icmp_ne (tgt := 19) F (by omega) dX11_haveSame_12 (by decide) (fun cc_3 => ?_) (fun cc_3 => ?_)
  · refine ad_iconst F dX11_haveSame_19 ?_
    refine lv_istore (lv' := [(4, .int (iI 0)), (0, .ref m0), (1, .int (iI x)), (2, .int (iI y)), (3, .int (iI b))]) F.1 F.2.1 dX11_haveSame_20 hl (by decide) rfl (fun ls hl => ?_)
    refine ad_iconst F dX11_haveSame_22 ?_
    refine lv_istore (lv' := [(5, .int (iI 0)), (4, .int (iI 0)), (0, .ref m0), (1, .int (iI x)), (2, .int (iI y)), (3, .int (iI b))]) F.1 F.2.1 dX11_haveSame_23 hl (by decide) rfl (fun ls hl => ?_)
    have lp25 : ∀ (n25 : Nat) (sm : Int) (k : Int) (H : Heap) (locs : List Loc) (ls : Array Slot), (0 ≤ k ∧ k ≤ (fmo (rget rs x) b).length) → ((sm = 1 ∧ ((fmo (rget rs x) b).length : Int) = (fmo (rget rs y) b).length ∧ ∀ j : Int, 0 ≤ j → j < k → lat (fmo (rget rs x) b) j = lat (fmo (rget rs y) b) j) ∨ (sm = 0 ∧ ¬ (fmo (rget rs x) b) = (fmo (rget rs y) b))) → ((fmo (rget rs x) b).length - k) < (n25 : Int) → ad_G D A9 s9.heap H locs [(m0, mO M xth xrm xsv xln xat xer xwr xwd xlo xhi xwl xml xkl xfi xse xdn xon xtw xol xrw xgl xus xpr xmk xab), (M 1, aI (K 0) 1247 g)] → lv_has ls 6 [(0, .ref m0), (1, .int (iI x)), (2, .int (iI y)), (3, .int (iI b)), (4, .int (iI sm)), (5, .int (iI k))] → W p9 l e9 rm_X11_haveSame s9 m9 ag9 bl9 mt9 c9 H locs 0 0 Q9 (F0 m9 25 ls []) := by
      intro n25
      induction n25 with
      | zero =>
        intro sm k H locs ls hk hs hm25
        exact absurd hm25 (by omega)
      | succ n25 ih25 =>
        intro sm k H locs ls hk hs hm25 G hl
        have hsm : sm = 0 ∨ sm = 1 := hs.elim (fun q => Or.inr q.1) (fun q => Or.inl q.1)
        have hsl : sm = 1 → ((fmo (rget rs x) b).length : Int) = (fmo (rget rs y) b).length := fun q => hs.elim (fun q => q.2.1) (fun r => absurd r.1 (by omega))
        refine lv_iload F.1 F.2.1 dX11_haveSame_25 (lv_at hl 4 rfl) ?_
        refine ad_if_eq (tgt := 73) F (by omega) dX11_haveSame_27 (by decide) (fun cc_4 => ?_) (fun cc_4 => ?_)
        · refine lv_iload F.1 F.2.1 dX11_haveSame_73 (lv_at hl 4 rfl) ?_
          exact ad_zreturn F G hR rfl (Nat.le_of_ble_eq_true rfl) (Nat.le_of_ble_eq_true rfl) (iI_boolN (by omega)).1 (Or.inr (⟨(ad_eqi (by omega)), (hs.elim (fun q => absurd q.1 (by omega)) (fun q => q.2)), rfl⟩)) dX11_haveSame_75
        · refine lv_iload F.1 F.2.1 dX11_haveSame_30 (lv_at hl 5 rfl) ?_
          refine lv_aload_n F.1 F.2.1 dX11_haveSame_32 rfl (lv_at hl 0 rfl) ?_
          refine lv_iload_n F.1 F.2.1 dX11_haveSame_33 rfl (lv_at hl 1 rfl) ?_
          refine lv_iload_n F.1 F.2.1 dX11_haveSame_34 rfl (lv_at hl 3 rfl) ?_
          refine ad_callV (As := [.int (iI x), .int (iI b)]) (rest := [.int (iI k)]) F G (c_X11_lengthOf l D K z0 m0 M xth xrm xsv xln xat xer xwr xwd xlo xhi xwl xml xkl xfi xse xdn xon xtw xol xrw xgl xus xpr xmk xab g rs ps md th nc x b hM hW hx hb) my_X11_lengthOf mv_X11_185 (wr := []) (isC := [0, 1]) (isR := []) ⟨rfl, rfl, rfl, rfl, by decide⟩ 11 0 rfl rfl rfl rfl ⟨Nat.le_of_ble_eq_true rfl, Nat.le_of_ble_eq_true rfl⟩ ⟨Nat.le_of_ble_eq_true rfl, Nat.le_of_ble_eq_true rfl⟩ (Nat.le_of_ble_eq_true rfl) hl.1 (cells9 := 0) (slots9 := 0) ⟨rfl, rfl⟩ dX11_haveSame_35 (fun v u H locs hw_5 G => ?_)
          obtain ⟨rfl, rfl⟩ := hw_5
          replace G := G.perm (ws' := [(m0, mO M xth xrm xsv xln xat xer xwr xwd xlo xhi xwl xml xkl xfi xse xdn xon xtw xol xrw xgl xus xpr xmk xab), (M 1, aI (K 0) 1247 g)]) [0, 1] rfl rfl
          refine W.eq (g2 := F0 m9 38 ls [.int (iI ((fmo (rget rs x) b).length : Int)), .int (iI k)]) rfl ?_
          refine ad_icmp_ge (tgt := 73) F (by omega) dX11_haveSame_38 (by decide) (fun cc_6 => ?_) (fun cc_6 => ?_)
          · refine lv_iload F.1 F.2.1 dX11_haveSame_73 (lv_at hl 4 rfl) ?_
            exact ad_zreturn F G hR rfl (Nat.le_of_ble_eq_true rfl) (Nat.le_of_ble_eq_true rfl) (iI_boolN (by omega)).1 (Or.inl ⟨(ad_eqi (by omega)), (hs.elim (fun q => lat_eq q.2.1 (fun j h1 h2 => q.2.2 j h1 (by omega))) (fun q => absurd q.1 (by omega))), rfl⟩) dX11_haveSame_75
          · refine lv_aload_n F.1 F.2.1 dX11_haveSame_41 rfl (lv_at hl 0 rfl) ?_
            refine lv_iload_n F.1 F.2.1 dX11_haveSame_42 rfl (lv_at hl 1 rfl) ?_
            refine lv_iload_n F.1 F.2.1 dX11_haveSame_43 rfl (lv_at hl 3 rfl) ?_
            refine lv_iload F.1 F.2.1 dX11_haveSame_44 (lv_at hl 5 rfl) ?_
            refine ad_callV (As := [.int (iI x), .int (iI b), .int (iI k)]) (rest := []) F G (c_X11_letterOf l D K z0 m0 M xth xrm xsv xln xat xer xwr xwd xlo xhi xwl xml xkl xfi xse xdn xon xtw xol xrw xgl xus xpr xmk xab g rs ps md th nc x b k hM hW hx hb (by omega)) my_X11_letterOf mv_X11_189 (wr := []) (isC := [0, 1]) (isR := []) ⟨rfl, rfl, rfl, rfl, by decide⟩ 11 0 rfl rfl rfl rfl ⟨Nat.le_of_ble_eq_true rfl, Nat.le_of_ble_eq_true rfl⟩ ⟨Nat.le_of_ble_eq_true rfl, Nat.le_of_ble_eq_true rfl⟩ (Nat.le_of_ble_eq_true rfl) hl.1 (cells9 := 0) (slots9 := 0) ⟨rfl, rfl⟩ dX11_haveSame_46 (fun v u H locs hw_7 G => ?_)
            obtain ⟨rfl, rfl⟩ := hw_7
            replace G := G.perm (ws' := [(m0, mO M xth xrm xsv xln xat xer xwr xwd xlo xhi xwl xml xkl xfi xse xdn xon xtw xol xrw xgl xus xpr xmk xab), (M 1, aI (K 0) 1247 g)]) [0, 1] rfl rfl
            refine W.eq (g2 := F0 m9 49 ls [.int (iI (lat (fmo (rget rs x) b) k))]) rfl ?_
            refine lv_aload_n F.1 F.2.1 dX11_haveSame_49 rfl (lv_at hl 0 rfl) ?_
            refine lv_iload_n F.1 F.2.1 dX11_haveSame_50 rfl (lv_at hl 2 rfl) ?_
            refine lv_iload_n F.1 F.2.1 dX11_haveSame_51 rfl (lv_at hl 3 rfl) ?_
            refine lv_iload F.1 F.2.1 dX11_haveSame_52 (lv_at hl 5 rfl) ?_
            refine ad_callV (As := [.int (iI y), .int (iI b), .int (iI k)]) (rest := [.int (iI (lat (fmo (rget rs x) b) k))]) F G (c_X11_letterOf l D K z0 m0 M xth xrm xsv xln xat xer xwr xwd xlo xhi xwl xml xkl xfi xse xdn xon xtw xol xrw xgl xus xpr xmk xab g rs ps md th nc y b k hM hW hy hb (by omega)) my_X11_letterOf mv_X11_189 (wr := []) (isC := [0, 1]) (isR := []) ⟨rfl, rfl, rfl, rfl, by decide⟩ 11 0 rfl rfl rfl rfl ⟨Nat.le_of_ble_eq_true rfl, Nat.le_of_ble_eq_true rfl⟩ ⟨Nat.le_of_ble_eq_true rfl, Nat.le_of_ble_eq_true rfl⟩ (Nat.le_of_ble_eq_true rfl) hl.1 (cells9 := 0) (slots9 := 0) ⟨rfl, rfl⟩ dX11_haveSame_54 (fun v u H locs hw_8 G => ?_)
            obtain ⟨rfl, rfl⟩ := hw_8
            replace G := G.perm (ws' := [(m0, mO M xth xrm xsv xln xat xer xwr xwd xlo xhi xwl xml xkl xfi xse xdn xon xtw xol xrw xgl xus xpr xmk xab), (M 1, aI (K 0) 1247 g)]) [0, 1] rfl rfl
            refine W.eq (g2 := F0 m9 57 ls [.int (iI (lat (fmo (rget rs y) b) k)), .int (iI (lat (fmo (rget rs x) b) k))]) rfl ?_
            have hl1 := lat_let (fmo_Fw hW x b) (k := k) (by omega) (by omega)
            have hl2 := lat_let (fmo_Fw hW y b) (k := k) (by omega) (by omega)
            refine ad_icmp_ne (tgt := 64) F (by omega) dX11_haveSame_57 (by decide) (fun cc_9 => ?_) (fun cc_9 => ?_)
            · refine ad_iconst F dX11_haveSame_64 ?_
              refine lv_istore (lv' := [(4, .int (iI 0)), (0, .ref m0), (1, .int (iI x)), (2, .int (iI y)), (3, .int (iI b)), (5, .int (iI k))]) F.1 F.2.1 dX11_haveSame_65 hl (by decide) rfl (fun ls hl => ?_)
              refine ad_iinc (lv' := [(5, .int (iI (k + 1))), (4, .int (iI 0)), (0, .ref m0), (1, .int (iI x)), (2, .int (iI y)), (3, .int (iI b))]) F dX11_haveSame_67 hl (k := 5) rfl (by decide) rfl (fun ls hl => ?_)
              refine lv_goto (tgt := 25) F.1 F.2.1 dX11_haveSame_70 (by decide) ?_
              exact ih25 0 (k + 1) _ _ _ (by omega) (Or.inr ⟨rfl, fun q => cc_9 (by rw [show fmo (rget rs x) b = fmo (rget rs y) b from q])⟩) (by omega) (G.perm (ws' := [(m0, mO M xth xrm xsv xln xat xer xwr xwd xlo xhi xwl xml xkl xfi xse xdn xon xtw xol xrw xgl xus xpr xmk xab), (M 1, aI (K 0) 1247 g)]) [0, 1] rfl rfl) (lv_sub hl [2, 3, 4, 5, 1, 0] rfl)
            · refine ad_iconst F dX11_haveSame_60 ?_
              refine lv_goto (tgt := 65) F.1 F.2.1 dX11_haveSame_61 (by decide) ?_
              refine lv_istore (lv' := [(4, .int (iI 1)), (0, .ref m0), (1, .int (iI x)), (2, .int (iI y)), (3, .int (iI b)), (5, .int (iI k))]) F.1 F.2.1 dX11_haveSame_65 hl (by decide) rfl (fun ls hl => ?_)
              refine ad_iinc (lv' := [(5, .int (iI (k + 1))), (4, .int (iI 1)), (0, .ref m0), (1, .int (iI x)), (2, .int (iI y)), (3, .int (iI b))]) F dX11_haveSame_67 hl (k := 5) rfl (by decide) rfl (fun ls hl => ?_)
              refine lv_goto (tgt := 25) F.1 F.2.1 dX11_haveSame_70 (by decide) ?_
              exact ih25 1 (k + 1) _ _ _ (by omega) (Or.inl ⟨rfl, by omega, fun j h1 h2 => (show j < k ∨ j = k by omega).elim (fun h => (hs.elim (fun q => q.2.2) (fun q => absurd q.1 (by omega))) j h1 h) (fun h => by rw [h]; exact cc_9)⟩) (by omega) (G.perm (ws' := [(m0, mO M xth xrm xsv xln xat xer xwr xwd xlo xhi xwl xml xkl xfi xse xdn xon xtw xol xrw xgl xus xpr xmk xab), (M 1, aI (K 0) 1247 g)]) [0, 1] rfl rfl) (lv_sub hl [2, 3, 4, 5, 1, 0] rfl)
    exact lp25 (((((fmo (rget rs x) b).length - 0 : Int)) + 1).toNat) 0 0 _ _ _ (by omega) (Or.inr ⟨rfl, fun q => cc_3 (by rw [q])⟩) (by omega) (G.perm (ws' := [(m0, mO M xth xrm xsv xln xat xer xwr xwd xlo xhi xwl xml xkl xfi xse xdn xon xtw xol xrw xgl xus xpr xmk xab), (M 1, aI (K 0) 1247 g)]) [0, 1] rfl rfl) (lv_sub hl [2, 3, 4, 5, 1, 0] rfl)
  · refine ad_iconst F dX11_haveSame_15 ?_
    refine lv_goto (tgt := 20) F.1 F.2.1 dX11_haveSame_16 (by decide) ?_
    refine lv_istore (lv' := [(4, .int (iI 1)), (0, .ref m0), (1, .int (iI x)), (2, .int (iI y)), (3, .int (iI b))]) F.1 F.2.1 dX11_haveSame_20 hl (by decide) rfl (fun ls hl => ?_)
    refine ad_iconst F dX11_haveSame_22 ?_
    refine lv_istore (lv' := [(5, .int (iI 0)), (4, .int (iI 1)), (0, .ref m0), (1, .int (iI x)), (2, .int (iI y)), (3, .int (iI b))]) F.1 F.2.1 dX11_haveSame_23 hl (by decide) rfl (fun ls hl => ?_)
    have lp25 : ∀ (n25 : Nat) (sm : Int) (k : Int) (H : Heap) (locs : List Loc) (ls : Array Slot), (0 ≤ k ∧ k ≤ (fmo (rget rs x) b).length) → ((sm = 1 ∧ ((fmo (rget rs x) b).length : Int) = (fmo (rget rs y) b).length ∧ ∀ j : Int, 0 ≤ j → j < k → lat (fmo (rget rs x) b) j = lat (fmo (rget rs y) b) j) ∨ (sm = 0 ∧ ¬ (fmo (rget rs x) b) = (fmo (rget rs y) b))) → ((fmo (rget rs x) b).length - k) < (n25 : Int) → ad_G D A9 s9.heap H locs [(m0, mO M xth xrm xsv xln xat xer xwr xwd xlo xhi xwl xml xkl xfi xse xdn xon xtw xol xrw xgl xus xpr xmk xab), (M 1, aI (K 0) 1247 g)] → lv_has ls 6 [(0, .ref m0), (1, .int (iI x)), (2, .int (iI y)), (3, .int (iI b)), (4, .int (iI sm)), (5, .int (iI k))] → W p9 l e9 rm_X11_haveSame s9 m9 ag9 bl9 mt9 c9 H locs 0 0 Q9 (F0 m9 25 ls []) := by
      intro n25
      induction n25 with
      | zero =>
        intro sm k H locs ls hk hs hm25
        exact absurd hm25 (by omega)
      | succ n25 ih25 =>
        intro sm k H locs ls hk hs hm25 G hl
        have hsm : sm = 0 ∨ sm = 1 := hs.elim (fun q => Or.inr q.1) (fun q => Or.inl q.1)
        have hsl : sm = 1 → ((fmo (rget rs x) b).length : Int) = (fmo (rget rs y) b).length := fun q => hs.elim (fun q => q.2.1) (fun r => absurd r.1 (by omega))
        refine lv_iload F.1 F.2.1 dX11_haveSame_25 (lv_at hl 4 rfl) ?_
        refine ad_if_eq (tgt := 73) F (by omega) dX11_haveSame_27 (by decide) (fun cc_10 => ?_) (fun cc_10 => ?_)
        · refine lv_iload F.1 F.2.1 dX11_haveSame_73 (lv_at hl 4 rfl) ?_
          exact ad_zreturn F G hR rfl (Nat.le_of_ble_eq_true rfl) (Nat.le_of_ble_eq_true rfl) (iI_boolN (by omega)).1 (Or.inr (⟨(ad_eqi (by omega)), (hs.elim (fun q => absurd q.1 (by omega)) (fun q => q.2)), rfl⟩)) dX11_haveSame_75
        · refine lv_iload F.1 F.2.1 dX11_haveSame_30 (lv_at hl 5 rfl) ?_
          refine lv_aload_n F.1 F.2.1 dX11_haveSame_32 rfl (lv_at hl 0 rfl) ?_
          refine lv_iload_n F.1 F.2.1 dX11_haveSame_33 rfl (lv_at hl 1 rfl) ?_
          refine lv_iload_n F.1 F.2.1 dX11_haveSame_34 rfl (lv_at hl 3 rfl) ?_
          refine ad_callV (As := [.int (iI x), .int (iI b)]) (rest := [.int (iI k)]) F G (c_X11_lengthOf l D K z0 m0 M xth xrm xsv xln xat xer xwr xwd xlo xhi xwl xml xkl xfi xse xdn xon xtw xol xrw xgl xus xpr xmk xab g rs ps md th nc x b hM hW hx hb) my_X11_lengthOf mv_X11_185 (wr := []) (isC := [0, 1]) (isR := []) ⟨rfl, rfl, rfl, rfl, by decide⟩ 11 0 rfl rfl rfl rfl ⟨Nat.le_of_ble_eq_true rfl, Nat.le_of_ble_eq_true rfl⟩ ⟨Nat.le_of_ble_eq_true rfl, Nat.le_of_ble_eq_true rfl⟩ (Nat.le_of_ble_eq_true rfl) hl.1 (cells9 := 0) (slots9 := 0) ⟨rfl, rfl⟩ dX11_haveSame_35 (fun v u H locs hw_11 G => ?_)
          obtain ⟨rfl, rfl⟩ := hw_11
          replace G := G.perm (ws' := [(m0, mO M xth xrm xsv xln xat xer xwr xwd xlo xhi xwl xml xkl xfi xse xdn xon xtw xol xrw xgl xus xpr xmk xab), (M 1, aI (K 0) 1247 g)]) [0, 1] rfl rfl
          refine W.eq (g2 := F0 m9 38 ls [.int (iI ((fmo (rget rs x) b).length : Int)), .int (iI k)]) rfl ?_
          refine ad_icmp_ge (tgt := 73) F (by omega) dX11_haveSame_38 (by decide) (fun cc_12 => ?_) (fun cc_12 => ?_)
          · refine lv_iload F.1 F.2.1 dX11_haveSame_73 (lv_at hl 4 rfl) ?_
            exact ad_zreturn F G hR rfl (Nat.le_of_ble_eq_true rfl) (Nat.le_of_ble_eq_true rfl) (iI_boolN (by omega)).1 (Or.inl ⟨(ad_eqi (by omega)), (hs.elim (fun q => lat_eq q.2.1 (fun j h1 h2 => q.2.2 j h1 (by omega))) (fun q => absurd q.1 (by omega))), rfl⟩) dX11_haveSame_75
          · refine lv_aload_n F.1 F.2.1 dX11_haveSame_41 rfl (lv_at hl 0 rfl) ?_
            refine lv_iload_n F.1 F.2.1 dX11_haveSame_42 rfl (lv_at hl 1 rfl) ?_
            refine lv_iload_n F.1 F.2.1 dX11_haveSame_43 rfl (lv_at hl 3 rfl) ?_
            refine lv_iload F.1 F.2.1 dX11_haveSame_44 (lv_at hl 5 rfl) ?_
            refine ad_callV (As := [.int (iI x), .int (iI b), .int (iI k)]) (rest := []) F G (c_X11_letterOf l D K z0 m0 M xth xrm xsv xln xat xer xwr xwd xlo xhi xwl xml xkl xfi xse xdn xon xtw xol xrw xgl xus xpr xmk xab g rs ps md th nc x b k hM hW hx hb (by omega)) my_X11_letterOf mv_X11_189 (wr := []) (isC := [0, 1]) (isR := []) ⟨rfl, rfl, rfl, rfl, by decide⟩ 11 0 rfl rfl rfl rfl ⟨Nat.le_of_ble_eq_true rfl, Nat.le_of_ble_eq_true rfl⟩ ⟨Nat.le_of_ble_eq_true rfl, Nat.le_of_ble_eq_true rfl⟩ (Nat.le_of_ble_eq_true rfl) hl.1 (cells9 := 0) (slots9 := 0) ⟨rfl, rfl⟩ dX11_haveSame_46 (fun v u H locs hw_13 G => ?_)
            obtain ⟨rfl, rfl⟩ := hw_13
            replace G := G.perm (ws' := [(m0, mO M xth xrm xsv xln xat xer xwr xwd xlo xhi xwl xml xkl xfi xse xdn xon xtw xol xrw xgl xus xpr xmk xab), (M 1, aI (K 0) 1247 g)]) [0, 1] rfl rfl
            refine W.eq (g2 := F0 m9 49 ls [.int (iI (lat (fmo (rget rs x) b) k))]) rfl ?_
            refine lv_aload_n F.1 F.2.1 dX11_haveSame_49 rfl (lv_at hl 0 rfl) ?_
            refine lv_iload_n F.1 F.2.1 dX11_haveSame_50 rfl (lv_at hl 2 rfl) ?_
            refine lv_iload_n F.1 F.2.1 dX11_haveSame_51 rfl (lv_at hl 3 rfl) ?_
            refine lv_iload F.1 F.2.1 dX11_haveSame_52 (lv_at hl 5 rfl) ?_
            refine ad_callV (As := [.int (iI y), .int (iI b), .int (iI k)]) (rest := [.int (iI (lat (fmo (rget rs x) b) k))]) F G (c_X11_letterOf l D K z0 m0 M xth xrm xsv xln xat xer xwr xwd xlo xhi xwl xml xkl xfi xse xdn xon xtw xol xrw xgl xus xpr xmk xab g rs ps md th nc y b k hM hW hy hb (by omega)) my_X11_letterOf mv_X11_189 (wr := []) (isC := [0, 1]) (isR := []) ⟨rfl, rfl, rfl, rfl, by decide⟩ 11 0 rfl rfl rfl rfl ⟨Nat.le_of_ble_eq_true rfl, Nat.le_of_ble_eq_true rfl⟩ ⟨Nat.le_of_ble_eq_true rfl, Nat.le_of_ble_eq_true rfl⟩ (Nat.le_of_ble_eq_true rfl) hl.1 (cells9 := 0) (slots9 := 0) ⟨rfl, rfl⟩ dX11_haveSame_54 (fun v u H locs hw_14 G => ?_)
            obtain ⟨rfl, rfl⟩ := hw_14
            replace G := G.perm (ws' := [(m0, mO M xth xrm xsv xln xat xer xwr xwd xlo xhi xwl xml xkl xfi xse xdn xon xtw xol xrw xgl xus xpr xmk xab), (M 1, aI (K 0) 1247 g)]) [0, 1] rfl rfl
            refine W.eq (g2 := F0 m9 57 ls [.int (iI (lat (fmo (rget rs y) b) k)), .int (iI (lat (fmo (rget rs x) b) k))]) rfl ?_
            have hl1 := lat_let (fmo_Fw hW x b) (k := k) (by omega) (by omega)
            have hl2 := lat_let (fmo_Fw hW y b) (k := k) (by omega) (by omega)
            refine ad_icmp_ne (tgt := 64) F (by omega) dX11_haveSame_57 (by decide) (fun cc_15 => ?_) (fun cc_15 => ?_)
            · refine ad_iconst F dX11_haveSame_64 ?_
              refine lv_istore (lv' := [(4, .int (iI 0)), (0, .ref m0), (1, .int (iI x)), (2, .int (iI y)), (3, .int (iI b)), (5, .int (iI k))]) F.1 F.2.1 dX11_haveSame_65 hl (by decide) rfl (fun ls hl => ?_)
              refine ad_iinc (lv' := [(5, .int (iI (k + 1))), (4, .int (iI 0)), (0, .ref m0), (1, .int (iI x)), (2, .int (iI y)), (3, .int (iI b))]) F dX11_haveSame_67 hl (k := 5) rfl (by decide) rfl (fun ls hl => ?_)
              refine lv_goto (tgt := 25) F.1 F.2.1 dX11_haveSame_70 (by decide) ?_
              exact ih25 0 (k + 1) _ _ _ (by omega) (Or.inr ⟨rfl, fun q => cc_15 (by rw [show fmo (rget rs x) b = fmo (rget rs y) b from q])⟩) (by omega) (G.perm (ws' := [(m0, mO M xth xrm xsv xln xat xer xwr xwd xlo xhi xwl xml xkl xfi xse xdn xon xtw xol xrw xgl xus xpr xmk xab), (M 1, aI (K 0) 1247 g)]) [0, 1] rfl rfl) (lv_sub hl [2, 3, 4, 5, 1, 0] rfl)
            · refine ad_iconst F dX11_haveSame_60 ?_
              refine lv_goto (tgt := 65) F.1 F.2.1 dX11_haveSame_61 (by decide) ?_
              refine lv_istore (lv' := [(4, .int (iI 1)), (0, .ref m0), (1, .int (iI x)), (2, .int (iI y)), (3, .int (iI b)), (5, .int (iI k))]) F.1 F.2.1 dX11_haveSame_65 hl (by decide) rfl (fun ls hl => ?_)
              refine ad_iinc (lv' := [(5, .int (iI (k + 1))), (4, .int (iI 1)), (0, .ref m0), (1, .int (iI x)), (2, .int (iI y)), (3, .int (iI b))]) F dX11_haveSame_67 hl (k := 5) rfl (by decide) rfl (fun ls hl => ?_)
              refine lv_goto (tgt := 25) F.1 F.2.1 dX11_haveSame_70 (by decide) ?_
              exact ih25 1 (k + 1) _ _ _ (by omega) (Or.inl ⟨rfl, by omega, fun j h1 h2 => (show j < k ∨ j = k by omega).elim (fun h => (hs.elim (fun q => q.2.2) (fun q => absurd q.1 (by omega))) j h1 h) (fun h => by rw [h]; exact cc_15)⟩) (by omega) (G.perm (ws' := [(m0, mO M xth xrm xsv xln xat xer xwr xwd xlo xhi xwl xml xkl xfi xse xdn xon xtw xol xrw xgl xus xpr xmk xab), (M 1, aI (K 0) 1247 g)]) [0, 1] rfl rfl) (lv_sub hl [2, 3, 4, 5, 1, 0] rfl)
    exact lp25 (((((fmo (rget rs x) b).length - 0 : Int)) + 1).toNat) 1 0 _ _ _ (by omega) (Or.inl ⟨rfl, cc_3, fun j h1 h2 => by omega⟩) (by omega) (G.perm (ws' := [(m0, mO M xth xrm xsv xln xat xer xwr xwd xlo xhi xwl xml xkl xfi xse xdn xon xtw xol xrw xgl xus xpr xmk xab), (M 1, aI (K 0) 1247 g)]) [0, 1] rfl rfl) (lv_sub hl [2, 3, 4, 5, 1, 0] rfl)

def rm_X11_collide : Room := { frames := 4, cells := 0, slots := 0, locals := 82 }
set_option maxHeartbeats 4000000 in
set_option maxRecDepth 100000 in
theorem c_X11_collide (l : Launch) (D : va_G) (K : Nat → ClassId) (z0 : Nat) (m0 : Nat) (M : Nat → Nat) (xth : Int) (xrm : Int) (xsv : Int) (xln : Int) (xat : Int) (xer : Int) (xwr : Int) (xwd : Int) (xlo : Int) (xhi : Int) (xwl : Int) (xml : Int) (xkl : Int) (xfi : Int) (xse : Int) (xdn : Int) (xon : Int) (xtw : Int) (xol : Int) (xrw : Int) (xgl : Int) (xus : Int) (xpr : Int) (xmk : Int) (xab : Int) (g : Nat → Int) (rs : List Rl) (ps : List Pr) (md : Int) (th : Int) (nc : Int) (x : Int) (y : Int) (hM : MRow g rs ps md th nc) (hW : RW rs) (hx : 0 ≤ x ∧ x < rs.length) (hy : 0 ≤ y ∧ y < rs.length) : CT l D K z0 yX11_collide cX11_collide 5 (some .boolean) rm_X11_collide [.ref m0, .int (iI x), .int (iI y)] [(m0, mO M xth xrm xsv xln xat xer xwr xwd xlo xhi xwl xml xkl xfi xse xdn xon xtw xol xrw xgl xus xpr xmk xab), (M 1, aI (K 0) 1247 g)] (fun v9 u9 => (v9 = some (.int (iI 1)) ∧ (cold rs x y) ∧ u9 = [(m0, mO M xth xrm xsv xln xat xer xwr xwd xlo xhi xwl xml xkl xfi xse xdn xon xtw xol xrw xgl xus xpr xmk xab), (M 1, aI (K 0) 1247 g)]) ∨ (v9 = some (.int (iI 0)) ∧ (¬ cold rs x y) ∧ u9 = [(m0, mO M xth xrm xsv xln xat xer xwr xwd xlo xhi xwl xml xkl xfi xse xdn xon xtw xol xrw xgl xus xpr xmk xab), (M 1, aI (K 0) 1247 g)])) := by
  refine CT.start RX11 "collide" (by decide) rfl rfl (Nat.le_of_ble_eq_true rfl) ?_
  intro p9 e9 s9 m9 ag9 bl9 mt9 c9 A9 Q9 ls F G hR hl
  have hl : lv_has ls 5 [(0, .ref m0), (1, .int (iI x)), (2, .int (iI y))] := hl
  have hn := hW.1
  have b1 := hW.bd hx.1 hx.2
  have b2 := hW.bd hy.1 hy.2
  refine ad_iconst F dX11_collide_0 ?_
  refine lv_istore_n (lv' := [(3, .int (iI 0)), (0, .ref m0), (1, .int (iI x)), (2, .int (iI y))]) F.1 F.2.1 dX11_collide_1 rfl hl (by decide) rfl (fun ls hl => ?_)
  refine ad_iconst F dX11_collide_2 ?_
  refine lv_istore (lv' := [(4, .int (iI 0)), (3, .int (iI 0)), (0, .ref m0), (1, .int (iI x)), (2, .int (iI y))]) F.1 F.2.1 dX11_collide_3 hl (by decide) rfl (fun ls hl => ?_)
  have lp5 : ∀ (n5 : Nat) (mt : Int) (i : Int) (H : Heap) (locs : List Loc) (ls : Array Slot), (0 ≤ i ∧ i ≤ 3) → (mt = metN (rget rs x).2.2.1 (rget rs y).2.2.1 i.toNat) → (3 - i) < (n5 : Int) → ad_G D A9 s9.heap H locs [(m0, mO M xth xrm xsv xln xat xer xwr xwd xlo xhi xwl xml xkl xfi xse xdn xon xtw xol xrw xgl xus xpr xmk xab), (M 1, aI (K 0) 1247 g)] → lv_has ls 5 [(0, .ref m0), (1, .int (iI x)), (2, .int (iI y)), (3, .int (iI mt)), (4, .int (iI i))] → W p9 l e9 rm_X11_collide s9 m9 ag9 bl9 mt9 c9 H locs 0 0 Q9 (F0 m9 5 ls []) := by
    intro n5
    induction n5 with
    | zero =>
      intro mt i H locs ls hi hm hm5
      exact absurd hm5 (by omega)
    | succ n5 ih5 =>
      intro mt i H locs ls hi hm hm5 G hl
      have hmb := metN_b (rget rs x).2.2.1 (rget rs y).2.2.1 i.toNat
      refine lv_iload F.1 F.2.1 dX11_collide_5 (lv_at hl 4 rfl) ?_
      refine ad_iconst F dX11_collide_7 ?_
      refine ad_icmp_ge (tgt := 53) F (by omega) dX11_collide_8 (by decide) (fun cc_1 => ?_) (fun cc_1 => ?_)
      · refine lv_iload_n F.1 F.2.1 dX11_collide_53 rfl (lv_at hl 3 rfl) ?_
        refine ad_if_eq (tgt := 96) F (by omega) dX11_collide_54 (by decide) (fun cc_2 => ?_) (fun cc_2 => ?_)
        · refine ad_iconst F dX11_collide_96 ?_
          exact ad_zreturn F G hR rfl (Nat.le_of_ble_eq_true rfl) (Nat.le_of_ble_eq_true rfl) rfl (Or.inr (⟨rfl, (fun q => absurd ((metN_pl ⟨b1.2.2.2.2.1, b1.2.2.2.2.2.1⟩ ⟨b2.2.2.2.2.1, b2.2.2.2.2.2.1⟩).mpr q.2.2.2) (by rw [show (3 : Nat) = i.toNat by omega, ← hm]; omega)), rfl⟩)) dX11_collide_97
        · refine lv_aload_n F.1 F.2.1 dX11_collide_57 rfl (lv_at hl 0 rfl) ?_
          refine lv_iload_n F.1 F.2.1 dX11_collide_58 rfl (lv_at hl 1 rfl) ?_
          refine ad_iconst F dX11_collide_59 ?_
          refine ad_callV (As := [.int (iI x), .int (iI 0)]) (rest := []) F G (c_X11_of_0 l D K z0 m0 M xth xrm xsv xln xat xer xwr xwd xlo xhi xwl xml xkl xfi xse xdn xon xtw xol xrw xgl xus xpr xmk xab g rs ps md th nc x hM hW hx) my_X11_of mv_X11_99 (wr := []) (isC := [0, 1]) (isR := []) ⟨rfl, rfl, rfl, rfl, by decide⟩ 11 0 rfl rfl rfl rfl ⟨Nat.le_of_ble_eq_true rfl, Nat.le_of_ble_eq_true rfl⟩ ⟨Nat.le_of_ble_eq_true rfl, Nat.le_of_ble_eq_true rfl⟩ (Nat.le_of_ble_eq_true rfl) hl.1 (cells9 := 0) (slots9 := 0) ⟨rfl, rfl⟩ dX11_collide_60 (fun v u H locs hw_3 G => ?_)
          obtain ⟨rfl, rfl⟩ := hw_3
          replace G := G.perm (ws' := [(m0, mO M xth xrm xsv xln xat xer xwr xwd xlo xhi xwl xml xkl xfi xse xdn xon xtw xol xrw xgl xus xpr xmk xab), (M 1, aI (K 0) 1247 g)]) [0, 1] rfl rfl
          refine W.eq (g2 := F0 m9 63 ls [.int (iI ((rget rs x).1))]) rfl ?_
          refine lv_aload_n F.1 F.2.1 dX11_collide_63 rfl (lv_at hl 0 rfl) ?_
          refine lv_iload_n F.1 F.2.1 dX11_collide_64 rfl (lv_at hl 2 rfl) ?_
          refine ad_iconst F dX11_collide_65 ?_
          refine ad_callV (As := [.int (iI y), .int (iI 0)]) (rest := [.int (iI ((rget rs x).1))]) F G (c_X11_of_0 l D K z0 m0 M xth xrm xsv xln xat xer xwr xwd xlo xhi xwl xml xkl xfi xse xdn xon xtw xol xrw xgl xus xpr xmk xab g rs ps md th nc y hM hW hy) my_X11_of mv_X11_99 (wr := []) (isC := [0, 1]) (isR := []) ⟨rfl, rfl, rfl, rfl, by decide⟩ 11 0 rfl rfl rfl rfl ⟨Nat.le_of_ble_eq_true rfl, Nat.le_of_ble_eq_true rfl⟩ ⟨Nat.le_of_ble_eq_true rfl, Nat.le_of_ble_eq_true rfl⟩ (Nat.le_of_ble_eq_true rfl) hl.1 (cells9 := 0) (slots9 := 0) ⟨rfl, rfl⟩ dX11_collide_66 (fun v u H locs hw_4 G => ?_)
          obtain ⟨rfl, rfl⟩ := hw_4
          replace G := G.perm (ws' := [(m0, mO M xth xrm xsv xln xat xer xwr xwd xlo xhi xwl xml xkl xfi xse xdn xon xtw xol xrw xgl xus xpr xmk xab), (M 1, aI (K 0) 1247 g)]) [0, 1] rfl rfl
          refine W.eq (g2 := F0 m9 69 ls [.int (iI ((rget rs y).1)), .int (iI ((rget rs x).1))]) rfl ?_
          refine ad_icmp_ne (tgt := 96) F (by omega) dX11_collide_69 (by decide) (fun cc_5 => ?_) (fun cc_5 => ?_)
          · refine ad_iconst F dX11_collide_96 ?_
            exact ad_zreturn F G hR rfl (Nat.le_of_ble_eq_true rfl) (Nat.le_of_ble_eq_true rfl) rfl (Or.inr (⟨rfl, (fun q => cc_5 q.1.symm), rfl⟩)) dX11_collide_97
          · refine lv_aload_n F.1 F.2.1 dX11_collide_72 rfl (lv_at hl 0 rfl) ?_
            refine lv_iload_n F.1 F.2.1 dX11_collide_73 rfl (lv_at hl 1 rfl) ?_
            refine lv_iload_n F.1 F.2.1 dX11_collide_74 rfl (lv_at hl 2 rfl) ?_
            refine ad_iconst F dX11_collide_75 ?_
            refine ad_callV (As := [.int (iI x), .int (iI y), .int (iI 0)]) (rest := []) F G (c_X11_haveSame l D K z0 m0 M xth xrm xsv xln xat xer xwr xwd xlo xhi xwl xml xkl xfi xse xdn xon xtw xol xrw xgl xus xpr xmk xab g rs ps md th nc x y 0 hM hW hx hy (by omega)) my_X11_haveSame mv_X11_196 (wr := []) (isC := [0, 1]) (isR := []) ⟨rfl, rfl, rfl, rfl, by decide⟩ 11 0 rfl rfl rfl rfl ⟨Nat.le_of_ble_eq_true rfl, Nat.le_of_ble_eq_true rfl⟩ ⟨Nat.le_of_ble_eq_true rfl, Nat.le_of_ble_eq_true rfl⟩ (Nat.le_of_ble_eq_true rfl) hl.1 (cells9 := 0) (slots9 := 0) ⟨rfl, rfl⟩ dX11_collide_76 (fun v u H locs hw_6 G => ?_)
            rcases hw_6 with ⟨rfl, hc_7, rfl⟩ | ⟨rfl, hc_8, rfl⟩
            · replace G := G.perm (ws' := [(m0, mO M xth xrm xsv xln xat xer xwr xwd xlo xhi xwl xml xkl xfi xse xdn xon xtw xol xrw xgl xus xpr xmk xab), (M 1, aI (K 0) 1247 g)]) [0, 1] rfl rfl
              refine W.eq (g2 := F0 m9 79 ls [.int (iI 1)]) rfl ?_
              refine ad_if_eq (tgt := 96) F (by decide) dX11_collide_79 (by decide) (fun cc_9 => absurd cc_9 (by decide)) (fun _ => ?_)
              refine lv_aload_n F.1 F.2.1 dX11_collide_82 rfl (lv_at hl 0 rfl) ?_
              refine lv_iload_n F.1 F.2.1 dX11_collide_83 rfl (lv_at hl 1 rfl) ?_
              refine lv_iload_n F.1 F.2.1 dX11_collide_84 rfl (lv_at hl 2 rfl) ?_
              refine ad_iconst F dX11_collide_85 ?_
              refine ad_callV (As := [.int (iI x), .int (iI y), .int (iI 1)]) (rest := []) F G (c_X11_haveSame l D K z0 m0 M xth xrm xsv xln xat xer xwr xwd xlo xhi xwl xml xkl xfi xse xdn xon xtw xol xrw xgl xus xpr xmk xab g rs ps md th nc x y 1 hM hW hx hy (by omega)) my_X11_haveSame mv_X11_196 (wr := []) (isC := [0, 1]) (isR := []) ⟨rfl, rfl, rfl, rfl, by decide⟩ 11 0 rfl rfl rfl rfl ⟨Nat.le_of_ble_eq_true rfl, Nat.le_of_ble_eq_true rfl⟩ ⟨Nat.le_of_ble_eq_true rfl, Nat.le_of_ble_eq_true rfl⟩ (Nat.le_of_ble_eq_true rfl) hl.1 (cells9 := 0) (slots9 := 0) ⟨rfl, rfl⟩ dX11_collide_86 (fun v u H locs hw_10 G => ?_)
              rcases hw_10 with ⟨rfl, hc_11, rfl⟩ | ⟨rfl, hc_12, rfl⟩
              · replace G := G.perm (ws' := [(m0, mO M xth xrm xsv xln xat xer xwr xwd xlo xhi xwl xml xkl xfi xse xdn xon xtw xol xrw xgl xus xpr xmk xab), (M 1, aI (K 0) 1247 g)]) [0, 1] rfl rfl
                refine W.eq (g2 := F0 m9 89 ls [.int (iI 1)]) rfl ?_
                refine ad_if_ne (tgt := 96) F (by decide) dX11_collide_89 (by decide) (fun _ => ?_) (fun cc_13 => absurd cc_13 (by decide))
                refine ad_iconst F dX11_collide_96 ?_
                exact ad_zreturn F G hR rfl (Nat.le_of_ble_eq_true rfl) (Nat.le_of_ble_eq_true rfl) rfl (Or.inr (⟨rfl, (fun q => q.2.2.1 hc_11), rfl⟩)) dX11_collide_97
              · replace G := G.perm (ws' := [(m0, mO M xth xrm xsv xln xat xer xwr xwd xlo xhi xwl xml xkl xfi xse xdn xon xtw xol xrw xgl xus xpr xmk xab), (M 1, aI (K 0) 1247 g)]) [0, 1] rfl rfl
                refine W.eq (g2 := F0 m9 89 ls [.int (iI 0)]) rfl ?_
                refine ad_if_ne (tgt := 96) F (by decide) dX11_collide_89 (by decide) (fun cc_14 => absurd cc_14 (by decide)) (fun _ => ?_)
                refine ad_iconst F dX11_collide_92 ?_
                refine lv_goto (tgt := 97) F.1 F.2.1 dX11_collide_93 (by decide) ?_
                exact ad_zreturn F G hR rfl (Nat.le_of_ble_eq_true rfl) (Nat.le_of_ble_eq_true rfl) rfl (Or.inl ⟨rfl, ⟨cc_5.symm, hc_7, hc_12, (metN_pl ⟨b1.2.2.2.2.1, b1.2.2.2.2.2.1⟩ ⟨b2.2.2.2.2.1, b2.2.2.2.2.2.1⟩).mp (by rw [show (3 : Nat) = i.toNat by omega, ← hm]; have := metN_b (rget rs x).2.2.1 (rget rs y).2.2.1 i.toNat; omega)⟩, rfl⟩) dX11_collide_97
            · replace G := G.perm (ws' := [(m0, mO M xth xrm xsv xln xat xer xwr xwd xlo xhi xwl xml xkl xfi xse xdn xon xtw xol xrw xgl xus xpr xmk xab), (M 1, aI (K 0) 1247 g)]) [0, 1] rfl rfl
              refine W.eq (g2 := F0 m9 79 ls [.int (iI 0)]) rfl ?_
              refine ad_if_eq (tgt := 96) F (by decide) dX11_collide_79 (by decide) (fun _ => ?_) (fun cc_15 => absurd cc_15 (by decide))
              refine ad_iconst F dX11_collide_96 ?_
              exact ad_zreturn F G hR rfl (Nat.le_of_ble_eq_true rfl) (Nat.le_of_ble_eq_true rfl) rfl (Or.inr (⟨rfl, (fun q => hc_8 q.2.1), rfl⟩)) dX11_collide_97
      · refine lv_iload_n F.1 F.2.1 dX11_collide_11 rfl (lv_at hl 3 rfl) ?_
        refine lv_aload_n F.1 F.2.1 dX11_collide_12 rfl (lv_at hl 0 rfl) ?_
        refine lv_iload_n F.1 F.2.1 dX11_collide_13 rfl (lv_at hl 1 rfl) ?_
        refine ad_iconst F dX11_collide_14 ?_
        refine ad_callV (As := [.int (iI x), .int (iI 2)]) (rest := [.int (iI mt)]) F G (c_X11_of_2 l D K z0 m0 M xth xrm xsv xln xat xer xwr xwd xlo xhi xwl xml xkl xfi xse xdn xon xtw xol xrw xgl xus xpr xmk xab g rs ps md th nc x hM hW hx) my_X11_of mv_X11_99 (wr := []) (isC := [0, 1]) (isR := []) ⟨rfl, rfl, rfl, rfl, by decide⟩ 11 0 rfl rfl rfl rfl ⟨Nat.le_of_ble_eq_true rfl, Nat.le_of_ble_eq_true rfl⟩ ⟨Nat.le_of_ble_eq_true rfl, Nat.le_of_ble_eq_true rfl⟩ (Nat.le_of_ble_eq_true rfl) hl.1 (cells9 := 0) (slots9 := 0) ⟨rfl, rfl⟩ dX11_collide_15 (fun v u H locs hw_16 G => ?_)
        obtain ⟨rfl, rfl⟩ := hw_16
        replace G := G.perm (ws' := [(m0, mO M xth xrm xsv xln xat xer xwr xwd xlo xhi xwl xml xkl xfi xse xdn xon xtw xol xrw xgl xus xpr xmk xab), (M 1, aI (K 0) 1247 g)]) [0, 1] rfl rfl
        refine W.eq (g2 := F0 m9 18 ls [.int (iI ((rget rs x).2.2.1)), .int (iI mt)]) rfl ?_
        refine lv_iload F.1 F.2.1 dX11_collide_18 (lv_at hl 4 rfl) ?_
        refine ad_callS (As := [.int (iI ((rget rs x).2.2.1)), .int (iI i)]) (rest := [.int (iI mt)]) F G (c_X11_fits l D K z0 ((rget rs x).2.2.1) i (by omega) (by omega)) my_X11_fits ms_X11_193 (wr := [(m0, mO M xth xrm xsv xln xat xer xwr xwd xlo xhi xwl xml xkl xfi xse xdn xon xtw xol xrw xgl xus xpr xmk xab), (M 1, aI (K 0) 1247 g)]) (isC := []) (isR := [0, 1]) ⟨rfl, rfl, rfl, rfl, by decide⟩ rfl rfl ⟨Nat.le_of_ble_eq_true rfl, Nat.le_of_ble_eq_true rfl⟩ ⟨Nat.le_of_ble_eq_true rfl, Nat.le_of_ble_eq_true rfl⟩ (Nat.le_of_ble_eq_true rfl) hl.1 (cells9 := 0) (slots9 := 0) ⟨rfl, rfl⟩ dX11_collide_20 (fun v u H locs hw_17 G => ?_)
        rcases hw_17 with ⟨rfl, hc_18, rfl⟩ | ⟨rfl, hc_19, rfl⟩
        · replace G := G.perm (ws' := [(m0, mO M xth xrm xsv xln xat xer xwr xwd xlo xhi xwl xml xkl xfi xse xdn xon xtw xol xrw xgl xus xpr xmk xab), (M 1, aI (K 0) 1247 g)]) [0, 1] rfl rfl
          refine W.eq (g2 := F0 m9 23 ls [.int (iI 1), .int (iI mt)]) rfl ?_
          refine ad_if_eq (tgt := 44) F (by decide) dX11_collide_23 (by decide) (fun cc_20 => absurd cc_20 (by decide)) (fun _ => ?_)
          refine lv_aload_n F.1 F.2.1 dX11_collide_26 rfl (lv_at hl 0 rfl) ?_
          refine lv_iload_n F.1 F.2.1 dX11_collide_27 rfl (lv_at hl 2 rfl) ?_
          refine ad_iconst F dX11_collide_28 ?_
          refine ad_callV (As := [.int (iI y), .int (iI 2)]) (rest := [.int (iI mt)]) F G (c_X11_of_2 l D K z0 m0 M xth xrm xsv xln xat xer xwr xwd xlo xhi xwl xml xkl xfi xse xdn xon xtw xol xrw xgl xus xpr xmk xab g rs ps md th nc y hM hW hy) my_X11_of mv_X11_99 (wr := []) (isC := [0, 1]) (isR := []) ⟨rfl, rfl, rfl, rfl, by decide⟩ 11 0 rfl rfl rfl rfl ⟨Nat.le_of_ble_eq_true rfl, Nat.le_of_ble_eq_true rfl⟩ ⟨Nat.le_of_ble_eq_true rfl, Nat.le_of_ble_eq_true rfl⟩ (Nat.le_of_ble_eq_true rfl) hl.1 (cells9 := 0) (slots9 := 0) ⟨rfl, rfl⟩ dX11_collide_29 (fun v u H locs hw_21 G => ?_)
          obtain ⟨rfl, rfl⟩ := hw_21
          replace G := G.perm (ws' := [(m0, mO M xth xrm xsv xln xat xer xwr xwd xlo xhi xwl xml xkl xfi xse xdn xon xtw xol xrw xgl xus xpr xmk xab), (M 1, aI (K 0) 1247 g)]) [0, 1] rfl rfl
          refine W.eq (g2 := F0 m9 32 ls [.int (iI ((rget rs y).2.2.1)), .int (iI mt)]) rfl ?_
          refine lv_iload F.1 F.2.1 dX11_collide_32 (lv_at hl 4 rfl) ?_
          refine ad_callS (As := [.int (iI ((rget rs y).2.2.1)), .int (iI i)]) (rest := [.int (iI mt)]) F G (c_X11_fits l D K z0 ((rget rs y).2.2.1) i (by omega) (by omega)) my_X11_fits ms_X11_193 (wr := [(m0, mO M xth xrm xsv xln xat xer xwr xwd xlo xhi xwl xml xkl xfi xse xdn xon xtw xol xrw xgl xus xpr xmk xab), (M 1, aI (K 0) 1247 g)]) (isC := []) (isR := [0, 1]) ⟨rfl, rfl, rfl, rfl, by decide⟩ rfl rfl ⟨Nat.le_of_ble_eq_true rfl, Nat.le_of_ble_eq_true rfl⟩ ⟨Nat.le_of_ble_eq_true rfl, Nat.le_of_ble_eq_true rfl⟩ (Nat.le_of_ble_eq_true rfl) hl.1 (cells9 := 0) (slots9 := 0) ⟨rfl, rfl⟩ dX11_collide_34 (fun v u H locs hw_22 G => ?_)
          rcases hw_22 with ⟨rfl, hc_23, rfl⟩ | ⟨rfl, hc_24, rfl⟩
          · replace G := G.perm (ws' := [(m0, mO M xth xrm xsv xln xat xer xwr xwd xlo xhi xwl xml xkl xfi xse xdn xon xtw xol xrw xgl xus xpr xmk xab), (M 1, aI (K 0) 1247 g)]) [0, 1] rfl rfl
            refine W.eq (g2 := F0 m9 37 ls [.int (iI 1), .int (iI mt)]) rfl ?_
            refine ad_if_eq (tgt := 44) F (by decide) dX11_collide_37 (by decide) (fun cc_25 => absurd cc_25 (by decide)) (fun _ => ?_)
            refine ad_iconst F dX11_collide_40 ?_
            refine lv_goto (tgt := 45) F.1 F.2.1 dX11_collide_41 (by decide) ?_
            refine ad_iory F (by omega) dX11_collide_45 ?_
            refine lv_istore_n (lv' := [(3, .int (iI 1)), (0, .ref m0), (1, .int (iI x)), (2, .int (iI y)), (4, .int (iI i))]) F.1 F.2.1 dX11_collide_46 rfl hl (by decide) rfl (fun ls hl => ?_)
            refine ad_iinc (lv' := [(4, .int (iI (i + 1))), (3, .int (iI 1)), (0, .ref m0), (1, .int (iI x)), (2, .int (iI y))]) F dX11_collide_47 hl (k := 4) rfl (by decide) rfl (fun ls hl => ?_)
            refine lv_goto (tgt := 5) F.1 F.2.1 dX11_collide_50 (by decide) ?_
            exact ih5 1 (i + 1) _ _ _ (by omega) (by rw [metN_s (by omega), if_pos ⟨hc_18, hc_23⟩]) (by omega) (G.perm (ws' := [(m0, mO M xth xrm xsv xln xat xer xwr xwd xlo xhi xwl xml xkl xfi xse xdn xon xtw xol xrw xgl xus xpr xmk xab), (M 1, aI (K 0) 1247 g)]) [0, 1] rfl rfl) (lv_sub hl [2, 3, 4, 1, 0] rfl)
          · replace G := G.perm (ws' := [(m0, mO M xth xrm xsv xln xat xer xwr xwd xlo xhi xwl xml xkl xfi xse xdn xon xtw xol xrw xgl xus xpr xmk xab), (M 1, aI (K 0) 1247 g)]) [0, 1] rfl rfl
            refine W.eq (g2 := F0 m9 37 ls [.int (iI 0), .int (iI mt)]) rfl ?_
            refine ad_if_eq (tgt := 44) F (by decide) dX11_collide_37 (by decide) (fun _ => ?_) (fun cc_26 => absurd cc_26 (by decide))
            refine ad_iconst F dX11_collide_44 ?_
            refine ad_iorn F (by omega) dX11_collide_45 ?_
            refine lv_istore_n (lv' := [(3, .int (iI mt)), (0, .ref m0), (1, .int (iI x)), (2, .int (iI y)), (4, .int (iI i))]) F.1 F.2.1 dX11_collide_46 rfl hl (by decide) rfl (fun ls hl => ?_)
            refine ad_iinc (lv' := [(4, .int (iI (i + 1))), (3, .int (iI mt)), (0, .ref m0), (1, .int (iI x)), (2, .int (iI y))]) F dX11_collide_47 hl (k := 4) rfl (by decide) rfl (fun ls hl => ?_)
            refine lv_goto (tgt := 5) F.1 F.2.1 dX11_collide_50 (by decide) ?_
            exact ih5 mt (i + 1) _ _ _ (by omega) (by rw [metN_s (by omega), if_neg (fun q => hc_24 q.2)]; exact hm) (by omega) (G.perm (ws' := [(m0, mO M xth xrm xsv xln xat xer xwr xwd xlo xhi xwl xml xkl xfi xse xdn xon xtw xol xrw xgl xus xpr xmk xab), (M 1, aI (K 0) 1247 g)]) [0, 1] rfl rfl) (lv_sub hl [2, 3, 4, 1, 0] rfl)
        · replace G := G.perm (ws' := [(m0, mO M xth xrm xsv xln xat xer xwr xwd xlo xhi xwl xml xkl xfi xse xdn xon xtw xol xrw xgl xus xpr xmk xab), (M 1, aI (K 0) 1247 g)]) [0, 1] rfl rfl
          refine W.eq (g2 := F0 m9 23 ls [.int (iI 0), .int (iI mt)]) rfl ?_
          refine ad_if_eq (tgt := 44) F (by decide) dX11_collide_23 (by decide) (fun _ => ?_) (fun cc_27 => absurd cc_27 (by decide))
          refine ad_iconst F dX11_collide_44 ?_
          refine ad_iorn F (by omega) dX11_collide_45 ?_
          refine lv_istore_n (lv' := [(3, .int (iI mt)), (0, .ref m0), (1, .int (iI x)), (2, .int (iI y)), (4, .int (iI i))]) F.1 F.2.1 dX11_collide_46 rfl hl (by decide) rfl (fun ls hl => ?_)
          refine ad_iinc (lv' := [(4, .int (iI (i + 1))), (3, .int (iI mt)), (0, .ref m0), (1, .int (iI x)), (2, .int (iI y))]) F dX11_collide_47 hl (k := 4) rfl (by decide) rfl (fun ls hl => ?_)
          refine lv_goto (tgt := 5) F.1 F.2.1 dX11_collide_50 (by decide) ?_
          exact ih5 mt (i + 1) _ _ _ (by omega) (by rw [metN_s (by omega), if_neg (fun q => hc_19 q.1)]; exact hm) (by omega) (G.perm (ws' := [(m0, mO M xth xrm xsv xln xat xer xwr xwd xlo xhi xwl xml xkl xfi xse xdn xon xtw xol xrw xgl xus xpr xmk xab), (M 1, aI (K 0) 1247 g)]) [0, 1] rfl rfl) (lv_sub hl [2, 3, 4, 1, 0] rfl)
  exact lp5 ((((3 - 0 : Int)) + 1).toNat) 0 0 _ _ _ (by omega) rfl (by omega) (G.perm (ws' := [(m0, mO M xth xrm xsv xln xat xer xwr xwd xlo xhi xwl xml xkl xfi xse xdn xon xtw xol xrw xgl xus xpr xmk xab), (M 1, aI (K 0) 1247 g)]) [0, 1] rfl rfl) (lv_sub hl [2, 3, 4, 1, 0] rfl)

def rm_X11_fitsWith : Room := { frames := 2, cells := 0, slots := 0, locals := 34 }
set_option maxHeartbeats 4000000 in
set_option maxRecDepth 100000 in
theorem c_X11_fitsWith (l : Launch) (D : va_G) (K : Nat → ClassId) (z0 : Nat) (m0 : Nat) (M : Nat → Nat) (xth : Int) (xrm : Int) (xsv : Int) (xln : Int) (xat : Int) (xer : Int) (xwr : Int) (xwd : Int) (xlo : Int) (xhi : Int) (xwl : Int) (xml : Int) (xkl : Int) (xfi : Int) (xse : Int) (xdn : Int) (xon : Int) (xtw : Int) (xol : Int) (xrw : Int) (xgl : Int) (xus : Int) (xpr : Int) (xmk : Int) (xab : Int) (g : Nat → Int) (rs : List Rl) (ps : List Pr) (md : Int) (th : Int) (nc : Int) (x : Int) (y : Int) (hM : MRow g rs ps md th nc) (hW : RW rs) (hx : 0 ≤ x ∧ x < rs.length) (hy : 0 ≤ y ∧ y < rs.length) : CT l D K z0 yX11_fitsWith cX11_fitsWith 5 (some .boolean) rm_X11_fitsWith [.ref m0, .int (iI x), .int (iI y)] [(m0, mO M xth xrm xsv xln xat xer xwr xwd xlo xhi xwl xml xkl xfi xse xdn xon xtw xol xrw xgl xus xpr xmk xab), (M 1, aI (K 0) 1247 g)] (fun v9 u9 => (v9 = some (.int (iI 1)) ∧ ((plN (rget rs y).2.2.1 &&& (7 - plN (rget rs x).2.2.1)) = 0) ∧ u9 = [(m0, mO M xth xrm xsv xln xat xer xwr xwd xlo xhi xwl xml xkl xfi xse xdn xon xtw xol xrw xgl xus xpr xmk xab), (M 1, aI (K 0) 1247 g)]) ∨ (v9 = some (.int (iI 0)) ∧ (¬ (plN (rget rs y).2.2.1 &&& (7 - plN (rget rs x).2.2.1)) = 0) ∧ u9 = [(m0, mO M xth xrm xsv xln xat xer xwr xwd xlo xhi xwl xml xkl xfi xse xdn xon xtw xol xrw xgl xus xpr xmk xab), (M 1, aI (K 0) 1247 g)])) := by
  refine CT.start RX11 "fitsWith" (by decide) rfl rfl (Nat.le_of_ble_eq_true rfl) ?_
  intro p9 e9 s9 m9 ag9 bl9 mt9 c9 A9 Q9 ls F G hR hl
  have hl : lv_has ls 5 [(0, .ref m0), (1, .int (iI x)), (2, .int (iI y))] := hl
  have hn := hW.1
  have b1 := hW.bd hx.1 hx.2
  have b2 := hW.bd hy.1 hy.2
  refine ad_iconst F dX11_fitsWith_0 ?_
  refine lv_istore_n (lv' := [(3, .int (iI 1)), (0, .ref m0), (1, .int (iI x)), (2, .int (iI y))]) F.1 F.2.1 dX11_fitsWith_1 rfl hl (by decide) rfl (fun ls hl => ?_)
  refine ad_iconst F dX11_fitsWith_2 ?_
  refine lv_istore (lv' := [(4, .int (iI 0)), (3, .int (iI 1)), (0, .ref m0), (1, .int (iI x)), (2, .int (iI y))]) F.1 F.2.1 dX11_fitsWith_3 hl (by decide) rfl (fun ls hl => ?_)
  have lp5 : ∀ (n5 : Nat) (mt : Int) (i : Int) (H : Heap) (locs : List Loc) (ls : Array Slot), (0 ≤ i ∧ i ≤ 3) → (mt = covN (rget rs x).2.2.1 (rget rs y).2.2.1 i.toNat) → (3 - i) < (n5 : Int) → ad_G D A9 s9.heap H locs [(m0, mO M xth xrm xsv xln xat xer xwr xwd xlo xhi xwl xml xkl xfi xse xdn xon xtw xol xrw xgl xus xpr xmk xab), (M 1, aI (K 0) 1247 g)] → lv_has ls 5 [(0, .ref m0), (1, .int (iI x)), (2, .int (iI y)), (3, .int (iI mt)), (4, .int (iI i))] → W p9 l e9 rm_X11_fitsWith s9 m9 ag9 bl9 mt9 c9 H locs 0 0 Q9 (F0 m9 5 ls []) := by
    intro n5
    induction n5 with
    | zero =>
      intro mt i H locs ls hi hm hm5
      exact absurd hm5 (by omega)
    | succ n5 ih5 =>
      intro mt i H locs ls hi hm hm5 G hl
      have hmb := covN_b (rget rs x).2.2.1 (rget rs y).2.2.1 i.toNat
      refine lv_iload F.1 F.2.1 dX11_fitsWith_5 (lv_at hl 4 rfl) ?_
      refine ad_iconst F dX11_fitsWith_7 ?_
      refine ad_icmp_ge (tgt := 53) F (by omega) dX11_fitsWith_8 (by decide) (fun cc_1 => ?_) (fun cc_1 => ?_)
      · have hm3 : mt = covN (rget rs x).2.2.1 (rget rs y).2.2.1 3 := by rw [hm]; congr 1; omega
        have hmq : (plN (rget rs y).2.2.1 &&& (7 - plN (rget rs x).2.2.1)) = 0 ↔ mt = 1 := by rw [hm3]; exact (covN_pl ⟨b1.2.2.2.2.1, b1.2.2.2.2.2.1⟩ ⟨b2.2.2.2.2.1, b2.2.2.2.2.2.1⟩).symm
        refine lv_iload_n F.1 F.2.1 dX11_fitsWith_53 rfl (lv_at hl 3 rfl) ?_
        by_cases sp_2 : mt = 1
        · exact ad_zreturn F G hR rfl (Nat.le_of_ble_eq_true rfl) (Nat.le_of_ble_eq_true rfl) (iI_boolN (by omega)).1 (Or.inl ⟨(ad_eqi (by omega)), (hmq.mpr (by omega)), rfl⟩) dX11_fitsWith_54
        · exact ad_zreturn F G hR rfl (Nat.le_of_ble_eq_true rfl) (Nat.le_of_ble_eq_true rfl) (iI_boolN (by omega)).1 (Or.inr (⟨(ad_eqi (by omega)), (fun q => absurd (hmq.mp q) (by omega)), rfl⟩)) dX11_fitsWith_54
      · refine lv_iload_n F.1 F.2.1 dX11_fitsWith_11 rfl (lv_at hl 3 rfl) ?_
        refine lv_aload_n F.1 F.2.1 dX11_fitsWith_12 rfl (lv_at hl 0 rfl) ?_
        refine lv_iload_n F.1 F.2.1 dX11_fitsWith_13 rfl (lv_at hl 1 rfl) ?_
        refine ad_iconst F dX11_fitsWith_14 ?_
        refine ad_callV (As := [.int (iI x), .int (iI 2)]) (rest := [.int (iI mt)]) F G (c_X11_of_2 l D K z0 m0 M xth xrm xsv xln xat xer xwr xwd xlo xhi xwl xml xkl xfi xse xdn xon xtw xol xrw xgl xus xpr xmk xab g rs ps md th nc x hM hW hx) my_X11_of mv_X11_99 (wr := []) (isC := [0, 1]) (isR := []) ⟨rfl, rfl, rfl, rfl, by decide⟩ 11 0 rfl rfl rfl rfl ⟨Nat.le_of_ble_eq_true rfl, Nat.le_of_ble_eq_true rfl⟩ ⟨Nat.le_of_ble_eq_true rfl, Nat.le_of_ble_eq_true rfl⟩ (Nat.le_of_ble_eq_true rfl) hl.1 (cells9 := 0) (slots9 := 0) ⟨rfl, rfl⟩ dX11_fitsWith_15 (fun v u H locs hw_3 G => ?_)
        obtain ⟨rfl, rfl⟩ := hw_3
        replace G := G.perm (ws' := [(m0, mO M xth xrm xsv xln xat xer xwr xwd xlo xhi xwl xml xkl xfi xse xdn xon xtw xol xrw xgl xus xpr xmk xab), (M 1, aI (K 0) 1247 g)]) [0, 1] rfl rfl
        refine W.eq (g2 := F0 m9 18 ls [.int (iI ((rget rs x).2.2.1)), .int (iI mt)]) rfl ?_
        refine lv_iload F.1 F.2.1 dX11_fitsWith_18 (lv_at hl 4 rfl) ?_
        refine ad_callS (As := [.int (iI ((rget rs x).2.2.1)), .int (iI i)]) (rest := [.int (iI mt)]) F G (c_X11_fits l D K z0 ((rget rs x).2.2.1) i (by omega) (by omega)) my_X11_fits ms_X11_193 (wr := [(m0, mO M xth xrm xsv xln xat xer xwr xwd xlo xhi xwl xml xkl xfi xse xdn xon xtw xol xrw xgl xus xpr xmk xab), (M 1, aI (K 0) 1247 g)]) (isC := []) (isR := [0, 1]) ⟨rfl, rfl, rfl, rfl, by decide⟩ rfl rfl ⟨Nat.le_of_ble_eq_true rfl, Nat.le_of_ble_eq_true rfl⟩ ⟨Nat.le_of_ble_eq_true rfl, Nat.le_of_ble_eq_true rfl⟩ (Nat.le_of_ble_eq_true rfl) hl.1 (cells9 := 0) (slots9 := 0) ⟨rfl, rfl⟩ dX11_fitsWith_20 (fun v u H locs hw_4 G => ?_)
        rcases hw_4 with ⟨rfl, hc_5, rfl⟩ | ⟨rfl, hc_6, rfl⟩
        · replace G := G.perm (ws' := [(m0, mO M xth xrm xsv xln xat xer xwr xwd xlo xhi xwl xml xkl xfi xse xdn xon xtw xol xrw xgl xus xpr xmk xab), (M 1, aI (K 0) 1247 g)]) [0, 1] rfl rfl
          refine W.eq (g2 := F0 m9 23 ls [.int (iI 1), .int (iI mt)]) rfl ?_
          refine ad_if_ne (tgt := 40) F (by decide) dX11_fitsWith_23 (by decide) (fun _ => ?_) (fun cc_7 => absurd cc_7 (by decide))
          refine ad_iconst F dX11_fitsWith_40 ?_
          refine lv_goto (tgt := 45) F.1 F.2.1 dX11_fitsWith_41 (by decide) ?_
          refine ad_iandn F (by omega) dX11_fitsWith_45 ?_
          refine lv_istore_n (lv' := [(3, .int (iI mt)), (0, .ref m0), (1, .int (iI x)), (2, .int (iI y)), (4, .int (iI i))]) F.1 F.2.1 dX11_fitsWith_46 rfl hl (by decide) rfl (fun ls hl => ?_)
          refine ad_iinc (lv' := [(4, .int (iI (i + 1))), (3, .int (iI mt)), (0, .ref m0), (1, .int (iI x)), (2, .int (iI y))]) F dX11_fitsWith_47 hl (k := 4) rfl (by decide) rfl (fun ls hl => ?_)
          refine lv_goto (tgt := 5) F.1 F.2.1 dX11_fitsWith_50 (by decide) ?_
          exact ih5 mt (i + 1) _ _ _ (by omega) (by rw [covN_s (by omega), if_pos (Or.inl hc_5)]; exact hm) (by omega) (G.perm (ws' := [(m0, mO M xth xrm xsv xln xat xer xwr xwd xlo xhi xwl xml xkl xfi xse xdn xon xtw xol xrw xgl xus xpr xmk xab), (M 1, aI (K 0) 1247 g)]) [0, 1] rfl rfl) (lv_sub hl [2, 3, 4, 1, 0] rfl)
        · replace G := G.perm (ws' := [(m0, mO M xth xrm xsv xln xat xer xwr xwd xlo xhi xwl xml xkl xfi xse xdn xon xtw xol xrw xgl xus xpr xmk xab), (M 1, aI (K 0) 1247 g)]) [0, 1] rfl rfl
          refine W.eq (g2 := F0 m9 23 ls [.int (iI 0), .int (iI mt)]) rfl ?_
          refine ad_if_ne (tgt := 40) F (by decide) dX11_fitsWith_23 (by decide) (fun cc_8 => absurd cc_8 (by decide)) (fun _ => ?_)
          refine lv_aload_n F.1 F.2.1 dX11_fitsWith_26 rfl (lv_at hl 0 rfl) ?_
          refine lv_iload_n F.1 F.2.1 dX11_fitsWith_27 rfl (lv_at hl 2 rfl) ?_
          refine ad_iconst F dX11_fitsWith_28 ?_
          refine ad_callV (As := [.int (iI y), .int (iI 2)]) (rest := [.int (iI mt)]) F G (c_X11_of_2 l D K z0 m0 M xth xrm xsv xln xat xer xwr xwd xlo xhi xwl xml xkl xfi xse xdn xon xtw xol xrw xgl xus xpr xmk xab g rs ps md th nc y hM hW hy) my_X11_of mv_X11_99 (wr := []) (isC := [0, 1]) (isR := []) ⟨rfl, rfl, rfl, rfl, by decide⟩ 11 0 rfl rfl rfl rfl ⟨Nat.le_of_ble_eq_true rfl, Nat.le_of_ble_eq_true rfl⟩ ⟨Nat.le_of_ble_eq_true rfl, Nat.le_of_ble_eq_true rfl⟩ (Nat.le_of_ble_eq_true rfl) hl.1 (cells9 := 0) (slots9 := 0) ⟨rfl, rfl⟩ dX11_fitsWith_29 (fun v u H locs hw_9 G => ?_)
          obtain ⟨rfl, rfl⟩ := hw_9
          replace G := G.perm (ws' := [(m0, mO M xth xrm xsv xln xat xer xwr xwd xlo xhi xwl xml xkl xfi xse xdn xon xtw xol xrw xgl xus xpr xmk xab), (M 1, aI (K 0) 1247 g)]) [0, 1] rfl rfl
          refine W.eq (g2 := F0 m9 32 ls [.int (iI ((rget rs y).2.2.1)), .int (iI mt)]) rfl ?_
          refine lv_iload F.1 F.2.1 dX11_fitsWith_32 (lv_at hl 4 rfl) ?_
          refine ad_callS (As := [.int (iI ((rget rs y).2.2.1)), .int (iI i)]) (rest := [.int (iI mt)]) F G (c_X11_fits l D K z0 ((rget rs y).2.2.1) i (by omega) (by omega)) my_X11_fits ms_X11_193 (wr := [(m0, mO M xth xrm xsv xln xat xer xwr xwd xlo xhi xwl xml xkl xfi xse xdn xon xtw xol xrw xgl xus xpr xmk xab), (M 1, aI (K 0) 1247 g)]) (isC := []) (isR := [0, 1]) ⟨rfl, rfl, rfl, rfl, by decide⟩ rfl rfl ⟨Nat.le_of_ble_eq_true rfl, Nat.le_of_ble_eq_true rfl⟩ ⟨Nat.le_of_ble_eq_true rfl, Nat.le_of_ble_eq_true rfl⟩ (Nat.le_of_ble_eq_true rfl) hl.1 (cells9 := 0) (slots9 := 0) ⟨rfl, rfl⟩ dX11_fitsWith_34 (fun v u H locs hw_10 G => ?_)
          rcases hw_10 with ⟨rfl, hc_11, rfl⟩ | ⟨rfl, hc_12, rfl⟩
          · replace G := G.perm (ws' := [(m0, mO M xth xrm xsv xln xat xer xwr xwd xlo xhi xwl xml xkl xfi xse xdn xon xtw xol xrw xgl xus xpr xmk xab), (M 1, aI (K 0) 1247 g)]) [0, 1] rfl rfl
            refine W.eq (g2 := F0 m9 37 ls [.int (iI 1), .int (iI mt)]) rfl ?_
            refine ad_if_ne (tgt := 44) F (by decide) dX11_fitsWith_37 (by decide) (fun _ => ?_) (fun cc_13 => absurd cc_13 (by decide))
            refine ad_iconst F dX11_fitsWith_44 ?_
            refine ad_iandy F (by omega) dX11_fitsWith_45 ?_
            refine lv_istore_n (lv' := [(3, .int (iI 0)), (0, .ref m0), (1, .int (iI x)), (2, .int (iI y)), (4, .int (iI i))]) F.1 F.2.1 dX11_fitsWith_46 rfl hl (by decide) rfl (fun ls hl => ?_)
            refine ad_iinc (lv' := [(4, .int (iI (i + 1))), (3, .int (iI 0)), (0, .ref m0), (1, .int (iI x)), (2, .int (iI y))]) F dX11_fitsWith_47 hl (k := 4) rfl (by decide) rfl (fun ls hl => ?_)
            refine lv_goto (tgt := 5) F.1 F.2.1 dX11_fitsWith_50 (by decide) ?_
            exact ih5 0 (i + 1) _ _ _ (by omega) (by rw [covN_s (by omega), if_neg (fun q => q.elim hc_6 (fun q => q hc_11))]) (by omega) (G.perm (ws' := [(m0, mO M xth xrm xsv xln xat xer xwr xwd xlo xhi xwl xml xkl xfi xse xdn xon xtw xol xrw xgl xus xpr xmk xab), (M 1, aI (K 0) 1247 g)]) [0, 1] rfl rfl) (lv_sub hl [2, 3, 4, 1, 0] rfl)
          · replace G := G.perm (ws' := [(m0, mO M xth xrm xsv xln xat xer xwr xwd xlo xhi xwl xml xkl xfi xse xdn xon xtw xol xrw xgl xus xpr xmk xab), (M 1, aI (K 0) 1247 g)]) [0, 1] rfl rfl
            refine W.eq (g2 := F0 m9 37 ls [.int (iI 0), .int (iI mt)]) rfl ?_
            refine ad_if_ne (tgt := 44) F (by decide) dX11_fitsWith_37 (by decide) (fun cc_14 => absurd cc_14 (by decide)) (fun _ => ?_)
            refine ad_iconst F dX11_fitsWith_40 ?_
            refine lv_goto (tgt := 45) F.1 F.2.1 dX11_fitsWith_41 (by decide) ?_
            refine ad_iandn F (by omega) dX11_fitsWith_45 ?_
            refine lv_istore_n (lv' := [(3, .int (iI mt)), (0, .ref m0), (1, .int (iI x)), (2, .int (iI y)), (4, .int (iI i))]) F.1 F.2.1 dX11_fitsWith_46 rfl hl (by decide) rfl (fun ls hl => ?_)
            refine ad_iinc (lv' := [(4, .int (iI (i + 1))), (3, .int (iI mt)), (0, .ref m0), (1, .int (iI x)), (2, .int (iI y))]) F dX11_fitsWith_47 hl (k := 4) rfl (by decide) rfl (fun ls hl => ?_)
            refine lv_goto (tgt := 5) F.1 F.2.1 dX11_fitsWith_50 (by decide) ?_
            exact ih5 mt (i + 1) _ _ _ (by omega) (by rw [covN_s (by omega), if_pos (Or.inr hc_12)]; exact hm) (by omega) (G.perm (ws' := [(m0, mO M xth xrm xsv xln xat xer xwr xwd xlo xhi xwl xml xkl xfi xse xdn xon xtw xol xrw xgl xus xpr xmk xab), (M 1, aI (K 0) 1247 g)]) [0, 1] rfl rfl) (lv_sub hl [2, 3, 4, 1, 0] rfl)
  exact lp5 ((((3 - 0 : Int)) + 1).toNat) 1 0 _ _ _ (by omega) rfl (by omega) (G.perm (ws' := [(m0, mO M xth xrm xsv xln xat xer xwr xwd xlo xhi xwl xml xkl xfi xse xdn xon xtw xol xrw xgl xus xpr xmk xab), (M 1, aI (K 0) 1247 g)]) [0, 1] rfl rfl) (lv_sub hl [2, 3, 4, 1, 0] rfl)
