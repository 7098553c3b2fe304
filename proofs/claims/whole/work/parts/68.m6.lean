theorem MH5 {g g2 : Nat → Int} {a b c d e : Int} (h : ∀ j : Int, 0 ≤ j → j < 5 → g2 j.toNat = g j.toNat) (hm : MHead g a b c d e) : MHead g2 a b c d e := by
  obtain ⟨h0, h1, h2, h3, h4⟩ := hm
  have e0 := h 0 (by omega) (by omega)
  have e1 := h 1 (by omega) (by omega)
  have e2 := h 2 (by omega) (by omega)
  have e3 := h 3 (by omega) (by omega)
  have e4 := h 4 (by omega) (by omega)
  exact ⟨e0.trans h0, e1.trans h1, e2.trans h2, e3.trans h3, e4.trans h4⟩
theorem MRow_add {g gB : Nat → Int} {rs : List Rl} {ps : List Pr} {md th nc k p c x q : Int} {a b : List Int} (hm : MRow g rs ps md th nc) (hl : rs.length < 24) (hq : q = 5 + (rs.length : Int) * 23) (hF : MForm gB q a b) (ho : ∀ j : Int, 0 ≤ j → j < q + 3 ∨ q + 23 ≤ j → gB j.toNat = va_up (va_up (va_up g (q + 0).toNat k) (q + 1).toNat p) (q + 2).toNat c j.toNat) (hx : x = (rs.length : Int) + 1) : MRow (va_up gB (0 : Int).toNat x) (rs ++ [(k, p, c, a, b)]) ps md th nc := by
  have f : ∀ j : Int, 0 ≤ j → j < q ∨ q + 23 ≤ j → gB j.toNat = g j.toNat := fun j j0 j1 => by
    rw [ho j j0 (by omega), va_upO (by omega) (by omega) (by omega), va_upO (by omega) (by omega) (by omega), va_upO (by omega) (by omega) (by omega)]
  obtain ⟨h0, h1, h2, h3, h4⟩ := hm.1
  have q1 : va_up gB (0 : Int).toNat x (1 : Int).toNat = g (1 : Int).toNat := by rw [va_upO (by omega) (by omega) (by omega), f 1 (by omega) (by omega)]
  have q2 : va_up gB (0 : Int).toNat x (2 : Int).toNat = g (2 : Int).toNat := by rw [va_upO (by omega) (by omega) (by omega), f 2 (by omega) (by omega)]
  have q3 : va_up gB (0 : Int).toNat x (3 : Int).toNat = g (3 : Int).toNat := by rw [va_upO (by omega) (by omega) (by omega), f 3 (by omega) (by omega)]
  have q4 : va_up gB (0 : Int).toNat x (4 : Int).toNat = g (4 : Int).toNat := by rw [va_upO (by omega) (by omega) (by omega), f 4 (by omega) (by omega)]
  subst hq
  refine MRow_pushR hm hl ⟨(va_upE (z := 0) rfl).trans hx, q1.trans h1, q2.trans h2, q3.trans h3, q4.trans h4⟩ ?_ ?_ ?_ (hF.cg (by omega) (fun j j0 j1 => va_upO (by omega) (by omega) (by omega))) (fun j j0 j1 => ?_)
  · rw [va_upO (by omega) (by omega) (by omega), ho _ (by omega) (by omega), va_upO (by omega) (by omega) (by omega), va_upO (by omega) (by omega) (by omega), va_upE rfl]
  · rw [va_upO (by omega) (by omega) (by omega), ho _ (by omega) (by omega), va_upO (by omega) (by omega) (by omega), va_upE rfl]
  · rw [va_upO (by omega) (by omega) (by omega), ho _ (by omega) (by omega), va_upE rfl]
  · rw [va_upO (by omega) (by omega) (by omega), f j (by omega) j1]
theorem shW_eq {w : List Int} (h : errR w = -1) : shW w = sl w 0 (0 + lend w 0) := by unfold shW; rw [Int.zero_add]
theorem loW_eq {w : List Int} (h : errR w = -1) : loW w = sl w (lend w 0 + 1) (lend w 0 + 1 + ((w.length : Int) - (lend w 0 + 1))) := by
  unfold loW
  rw [show lend w 0 + 1 + ((w.length : Int) - (lend w 0 + 1)) = w.length by omega]
def rm_X11_remember : Room := { frames := 2, cells := 0, slots := 0, locals := 34 }
set_option maxHeartbeats 4000000 in
set_option maxRecDepth 100000 in
theorem c_X11_remember (l : Launch) (D : va_G) (K : Nat → ClassId) (z0 : Nat) (m0 : Nat) (M : Nat → Nat) (xth : Int) (xrm : Int) (xsv : Int) (xln : Int) (xat : Int) (xer : Int) (xwr : Int) (xwd : Int) (xlo : Int) (xhi : Int) (xwl : Int) (xml : Int) (xkl : Int) (xfi : Int) (xse : Int) (xdn : Int) (xon : Int) (xtw : Int) (xol : Int) (xrw : Int) (xgl : Int) (xus : Int) (xpr : Int) (xmk : Int) (xab : Int) (g : Nat → Int) (rs : List Rl) (ps : List Pr) (md : Int) (th : Int) (nc : Int) (MH : Nat → Nat) (gH : Nat → Option Nat) (gh : Nat → Nat → Int) (hM : MRow g rs ps md th nc) (hH : ∀ j : Nat, j < 8 → gH j = some (MH j)) (hrm : 0 ≤ xrm ∧ xrm ≤ 8) : CT l D K z0 yX11_remember cX11_remember 2 none rm_X11_remember [.ref m0] [(m0, mO M xth xrm xsv xln xat xer xwr xwd xlo xhi xwl xml xkl xfi xse xdn xon xtw xol xrw xgl xus xpr xmk xab), (M 1, aI (K 0) 1247 g), (M 3, aR (K 7) 8 gH), (MH 0, aI (K 0) 1247 (gh 0)), (MH 1, aI (K 0) 1247 (gh 1)), (MH 2, aI (K 0) 1247 (gh 2)), (MH 3, aI (K 0) 1247 (gh 3)), (MH 4, aI (K 0) 1247 (gh 4)), (MH 5, aI (K 0) 1247 (gh 5)), (MH 6, aI (K 0) 1247 (gh 6)), (MH 7, aI (K 0) 1247 (gh 7))] (fun v9 u9 => ∃ (gh2 : Nat → Nat → Int), ∃ (g2 : Nat → Int), v9 = none ∧ (RmH g gh gh2 xrm) ∧ (MRow g2 rs ps md th (nc + 1)) ∧ u9 = [(m0, mO M xth (kpS xrm) xsv xln xat xer xwr xwd xlo xhi xwl xml xkl xfi xse xdn xon xtw xol xrw xgl xus xpr xmk xab), (M 1, aI (K 0) 1247 g2), (M 3, aR (K 7) 8 gH), (MH 0, aI (K 0) 1247 (gh2 0)), (MH 1, aI (K 0) 1247 (gh2 1)), (MH 2, aI (K 0) 1247 (gh2 2)), (MH 3, aI (K 0) 1247 (gh2 3)), (MH 4, aI (K 0) 1247 (gh2 4)), (MH 5, aI (K 0) 1247 (gh2 5)), (MH 6, aI (K 0) 1247 (gh2 6)), (MH 7, aI (K 0) 1247 (gh2 7))]) := by
  refine CT.start RX11 "remember" (by decide) rfl rfl (Nat.le_of_ble_eq_true rfl) ?_
  intro p9 e9 s9 m9 ag9 bl9 mt9 c9 A9 Q9 ls F G hR hl
  have hl : lv_has ls 2 [(0, .ref m0)] := hl
  rcases (show xrm = 0 ∨ xrm = 1 ∨ xrm = 2 ∨ xrm = 3 ∨ xrm = 4 ∨ xrm = 5 ∨ xrm = 6 ∨ xrm = 7 ∨ xrm = 8 by omega) with rfl | rfl | rfl | rfl | rfl | rfl | rfl | rfl | rfl
  · refine lv_aload_n F.1 F.2.1 dX11_remember_0 rfl (lv_at hl 0 rfl) ?_
    refine ad_get F G fl_X11_92 0 rfl rfl dX11_remember_1 ?_
    refine ad_bipush F dX11_remember_4 (by decide) ?_
    refine ad_icmp_ne (tgt := 52) F (by decide) dX11_remember_6 (by decide) (fun _ => ?_) (fun cc_2 => absurd cc_2 (by decide))
    refine lv_aload_n F.1 F.2.1 dX11_remember_52 rfl (lv_at hl 0 rfl) ?_
    refine ad_get F G fl_X11_9 0 rfl rfl dX11_remember_53 ?_
    refine lv_aload_n F.1 F.2.1 dX11_remember_56 rfl (lv_at hl 0 rfl) ?_
    refine ad_get F G fl_X11_18 0 rfl rfl dX11_remember_57 ?_
    refine lv_aload_n F.1 F.2.1 dX11_remember_60 rfl (lv_at hl 0 rfl) ?_
    refine ad_get F G fl_X11_92 0 rfl rfl dX11_remember_61 ?_
    refine ad_aaldA F G 2 7 rfl rfl (w := (MH 0)) (by omega) (hH 0 (by decide)) dX11_remember_64 ?_
    refine ad_callS (As := [.ref (M 1), .ref (MH 0)]) (rest := []) F G (c_X11_copyRow l D K z0 (M 1) (MH 0) g (gh 0) ) my_X11_copyRow ms_X11_95 (wr := [(m0, mO M xth 0 xsv xln xat xer xwr xwd xlo xhi xwl xml xkl xfi xse xdn xon xtw xol xrw xgl xus xpr xmk xab), (M 3, aR (K 7) 8 gH), (MH 1, aI (K 0) 1247 (gh 1)), (MH 2, aI (K 0) 1247 (gh 2)), (MH 3, aI (K 0) 1247 (gh 3)), (MH 4, aI (K 0) 1247 (gh 4)), (MH 5, aI (K 0) 1247 (gh 5)), (MH 6, aI (K 0) 1247 (gh 6)), (MH 7, aI (K 0) 1247 (gh 7))]) (isC := [1, 3]) (isR := [0, 2, 4, 5, 6, 7, 8, 9, 10]) ⟨rfl, rfl, rfl, rfl, by decide⟩ rfl rfl ⟨Nat.le_of_ble_eq_true rfl, Nat.le_of_ble_eq_true rfl⟩ ⟨Nat.le_of_ble_eq_true rfl, Nat.le_of_ble_eq_true rfl⟩ (Nat.le_of_ble_eq_true rfl) hl.1 (cells9 := 0) (slots9 := 0) ⟨rfl, rfl⟩ dX11_remember_65 (fun v u H locs hw_3 G => ?_)
    obtain ⟨g3_4, rfl, hc_5, rfl⟩ := hw_3
    replace G := G.perm (ws' := [(m0, mO M xth 0 xsv xln xat xer xwr xwd xlo xhi xwl xml xkl xfi xse xdn xon xtw xol xrw xgl xus xpr xmk xab), ((M 1), aI (K 0) 1247 g), (M 3, aR (K 7) 8 gH), ((MH 0), aI (K 0) 1247 g3_4), (MH 1, aI (K 0) 1247 (gh 1)), (MH 2, aI (K 0) 1247 (gh 2)), (MH 3, aI (K 0) 1247 (gh 3)), (MH 4, aI (K 0) 1247 (gh 4)), (MH 5, aI (K 0) 1247 (gh 5)), (MH 6, aI (K 0) 1247 (gh 6)), (MH 7, aI (K 0) 1247 (gh 7))]) [0, 9, 1, 10, 2, 3, 4, 5, 6, 7, 8] rfl rfl
    refine W.eq (g2 := F0 m9 68 ls []) rfl ?_
    refine lv_aload_n F.1 F.2.1 dX11_remember_68 rfl (lv_at hl 0 rfl) ?_
    refine lv_dup F.1 F.2.1 dX11_remember_69 rfl ?_
    refine ad_get F G fl_X11_92 0 rfl rfl dX11_remember_70 ?_
    refine ad_iconst F dX11_remember_73 ?_
    refine ad_iadd F dX11_remember_74 ?_
    refine ad_topi (y := 1) (by omega) ?_
    refine ad_put F G fl_X11_92 0 rfl rfl rfl (Nat.le_of_ble_eq_true rfl) (ws' := [(m0, mO M xth 1 xsv xln xat xer xwr xwd xlo xhi xwl xml xkl xfi xse xdn xon xtw xol xrw xgl xus xpr xmk xab), ((M 1), aI (K 0) 1247 g), (M 3, aR (K 7) 8 gH), ((MH 0), aI (K 0) 1247 g3_4), (MH 1, aI (K 0) 1247 (gh 1)), (MH 2, aI (K 0) 1247 (gh 2)), (MH 3, aI (K 0) 1247 (gh 3)), (MH 4, aI (K 0) 1247 (gh 4)), (MH 5, aI (K 0) 1247 (gh 5)), (MH 6, aI (K 0) 1247 (gh 6)), (MH 7, aI (K 0) 1247 (gh 7))]) rfl dX11_remember_75 (fun H locs G => ?_)
    refine lv_aload_n F.1 F.2.1 dX11_remember_78 rfl (lv_at hl 0 rfl) ?_
    refine ad_get F G fl_X11_9 0 rfl rfl dX11_remember_79 ?_
    refine ad_iconst F dX11_remember_82 ?_
    refine lv_dup2_11 F.1 F.2.1 dX11_remember_83 rfl rfl ?_
    refine ad_iald F G 1 rfl (w := nc) (by omega) (hM.1.2.2.2.2) dX11_remember_84 ?_
    refine ad_iconst F dX11_remember_85 ?_
    refine ad_iadd F dX11_remember_86 ?_
    refine ad_iast F G 1 rfl (by omega) (ws' := [(m0, mO M xth 1 xsv xln xat xer xwr xwd xlo xhi xwl xml xkl xfi xse xdn xon xtw xol xrw xgl xus xpr xmk xab), ((M 1), aI (K 0) 1247 (va_up g (4 : Int).toNat (nc + 1))), (M 3, aR (K 7) 8 gH), ((MH 0), aI (K 0) 1247 g3_4), (MH 1, aI (K 0) 1247 (gh 1)), (MH 2, aI (K 0) 1247 (gh 2)), (MH 3, aI (K 0) 1247 (gh 3)), (MH 4, aI (K 0) 1247 (gh 4)), (MH 5, aI (K 0) 1247 (gh 5)), (MH 6, aI (K 0) 1247 (gh 6)), (MH 7, aI (K 0) 1247 (gh 7))]) rfl dX11_remember_87 (fun H locs G => ?_)
    exact ad_vreturn F G hR rfl (Nat.le_of_ble_eq_true rfl) (Nat.le_of_ble_eq_true rfl) ⟨(va_up gh 0 g3_4), va_up g (4 : Int).toNat (nc + 1), rfl, ⟨fun _ => ⟨fun j hj => by rw [show ((0 : Int)).toNat = 0 from rfl, va_upI_s]; exact hc_5 j hj, fun i hi hne => by (have hq : ¬ i = 0 := (by omega)); simp only [va_up, if_neg hq]⟩, fun q => absurd q (by decide)⟩, (MRow_head hM ⟨hM.1.1, hM.1.2.1, hM.1.2.2.1, hM.1.2.2.2.1, va_upE (z := 4) rfl⟩ (fun j j0 => va_upO (by omega) (by omega) (by omega))), rfl⟩ dX11_remember_88
  · refine lv_aload_n F.1 F.2.1 dX11_remember_0 rfl (lv_at hl 0 rfl) ?_
    refine ad_get F G fl_X11_92 0 rfl rfl dX11_remember_1 ?_
    refine ad_bipush F dX11_remember_4 (by decide) ?_
    refine ad_icmp_ne (tgt := 52) F (by decide) dX11_remember_6 (by decide) (fun _ => ?_) (fun cc_6 => absurd cc_6 (by decide))
    refine lv_aload_n F.1 F.2.1 dX11_remember_52 rfl (lv_at hl 0 rfl) ?_
    refine ad_get F G fl_X11_9 0 rfl rfl dX11_remember_53 ?_
    refine lv_aload_n F.1 F.2.1 dX11_remember_56 rfl (lv_at hl 0 rfl) ?_
    refine ad_get F G fl_X11_18 0 rfl rfl dX11_remember_57 ?_
    refine lv_aload_n F.1 F.2.1 dX11_remember_60 rfl (lv_at hl 0 rfl) ?_
    refine ad_get F G fl_X11_92 0 rfl rfl dX11_remember_61 ?_
    refine ad_aaldA F G 2 7 rfl rfl (w := (MH 1)) (by omega) (hH 1 (by decide)) dX11_remember_64 ?_
    refine ad_callS (As := [.ref (M 1), .ref (MH 1)]) (rest := []) F G (c_X11_copyRow l D K z0 (M 1) (MH 1) g (gh 1) ) my_X11_copyRow ms_X11_95 (wr := [(m0, mO M xth 1 xsv xln xat xer xwr xwd xlo xhi xwl xml xkl xfi xse xdn xon xtw xol xrw xgl xus xpr xmk xab), (M 3, aR (K 7) 8 gH), (MH 0, aI (K 0) 1247 (gh 0)), (MH 2, aI (K 0) 1247 (gh 2)), (MH 3, aI (K 0) 1247 (gh 3)), (MH 4, aI (K 0) 1247 (gh 4)), (MH 5, aI (K 0) 1247 (gh 5)), (MH 6, aI (K 0) 1247 (gh 6)), (MH 7, aI (K 0) 1247 (gh 7))]) (isC := [1, 4]) (isR := [0, 2, 3, 5, 6, 7, 8, 9, 10]) ⟨rfl, rfl, rfl, rfl, by decide⟩ rfl rfl ⟨Nat.le_of_ble_eq_true rfl, Nat.le_of_ble_eq_true rfl⟩ ⟨Nat.le_of_ble_eq_true rfl, Nat.le_of_ble_eq_true rfl⟩ (Nat.le_of_ble_eq_true rfl) hl.1 (cells9 := 0) (slots9 := 0) ⟨rfl, rfl⟩ dX11_remember_65 (fun v u H locs hw_7 G => ?_)
    obtain ⟨g3_8, rfl, hc_9, rfl⟩ := hw_7
    replace G := G.perm (ws' := [(m0, mO M xth 1 xsv xln xat xer xwr xwd xlo xhi xwl xml xkl xfi xse xdn xon xtw xol xrw xgl xus xpr xmk xab), ((M 1), aI (K 0) 1247 g), (M 3, aR (K 7) 8 gH), (MH 0, aI (K 0) 1247 (gh 0)), ((MH 1), aI (K 0) 1247 g3_8), (MH 2, aI (K 0) 1247 (gh 2)), (MH 3, aI (K 0) 1247 (gh 3)), (MH 4, aI (K 0) 1247 (gh 4)), (MH 5, aI (K 0) 1247 (gh 5)), (MH 6, aI (K 0) 1247 (gh 6)), (MH 7, aI (K 0) 1247 (gh 7))]) [0, 9, 1, 2, 10, 3, 4, 5, 6, 7, 8] rfl rfl
    refine W.eq (g2 := F0 m9 68 ls []) rfl ?_
    refine lv_aload_n F.1 F.2.1 dX11_remember_68 rfl (lv_at hl 0 rfl) ?_
    refine lv_dup F.1 F.2.1 dX11_remember_69 rfl ?_
    refine ad_get F G fl_X11_92 0 rfl rfl dX11_remember_70 ?_
    refine ad_iconst F dX11_remember_73 ?_
    refine ad_iadd F dX11_remember_74 ?_
    refine ad_topi (y := 2) (by omega) ?_
    refine ad_put F G fl_X11_92 0 rfl rfl rfl (Nat.le_of_ble_eq_true rfl) (ws' := [(m0, mO M xth 2 xsv xln xat xer xwr xwd xlo xhi xwl xml xkl xfi xse xdn xon xtw xol xrw xgl xus xpr xmk xab), ((M 1), aI (K 0) 1247 g), (M 3, aR (K 7) 8 gH), (MH 0, aI (K 0) 1247 (gh 0)), ((MH 1), aI (K 0) 1247 g3_8), (MH 2, aI (K 0) 1247 (gh 2)), (MH 3, aI (K 0) 1247 (gh 3)), (MH 4, aI (K 0) 1247 (gh 4)), (MH 5, aI (K 0) 1247 (gh 5)), (MH 6, aI (K 0) 1247 (gh 6)), (MH 7, aI (K 0) 1247 (gh 7))]) rfl dX11_remember_75 (fun H locs G => ?_)
    refine lv_aload_n F.1 F.2.1 dX11_remember_78 rfl (lv_at hl 0 rfl) ?_
    refine ad_get F G fl_X11_9 0 rfl rfl dX11_remember_79 ?_
    refine ad_iconst F dX11_remember_82 ?_
    refine lv_dup2_11 F.1 F.2.1 dX11_remember_83 rfl rfl ?_
    refine ad_iald F G 1 rfl (w := nc) (by omega) (hM.1.2.2.2.2) dX11_remember_84 ?_
    refine ad_iconst F dX11_remember_85 ?_
    refine ad_iadd F dX11_remember_86 ?_
    refine ad_iast F G 1 rfl (by omega) (ws' := [(m0, mO M xth 2 xsv xln xat xer xwr xwd xlo xhi xwl xml xkl xfi xse xdn xon xtw xol xrw xgl xus xpr xmk xab), ((M 1), aI (K 0) 1247 (va_up g (4 : Int).toNat (nc + 1))), (M 3, aR (K 7) 8 gH), (MH 0, aI (K 0) 1247 (gh 0)), ((MH 1), aI (K 0) 1247 g3_8), (MH 2, aI (K 0) 1247 (gh 2)), (MH 3, aI (K 0) 1247 (gh 3)), (MH 4, aI (K 0) 1247 (gh 4)), (MH 5, aI (K 0) 1247 (gh 5)), (MH 6, aI (K 0) 1247 (gh 6)), (MH 7, aI (K 0) 1247 (gh 7))]) rfl dX11_remember_87 (fun H locs G => ?_)
    exact ad_vreturn F G hR rfl (Nat.le_of_ble_eq_true rfl) (Nat.le_of_ble_eq_true rfl) ⟨(va_up gh 1 g3_8), va_up g (4 : Int).toNat (nc + 1), rfl, ⟨fun _ => ⟨fun j hj => by rw [show ((1 : Int)).toNat = 1 from rfl, va_upI_s]; exact hc_9 j hj, fun i hi hne => by (have hq : ¬ i = 1 := (by omega)); simp only [va_up, if_neg hq]⟩, fun q => absurd q (by decide)⟩, (MRow_head hM ⟨hM.1.1, hM.1.2.1, hM.1.2.2.1, hM.1.2.2.2.1, va_upE (z := 4) rfl⟩ (fun j j0 => va_upO (by omega) (by omega) (by omega))), rfl⟩ dX11_remember_88
  · refine lv_aload_n F.1 F.2.1 dX11_remember_0 rfl (lv_at hl 0 rfl) ?_
    refine ad_get F G fl_X11_92 0 rfl rfl dX11_remember_1 ?_
    refine ad_bipush F dX11_remember_4 (by decide) ?_
    refine ad_icmp_ne (tgt := 52) F (by decide) dX11_remember_6 (by decide) (fun _ => ?_) (fun cc_10 => absurd cc_10 (by decide))
    refine lv_aload_n F.1 F.2.1 dX11_remember_52 rfl (lv_at hl 0 rfl) ?_
    refine ad_get F G fl_X11_9 0 rfl rfl dX11_remember_53 ?_
    refine lv_aload_n F.1 F.2.1 dX11_remember_56 rfl (lv_at hl 0 rfl) ?_
    refine ad_get F G fl_X11_18 0 rfl rfl dX11_remember_57 ?_
    refine lv_aload_n F.1 F.2.1 dX11_remember_60 rfl (lv_at hl 0 rfl) ?_
    refine ad_get F G fl_X11_92 0 rfl rfl dX11_remember_61 ?_
    refine ad_aaldA F G 2 7 rfl rfl (w := (MH 2)) (by omega) (hH 2 (by decide)) dX11_remember_64 ?_
    refine ad_callS (As := [.ref (M 1), .ref (MH 2)]) (rest := []) F G (c_X11_copyRow l D K z0 (M 1) (MH 2) g (gh 2) ) my_X11_copyRow ms_X11_95 (wr := [(m0, mO M xth 2 xsv xln xat xer xwr xwd xlo xhi xwl xml xkl xfi xse xdn xon xtw xol xrw xgl xus xpr xmk xab), (M 3, aR (K 7) 8 gH), (MH 0, aI (K 0) 1247 (gh 0)), (MH 1, aI (K 0) 1247 (gh 1)), (MH 3, aI (K 0) 1247 (gh 3)), (MH 4, aI (K 0) 1247 (gh 4)), (MH 5, aI (K 0) 1247 (gh 5)), (MH 6, aI (K 0) 1247 (gh 6)), (MH 7, aI (K 0) 1247 (gh 7))]) (isC := [1, 5]) (isR := [0, 2, 3, 4, 6, 7, 8, 9, 10]) ⟨rfl, rfl, rfl, rfl, by decide⟩ rfl rfl ⟨Nat.le_of_ble_eq_true rfl, Nat.le_of_ble_eq_true rfl⟩ ⟨Nat.le_of_ble_eq_true rfl, Nat.le_of_ble_eq_true rfl⟩ (Nat.le_of_ble_eq_true rfl) hl.1 (cells9 := 0) (slots9 := 0) ⟨rfl, rfl⟩ dX11_remember_65 (fun v u H locs hw_11 G => ?_)
    obtain ⟨g3_12, rfl, hc_13, rfl⟩ := hw_11
    replace G := G.perm (ws' := [(m0, mO M xth 2 xsv xln xat xer xwr xwd xlo xhi xwl xml xkl xfi xse xdn xon xtw xol xrw xgl xus xpr xmk xab), ((M 1), aI (K 0) 1247 g), (M 3, aR (K 7) 8 gH), (MH 0, aI (K 0) 1247 (gh 0)), (MH 1, aI (K 0) 1247 (gh 1)), ((MH 2), aI (K 0) 1247 g3_12), (MH 3, aI (K 0) 1247 (gh 3)), (MH 4, aI (K 0) 1247 (gh 4)), (MH 5, aI (K 0) 1247 (gh 5)), (MH 6, aI (K 0) 1247 (gh 6)), (MH 7, aI (K 0) 1247 (gh 7))]) [0, 9, 1, 2, 3, 10, 4, 5, 6, 7, 8] rfl rfl
    refine W.eq (g2 := F0 m9 68 ls []) rfl ?_
    refine lv_aload_n F.1 F.2.1 dX11_remember_68 rfl (lv_at hl 0 rfl) ?_
    refine lv_dup F.1 F.2.1 dX11_remember_69 rfl ?_
    refine ad_get F G fl_X11_92 0 rfl rfl dX11_remember_70 ?_
    refine ad_iconst F dX11_remember_73 ?_
    refine ad_iadd F dX11_remember_74 ?_
    refine ad_topi (y := 3) (by omega) ?_
    refine ad_put F G fl_X11_92 0 rfl rfl rfl (Nat.le_of_ble_eq_true rfl) (ws' := [(m0, mO M xth 3 xsv xln xat xer xwr xwd xlo xhi xwl xml xkl xfi xse xdn xon xtw xol xrw xgl xus xpr xmk xab), ((M 1), aI (K 0) 1247 g), (M 3, aR (K 7) 8 gH), (MH 0, aI (K 0) 1247 (gh 0)), (MH 1, aI (K 0) 1247 (gh 1)), ((MH 2), aI (K 0) 1247 g3_12), (MH 3, aI (K 0) 1247 (gh 3)), (MH 4, aI (K 0) 1247 (gh 4)), (MH 5, aI (K 0) 1247 (gh 5)), (MH 6, aI (K 0) 1247 (gh 6)), (MH 7, aI (K 0) 1247 (gh 7))]) rfl dX11_remember_75 (fun H locs G => ?_)
    refine lv_aload_n F.1 F.2.1 dX11_remember_78 rfl (lv_at hl 0 rfl) ?_
    refine ad_get F G fl_X11_9 0 rfl rfl dX11_remember_79 ?_
    refine ad_iconst F dX11_remember_82 ?_
    refine lv_dup2_11 F.1 F.2.1 dX11_remember_83 rfl rfl ?_
    refine ad_iald F G 1 rfl (w := nc) (by omega) (hM.1.2.2.2.2) dX11_remember_84 ?_
    refine ad_iconst F dX11_remember_85 ?_
    refine ad_iadd F dX11_remember_86 ?_
    refine ad_iast F G 1 rfl (by omega) (ws' := [(m0, mO M xth 3 xsv xln xat xer xwr xwd xlo xhi xwl xml xkl xfi xse xdn xon xtw xol xrw xgl xus xpr xmk xab), ((M 1), aI (K 0) 1247 (va_up g (4 : Int).toNat (nc + 1))), (M 3, aR (K 7) 8 gH), (MH 0, aI (K 0) 1247 (gh 0)), (MH 1, aI (K 0) 1247 (gh 1)), ((MH 2), aI (K 0) 1247 g3_12), (MH 3, aI (K 0) 1247 (gh 3)), (MH 4, aI (K 0) 1247 (gh 4)), (MH 5, aI (K 0) 1247 (gh 5)), (MH 6, aI (K 0) 1247 (gh 6)), (MH 7, aI (K 0) 1247 (gh 7))]) rfl dX11_remember_87 (fun H locs G => ?_)
    exact ad_vreturn F G hR rfl (Nat.le_of_ble_eq_true rfl) (Nat.le_of_ble_eq_true rfl) ⟨(va_up gh 2 g3_12), va_up g (4 : Int).toNat (nc + 1), rfl, ⟨fun _ => ⟨fun j hj => by rw [show ((2 : Int)).toNat = 2 from rfl, va_upI_s]; exact hc_13 j hj, fun i hi hne => by (have hq : ¬ i = 2 := (by omega)); simp only [va_up, if_neg hq]⟩, fun q => absurd q (by decide)⟩, (MRow_head hM ⟨hM.1.1, hM.1.2.1, hM.1.2.2.1, hM.1.2.2.2.1, va_upE (z := 4) rfl⟩ (fun j j0 => va_upO (by omega) (by omega) (by omega))), rfl⟩ dX11_remember_88
  · refine lv_aload_n F.1 F.2.1 dX11_remember_0 rfl (lv_at hl 0 rfl) ?_
    refine ad_get F G fl_X11_92 0 rfl rfl dX11_remember_1 ?_
    refine ad_bipush F dX11_remember_4 (by decide) ?_
    refine ad_icmp_ne (tgt := 52) F (by decide) dX11_remember_6 (by decide) (fun _ => ?_) (fun cc_14 => absurd cc_14 (by decide))
    refine lv_aload_n F.1 F.2.1 dX11_remember_52 rfl (lv_at hl 0 rfl) ?_
    refine ad_get F G fl_X11_9 0 rfl rfl dX11_remember_53 ?_
    refine lv_aload_n F.1 F.2.1 dX11_remember_56 rfl (lv_at hl 0 rfl) ?_
    refine ad_get F G fl_X11_18 0 rfl rfl dX11_remember_57 ?_
    refine lv_aload_n F.1 F.2.1 dX11_remember_60 rfl (lv_at hl 0 rfl) ?_
    refine ad_get F G fl_X11_92 0 rfl rfl dX11_remember_61 ?_
    refine ad_aaldA F G 2 7 rfl rfl (w := (MH 3)) (by omega) (hH 3 (by decide)) dX11_remember_64 ?_
    refine ad_callS (As := [.ref (M 1), .ref (MH 3)]) (rest := []) F G (c_X11_copyRow l D K z0 (M 1) (MH 3) g (gh 3) ) my_X11_copyRow ms_X11_95 (wr := [(m0, mO M xth 3 xsv xln xat xer xwr xwd xlo xhi xwl xml xkl xfi xse xdn xon xtw xol xrw xgl xus xpr xmk xab), (M 3, aR (K 7) 8 gH), (MH 0, aI (K 0) 1247 (gh 0)), (MH 1, aI (K 0) 1247 (gh 1)), (MH 2, aI (K 0) 1247 (gh 2)), (MH 4, aI (K 0) 1247 (gh 4)), (MH 5, aI (K 0) 1247 (gh 5)), (MH 6, aI (K 0) 1247 (gh 6)), (MH 7, aI (K 0) 1247 (gh 7))]) (isC := [1, 6]) (isR := [0, 2, 3, 4, 5, 7, 8, 9, 10]) ⟨rfl, rfl, rfl, rfl, by decide⟩ rfl rfl ⟨Nat.le_of_ble_eq_true rfl, Nat.le_of_ble_eq_true rfl⟩ ⟨Nat.le_of_ble_eq_true rfl, Nat.le_of_ble_eq_true rfl⟩ (Nat.le_of_ble_eq_true rfl) hl.1 (cells9 := 0) (slots9 := 0) ⟨rfl, rfl⟩ dX11_remember_65 (fun v u H locs hw_15 G => ?_)
    obtain ⟨g3_16, rfl, hc_17, rfl⟩ := hw_15
    replace G := G.perm (ws' := [(m0, mO M xth 3 xsv xln xat xer xwr xwd xlo xhi xwl xml xkl xfi xse xdn xon xtw xol xrw xgl xus xpr xmk xab), ((M 1), aI (K 0) 1247 g), (M 3, aR (K 7) 8 gH), (MH 0, aI (K 0) 1247 (gh 0)), (MH 1, aI (K 0) 1247 (gh 1)), (MH 2, aI (K 0) 1247 (gh 2)), ((MH 3), aI (K 0) 1247 g3_16), (MH 4, aI (K 0) 1247 (gh 4)), (MH 5, aI (K 0) 1247 (gh 5)), (MH 6, aI (K 0) 1247 (gh 6)), (MH 7, aI (K 0) 1247 (gh 7))]) [0, 9, 1, 2, 3, 4, 10, 5, 6, 7, 8] rfl rfl
    refine W.eq (g2 := F0 m9 68 ls []) rfl ?_
    refine lv_aload_n F.1 F.2.1 dX11_remember_68 rfl (lv_at hl 0 rfl) ?_
    refine lv_dup F.1 F.2.1 dX11_remember_69 rfl ?_
    refine ad_get F G fl_X11_92 0 rfl rfl dX11_remember_70 ?_
    refine ad_iconst F dX11_remember_73 ?_
    refine ad_iadd F dX11_remember_74 ?_
    refine ad_topi (y := 4) (by omega) ?_
    refine ad_put F G fl_X11_92 0 rfl rfl rfl (Nat.le_of_ble_eq_true rfl) (ws' := [(m0, mO M xth 4 xsv xln xat xer xwr xwd xlo xhi xwl xml xkl xfi xse xdn xon xtw xol xrw xgl xus xpr xmk xab), ((M 1), aI (K 0) 1247 g), (M 3, aR (K 7) 8 gH), (MH 0, aI (K 0) 1247 (gh 0)), (MH 1, aI (K 0) 1247 (gh 1)), (MH 2, aI (K 0) 1247 (gh 2)), ((MH 3), aI (K 0) 1247 g3_16), (MH 4, aI (K 0) 1247 (gh 4)), (MH 5, aI (K 0) 1247 (gh 5)), (MH 6, aI (K 0) 1247 (gh 6)), (MH 7, aI (K 0) 1247 (gh 7))]) rfl dX11_remember_75 (fun H locs G => ?_)
    refine lv_aload_n F.1 F.2.1 dX11_remember_78 rfl (lv_at hl 0 rfl) ?_
    refine ad_get F G fl_X11_9 0 rfl rfl dX11_remember_79 ?_
    refine ad_iconst F dX11_remember_82 ?_
    refine lv_dup2_11 F.1 F.2.1 dX11_remember_83 rfl rfl ?_
    refine ad_iald F G 1 rfl (w := nc) (by omega) (hM.1.2.2.2.2) dX11_remember_84 ?_
    refine ad_iconst F dX11_remember_85 ?_
    refine ad_iadd F dX11_remember_86 ?_
    refine ad_iast F G 1 rfl (by omega) (ws' := [(m0, mO M xth 4 xsv xln xat xer xwr xwd xlo xhi xwl xml xkl xfi xse xdn xon xtw xol xrw xgl xus xpr xmk xab), ((M 1), aI (K 0) 1247 (va_up g (4 : Int).toNat (nc + 1))), (M 3, aR (K 7) 8 gH), (MH 0, aI (K 0) 1247 (gh 0)), (MH 1, aI (K 0) 1247 (gh 1)), (MH 2, aI (K 0) 1247 (gh 2)), ((MH 3), aI (K 0) 1247 g3_16), (MH 4, aI (K 0) 1247 (gh 4)), (MH 5, aI (K 0) 1247 (gh 5)), (MH 6, aI (K 0) 1247 (gh 6)), (MH 7, aI (K 0) 1247 (gh 7))]) rfl dX11_remember_87 (fun H locs G => ?_)
    exact ad_vreturn F G hR rfl (Nat.le_of_ble_eq_true rfl) (Nat.le_of_ble_eq_true rfl) ⟨(va_up gh 3 g3_16), va_up g (4 : Int).toNat (nc + 1), rfl, ⟨fun _ => ⟨fun j hj => by rw [show ((3 : Int)).toNat = 3 from rfl, va_upI_s]; exact hc_17 j hj, fun i hi hne => by (have hq : ¬ i = 3 := (by omega)); simp only [va_up, if_neg hq]⟩, fun q => absurd q (by decide)⟩, (MRow_head hM ⟨hM.1.1, hM.1.2.1, hM.1.2.2.1, hM.1.2.2.2.1, va_upE (z := 4) rfl⟩ (fun j j0 => va_upO (by omega) (by omega) (by omega))), rfl⟩ dX11_remember_88
  · refine lv_aload_n F.1 F.2.1 dX11_remember_0 rfl (lv_at hl 0 rfl) ?_
    refine ad_get F G fl_X11_92 0 rfl rfl dX11_remember_1 ?_
    refine ad_bipush F dX11_remember_4 (by decide) ?_
    refine ad_icmp_ne (tgt := 52) F (by decide) dX11_remember_6 (by decide) (fun _ => ?_) (fun cc_18 => absurd cc_18 (by decide))
    refine lv_aload_n F.1 F.2.1 dX11_remember_52 rfl (lv_at hl 0 rfl) ?_
    refine ad_get F G fl_X11_9 0 rfl rfl dX11_remember_53 ?_
    refine lv_aload_n F.1 F.2.1 dX11_remember_56 rfl (lv_at hl 0 rfl) ?_
    refine ad_get F G fl_X11_18 0 rfl rfl dX11_remember_57 ?_
    refine lv_aload_n F.1 F.2.1 dX11_remember_60 rfl (lv_at hl 0 rfl) ?_
    refine ad_get F G fl_X11_92 0 rfl rfl dX11_remember_61 ?_
    refine ad_aaldA F G 2 7 rfl rfl (w := (MH 4)) (by omega) (hH 4 (by decide)) dX11_remember_64 ?_
    refine ad_callS (As := [.ref (M 1), .ref (MH 4)]) (rest := []) F G (c_X11_copyRow l D K z0 (M 1) (MH 4) g (gh 4) ) my_X11_copyRow ms_X11_95 (wr := [(m0, mO M xth 4 xsv xln xat xer xwr xwd xlo xhi xwl xml xkl xfi xse xdn xon xtw xol xrw xgl xus xpr xmk xab), (M 3, aR (K 7) 8 gH), (MH 0, aI (K 0) 1247 (gh 0)), (MH 1, aI (K 0) 1247 (gh 1)), (MH 2, aI (K 0) 1247 (gh 2)), (MH 3, aI (K 0) 1247 (gh 3)), (MH 5, aI (K 0) 1247 (gh 5)), (MH 6, aI (K 0) 1247 (gh 6)), (MH 7, aI (K 0) 1247 (gh 7))]) (isC := [1, 7]) (isR := [0, 2, 3, 4, 5, 6, 8, 9, 10]) ⟨rfl, rfl, rfl, rfl, by decide⟩ rfl rfl ⟨Nat.le_of_ble_eq_true rfl, Nat.le_of_ble_eq_true rfl⟩ ⟨Nat.le_of_ble_eq_true rfl, Nat.le_of_ble_eq_true rfl⟩ (Nat.le_of_ble_eq_true rfl) hl.1 (cells9 := 0) (slots9 := 0) ⟨rfl, rfl⟩ dX11_remember_65 (fun v u H locs hw_19 G => ?_)
    obtain ⟨g3_20, rfl, hc_21, rfl⟩ := hw_19
    replace G := G.perm (ws' := [(m0, mO M xth 4 xsv xln xat xer xwr xwd xlo xhi xwl xml xkl xfi xse xdn xon xtw xol xrw xgl xus xpr xmk xab), ((M 1), aI (K 0) 1247 g), (M 3, aR (K 7) 8 gH), (MH 0, aI (K 0) 1247 (gh 0)), (MH 1, aI (K 0) 1247 (gh 1)), (MH 2, aI (K 0) 1247 (gh 2)), (MH 3, aI (K 0) 1247 (gh 3)), ((MH 4), aI (K 0) 1247 g3_20), (MH 5, aI (K 0) 1247 (gh 5)), (MH 6, aI (K 0) 1247 (gh 6)), (MH 7, aI (K 0) 1247 (gh 7))]) [0, 9, 1, 2, 3, 4, 5, 10, 6, 7, 8] rfl rfl
    refine W.eq (g2 := F0 m9 68 ls []) rfl ?_
    refine lv_aload_n F.1 F.2.1 dX11_remember_68 rfl (lv_at hl 0 rfl) ?_
    refine lv_dup F.1 F.2.1 dX11_remember_69 rfl ?_
    refine ad_get F G fl_X11_92 0 rfl rfl dX11_remember_70 ?_
    refine ad_iconst F dX11_remember_73 ?_
    refine ad_iadd F dX11_remember_74 ?_
    refine ad_topi (y := 5) (by omega) ?_
    refine ad_put F G fl_X11_92 0 rfl rfl rfl (Nat.le_of_ble_eq_true rfl) (ws' := [(m0, mO M xth 5 xsv xln xat xer xwr xwd xlo xhi xwl xml xkl xfi xse xdn xon xtw xol xrw xgl xus xpr xmk xab), ((M 1), aI (K 0) 1247 g), (M 3, aR (K 7) 8 gH), (MH 0, aI (K 0) 1247 (gh 0)), (MH 1, aI (K 0) 1247 (gh 1)), (MH 2, aI (K 0) 1247 (gh 2)), (MH 3, aI (K 0) 1247 (gh 3)), ((MH 4), aI (K 0) 1247 g3_20), (MH 5, aI (K 0) 1247 (gh 5)), (MH 6, aI (K 0) 1247 (gh 6)), (MH 7, aI (K 0) 1247 (gh 7))]) rfl dX11_remember_75 (fun H locs G => ?_)
    refine lv_aload_n F.1 F.2.1 dX11_remember_78 rfl (lv_at hl 0 rfl) ?_
    refine ad_get F G fl_X11_9 0 rfl rfl dX11_remember_79 ?_
    refine ad_iconst F dX11_remember_82 ?_
    refine lv_dup2_11 F.1 F.2.1 dX11_remember_83 rfl rfl ?_
    refine ad_iald F G 1 rfl (w := nc) (by omega) (hM.1.2.2.2.2) dX11_remember_84 ?_
    refine ad_iconst F dX11_remember_85 ?_
    refine ad_iadd F dX11_remember_86 ?_
    refine ad_iast F G 1 rfl (by omega) (ws' := [(m0, mO M xth 5 xsv xln xat xer xwr xwd xlo xhi xwl xml xkl xfi xse xdn xon xtw xol xrw xgl xus xpr xmk xab), ((M 1), aI (K 0) 1247 (va_up g (4 : Int).toNat (nc + 1))), (M 3, aR (K 7) 8 gH), (MH 0, aI (K 0) 1247 (gh 0)), (MH 1, aI (K 0) 1247 (gh 1)), (MH 2, aI (K 0) 1247 (gh 2)), (MH 3, aI (K 0) 1247 (gh 3)), ((MH 4), aI (K 0) 1247 g3_20), (MH 5, aI (K 0) 1247 (gh 5)), (MH 6, aI (K 0) 1247 (gh 6)), (MH 7, aI (K 0) 1247 (gh 7))]) rfl dX11_remember_87 (fun H locs G => ?_)
    exact ad_vreturn F G hR rfl (Nat.le_of_ble_eq_true rfl) (Nat.le_of_ble_eq_true rfl) ⟨(va_up gh 4 g3_20), va_up g (4 : Int).toNat (nc + 1), rfl, ⟨fun _ => ⟨fun j hj => by rw [show ((4 : Int)).toNat = 4 from rfl, va_upI_s]; exact hc_21 j hj, fun i hi hne => by (have hq : ¬ i = 4 := (by omega)); simp only [va_up, if_neg hq]⟩, fun q => absurd q (by decide)⟩, (MRow_head hM ⟨hM.1.1, hM.1.2.1, hM.1.2.2.1, hM.1.2.2.2.1, va_upE (z := 4) rfl⟩ (fun j j0 => va_upO (by omega) (by omega) (by omega))), rfl⟩ dX11_remember_88
  · refine lv_aload_n F.1 F.2.1 dX11_remember_0 rfl (lv_at hl 0 rfl) ?_
    refine ad_get F G fl_X11_92 0 rfl rfl dX11_remember_1 ?_
    refine ad_bipush F dX11_remember_4 (by decide) ?_
    refine ad_icmp_ne (tgt := 52) F (by decide) dX11_remember_6 (by decide) (fun _ => ?_) (fun cc_22 => absurd cc_22 (by decide))
    refine lv_aload_n F.1 F.2.1 dX11_remember_52 rfl (lv_at hl 0 rfl) ?_
    refine ad_get F G fl_X11_9 0 rfl rfl dX11_remember_53 ?_
    refine lv_aload_n F.1 F.2.1 dX11_remember_56 rfl (lv_at hl 0 rfl) ?_
    refine ad_get F G fl_X11_18 0 rfl rfl dX11_remember_57 ?_
    refine lv_aload_n F.1 F.2.1 dX11_remember_60 rfl (lv_at hl 0 rfl) ?_
    refine ad_get F G fl_X11_92 0 rfl rfl dX11_remember_61 ?_
    refine ad_aaldA F G 2 7 rfl rfl (w := (MH 5)) (by omega) (hH 5 (by decide)) dX11_remember_64 ?_
    refine ad_callS (As := [.ref (M 1), .ref (MH 5)]) (rest := []) F G (c_X11_copyRow l D K z0 (M 1) (MH 5) g (gh 5) ) my_X11_copyRow ms_X11_95 (wr := [(m0, mO M xth 5 xsv xln xat xer xwr xwd xlo xhi xwl xml xkl xfi xse xdn xon xtw xol xrw xgl xus xpr xmk xab), (M 3, aR (K 7) 8 gH), (MH 0, aI (K 0) 1247 (gh 0)), (MH 1, aI (K 0) 1247 (gh 1)), (MH 2, aI (K 0) 1247 (gh 2)), (MH 3, aI (K 0) 1247 (gh 3)), (MH 4, aI (K 0) 1247 (gh 4)), (MH 6, aI (K 0) 1247 (gh 6)), (MH 7, aI (K 0) 1247 (gh 7))]) (isC := [1, 8]) (isR := [0, 2, 3, 4, 5, 6, 7, 9, 10]) ⟨rfl, rfl, rfl, rfl, by decide⟩ rfl rfl ⟨Nat.le_of_ble_eq_true rfl, Nat.le_of_ble_eq_true rfl⟩ ⟨Nat.le_of_ble_eq_true rfl, Nat.le_of_ble_eq_true rfl⟩ (Nat.le_of_ble_eq_true rfl) hl.1 (cells9 := 0) (slots9 := 0) ⟨rfl, rfl⟩ dX11_remember_65 (fun v u H locs hw_23 G => ?_)
    obtain ⟨g3_24, rfl, hc_25, rfl⟩ := hw_23
    replace G := G.perm (ws' := [(m0, mO M xth 5 xsv xln xat xer xwr xwd xlo xhi xwl xml xkl xfi xse xdn xon xtw xol xrw xgl xus xpr xmk xab), ((M 1), aI (K 0) 1247 g), (M 3, aR (K 7) 8 gH), (MH 0, aI (K 0) 1247 (gh 0)), (MH 1, aI (K 0) 1247 (gh 1)), (MH 2, aI (K 0) 1247 (gh 2)), (MH 3, aI (K 0) 1247 (gh 3)), (MH 4, aI (K 0) 1247 (gh 4)), ((MH 5), aI (K 0) 1247 g3_24), (MH 6, aI (K 0) 1247 (gh 6)), (MH 7, aI (K 0) 1247 (gh 7))]) [0, 9, 1, 2, 3, 4, 5, 6, 10, 7, 8] rfl rfl
    refine W.eq (g2 := F0 m9 68 ls []) rfl ?_
    refine lv_aload_n F.1 F.2.1 dX11_remember_68 rfl (lv_at hl 0 rfl) ?_
    refine lv_dup F.1 F.2.1 dX11_remember_69 rfl ?_
    refine ad_get F G fl_X11_92 0 rfl rfl dX11_remember_70 ?_
    refine ad_iconst F dX11_remember_73 ?_
    refine ad_iadd F dX11_remember_74 ?_
    refine ad_topi (y := 6) (by omega) ?_
    refine ad_put F G fl_X11_92 0 rfl rfl rfl (Nat.le_of_ble_eq_true rfl) (ws' := [(m0, mO M xth 6 xsv xln xat xer xwr xwd xlo xhi xwl xml xkl xfi xse xdn xon xtw xol xrw xgl xus xpr xmk xab), ((M 1), aI (K 0) 1247 g), (M 3, aR (K 7) 8 gH), (MH 0, aI (K 0) 1247 (gh 0)), (MH 1, aI (K 0) 1247 (gh 1)), (MH 2, aI (K 0) 1247 (gh 2)), (MH 3, aI (K 0) 1247 (gh 3)), (MH 4, aI (K 0) 1247 (gh 4)), ((MH 5), aI (K 0) 1247 g3_24), (MH 6, aI (K 0) 1247 (gh 6)), (MH 7, aI (K 0) 1247 (gh 7))]) rfl dX11_remember_75 (fun H locs G => ?_)
    refine lv_aload_n F.1 F.2.1 dX11_remember_78 rfl (lv_at hl 0 rfl) ?_
    refine ad_get F G fl_X11_9 0 rfl rfl dX11_remember_79 ?_
    refine ad_iconst F dX11_remember_82 ?_
    refine lv_dup2_11 F.1 F.2.1 dX11_remember_83 rfl rfl ?_
    refine ad_iald F G 1 rfl (w := nc) (by omega) (hM.1.2.2.2.2) dX11_remember_84 ?_
    refine ad_iconst F dX11_remember_85 ?_
    refine ad_iadd F dX11_remember_86 ?_
    refine ad_iast F G 1 rfl (by omega) (ws' := [(m0, mO M xth 6 xsv xln xat xer xwr xwd xlo xhi xwl xml xkl xfi xse xdn xon xtw xol xrw xgl xus xpr xmk xab), ((M 1), aI (K 0) 1247 (va_up g (4 : Int).toNat (nc + 1))), (M 3, aR (K 7) 8 gH), (MH 0, aI (K 0) 1247 (gh 0)), (MH 1, aI (K 0) 1247 (gh 1)), (MH 2, aI (K 0) 1247 (gh 2)), (MH 3, aI (K 0) 1247 (gh 3)), (MH 4, aI (K 0) 1247 (gh 4)), ((MH 5), aI (K 0) 1247 g3_24), (MH 6, aI (K 0) 1247 (gh 6)), (MH 7, aI (K 0) 1247 (gh 7))]) rfl dX11_remember_87 (fun H locs G => ?_)
    exact ad_vreturn F G hR rfl (Nat.le_of_ble_eq_true rfl) (Nat.le_of_ble_eq_true rfl) ⟨(va_up gh 5 g3_24), va_up g (4 : Int).toNat (nc + 1), rfl, ⟨fun _ => ⟨fun j hj => by rw [show ((5 : Int)).toNat = 5 from rfl, va_upI_s]; exact hc_25 j hj, fun i hi hne => by (have hq : ¬ i = 5 := (by omega)); simp only [va_up, if_neg hq]⟩, fun q => absurd q (by decide)⟩, (MRow_head hM ⟨hM.1.1, hM.1.2.1, hM.1.2.2.1, hM.1.2.2.2.1, va_upE (z := 4) rfl⟩ (fun j j0 => va_upO (by omega) (by omega) (by omega))), rfl⟩ dX11_remember_88
  · refine lv_aload_n F.1 F.2.1 dX11_remember_0 rfl (lv_at hl 0 rfl) ?_
    refine ad_get F G fl_X11_92 0 rfl rfl dX11_remember_1 ?_
    refine ad_bipush F dX11_remember_4 (by decide) ?_
    refine ad_icmp_ne (tgt := 52) F (by decide) dX11_remember_6 (by decide) (fun _ => ?_) (fun cc_26 => absurd cc_26 (by decide))
    refine lv_aload_n F.1 F.2.1 dX11_remember_52 rfl (lv_at hl 0 rfl) ?_
    refine ad_get F G fl_X11_9 0 rfl rfl dX11_remember_53 ?_
    refine lv_aload_n F.1 F.2.1 dX11_remember_56 rfl (lv_at hl 0 rfl) ?_
    refine ad_get F G fl_X11_18 0 rfl rfl dX11_remember_57 ?_
    refine lv_aload_n F.1 F.2.1 dX11_remember_60 rfl (lv_at hl 0 rfl) ?_
    refine ad_get F G fl_X11_92 0 rfl rfl dX11_remember_61 ?_
    refine ad_aaldA F G 2 7 rfl rfl (w := (MH 6)) (by omega) (hH 6 (by decide)) dX11_remember_64 ?_
    refine ad_callS (As := [.ref (M 1), .ref (MH 6)]) (rest := []) F G (c_X11_copyRow l D K z0 (M 1) (MH 6) g (gh 6) ) my_X11_copyRow ms_X11_95 (wr := [(m0, mO M xth 6 xsv xln xat xer xwr xwd xlo xhi xwl xml xkl xfi xse xdn xon xtw xol xrw xgl xus xpr xmk xab), (M 3, aR (K 7) 8 gH), (MH 0, aI (K 0) 1247 (gh 0)), (MH 1, aI (K 0) 1247 (gh 1)), (MH 2, aI (K 0) 1247 (gh 2)), (MH 3, aI (K 0) 1247 (gh 3)), (MH 4, aI (K 0) 1247 (gh 4)), (MH 5, aI (K 0) 1247 (gh 5)), (MH 7, aI (K 0) 1247 (gh 7))]) (isC := [1, 9]) (isR := [0, 2, 3, 4, 5, 6, 7, 8, 10]) ⟨rfl, rfl, rfl, rfl, by decide⟩ rfl rfl ⟨Nat.le_of_ble_eq_true rfl, Nat.le_of_ble_eq_true rfl⟩ ⟨Nat.le_of_ble_eq_true rfl, Nat.le_of_ble_eq_true rfl⟩ (Nat.le_of_ble_eq_true rfl) hl.1 (cells9 := 0) (slots9 := 0) ⟨rfl, rfl⟩ dX11_remember_65 (fun v u H locs hw_27 G => ?_)
    obtain ⟨g3_28, rfl, hc_29, rfl⟩ := hw_27
    replace G := G.perm (ws' := [(m0, mO M xth 6 xsv xln xat xer xwr xwd xlo xhi xwl xml xkl xfi xse xdn xon xtw xol xrw xgl xus xpr xmk xab), ((M 1), aI (K 0) 1247 g), (M 3, aR (K 7) 8 gH), (MH 0, aI (K 0) 1247 (gh 0)), (MH 1, aI (K 0) 1247 (gh 1)), (MH 2, aI (K 0) 1247 (gh 2)), (MH 3, aI (K 0) 1247 (gh 3)), (MH 4, aI (K 0) 1247 (gh 4)), (MH 5, aI (K 0) 1247 (gh 5)), ((MH 6), aI (K 0) 1247 g3_28), (MH 7, aI (K 0) 1247 (gh 7))]) [0, 9, 1, 2, 3, 4, 5, 6, 7, 10, 8] rfl rfl
    refine W.eq (g2 := F0 m9 68 ls []) rfl ?_
    refine lv_aload_n F.1 F.2.1 dX11_remember_68 rfl (lv_at hl 0 rfl) ?_
    refine lv_dup F.1 F.2.1 dX11_remember_69 rfl ?_
    refine ad_get F G fl_X11_92 0 rfl rfl dX11_remember_70 ?_
    refine ad_iconst F dX11_remember_73 ?_
    refine ad_iadd F dX11_remember_74 ?_
    refine ad_topi (y := 7) (by omega) ?_
    refine ad_put F G fl_X11_92 0 rfl rfl rfl (Nat.le_of_ble_eq_true rfl) (ws' := [(m0, mO M xth 7 xsv xln xat xer xwr xwd xlo xhi xwl xml xkl xfi xse xdn xon xtw xol xrw xgl xus xpr xmk xab), ((M 1), aI (K 0) 1247 g), (M 3, aR (K 7) 8 gH), (MH 0, aI (K 0) 1247 (gh 0)), (MH 1, aI (K 0) 1247 (gh 1)), (MH 2, aI (K 0) 1247 (gh 2)), (MH 3, aI (K 0) 1247 (gh 3)), (MH 4, aI (K 0) 1247 (gh 4)), (MH 5, aI (K 0) 1247 (gh 5)), ((MH 6), aI (K 0) 1247 g3_28), (MH 7, aI (K 0) 1247 (gh 7))]) rfl dX11_remember_75 (fun H locs G => ?_)
    refine lv_aload_n F.1 F.2.1 dX11_remember_78 rfl (lv_at hl 0 rfl) ?_
    refine ad_get F G fl_X11_9 0 rfl rfl dX11_remember_79 ?_
    refine ad_iconst F dX11_remember_82 ?_
    refine lv_dup2_11 F.1 F.2.1 dX11_remember_83 rfl rfl ?_
    refine ad_iald F G 1 rfl (w := nc) (by omega) (hM.1.2.2.2.2) dX11_remember_84 ?_
    refine ad_iconst F dX11_remember_85 ?_
    refine ad_iadd F dX11_remember_86 ?_
    refine ad_iast F G 1 rfl (by omega) (ws' := [(m0, mO M xth 7 xsv xln xat xer xwr xwd xlo xhi xwl xml xkl xfi xse xdn xon xtw xol xrw xgl xus xpr xmk xab), ((M 1), aI (K 0) 1247 (va_up g (4 : Int).toNat (nc + 1))), (M 3, aR (K 7) 8 gH), (MH 0, aI (K 0) 1247 (gh 0)), (MH 1, aI (K 0) 1247 (gh 1)), (MH 2, aI (K 0) 1247 (gh 2)), (MH 3, aI (K 0) 1247 (gh 3)), (MH 4, aI (K 0) 1247 (gh 4)), (MH 5, aI (K 0) 1247 (gh 5)), ((MH 6), aI (K 0) 1247 g3_28), (MH 7, aI (K 0) 1247 (gh 7))]) rfl dX11_remember_87 (fun H locs G => ?_)
    exact ad_vreturn F G hR rfl (Nat.le_of_ble_eq_true rfl) (Nat.le_of_ble_eq_true rfl) ⟨(va_up gh 6 g3_28), va_up g (4 : Int).toNat (nc + 1), rfl, ⟨fun _ => ⟨fun j hj => by rw [show ((6 : Int)).toNat = 6 from rfl, va_upI_s]; exact hc_29 j hj, fun i hi hne => by (have hq : ¬ i = 6 := (by omega)); simp only [va_up, if_neg hq]⟩, fun q => absurd q (by decide)⟩, (MRow_head hM ⟨hM.1.1, hM.1.2.1, hM.1.2.2.1, hM.1.2.2.2.1, va_upE (z := 4) rfl⟩ (fun j j0 => va_upO (by omega) (by omega) (by omega))), rfl⟩ dX11_remember_88
  · refine lv_aload_n F.1 F.2.1 dX11_remember_0 rfl (lv_at hl 0 rfl) ?_
    refine ad_get F G fl_X11_92 0 rfl rfl dX11_remember_1 ?_
    refine ad_bipush F dX11_remember_4 (by decide) ?_
    refine ad_icmp_ne (tgt := 52) F (by decide) dX11_remember_6 (by decide) (fun _ => ?_) (fun cc_30 => absurd cc_30 (by decide))
    refine lv_aload_n F.1 F.2.1 dX11_remember_52 rfl (lv_at hl 0 rfl) ?_
    refine ad_get F G fl_X11_9 0 rfl rfl dX11_remember_53 ?_
    refine lv_aload_n F.1 F.2.1 dX11_remember_56 rfl (lv_at hl 0 rfl) ?_
    refine ad_get F G fl_X11_18 0 rfl rfl dX11_remember_57 ?_
    refine lv_aload_n F.1 F.2.1 dX11_remember_60 rfl (lv_at hl 0 rfl) ?_
    refine ad_get F G fl_X11_92 0 rfl rfl dX11_remember_61 ?_
    refine ad_aaldA F G 2 7 rfl rfl (w := (MH 7)) (by omega) (hH 7 (by decide)) dX11_remember_64 ?_
    refine ad_callS (As := [.ref (M 1), .ref (MH 7)]) (rest := []) F G (c_X11_copyRow l D K z0 (M 1) (MH 7) g (gh 7) ) my_X11_copyRow ms_X11_95 (wr := [(m0, mO M xth 7 xsv xln xat xer xwr xwd xlo xhi xwl xml xkl xfi xse xdn xon xtw xol xrw xgl xus xpr xmk xab), (M 3, aR (K 7) 8 gH), (MH 0, aI (K 0) 1247 (gh 0)), (MH 1, aI (K 0) 1247 (gh 1)), (MH 2, aI (K 0) 1247 (gh 2)), (MH 3, aI (K 0) 1247 (gh 3)), (MH 4, aI (K 0) 1247 (gh 4)), (MH 5, aI (K 0) 1247 (gh 5)), (MH 6, aI (K 0) 1247 (gh 6))]) (isC := [1, 10]) (isR := [0, 2, 3, 4, 5, 6, 7, 8, 9]) ⟨rfl, rfl, rfl, rfl, by decide⟩ rfl rfl ⟨Nat.le_of_ble_eq_true rfl, Nat.le_of_ble_eq_true rfl⟩ ⟨Nat.le_of_ble_eq_true rfl, Nat.le_of_ble_eq_true rfl⟩ (Nat.le_of_ble_eq_true rfl) hl.1 (cells9 := 0) (slots9 := 0) ⟨rfl, rfl⟩ dX11_remember_65 (fun v u H locs hw_31 G => ?_)
    obtain ⟨g3_32, rfl, hc_33, rfl⟩ := hw_31
    replace G := G.perm (ws' := [(m0, mO M xth 7 xsv xln xat xer xwr xwd xlo xhi xwl xml xkl xfi xse xdn xon xtw xol xrw xgl xus xpr xmk xab), ((M 1), aI (K 0) 1247 g), (M 3, aR (K 7) 8 gH), (MH 0, aI (K 0) 1247 (gh 0)), (MH 1, aI (K 0) 1247 (gh 1)), (MH 2, aI (K 0) 1247 (gh 2)), (MH 3, aI (K 0) 1247 (gh 3)), (MH 4, aI (K 0) 1247 (gh 4)), (MH 5, aI (K 0) 1247 (gh 5)), (MH 6, aI (K 0) 1247 (gh 6)), ((MH 7), aI (K 0) 1247 g3_32)]) [0, 9, 1, 2, 3, 4, 5, 6, 7, 8, 10] rfl rfl
    refine W.eq (g2 := F0 m9 68 ls []) rfl ?_
    refine lv_aload_n F.1 F.2.1 dX11_remember_68 rfl (lv_at hl 0 rfl) ?_
    refine lv_dup F.1 F.2.1 dX11_remember_69 rfl ?_
    refine ad_get F G fl_X11_92 0 rfl rfl dX11_remember_70 ?_
    refine ad_iconst F dX11_remember_73 ?_
    refine ad_iadd F dX11_remember_74 ?_
    refine ad_topi (y := 8) (by omega) ?_
    refine ad_put F G fl_X11_92 0 rfl rfl rfl (Nat.le_of_ble_eq_true rfl) (ws' := [(m0, mO M xth 8 xsv xln xat xer xwr xwd xlo xhi xwl xml xkl xfi xse xdn xon xtw xol xrw xgl xus xpr xmk xab), ((M 1), aI (K 0) 1247 g), (M 3, aR (K 7) 8 gH), (MH 0, aI (K 0) 1247 (gh 0)), (MH 1, aI (K 0) 1247 (gh 1)), (MH 2, aI (K 0) 1247 (gh 2)), (MH 3, aI (K 0) 1247 (gh 3)), (MH 4, aI (K 0) 1247 (gh 4)), (MH 5, aI (K 0) 1247 (gh 5)), (MH 6, aI (K 0) 1247 (gh 6)), ((MH 7), aI (K 0) 1247 g3_32)]) rfl dX11_remember_75 (fun H locs G => ?_)
    refine lv_aload_n F.1 F.2.1 dX11_remember_78 rfl (lv_at hl 0 rfl) ?_
    refine ad_get F G fl_X11_9 0 rfl rfl dX11_remember_79 ?_
    refine ad_iconst F dX11_remember_82 ?_
    refine lv_dup2_11 F.1 F.2.1 dX11_remember_83 rfl rfl ?_
    refine ad_iald F G 1 rfl (w := nc) (by omega) (hM.1.2.2.2.2) dX11_remember_84 ?_
    refine ad_iconst F dX11_remember_85 ?_
    refine ad_iadd F dX11_remember_86 ?_
    refine ad_iast F G 1 rfl (by omega) (ws' := [(m0, mO M xth 8 xsv xln xat xer xwr xwd xlo xhi xwl xml xkl xfi xse xdn xon xtw xol xrw xgl xus xpr xmk xab), ((M 1), aI (K 0) 1247 (va_up g (4 : Int).toNat (nc + 1))), (M 3, aR (K 7) 8 gH), (MH 0, aI (K 0) 1247 (gh 0)), (MH 1, aI (K 0) 1247 (gh 1)), (MH 2, aI (K 0) 1247 (gh 2)), (MH 3, aI (K 0) 1247 (gh 3)), (MH 4, aI (K 0) 1247 (gh 4)), (MH 5, aI (K 0) 1247 (gh 5)), (MH 6, aI (K 0) 1247 (gh 6)), ((MH 7), aI (K 0) 1247 g3_32)]) rfl dX11_remember_87 (fun H locs G => ?_)
    exact ad_vreturn F G hR rfl (Nat.le_of_ble_eq_true rfl) (Nat.le_of_ble_eq_true rfl) ⟨(va_up gh 7 g3_32), va_up g (4 : Int).toNat (nc + 1), rfl, ⟨fun _ => ⟨fun j hj => by rw [show ((7 : Int)).toNat = 7 from rfl, va_upI_s]; exact hc_33 j hj, fun i hi hne => by (have hq : ¬ i = 7 := (by omega)); simp only [va_up, if_neg hq]⟩, fun q => absurd q (by decide)⟩, (MRow_head hM ⟨hM.1.1, hM.1.2.1, hM.1.2.2.1, hM.1.2.2.2.1, va_upE (z := 4) rfl⟩ (fun j j0 => va_upO (by omega) (by omega) (by omega))), rfl⟩ dX11_remember_88
  · refine lv_aload_n F.1 F.2.1 dX11_remember_0 rfl (lv_at hl 0 rfl) ?_
    refine ad_get F G fl_X11_92 0 rfl rfl dX11_remember_1 ?_
    refine ad_bipush F dX11_remember_4 (by decide) ?_
    refine ad_icmp_ne (tgt := 52) F (by decide) dX11_remember_6 (by decide) (fun cc_34 => absurd cc_34 (by decide)) (fun _ => ?_)
    refine lv_aload_n F.1 F.2.1 dX11_remember_9 rfl (lv_at hl 0 rfl) ?_
    refine lv_dup F.1 F.2.1 dX11_remember_10 rfl ?_
    refine ad_get F G fl_X11_92 0 rfl rfl dX11_remember_11 ?_
    refine ad_iconst F dX11_remember_14 ?_
    refine ad_isub F dX11_remember_15 ?_
    refine ad_topi (y := 7) (by omega) ?_
    refine ad_put F G fl_X11_92 0 rfl rfl rfl (Nat.le_of_ble_eq_true rfl) (ws' := [(m0, mO M xth 7 xsv xln xat xer xwr xwd xlo xhi xwl xml xkl xfi xse xdn xon xtw xol xrw xgl xus xpr xmk xab), (M 1, aI (K 0) 1247 g), (M 3, aR (K 7) 8 gH), (MH 0, aI (K 0) 1247 (gh 0)), (MH 1, aI (K 0) 1247 (gh 1)), (MH 2, aI (K 0) 1247 (gh 2)), (MH 3, aI (K 0) 1247 (gh 3)), (MH 4, aI (K 0) 1247 (gh 4)), (MH 5, aI (K 0) 1247 (gh 5)), (MH 6, aI (K 0) 1247 (gh 6)), (MH 7, aI (K 0) 1247 (gh 7))]) rfl dX11_remember_16 (fun H locs G => ?_)
    refine ad_iconst F dX11_remember_19 ?_
    refine lv_istore_n (lv' := [(1, .int (iI 0)), (0, .ref m0)]) F.1 F.2.1 dX11_remember_20 rfl hl (by decide) rfl (fun ls hl => ?_)
    refine lv_iload_n F.1 F.2.1 dX11_remember_21 rfl (lv_at hl 0 rfl) ?_
    refine lv_aload_n F.1 F.2.1 dX11_remember_22 rfl (lv_at hl 1 rfl) ?_
    refine ad_get F G fl_X11_92 0 rfl rfl dX11_remember_23 ?_
    refine ad_icmp_ge (tgt := 52) F (by decide) dX11_remember_26 (by decide) (fun cc_35 => absurd cc_35 (by decide)) (fun _ => ?_)
    refine lv_aload_n F.1 F.2.1 dX11_remember_29 rfl (lv_at hl 1 rfl) ?_
    refine ad_get F G fl_X11_18 0 rfl rfl dX11_remember_30 ?_
    refine lv_iload_n F.1 F.2.1 dX11_remember_33 rfl (lv_at hl 0 rfl) ?_
    refine ad_iconst F dX11_remember_34 ?_
    refine ad_iadd F dX11_remember_35 ?_
    refine ad_topi (y := 1) (by omega) ?_
    refine ad_aaldA F G 2 7 rfl rfl (w := (MH 1)) (by omega) (hH 1 (by decide)) dX11_remember_36 ?_
    refine lv_aload_n F.1 F.2.1 dX11_remember_37 rfl (lv_at hl 1 rfl) ?_
    refine ad_get F G fl_X11_18 0 rfl rfl dX11_remember_38 ?_
    refine lv_iload_n F.1 F.2.1 dX11_remember_41 rfl (lv_at hl 0 rfl) ?_
    refine ad_aaldA F G 2 7 rfl rfl (w := (MH 0)) (by omega) (hH 0 (by decide)) dX11_remember_42 ?_
    refine ad_callS (As := [.ref (MH 1), .ref (MH 0)]) (rest := []) F G (c_X11_copyRow l D K z0 (MH 1) (MH 0) (gh 1) (gh 0) ) my_X11_copyRow ms_X11_95 (wr := [(m0, mO M xth 7 xsv xln xat xer xwr xwd xlo xhi xwl xml xkl xfi xse xdn xon xtw xol xrw xgl xus xpr xmk xab), (M 1, aI (K 0) 1247 g), (M 3, aR (K 7) 8 gH), (MH 2, aI (K 0) 1247 (gh 2)), (MH 3, aI (K 0) 1247 (gh 3)), (MH 4, aI (K 0) 1247 (gh 4)), (MH 5, aI (K 0) 1247 (gh 5)), (MH 6, aI (K 0) 1247 (gh 6)), (MH 7, aI (K 0) 1247 (gh 7))]) (isC := [4, 3]) (isR := [0, 1, 2, 5, 6, 7, 8, 9, 10]) ⟨rfl, rfl, rfl, rfl, by decide⟩ rfl rfl ⟨Nat.le_of_ble_eq_true rfl, Nat.le_of_ble_eq_true rfl⟩ ⟨Nat.le_of_ble_eq_true rfl, Nat.le_of_ble_eq_true rfl⟩ (Nat.le_of_ble_eq_true rfl) hl.1 (cells9 := 0) (slots9 := 0) ⟨rfl, rfl⟩ dX11_remember_43 (fun v u H locs hw_36 G => ?_)
    obtain ⟨g3_37, rfl, hc_38, rfl⟩ := hw_36
    replace G := G.perm (ws' := [(m0, mO M xth 7 xsv xln xat xer xwr xwd xlo xhi xwl xml xkl xfi xse xdn xon xtw xol xrw xgl xus xpr xmk xab), (M 1, aI (K 0) 1247 g), (M 3, aR (K 7) 8 gH), ((MH 0), aI (K 0) 1247 g3_37), ((MH 1), aI (K 0) 1247 (gh 1)), (MH 2, aI (K 0) 1247 (gh 2)), (MH 3, aI (K 0) 1247 (gh 3)), (MH 4, aI (K 0) 1247 (gh 4)), (MH 5, aI (K 0) 1247 (gh 5)), (MH 6, aI (K 0) 1247 (gh 6)), (MH 7, aI (K 0) 1247 (gh 7))]) [0, 1, 2, 10, 9, 3, 4, 5, 6, 7, 8] rfl rfl
    refine W.eq (g2 := F0 m9 46 ls []) rfl ?_
    refine ad_iinc (lv' := [(1, .int (iI 1)), (0, .ref m0)]) F dX11_remember_46 hl (k := 0) rfl (by decide) rfl (fun ls hl => ?_)
    refine lv_goto (tgt := 21) F.1 F.2.1 dX11_remember_49 (by decide) ?_
    refine lv_iload_n F.1 F.2.1 dX11_remember_21 rfl (lv_at hl 0 rfl) ?_
    refine lv_aload_n F.1 F.2.1 dX11_remember_22 rfl (lv_at hl 1 rfl) ?_
    refine ad_get F G fl_X11_92 0 rfl rfl dX11_remember_23 ?_
    refine ad_icmp_ge (tgt := 52) F (by decide) dX11_remember_26 (by decide) (fun cc_39 => absurd cc_39 (by decide)) (fun _ => ?_)
    refine lv_aload_n F.1 F.2.1 dX11_remember_29 rfl (lv_at hl 1 rfl) ?_
    refine ad_get F G fl_X11_18 0 rfl rfl dX11_remember_30 ?_
    refine lv_iload_n F.1 F.2.1 dX11_remember_33 rfl (lv_at hl 0 rfl) ?_
    refine ad_iconst F dX11_remember_34 ?_
    refine ad_iadd F dX11_remember_35 ?_
    refine ad_topi (y := 2) (by omega) ?_
    refine ad_aaldA F G 2 7 rfl rfl (w := (MH 2)) (by omega) (hH 2 (by decide)) dX11_remember_36 ?_
    refine lv_aload_n F.1 F.2.1 dX11_remember_37 rfl (lv_at hl 1 rfl) ?_
    refine ad_get F G fl_X11_18 0 rfl rfl dX11_remember_38 ?_
    refine lv_iload_n F.1 F.2.1 dX11_remember_41 rfl (lv_at hl 0 rfl) ?_
    refine ad_aaldA F G 2 7 rfl rfl (w := (MH 1)) (by omega) (hH 1 (by decide)) dX11_remember_42 ?_
    refine ad_callS (As := [.ref (MH 2), .ref (MH 1)]) (rest := []) F G (c_X11_copyRow l D K z0 (MH 2) (MH 1) (gh 2) (gh 1) ) my_X11_copyRow ms_X11_95 (wr := [(m0, mO M xth 7 xsv xln xat xer xwr xwd xlo xhi xwl xml xkl xfi xse xdn xon xtw xol xrw xgl xus xpr xmk xab), (M 1, aI (K 0) 1247 g), (M 3, aR (K 7) 8 gH), ((MH 0), aI (K 0) 1247 g3_37), (MH 3, aI (K 0) 1247 (gh 3)), (MH 4, aI (K 0) 1247 (gh 4)), (MH 5, aI (K 0) 1247 (gh 5)), (MH 6, aI (K 0) 1247 (gh 6)), (MH 7, aI (K 0) 1247 (gh 7))]) (isC := [5, 4]) (isR := [0, 1, 2, 3, 6, 7, 8, 9, 10]) ⟨rfl, rfl, rfl, rfl, by decide⟩ rfl rfl ⟨Nat.le_of_ble_eq_true rfl, Nat.le_of_ble_eq_true rfl⟩ ⟨Nat.le_of_ble_eq_true rfl, Nat.le_of_ble_eq_true rfl⟩ (Nat.le_of_ble_eq_true rfl) hl.1 (cells9 := 0) (slots9 := 0) ⟨rfl, rfl⟩ dX11_remember_43 (fun v u H locs hw_40 G => ?_)
    obtain ⟨g3_41, rfl, hc_42, rfl⟩ := hw_40
    replace G := G.perm (ws' := [(m0, mO M xth 7 xsv xln xat xer xwr xwd xlo xhi xwl xml xkl xfi xse xdn xon xtw xol xrw xgl xus xpr xmk xab), (M 1, aI (K 0) 1247 g), (M 3, aR (K 7) 8 gH), ((MH 0), aI (K 0) 1247 g3_37), ((MH 1), aI (K 0) 1247 g3_41), ((MH 2), aI (K 0) 1247 (gh 2)), (MH 3, aI (K 0) 1247 (gh 3)), (MH 4, aI (K 0) 1247 (gh 4)), (MH 5, aI (K 0) 1247 (gh 5)), (MH 6, aI (K 0) 1247 (gh 6)), (MH 7, aI (K 0) 1247 (gh 7))]) [0, 1, 2, 3, 10, 9, 4, 5, 6, 7, 8] rfl rfl
    refine W.eq (g2 := F0 m9 46 ls []) rfl ?_
    refine ad_iinc (lv' := [(1, .int (iI 2)), (0, .ref m0)]) F dX11_remember_46 hl (k := 0) rfl (by decide) rfl (fun ls hl => ?_)
    refine lv_goto (tgt := 21) F.1 F.2.1 dX11_remember_49 (by decide) ?_
    refine lv_iload_n F.1 F.2.1 dX11_remember_21 rfl (lv_at hl 0 rfl) ?_
    refine lv_aload_n F.1 F.2.1 dX11_remember_22 rfl (lv_at hl 1 rfl) ?_
    refine ad_get F G fl_X11_92 0 rfl rfl dX11_remember_23 ?_
    refine ad_icmp_ge (tgt := 52) F (by decide) dX11_remember_26 (by decide) (fun cc_43 => absurd cc_43 (by decide)) (fun _ => ?_)
    refine lv_aload_n F.1 F.2.1 dX11_remember_29 rfl (lv_at hl 1 rfl) ?_
    refine ad_get F G fl_X11_18 0 rfl rfl dX11_remember_30 ?_
    refine lv_iload_n F.1 F.2.1 dX11_remember_33 rfl (lv_at hl 0 rfl) ?_
    refine ad_iconst F dX11_remember_34 ?_
    refine ad_iadd F dX11_remember_35 ?_
    refine ad_topi (y := 3) (by omega) ?_
    refine ad_aaldA F G 2 7 rfl rfl (w := (MH 3)) (by omega) (hH 3 (by decide)) dX11_remember_36 ?_
    refine lv_aload_n F.1 F.2.1 dX11_remember_37 rfl (lv_at hl 1 rfl) ?_
    refine ad_get F G fl_X11_18 0 rfl rfl dX11_remember_38 ?_
    refine lv_iload_n F.1 F.2.1 dX11_remember_41 rfl (lv_at hl 0 rfl) ?_
    refine ad_aaldA F G 2 7 rfl rfl (w := (MH 2)) (by omega) (hH 2 (by decide)) dX11_remember_42 ?_
    refine ad_callS (As := [.ref (MH 3), .ref (MH 2)]) (rest := []) F G (c_X11_copyRow l D K z0 (MH 3) (MH 2) (gh 3) (gh 2) ) my_X11_copyRow ms_X11_95 (wr := [(m0, mO M xth 7 xsv xln xat xer xwr xwd xlo xhi xwl xml xkl xfi xse xdn xon xtw xol xrw xgl xus xpr xmk xab), (M 1, aI (K 0) 1247 g), (M 3, aR (K 7) 8 gH), ((MH 0), aI (K 0) 1247 g3_37), ((MH 1), aI (K 0) 1247 g3_41), (MH 4, aI (K 0) 1247 (gh 4)), (MH 5, aI (K 0) 1247 (gh 5)), (MH 6, aI (K 0) 1247 (gh 6)), (MH 7, aI (K 0) 1247 (gh 7))]) (isC := [6, 5]) (isR := [0, 1, 2, 3, 4, 7, 8, 9, 10]) ⟨rfl, rfl, rfl, rfl, by decide⟩ rfl rfl ⟨Nat.le_of_ble_eq_true rfl, Nat.le_of_ble_eq_true rfl⟩ ⟨Nat.le_of_ble_eq_true rfl, Nat.le_of_ble_eq_true rfl⟩ (Nat.le_of_ble_eq_true rfl) hl.1 (cells9 := 0) (slots9 := 0) ⟨rfl, rfl⟩ dX11_remember_43 (fun v u H locs hw_44 G => ?_)
    obtain ⟨g3_45, rfl, hc_46, rfl⟩ := hw_44
    replace G := G.perm (ws' := [(m0, mO M xth 7 xsv xln xat xer xwr xwd xlo xhi xwl xml xkl xfi xse xdn xon xtw xol xrw xgl xus xpr xmk xab), (M 1, aI (K 0) 1247 g), (M 3, aR (K 7) 8 gH), ((MH 0), aI (K 0) 1247 g3_37), ((MH 1), aI (K 0) 1247 g3_41), ((MH 2), aI (K 0) 1247 g3_45), ((MH 3), aI (K 0) 1247 (gh 3)), (MH 4, aI (K 0) 1247 (gh 4)), (MH 5, aI (K 0) 1247 (gh 5)), (MH 6, aI (K 0) 1247 (gh 6)), (MH 7, aI (K 0) 1247 (gh 7))]) [0, 1, 2, 3, 4, 10, 9, 5, 6, 7, 8] rfl rfl
    refine W.eq (g2 := F0 m9 46 ls []) rfl ?_
    refine ad_iinc (lv' := [(1, .int (iI 3)), (0, .ref m0)]) F dX11_remember_46 hl (k := 0) rfl (by decide) rfl (fun ls hl => ?_)
    refine lv_goto (tgt := 21) F.1 F.2.1 dX11_remember_49 (by decide) ?_
    refine lv_iload_n F.1 F.2.1 dX11_remember_21 rfl (lv_at hl 0 rfl) ?_
    refine lv_aload_n F.1 F.2.1 dX11_remember_22 rfl (lv_at hl 1 rfl) ?_
    refine ad_get F G fl_X11_92 0 rfl rfl dX11_remember_23 ?_
    refine ad_icmp_ge (tgt := 52) F (by decide) dX11_remember_26 (by decide) (fun cc_47 => absurd cc_47 (by decide)) (fun _ => ?_)
    refine lv_aload_n F.1 F.2.1 dX11_remember_29 rfl (lv_at hl 1 rfl) ?_
    refine ad_get F G fl_X11_18 0 rfl rfl dX11_remember_30 ?_
    refine lv_iload_n F.1 F.2.1 dX11_remember_33 rfl (lv_at hl 0 rfl) ?_
    refine ad_iconst F dX11_remember_34 ?_
    refine ad_iadd F dX11_remember_35 ?_
    refine ad_topi (y := 4) (by omega) ?_
    refine ad_aaldA F G 2 7 rfl rfl (w := (MH 4)) (by omega) (hH 4 (by decide)) dX11_remember_36 ?_
    refine lv_aload_n F.1 F.2.1 dX11_remember_37 rfl (lv_at hl 1 rfl) ?_
    refine ad_get F G fl_X11_18 0 rfl rfl dX11_remember_38 ?_
    refine lv_iload_n F.1 F.2.1 dX11_remember_41 rfl (lv_at hl 0 rfl) ?_
    refine ad_aaldA F G 2 7 rfl rfl (w := (MH 3)) (by omega) (hH 3 (by decide)) dX11_remember_42 ?_
    refine ad_callS (As := [.ref (MH 4), .ref (MH 3)]) (rest := []) F G (c_X11_copyRow l D K z0 (MH 4) (MH 3) (gh 4) (gh 3) ) my_X11_copyRow ms_X11_95 (wr := [(m0, mO M xth 7 xsv xln xat xer xwr xwd xlo xhi xwl xml xkl xfi xse xdn xon xtw xol xrw xgl xus xpr xmk xab), (M 1, aI (K 0) 1247 g), (M 3, aR (K 7) 8 gH), ((MH 0), aI (K 0) 1247 g3_37), ((MH 1), aI (K 0) 1247 g3_41), ((MH 2), aI (K 0) 1247 g3_45), (MH 5, aI (K 0) 1247 (gh 5)), (MH 6, aI (K 0) 1247 (gh 6)), (MH 7, aI (K 0) 1247 (gh 7))]) (isC := [7, 6]) (isR := [0, 1, 2, 3, 4, 5, 8, 9, 10]) ⟨rfl, rfl, rfl, rfl, by decide⟩ rfl rfl ⟨Nat.le_of_ble_eq_true rfl, Nat.le_of_ble_eq_true rfl⟩ ⟨Nat.le_of_ble_eq_true rfl, Nat.le_of_ble_eq_true rfl⟩ (Nat.le_of_ble_eq_true rfl) hl.1 (cells9 := 0) (slots9 := 0) ⟨rfl, rfl⟩ dX11_remember_43 (fun v u H locs hw_48 G => ?_)
    obtain ⟨g3_49, rfl, hc_50, rfl⟩ := hw_48
    replace G := G.perm (ws' := [(m0, mO M xth 7 xsv xln xat xer xwr xwd xlo xhi xwl xml xkl xfi xse xdn xon xtw xol xrw xgl xus xpr xmk xab), (M 1, aI (K 0) 1247 g), (M 3, aR (K 7) 8 gH), ((MH 0), aI (K 0) 1247 g3_37), ((MH 1), aI (K 0) 1247 g3_41), ((MH 2), aI (K 0) 1247 g3_45), ((MH 3), aI (K 0) 1247 g3_49), ((MH 4), aI (K 0) 1247 (gh 4)), (MH 5, aI (K 0) 1247 (gh 5)), (MH 6, aI (K 0) 1247 (gh 6)), (MH 7, aI (K 0) 1247 (gh 7))]) [0, 1, 2, 3, 4, 5, 10, 9, 6, 7, 8] rfl rfl
    refine W.eq (g2 := F0 m9 46 ls []) rfl ?_
    refine ad_iinc (lv' := [(1, .int (iI 4)), (0, .ref m0)]) F dX11_remember_46 hl (k := 0) rfl (by decide) rfl (fun ls hl => ?_)
    refine lv_goto (tgt := 21) F.1 F.2.1 dX11_remember_49 (by decide) ?_
    refine lv_iload_n F.1 F.2.1 dX11_remember_21 rfl (lv_at hl 0 rfl) ?_
    refine lv_aload_n F.1 F.2.1 dX11_remember_22 rfl (lv_at hl 1 rfl) ?_
    refine ad_get F G fl_X11_92 0 rfl rfl dX11_remember_23 ?_
    refine ad_icmp_ge (tgt := 52) F (by decide) dX11_remember_26 (by decide) (fun cc_51 => absurd cc_51 (by decide)) (fun _ => ?_)
    refine lv_aload_n F.1 F.2.1 dX11_remember_29 rfl (lv_at hl 1 rfl) ?_
    refine ad_get F G fl_X11_18 0 rfl rfl dX11_remember_30 ?_
    refine lv_iload_n F.1 F.2.1 dX11_remember_33 rfl (lv_at hl 0 rfl) ?_
    refine ad_iconst F dX11_remember_34 ?_
    refine ad_iadd F dX11_remember_35 ?_
    refine ad_topi (y := 5) (by omega) ?_
    refine ad_aaldA F G 2 7 rfl rfl (w := (MH 5)) (by omega) (hH 5 (by decide)) dX11_remember_36 ?_
    refine lv_aload_n F.1 F.2.1 dX11_remember_37 rfl (lv_at hl 1 rfl) ?_
    refine ad_get F G fl_X11_18 0 rfl rfl dX11_remember_38 ?_
    refine lv_iload_n F.1 F.2.1 dX11_remember_41 rfl (lv_at hl 0 rfl) ?_
    refine ad_aaldA F G 2 7 rfl rfl (w := (MH 4)) (by omega) (hH 4 (by decide)) dX11_remember_42 ?_
    refine ad_callS (As := [.ref (MH 5), .ref (MH 4)]) (rest := []) F G (c_X11_copyRow l D K z0 (MH 5) (MH 4) (gh 5) (gh 4) ) my_X11_copyRow ms_X11_95 (wr := [(m0, mO M xth 7 xsv xln xat xer xwr xwd xlo xhi xwl xml xkl xfi xse xdn xon xtw xol xrw xgl xus xpr xmk xab), (M 1, aI (K 0) 1247 g), (M 3, aR (K 7) 8 gH), ((MH 0), aI (K 0) 1247 g3_37), ((MH 1), aI (K 0) 1247 g3_41), ((MH 2), aI (K 0) 1247 g3_45), ((MH 3), aI (K 0) 1247 g3_49), (MH 6, aI (K 0) 1247 (gh 6)), (MH 7, aI (K 0) 1247 (gh 7))]) (isC := [8, 7]) (isR := [0, 1, 2, 3, 4, 5, 6, 9, 10]) ⟨rfl, rfl, rfl, rfl, by decide⟩ rfl rfl ⟨Nat.le_of_ble_eq_true rfl, Nat.le_of_ble_eq_true rfl⟩ ⟨Nat.le_of_ble_eq_true rfl, Nat.le_of_ble_eq_true rfl⟩ (Nat.le_of_ble_eq_true rfl) hl.1 (cells9 := 0) (slots9 := 0) ⟨rfl, rfl⟩ dX11_remember_43 (fun v u H locs hw_52 G => ?_)
    obtain ⟨g3_53, rfl, hc_54, rfl⟩ := hw_52
    replace G := G.perm (ws' := [(m0, mO M xth 7 xsv xln xat xer xwr xwd xlo xhi xwl xml xkl xfi xse xdn xon xtw xol xrw xgl xus xpr xmk xab), (M 1, aI (K 0) 1247 g), (M 3, aR (K 7) 8 gH), ((MH 0), aI (K 0) 1247 g3_37), ((MH 1), aI (K 0) 1247 g3_41), ((MH 2), aI (K 0) 1247 g3_45), ((MH 3), aI (K 0) 1247 g3_49), ((MH 4), aI (K 0) 1247 g3_53), ((MH 5), aI (K 0) 1247 (gh 5)), (MH 6, aI (K 0) 1247 (gh 6)), (MH 7, aI (K 0) 1247 (gh 7))]) [0, 1, 2, 3, 4, 5, 6, 10, 9, 7, 8] rfl rfl
    refine W.eq (g2 := F0 m9 46 ls []) rfl ?_
    refine ad_iinc (lv' := [(1, .int (iI 5)), (0, .ref m0)]) F dX11_remember_46 hl (k := 0) rfl (by decide) rfl (fun ls hl => ?_)
    refine lv_goto (tgt := 21) F.1 F.2.1 dX11_remember_49 (by decide) ?_
    refine lv_iload_n F.1 F.2.1 dX11_remember_21 rfl (lv_at hl 0 rfl) ?_
    refine lv_aload_n F.1 F.2.1 dX11_remember_22 rfl (lv_at hl 1 rfl) ?_
    refine ad_get F G fl_X11_92 0 rfl rfl dX11_remember_23 ?_
    refine ad_icmp_ge (tgt := 52) F (by decide) dX11_remember_26 (by decide) (fun cc_55 => absurd cc_55 (by decide)) (fun _ => ?_)
    refine lv_aload_n F.1 F.2.1 dX11_remember_29 rfl (lv_at hl 1 rfl) ?_
    refine ad_get F G fl_X11_18 0 rfl rfl dX11_remember_30 ?_
    refine lv_iload_n F.1 F.2.1 dX11_remember_33 rfl (lv_at hl 0 rfl) ?_
    refine ad_iconst F dX11_remember_34 ?_
    refine ad_iadd F dX11_remember_35 ?_
    refine ad_topi (y := 6) (by omega) ?_
    refine ad_aaldA F G 2 7 rfl rfl (w := (MH 6)) (by omega) (hH 6 (by decide)) dX11_remember_36 ?_
    refine lv_aload_n F.1 F.2.1 dX11_remember_37 rfl (lv_at hl 1 rfl) ?_
    refine ad_get F G fl_X11_18 0 rfl rfl dX11_remember_38 ?_
    refine lv_iload_n F.1 F.2.1 dX11_remember_41 rfl (lv_at hl 0 rfl) ?_
    refine ad_aaldA F G 2 7 rfl rfl (w := (MH 5)) (by omega) (hH 5 (by decide)) dX11_remember_42 ?_
    refine ad_callS (As := [.ref (MH 6), .ref (MH 5)]) (rest := []) F G (c_X11_copyRow l D K z0 (MH 6) (MH 5) (gh 6) (gh 5) ) my_X11_copyRow ms_X11_95 (wr := [(m0, mO M xth 7 xsv xln xat xer xwr xwd xlo xhi xwl xml xkl xfi xse xdn xon xtw xol xrw xgl xus xpr xmk xab), (M 1, aI (K 0) 1247 g), (M 3, aR (K 7) 8 gH), ((MH 0), aI (K 0) 1247 g3_37), ((MH 1), aI (K 0) 1247 g3_41), ((MH 2), aI (K 0) 1247 g3_45), ((MH 3), aI (K 0) 1247 g3_49), ((MH 4), aI (K 0) 1247 g3_53), (MH 7, aI (K 0) 1247 (gh 7))]) (isC := [9, 8]) (isR := [0, 1, 2, 3, 4, 5, 6, 7, 10]) ⟨rfl, rfl, rfl, rfl, by decide⟩ rfl rfl ⟨Nat.le_of_ble_eq_true rfl, Nat.le_of_ble_eq_true rfl⟩ ⟨Nat.le_of_ble_eq_true rfl, Nat.le_of_ble_eq_true rfl⟩ (Nat.le_of_ble_eq_true rfl) hl.1 (cells9 := 0) (slots9 := 0) ⟨rfl, rfl⟩ dX11_remember_43 (fun v u H locs hw_56 G => ?_)
    obtain ⟨g3_57, rfl, hc_58, rfl⟩ := hw_56
    replace G := G.perm (ws' := [(m0, mO M xth 7 xsv xln xat xer xwr xwd xlo xhi xwl xml xkl xfi xse xdn xon xtw xol xrw xgl xus xpr xmk xab), (M 1, aI (K 0) 1247 g), (M 3, aR (K 7) 8 gH), ((MH 0), aI (K 0) 1247 g3_37), ((MH 1), aI (K 0) 1247 g3_41), ((MH 2), aI (K 0) 1247 g3_45), ((MH 3), aI (K 0) 1247 g3_49), ((MH 4), aI (K 0) 1247 g3_53), ((MH 5), aI (K 0) 1247 g3_57), ((MH 6), aI (K 0) 1247 (gh 6)), (MH 7, aI (K 0) 1247 (gh 7))]) [0, 1, 2, 3, 4, 5, 6, 7, 10, 9, 8] rfl rfl
    refine W.eq (g2 := F0 m9 46 ls []) rfl ?_
    refine ad_iinc (lv' := [(1, .int (iI 6)), (0, .ref m0)]) F dX11_remember_46 hl (k := 0) rfl (by decide) rfl (fun ls hl => ?_)
    refine lv_goto (tgt := 21) F.1 F.2.1 dX11_remember_49 (by decide) ?_
    refine lv_iload_n F.1 F.2.1 dX11_remember_21 rfl (lv_at hl 0 rfl) ?_
    refine lv_aload_n F.1 F.2.1 dX11_remember_22 rfl (lv_at hl 1 rfl) ?_
    refine ad_get F G fl_X11_92 0 rfl rfl dX11_remember_23 ?_
    refine ad_icmp_ge (tgt := 52) F (by decide) dX11_remember_26 (by decide) (fun cc_59 => absurd cc_59 (by decide)) (fun _ => ?_)
    refine lv_aload_n F.1 F.2.1 dX11_remember_29 rfl (lv_at hl 1 rfl) ?_
    refine ad_get F G fl_X11_18 0 rfl rfl dX11_remember_30 ?_
    refine lv_iload_n F.1 F.2.1 dX11_remember_33 rfl (lv_at hl 0 rfl) ?_
    refine ad_iconst F dX11_remember_34 ?_
    refine ad_iadd F dX11_remember_35 ?_
    refine ad_topi (y := 7) (by omega) ?_
    refine ad_aaldA F G 2 7 rfl rfl (w := (MH 7)) (by omega) (hH 7 (by decide)) dX11_remember_36 ?_
    refine lv_aload_n F.1 F.2.1 dX11_remember_37 rfl (lv_at hl 1 rfl) ?_
    refine ad_get F G fl_X11_18 0 rfl rfl dX11_remember_38 ?_
    refine lv_iload_n F.1 F.2.1 dX11_remember_41 rfl (lv_at hl 0 rfl) ?_
    refine ad_aaldA F G 2 7 rfl rfl (w := (MH 6)) (by omega) (hH 6 (by decide)) dX11_remember_42 ?_
    refine ad_callS (As := [.ref (MH 7), .ref (MH 6)]) (rest := []) F G (c_X11_copyRow l D K z0 (MH 7) (MH 6) (gh 7) (gh 6) ) my_X11_copyRow ms_X11_95 (wr := [(m0, mO M xth 7 xsv xln xat xer xwr xwd xlo xhi xwl xml xkl xfi xse xdn xon xtw xol xrw xgl xus xpr xmk xab), (M 1, aI (K 0) 1247 g), (M 3, aR (K 7) 8 gH), ((MH 0), aI (K 0) 1247 g3_37), ((MH 1), aI (K 0) 1247 g3_41), ((MH 2), aI (K 0) 1247 g3_45), ((MH 3), aI (K 0) 1247 g3_49), ((MH 4), aI (K 0) 1247 g3_53), ((MH 5), aI (K 0) 1247 g3_57)]) (isC := [10, 9]) (isR := [0, 1, 2, 3, 4, 5, 6, 7, 8]) ⟨rfl, rfl, rfl, rfl, by decide⟩ rfl rfl ⟨Nat.le_of_ble_eq_true rfl, Nat.le_of_ble_eq_true rfl⟩ ⟨Nat.le_of_ble_eq_true rfl, Nat.le_of_ble_eq_true rfl⟩ (Nat.le_of_ble_eq_true rfl) hl.1 (cells9 := 0) (slots9 := 0) ⟨rfl, rfl⟩ dX11_remember_43 (fun v u H locs hw_60 G => ?_)
    obtain ⟨g3_61, rfl, hc_62, rfl⟩ := hw_60
    replace G := G.perm (ws' := [(m0, mO M xth 7 xsv xln xat xer xwr xwd xlo xhi xwl xml xkl xfi xse xdn xon xtw xol xrw xgl xus xpr xmk xab), (M 1, aI (K 0) 1247 g), (M 3, aR (K 7) 8 gH), ((MH 0), aI (K 0) 1247 g3_37), ((MH 1), aI (K 0) 1247 g3_41), ((MH 2), aI (K 0) 1247 g3_45), ((MH 3), aI (K 0) 1247 g3_49), ((MH 4), aI (K 0) 1247 g3_53), ((MH 5), aI (K 0) 1247 g3_57), ((MH 6), aI (K 0) 1247 g3_61), ((MH 7), aI (K 0) 1247 (gh 7))]) [0, 1, 2, 3, 4, 5, 6, 7, 8, 10, 9] rfl rfl
    refine W.eq (g2 := F0 m9 46 ls []) rfl ?_
    refine ad_iinc (lv' := [(1, .int (iI 7)), (0, .ref m0)]) F dX11_remember_46 hl (k := 0) rfl (by decide) rfl (fun ls hl => ?_)
    refine lv_goto (tgt := 21) F.1 F.2.1 dX11_remember_49 (by decide) ?_
    refine lv_iload_n F.1 F.2.1 dX11_remember_21 rfl (lv_at hl 0 rfl) ?_
    refine lv_aload_n F.1 F.2.1 dX11_remember_22 rfl (lv_at hl 1 rfl) ?_
    refine ad_get F G fl_X11_92 0 rfl rfl dX11_remember_23 ?_
    refine ad_icmp_ge (tgt := 52) F (by decide) dX11_remember_26 (by decide) (fun _ => ?_) (fun cc_63 => absurd cc_63 (by decide))
    refine lv_aload_n F.1 F.2.1 dX11_remember_52 rfl (lv_at hl 1 rfl) ?_
    refine ad_get F G fl_X11_9 0 rfl rfl dX11_remember_53 ?_
    refine lv_aload_n F.1 F.2.1 dX11_remember_56 rfl (lv_at hl 1 rfl) ?_
    refine ad_get F G fl_X11_18 0 rfl rfl dX11_remember_57 ?_
    refine lv_aload_n F.1 F.2.1 dX11_remember_60 rfl (lv_at hl 1 rfl) ?_
    refine ad_get F G fl_X11_92 0 rfl rfl dX11_remember_61 ?_
    refine ad_aaldA F G 2 7 rfl rfl (w := (MH 7)) (by omega) (hH 7 (by decide)) dX11_remember_64 ?_
    refine ad_callS (As := [.ref (M 1), .ref (MH 7)]) (rest := []) F G (c_X11_copyRow l D K z0 (M 1) (MH 7) g (gh 7) ) my_X11_copyRow ms_X11_95 (wr := [(m0, mO M xth 7 xsv xln xat xer xwr xwd xlo xhi xwl xml xkl xfi xse xdn xon xtw xol xrw xgl xus xpr xmk xab), (M 3, aR (K 7) 8 gH), ((MH 0), aI (K 0) 1247 g3_37), ((MH 1), aI (K 0) 1247 g3_41), ((MH 2), aI (K 0) 1247 g3_45), ((MH 3), aI (K 0) 1247 g3_49), ((MH 4), aI (K 0) 1247 g3_53), ((MH 5), aI (K 0) 1247 g3_57), ((MH 6), aI (K 0) 1247 g3_61)]) (isC := [1, 10]) (isR := [0, 2, 3, 4, 5, 6, 7, 8, 9]) ⟨rfl, rfl, rfl, rfl, by decide⟩ rfl rfl ⟨Nat.le_of_ble_eq_true rfl, Nat.le_of_ble_eq_true rfl⟩ ⟨Nat.le_of_ble_eq_true rfl, Nat.le_of_ble_eq_true rfl⟩ (Nat.le_of_ble_eq_true rfl) hl.1 (cells9 := 0) (slots9 := 0) ⟨rfl, rfl⟩ dX11_remember_65 (fun v u H locs hw_64 G => ?_)
    obtain ⟨g3_65, rfl, hc_66, rfl⟩ := hw_64
    replace G := G.perm (ws' := [(m0, mO M xth 7 xsv xln xat xer xwr xwd xlo xhi xwl xml xkl xfi xse xdn xon xtw xol xrw xgl xus xpr xmk xab), ((M 1), aI (K 0) 1247 g), (M 3, aR (K 7) 8 gH), ((MH 0), aI (K 0) 1247 g3_37), ((MH 1), aI (K 0) 1247 g3_41), ((MH 2), aI (K 0) 1247 g3_45), ((MH 3), aI (K 0) 1247 g3_49), ((MH 4), aI (K 0) 1247 g3_53), ((MH 5), aI (K 0) 1247 g3_57), ((MH 6), aI (K 0) 1247 g3_61), ((MH 7), aI (K 0) 1247 g3_65)]) [0, 9, 1, 2, 3, 4, 5, 6, 7, 8, 10] rfl rfl
    refine W.eq (g2 := F0 m9 68 ls []) rfl ?_
    refine lv_aload_n F.1 F.2.1 dX11_remember_68 rfl (lv_at hl 1 rfl) ?_
    refine lv_dup F.1 F.2.1 dX11_remember_69 rfl ?_
    refine ad_get F G fl_X11_92 0 rfl rfl dX11_remember_70 ?_
    refine ad_iconst F dX11_remember_73 ?_
    refine ad_iadd F dX11_remember_74 ?_
    refine ad_topi (y := 8) (by omega) ?_
    refine ad_put F G fl_X11_92 0 rfl rfl rfl (Nat.le_of_ble_eq_true rfl) (ws' := [(m0, mO M xth 8 xsv xln xat xer xwr xwd xlo xhi xwl xml xkl xfi xse xdn xon xtw xol xrw xgl xus xpr xmk xab), ((M 1), aI (K 0) 1247 g), (M 3, aR (K 7) 8 gH), ((MH 0), aI (K 0) 1247 g3_37), ((MH 1), aI (K 0) 1247 g3_41), ((MH 2), aI (K 0) 1247 g3_45), ((MH 3), aI (K 0) 1247 g3_49), ((MH 4), aI (K 0) 1247 g3_53), ((MH 5), aI (K 0) 1247 g3_57), ((MH 6), aI (K 0) 1247 g3_61), ((MH 7), aI (K 0) 1247 g3_65)]) rfl dX11_remember_75 (fun H locs G => ?_)
    refine lv_aload_n F.1 F.2.1 dX11_remember_78 rfl (lv_at hl 1 rfl) ?_
    refine ad_get F G fl_X11_9 0 rfl rfl dX11_remember_79 ?_
    refine ad_iconst F dX11_remember_82 ?_
    refine lv_dup2_11 F.1 F.2.1 dX11_remember_83 rfl rfl ?_
    refine ad_iald F G 1 rfl (w := nc) (by omega) (hM.1.2.2.2.2) dX11_remember_84 ?_
    refine ad_iconst F dX11_remember_85 ?_
    refine ad_iadd F dX11_remember_86 ?_
    refine ad_iast F G 1 rfl (by omega) (ws' := [(m0, mO M xth 8 xsv xln xat xer xwr xwd xlo xhi xwl xml xkl xfi xse xdn xon xtw xol xrw xgl xus xpr xmk xab), ((M 1), aI (K 0) 1247 (va_up g (4 : Int).toNat (nc + 1))), (M 3, aR (K 7) 8 gH), ((MH 0), aI (K 0) 1247 g3_37), ((MH 1), aI (K 0) 1247 g3_41), ((MH 2), aI (K 0) 1247 g3_45), ((MH 3), aI (K 0) 1247 g3_49), ((MH 4), aI (K 0) 1247 g3_53), ((MH 5), aI (K 0) 1247 g3_57), ((MH 6), aI (K 0) 1247 g3_61), ((MH 7), aI (K 0) 1247 g3_65)]) rfl dX11_remember_87 (fun H locs G => ?_)
    exact ad_vreturn F G hR rfl (Nat.le_of_ble_eq_true rfl) (Nat.le_of_ble_eq_true rfl) ⟨(mh8 g3_37 g3_41 g3_45 g3_49 g3_53 g3_57 g3_61 g3_65), va_up g (4 : Int).toNat (nc + 1), rfl, ⟨fun q => absurd q (by decide), fun _ => ⟨hc_66, fun i hi j hj => by (rcases (show i = 0 ∨ i = 1 ∨ i = 2 ∨ i = 3 ∨ i = 4 ∨ i = 5 ∨ i = 6 by omega) with rfl | rfl | rfl | rfl | rfl | rfl | rfl); exact hc_38 j hj; exact hc_42 j hj; exact hc_46 j hj; exact hc_50 j hj; exact hc_54 j hj; exact hc_58 j hj; exact hc_62 j hj⟩⟩, (MRow_head hM ⟨hM.1.1, hM.1.2.1, hM.1.2.2.1, hM.1.2.2.2.1, va_upE (z := 4) rfl⟩ (fun j j0 => va_upO (by omega) (by omega) (by omega))), rfl⟩ dX11_remember_88

def rm_X11_change_p : Room := { frames := 3, cells := 0, slots := 0, locals := 55 }
set_option maxHeartbeats 4000000 in
set_option maxRecDepth 100000 in
theorem c_X11_change_p (l : Launch) (D : va_G) (K : Nat → ClassId) (z0 : Nat) (m0 : Nat) (M : Nat → Nat) (xth : Int) (xrm : Int) (xsv : Int) (xln : Int) (xat : Int) (xer : Int) (xwr : Int) (xwd : Int) (xlo : Int) (xhi : Int) (xwl : Int) (xml : Int) (xkl : Int) (xfi : Int) (xse : Int) (xdn : Int) (xon : Int) (xtw : Int) (xol : Int) (xrw : Int) (xgl : Int) (xus : Int) (xpr : Int) (xmk : Int) (xab : Int) (g : Nat → Int) (rs : List Rl) (ps : List Pr) (md : Int) (th : Int) (nc : Int) (MH : Nat → Nat) (gH : Nat → Option Nat) (gh : Nat → Nat → Int) (z : Int) (v : Int) (hM : MRow g rs ps md th nc) (hW : RW rs) (hH : ∀ j : Nat, j < 8 → gH j = some (MH j)) (hrm : 0 ≤ xrm ∧ xrm ≤ 8) (hz : 0 ≤ z ∧ z < rs.length) : CT l D K z0 yX11_change cX11_change 4 (some .int) rm_X11_change_p [.ref m0, .int (iI ((5 + (z * 23)) + 1)), .int (iI v)] [(m0, mO M xth xrm xsv xln xat xer xwr xwd xlo xhi xwl xml xkl xfi xse xdn xon xtw xol xrw xgl xus xpr xmk xab), (M 1, aI (K 0) 1247 g), (M 3, aR (K 7) 8 gH), (MH 0, aI (K 0) 1247 (gh 0)), (MH 1, aI (K 0) 1247 (gh 1)), (MH 2, aI (K 0) 1247 (gh 2)), (MH 3, aI (K 0) 1247 (gh 3)), (MH 4, aI (K 0) 1247 (gh 4)), (MH 5, aI (K 0) 1247 (gh 5)), (MH 6, aI (K 0) 1247 (gh 6)), (MH 7, aI (K 0) 1247 (gh 7))] (fun v9 u9 => ∃ (gh2 : Nat → Nat → Int), ∃ (g2 : Nat → Int), v9 = some (.int (iI ((rget rs z).2.1))) ∧ (RmH g gh gh2 xrm) ∧ (MRow g2 (rsetp rs z v) ps md th (nc + 1)) ∧ u9 = [(m0, mO M xth (kpS xrm) xsv xln xat xer xwr xwd xlo xhi xwl xml xkl xfi xse xdn xon xtw xol xrw xgl xus xpr xmk xab), (M 1, aI (K 0) 1247 g2), (M 3, aR (K 7) 8 gH), (MH 0, aI (K 0) 1247 (gh2 0)), (MH 1, aI (K 0) 1247 (gh2 1)), (MH 2, aI (K 0) 1247 (gh2 2)), (MH 3, aI (K 0) 1247 (gh2 3)), (MH 4, aI (K 0) 1247 (gh2 4)), (MH 5, aI (K 0) 1247 (gh2 5)), (MH 6, aI (K 0) 1247 (gh2 6)), (MH 7, aI (K 0) 1247 (gh2 7))]) := by
  refine CT.start RX11 "change" (by decide) rfl rfl (Nat.le_of_ble_eq_true rfl) ?_
  intro p9 e9 s9 m9 ag9 bl9 mt9 c9 A9 Q9 ls F G hR hl
  have hl : lv_has ls 4 [(0, .ref m0), (1, .int (iI ((5 + (z * 23)) + 1))), (2, .int (iI v))] := hl
  have hn := hW.1
  refine lv_aload_n F.1 F.2.1 dX11_change_0 rfl (lv_at hl 0 rfl) ?_
  refine ad_callV (As := []) (rest := []) F G (c_X11_remember l D K z0 m0 M xth xrm xsv xln xat xer xwr xwd xlo xhi xwl xml xkl xfi xse xdn xon xtw xol xrw xgl xus xpr xmk xab g rs ps md th nc MH gH gh hM hH hrm) my_X11_remember mv_X11_164 (wr := []) (isC := [0, 1, 2, 3, 4, 5, 6, 7, 8, 9, 10]) (isR := []) ⟨rfl, rfl, rfl, rfl, by decide⟩ 11 0 rfl rfl rfl rfl ⟨Nat.le_of_ble_eq_true rfl, Nat.le_of_ble_eq_true rfl⟩ ⟨Nat.le_of_ble_eq_true rfl, Nat.le_of_ble_eq_true rfl⟩ (Nat.le_of_ble_eq_true rfl) hl.1 (cells9 := 0) (slots9 := 0) ⟨rfl, rfl⟩ dX11_change_1 (fun v u H locs hw_1 G => ?_)
  obtain ⟨gh2_2, g2_3, rfl, hc_4, hc_5, rfl⟩ := hw_1
  replace G := G.perm (ws' := [(m0, mO M xth (kpS xrm) xsv xln xat xer xwr xwd xlo xhi xwl xml xkl xfi xse xdn xon xtw xol xrw xgl xus xpr xmk xab), (M 1, aI (K 0) 1247 g2_3), (M 3, aR (K 7) 8 gH), (MH 0, aI (K 0) 1247 (gh2_2 0)), (MH 1, aI (K 0) 1247 (gh2_2 1)), (MH 2, aI (K 0) 1247 (gh2_2 2)), (MH 3, aI (K 0) 1247 (gh2_2 3)), (MH 4, aI (K 0) 1247 (gh2_2 4)), (MH 5, aI (K 0) 1247 (gh2_2 5)), (MH 6, aI (K 0) 1247 (gh2_2 6)), (MH 7, aI (K 0) 1247 (gh2_2 7))]) [0, 1, 2, 3, 4, 5, 6, 7, 8, 9, 10] rfl rfl
  refine W.eq (g2 := F0 m9 4 ls []) rfl ?_
  refine lv_aload_n F.1 F.2.1 dX11_change_4 rfl (lv_at hl 0 rfl) ?_
  refine ad_get F G fl_X11_9 0 rfl rfl dX11_change_5 ?_
  refine lv_iload_n F.1 F.2.1 dX11_change_8 rfl (lv_at hl 1 rfl) ?_
  refine ad_iald F G 1 rfl (w := (rget rs z).2.1) (by omega) (hc_5.2.1 z hz.1 hz.2).1.2.1 dX11_change_9 ?_
  refine lv_istore_n (lv' := [(3, .int (iI ((rget rs z).2.1))), (0, .ref m0), (1, .int (iI ((5 + (z * 23)) + 1))), (2, .int (iI v))]) F.1 F.2.1 dX11_change_10 rfl hl (by decide) rfl (fun ls hl => ?_)
  refine lv_aload_n F.1 F.2.1 dX11_change_11 rfl (lv_at hl 1 rfl) ?_
  refine ad_get F G fl_X11_9 0 rfl rfl dX11_change_12 ?_
  refine lv_iload_n F.1 F.2.1 dX11_change_15 rfl (lv_at hl 2 rfl) ?_
  refine lv_iload_n F.1 F.2.1 dX11_change_16 rfl (lv_at hl 3 rfl) ?_
  refine ad_iast F G 1 rfl (by omega) (ws' := [(m0, mO M xth (kpS xrm) xsv xln xat xer xwr xwd xlo xhi xwl xml xkl xfi xse xdn xon xtw xol xrw xgl xus xpr xmk xab), (M 1, aI (K 0) 1247 (va_up g2_3 ((5 + (z * 23)) + 1).toNat v)), (M 3, aR (K 7) 8 gH), (MH 0, aI (K 0) 1247 (gh2_2 0)), (MH 1, aI (K 0) 1247 (gh2_2 1)), (MH 2, aI (K 0) 1247 (gh2_2 2)), (MH 3, aI (K 0) 1247 (gh2_2 3)), (MH 4, aI (K 0) 1247 (gh2_2 4)), (MH 5, aI (K 0) 1247 (gh2_2 5)), (MH 6, aI (K 0) 1247 (gh2_2 6)), (MH 7, aI (K 0) 1247 (gh2_2 7))]) rfl dX11_change_17 (fun H locs G => ?_)
  refine lv_iload_n F.1 F.2.1 dX11_change_18 rfl (lv_at hl 0 rfl) ?_
  exact ad_ireturn F G hR rfl (Nat.le_of_ble_eq_true rfl) (Nat.le_of_ble_eq_true rfl) ⟨gh2_2, va_up g2_3 ((5 + (z * 23)) + 1).toNat v, rfl, hc_4, (MRow_setp hc_5 hW.1 hz.1 hz.2 (MH5 (fun j j0 j1 => va_upO (by omega) j0 (by omega)) hc_5.1) (va_upE rfl) (fun j j0 j1 => va_upO (by omega) (by omega) (by omega))), rfl⟩ dX11_change_19

def rm_X11_change_c : Room := { frames := 3, cells := 0, slots := 0, locals := 55 }
set_option maxHeartbeats 4000000 in
set_option maxRecDepth 100000 in
theorem c_X11_change_c (l : Launch) (D : va_G) (K : Nat → ClassId) (z0 : Nat) (m0 : Nat) (M : Nat → Nat) (xth : Int) (xrm : Int) (xsv : Int) (xln : Int) (xat : Int) (xer : Int) (xwr : Int) (xwd : Int) (xlo : Int) (xhi : Int) (xwl : Int) (xml : Int) (xkl : Int) (xfi : Int) (xse : Int) (xdn : Int) (xon : Int) (xtw : Int) (xol : Int) (xrw : Int) (xgl : Int) (xus : Int) (xpr : Int) (xmk : Int) (xab : Int) (g : Nat → Int) (rs : List Rl) (ps : List Pr) (md : Int) (th : Int) (nc : Int) (MH : Nat → Nat) (gH : Nat → Option Nat) (gh : Nat → Nat → Int) (z : Int) (v : Int) (hM : MRow g rs ps md th nc) (hW : RW rs) (hH : ∀ j : Nat, j < 8 → gH j = some (MH j)) (hrm : 0 ≤ xrm ∧ xrm ≤ 8) (hz : 0 ≤ z ∧ z < rs.length) : CT l D K z0 yX11_change cX11_change 4 (some .int) rm_X11_change_c [.ref m0, .int (iI ((5 + (z * 23)) + 2)), .int (iI v)] [(m0, mO M xth xrm xsv xln xat xer xwr xwd xlo xhi xwl xml xkl xfi xse xdn xon xtw xol xrw xgl xus xpr xmk xab), (M 1, aI (K 0) 1247 g), (M 3, aR (K 7) 8 gH), (MH 0, aI (K 0) 1247 (gh 0)), (MH 1, aI (K 0) 1247 (gh 1)), (MH 2, aI (K 0) 1247 (gh 2)), (MH 3, aI (K 0) 1247 (gh 3)), (MH 4, aI (K 0) 1247 (gh 4)), (MH 5, aI (K 0) 1247 (gh 5)), (MH 6, aI (K 0) 1247 (gh 6)), (MH 7, aI (K 0) 1247 (gh 7))] (fun v9 u9 => ∃ (gh2 : Nat → Nat → Int), ∃ (g2 : Nat → Int), v9 = some (.int (iI ((rget rs z).2.2.1))) ∧ (RmH g gh gh2 xrm) ∧ (MRow g2 (rsetc rs z v) ps md th (nc + 1)) ∧ u9 = [(m0, mO M xth (kpS xrm) xsv xln xat xer xwr xwd xlo xhi xwl xml xkl xfi xse xdn xon xtw xol xrw xgl xus xpr xmk xab), (M 1, aI (K 0) 1247 g2), (M 3, aR (K 7) 8 gH), (MH 0, aI (K 0) 1247 (gh2 0)), (MH 1, aI (K 0) 1247 (gh2 1)), (MH 2, aI (K 0) 1247 (gh2 2)), (MH 3, aI (K 0) 1247 (gh2 3)), (MH 4, aI (K 0) 1247 (gh2 4)), (MH 5, aI (K 0) 1247 (gh2 5)), (MH 6, aI (K 0) 1247 (gh2 6)), (MH 7, aI (K 0) 1247 (gh2 7))]) := by
  refine CT.start RX11 "change" (by decide) rfl rfl (Nat.le_of_ble_eq_true rfl) ?_
  intro p9 e9 s9 m9 ag9 bl9 mt9 c9 A9 Q9 ls F G hR hl
  have hl : lv_has ls 4 [(0, .ref m0), (1, .int (iI ((5 + (z * 23)) + 2))), (2, .int (iI v))] := hl
  have hn := hW.1
  refine lv_aload_n F.1 F.2.1 dX11_change_0 rfl (lv_at hl 0 rfl) ?_
  refine ad_callV (As := []) (rest := []) F G (c_X11_remember l D K z0 m0 M xth xrm xsv xln xat xer xwr xwd xlo xhi xwl xml xkl xfi xse xdn xon xtw xol xrw xgl xus xpr xmk xab g rs ps md th nc MH gH gh hM hH hrm) my_X11_remember mv_X11_164 (wr := []) (isC := [0, 1, 2, 3, 4, 5, 6, 7, 8, 9, 10]) (isR := []) ⟨rfl, rfl, rfl, rfl, by decide⟩ 11 0 rfl rfl rfl rfl ⟨Nat.le_of_ble_eq_true rfl, Nat.le_of_ble_eq_true rfl⟩ ⟨Nat.le_of_ble_eq_true rfl, Nat.le_of_ble_eq_true rfl⟩ (Nat.le_of_ble_eq_true rfl) hl.1 (cells9 := 0) (slots9 := 0) ⟨rfl, rfl⟩ dX11_change_1 (fun v u H locs hw_1 G => ?_)
  obtain ⟨gh2_2, g2_3, rfl, hc_4, hc_5, rfl⟩ := hw_1
  replace G := G.perm (ws' := [(m0, mO M xth (kpS xrm) xsv xln xat xer xwr xwd xlo xhi xwl xml xkl xfi xse xdn xon xtw xol xrw xgl xus xpr xmk xab), (M 1, aI (K 0) 1247 g2_3), (M 3, aR (K 7) 8 gH), (MH 0, aI (K 0) 1247 (gh2_2 0)), (MH 1, aI (K 0) 1247 (gh2_2 1)), (MH 2, aI (K 0) 1247 (gh2_2 2)), (MH 3, aI (K 0) 1247 (gh2_2 3)), (MH 4, aI (K 0) 1247 (gh2_2 4)), (MH 5, aI (K 0) 1247 (gh2_2 5)), (MH 6, aI (K 0) 1247 (gh2_2 6)), (MH 7, aI (K 0) 1247 (gh2_2 7))]) [0, 1, 2, 3, 4, 5, 6, 7, 8, 9, 10] rfl rfl
  refine W.eq (g2 := F0 m9 4 ls []) rfl ?_
  refine lv_aload_n F.1 F.2.1 dX11_change_4 rfl (lv_at hl 0 rfl) ?_
  refine ad_get F G fl_X11_9 0 rfl rfl dX11_change_5 ?_
  refine lv_iload_n F.1 F.2.1 dX11_change_8 rfl (lv_at hl 1 rfl) ?_
  refine ad_iald F G 1 rfl (w := (rget rs z).2.2.1) (by omega) (hc_5.2.1 z hz.1 hz.2).1.2.2 dX11_change_9 ?_
  refine lv_istore_n (lv' := [(3, .int (iI ((rget rs z).2.2.1))), (0, .ref m0), (1, .int (iI ((5 + (z * 23)) + 2))), (2, .int (iI v))]) F.1 F.2.1 dX11_change_10 rfl hl (by decide) rfl (fun ls hl => ?_)
  refine lv_aload_n F.1 F.2.1 dX11_change_11 rfl (lv_at hl 1 rfl) ?_
  refine ad_get F G fl_X11_9 0 rfl rfl dX11_change_12 ?_
  refine lv_iload_n F.1 F.2.1 dX11_change_15 rfl (lv_at hl 2 rfl) ?_
  refine lv_iload_n F.1 F.2.1 dX11_change_16 rfl (lv_at hl 3 rfl) ?_
  refine ad_iast F G 1 rfl (by omega) (ws' := [(m0, mO M xth (kpS xrm) xsv xln xat xer xwr xwd xlo xhi xwl xml xkl xfi xse xdn xon xtw xol xrw xgl xus xpr xmk xab), (M 1, aI (K 0) 1247 (va_up g2_3 ((5 + (z * 23)) + 2).toNat v)), (M 3, aR (K 7) 8 gH), (MH 0, aI (K 0) 1247 (gh2_2 0)), (MH 1, aI (K 0) 1247 (gh2_2 1)), (MH 2, aI (K 0) 1247 (gh2_2 2)), (MH 3, aI (K 0) 1247 (gh2_2 3)), (MH 4, aI (K 0) 1247 (gh2_2 4)), (MH 5, aI (K 0) 1247 (gh2_2 5)), (MH 6, aI (K 0) 1247 (gh2_2 6)), (MH 7, aI (K 0) 1247 (gh2_2 7))]) rfl dX11_change_17 (fun H locs G => ?_)
  refine lv_iload_n F.1 F.2.1 dX11_change_18 rfl (lv_at hl 0 rfl) ?_
  exact ad_ireturn F G hR rfl (Nat.le_of_ble_eq_true rfl) (Nat.le_of_ble_eq_true rfl) ⟨gh2_2, va_up g2_3 ((5 + (z * 23)) + 2).toNat v, rfl, hc_4, (MRow_setc hc_5 hW.1 hz.1 hz.2 (MH5 (fun j j0 j1 => va_upO (by omega) j0 (by omega)) hc_5.1) (va_upE rfl) (fun j j0 j1 => va_upO (by omega) (by omega) (by omega))), rfl⟩ dX11_change_19

def rm_X11_change_m : Room := { frames := 3, cells := 0, slots := 0, locals := 55 }
set_option maxHeartbeats 4000000 in
set_option maxRecDepth 100000 in
theorem c_X11_change_m (l : Launch) (D : va_G) (K : Nat → ClassId) (z0 : Nat) (m0 : Nat) (M : Nat → Nat) (xth : Int) (xrm : Int) (xsv : Int) (xln : Int) (xat : Int) (xer : Int) (xwr : Int) (xwd : Int) (xlo : Int) (xhi : Int) (xwl : Int) (xml : Int) (xkl : Int) (xfi : Int) (xse : Int) (xdn : Int) (xon : Int) (xtw : Int) (xol : Int) (xrw : Int) (xgl : Int) (xus : Int) (xpr : Int) (xmk : Int) (xab : Int) (g : Nat → Int) (rs : List Rl) (ps : List Pr) (md : Int) (th : Int) (nc : Int) (MH : Nat → Nat) (gH : Nat → Option Nat) (gh : Nat → Nat → Int) (v : Int) (hM : MRow g rs ps md th nc) (hW : RW rs) (hH : ∀ j : Nat, j < 8 → gH j = some (MH j)) (hrm : 0 ≤ xrm ∧ xrm ≤ 8) : CT l D K z0 yX11_change cX11_change 4 (some .int) rm_X11_change_m [.ref m0, .int (iI 2), .int (iI v)] [(m0, mO M xth xrm xsv xln xat xer xwr xwd xlo xhi xwl xml xkl xfi xse xdn xon xtw xol xrw xgl xus xpr xmk xab), (M 1, aI (K 0) 1247 g), (M 3, aR (K 7) 8 gH), (MH 0, aI (K 0) 1247 (gh 0)), (MH 1, aI (K 0) 1247 (gh 1)), (MH 2, aI (K 0) 1247 (gh 2)), (MH 3, aI (K 0) 1247 (gh 3)), (MH 4, aI (K 0) 1247 (gh 4)), (MH 5, aI (K 0) 1247 (gh 5)), (MH 6, aI (K 0) 1247 (gh 6)), (MH 7, aI (K 0) 1247 (gh 7))] (fun v9 u9 => ∃ (gh2 : Nat → Nat → Int), ∃ (g2 : Nat → Int), v9 = some (.int (iI md)) ∧ (RmH g gh gh2 xrm) ∧ (MRow g2 rs ps v th (nc + 1)) ∧ u9 = [(m0, mO M xth (kpS xrm) xsv xln xat xer xwr xwd xlo xhi xwl xml xkl xfi xse xdn xon xtw xol xrw xgl xus xpr xmk xab), (M 1, aI (K 0) 1247 g2), (M 3, aR (K 7) 8 gH), (MH 0, aI (K 0) 1247 (gh2 0)), (MH 1, aI (K 0) 1247 (gh2 1)), (MH 2, aI (K 0) 1247 (gh2 2)), (MH 3, aI (K 0) 1247 (gh2 3)), (MH 4, aI (K 0) 1247 (gh2 4)), (MH 5, aI (K 0) 1247 (gh2 5)), (MH 6, aI (K 0) 1247 (gh2 6)), (MH 7, aI (K 0) 1247 (gh2 7))]) := by
  refine CT.start RX11 "change" (by decide) rfl rfl (Nat.le_of_ble_eq_true rfl) ?_
  intro p9 e9 s9 m9 ag9 bl9 mt9 c9 A9 Q9 ls F G hR hl
  have hl : lv_has ls 4 [(0, .ref m0), (1, .int (iI 2)), (2, .int (iI v))] := hl
  have hn := hW.1
  refine lv_aload_n F.1 F.2.1 dX11_change_0 rfl (lv_at hl 0 rfl) ?_
  refine ad_callV (As := []) (rest := []) F G (c_X11_remember l D K z0 m0 M xth xrm xsv xln xat xer xwr xwd xlo xhi xwl xml xkl xfi xse xdn xon xtw xol xrw xgl xus xpr xmk xab g rs ps md th nc MH gH gh hM hH hrm) my_X11_remember mv_X11_164 (wr := []) (isC := [0, 1, 2, 3, 4, 5, 6, 7, 8, 9, 10]) (isR := []) ⟨rfl, rfl, rfl, rfl, by decide⟩ 11 0 rfl rfl rfl rfl ⟨Nat.le_of_ble_eq_true rfl, Nat.le_of_ble_eq_true rfl⟩ ⟨Nat.le_of_ble_eq_true rfl, Nat.le_of_ble_eq_true rfl⟩ (Nat.le_of_ble_eq_true rfl) hl.1 (cells9 := 0) (slots9 := 0) ⟨rfl, rfl⟩ dX11_change_1 (fun v u H locs hw_1 G => ?_)
  obtain ⟨gh2_2, g2_3, rfl, hc_4, hc_5, rfl⟩ := hw_1
  replace G := G.perm (ws' := [(m0, mO M xth (kpS xrm) xsv xln xat xer xwr xwd xlo xhi xwl xml xkl xfi xse xdn xon xtw xol xrw xgl xus xpr xmk xab), (M 1, aI (K 0) 1247 g2_3), (M 3, aR (K 7) 8 gH), (MH 0, aI (K 0) 1247 (gh2_2 0)), (MH 1, aI (K 0) 1247 (gh2_2 1)), (MH 2, aI (K 0) 1247 (gh2_2 2)), (MH 3, aI (K 0) 1247 (gh2_2 3)), (MH 4, aI (K 0) 1247 (gh2_2 4)), (MH 5, aI (K 0) 1247 (gh2_2 5)), (MH 6, aI (K 0) 1247 (gh2_2 6)), (MH 7, aI (K 0) 1247 (gh2_2 7))]) [0, 1, 2, 3, 4, 5, 6, 7, 8, 9, 10] rfl rfl
  refine W.eq (g2 := F0 m9 4 ls []) rfl ?_
  refine lv_aload_n F.1 F.2.1 dX11_change_4 rfl (lv_at hl 0 rfl) ?_
  refine ad_get F G fl_X11_9 0 rfl rfl dX11_change_5 ?_
  refine lv_iload_n F.1 F.2.1 dX11_change_8 rfl (lv_at hl 1 rfl) ?_
  refine ad_iald F G 1 rfl (w := md) (by omega) hc_5.1.2.2.1 dX11_change_9 ?_
  refine lv_istore_n (lv' := [(3, .int (iI md)), (0, .ref m0), (1, .int (iI 2)), (2, .int (iI v))]) F.1 F.2.1 dX11_change_10 rfl hl (by decide) rfl (fun ls hl => ?_)
  refine lv_aload_n F.1 F.2.1 dX11_change_11 rfl (lv_at hl 1 rfl) ?_
  refine ad_get F G fl_X11_9 0 rfl rfl dX11_change_12 ?_
  refine lv_iload_n F.1 F.2.1 dX11_change_15 rfl (lv_at hl 2 rfl) ?_
  refine lv_iload_n F.1 F.2.1 dX11_change_16 rfl (lv_at hl 3 rfl) ?_
  refine ad_iast F G 1 rfl (by omega) (ws' := [(m0, mO M xth (kpS xrm) xsv xln xat xer xwr xwd xlo xhi xwl xml xkl xfi xse xdn xon xtw xol xrw xgl xus xpr xmk xab), (M 1, aI (K 0) 1247 (va_up g2_3 (2 : Int).toNat v)), (M 3, aR (K 7) 8 gH), (MH 0, aI (K 0) 1247 (gh2_2 0)), (MH 1, aI (K 0) 1247 (gh2_2 1)), (MH 2, aI (K 0) 1247 (gh2_2 2)), (MH 3, aI (K 0) 1247 (gh2_2 3)), (MH 4, aI (K 0) 1247 (gh2_2 4)), (MH 5, aI (K 0) 1247 (gh2_2 5)), (MH 6, aI (K 0) 1247 (gh2_2 6)), (MH 7, aI (K 0) 1247 (gh2_2 7))]) rfl dX11_change_17 (fun H locs G => ?_)
  refine lv_iload_n F.1 F.2.1 dX11_change_18 rfl (lv_at hl 0 rfl) ?_
  exact ad_ireturn F G hR rfl (Nat.le_of_ble_eq_true rfl) (Nat.le_of_ble_eq_true rfl) ⟨gh2_2, va_up g2_3 (2 : Int).toNat v, rfl, hc_4, (MRow_head hc_5 ⟨hc_5.1.1, hc_5.1.2.1, va_upE (z := 2) rfl, hc_5.1.2.2.2⟩ (fun j j0 => va_upO (by omega) (by omega) (by omega))), rfl⟩ dX11_change_19

def rm_X11_change_t : Room := { frames := 3, cells := 0, slots := 0, locals := 55 }
set_option maxHeartbeats 4000000 in
set_option maxRecDepth 100000 in
theorem c_X11_change_t (l : Launch) (D : va_G) (K : Nat → ClassId) (z0 : Nat) (m0 : Nat) (M : Nat → Nat) (xth : Int) (xrm : Int) (xsv : Int) (xln : Int) (xat : Int) (xer : Int) (xwr : Int) (xwd : Int) (xlo : Int) (xhi : Int) (xwl : Int) (xml : Int) (xkl : Int) (xfi : Int) (xse : Int) (xdn : Int) (xon : Int) (xtw : Int) (xol : Int) (xrw : Int) (xgl : Int) (xus : Int) (xpr : Int) (xmk : Int) (xab : Int) (g : Nat → Int) (rs : List Rl) (ps : List Pr) (md : Int) (th : Int) (nc : Int) (MH : Nat → Nat) (gH : Nat → Option Nat) (gh : Nat → Nat → Int) (v : Int) (hM : MRow g rs ps md th nc) (hW : RW rs) (hH : ∀ j : Nat, j < 8 → gH j = some (MH j)) (hrm : 0 ≤ xrm ∧ xrm ≤ 8) : CT l D K z0 yX11_change cX11_change 4 (some .int) rm_X11_change_t [.ref m0, .int (iI 3), .int (iI v)] [(m0, mO M xth xrm xsv xln xat xer xwr xwd xlo xhi xwl xml xkl xfi xse xdn xon xtw xol xrw xgl xus xpr xmk xab), (M 1, aI (K 0) 1247 g), (M 3, aR (K 7) 8 gH), (MH 0, aI (K 0) 1247 (gh 0)), (MH 1, aI (K 0) 1247 (gh 1)), (MH 2, aI (K 0) 1247 (gh 2)), (MH 3, aI (K 0) 1247 (gh 3)), (MH 4, aI (K 0) 1247 (gh 4)), (MH 5, aI (K 0) 1247 (gh 5)), (MH 6, aI (K 0) 1247 (gh 6)), (MH 7, aI (K 0) 1247 (gh 7))] (fun v9 u9 => ∃ (gh2 : Nat → Nat → Int), ∃ (g2 : Nat → Int), v9 = some (.int (iI th)) ∧ (RmH g gh gh2 xrm) ∧ (MRow g2 rs ps md v (nc + 1)) ∧ u9 = [(m0, mO M xth (kpS xrm) xsv xln xat xer xwr xwd xlo xhi xwl xml xkl xfi xse xdn xon xtw xol xrw xgl xus xpr xmk xab), (M 1, aI (K 0) 1247 g2), (M 3, aR (K 7) 8 gH), (MH 0, aI (K 0) 1247 (gh2 0)), (MH 1, aI (K 0) 1247 (gh2 1)), (MH 2, aI (K 0) 1247 (gh2 2)), (MH 3, aI (K 0) 1247 (gh2 3)), (MH 4, aI (K 0) 1247 (gh2 4)), (MH 5, aI (K 0) 1247 (gh2 5)), (MH 6, aI (K 0) 1247 (gh2 6)), (MH 7, aI (K 0) 1247 (gh2 7))]) := by
  refine CT.start RX11 "change" (by decide) rfl rfl (Nat.le_of_ble_eq_true rfl) ?_
  intro p9 e9 s9 m9 ag9 bl9 mt9 c9 A9 Q9 ls F G hR hl
  have hl : lv_has ls 4 [(0, .ref m0), (1, .int (iI 3)), (2, .int (iI v))] := hl
  have hn := hW.1
  refine lv_aload_n F.1 F.2.1 dX11_change_0 rfl (lv_at hl 0 rfl) ?_
  refine ad_callV (As := []) (rest := []) F G (c_X11_remember l D K z0 m0 M xth xrm xsv xln xat xer xwr xwd xlo xhi xwl xml xkl xfi xse xdn xon xtw xol xrw xgl xus xpr xmk xab g rs ps md th nc MH gH gh hM hH hrm) my_X11_remember mv_X11_164 (wr := []) (isC := [0, 1, 2, 3, 4, 5, 6, 7, 8, 9, 10]) (isR := []) ⟨rfl, rfl, rfl, rfl, by decide⟩ 11 0 rfl rfl rfl rfl ⟨Nat.le_of_ble_eq_true rfl, Nat.le_of_ble_eq_true rfl⟩ ⟨Nat.le_of_ble_eq_true rfl, Nat.le_of_ble_eq_true rfl⟩ (Nat.le_of_ble_eq_true rfl) hl.1 (cells9 := 0) (slots9 := 0) ⟨rfl, rfl⟩ dX11_change_1 (fun v u H locs hw_1 G => ?_)
  obtain ⟨gh2_2, g2_3, rfl, hc_4, hc_5, rfl⟩ := hw_1
  replace G := G.perm (ws' := [(m0, mO M xth (kpS xrm) xsv xln xat xer xwr xwd xlo xhi xwl xml xkl xfi xse xdn xon xtw xol xrw xgl xus xpr xmk xab), (M 1, aI (K 0) 1247 g2_3), (M 3, aR (K 7) 8 gH), (MH 0, aI (K 0) 1247 (gh2_2 0)), (MH 1, aI (K 0) 1247 (gh2_2 1)), (MH 2, aI (K 0) 1247 (gh2_2 2)), (MH 3, aI (K 0) 1247 (gh2_2 3)), (MH 4, aI (K 0) 1247 (gh2_2 4)), (MH 5, aI (K 0) 1247 (gh2_2 5)), (MH 6, aI (K 0) 1247 (gh2_2 6)), (MH 7, aI (K 0) 1247 (gh2_2 7))]) [0, 1, 2, 3, 4, 5, 6, 7, 8, 9, 10] rfl rfl
  refine W.eq (g2 := F0 m9 4 ls []) rfl ?_
  refine lv_aload_n F.1 F.2.1 dX11_change_4 rfl (lv_at hl 0 rfl) ?_
  refine ad_get F G fl_X11_9 0 rfl rfl dX11_change_5 ?_
  refine lv_iload_n F.1 F.2.1 dX11_change_8 rfl (lv_at hl 1 rfl) ?_
  refine ad_iald F G 1 rfl (w := th) (by omega) hc_5.1.2.2.2.1 dX11_change_9 ?_
  refine lv_istore_n (lv' := [(3, .int (iI th)), (0, .ref m0), (1, .int (iI 3)), (2, .int (iI v))]) F.1 F.2.1 dX11_change_10 rfl hl (by decide) rfl (fun ls hl => ?_)
  refine lv_aload_n F.1 F.2.1 dX11_change_11 rfl (lv_at hl 1 rfl) ?_
  refine ad_get F G fl_X11_9 0 rfl rfl dX11_change_12 ?_
  refine lv_iload_n F.1 F.2.1 dX11_change_15 rfl (lv_at hl 2 rfl) ?_
  refine lv_iload_n F.1 F.2.1 dX11_change_16 rfl (lv_at hl 3 rfl) ?_
  refine ad_iast F G 1 rfl (by omega) (ws' := [(m0, mO M xth (kpS xrm) xsv xln xat xer xwr xwd xlo xhi xwl xml xkl xfi xse xdn xon xtw xol xrw xgl xus xpr xmk xab), (M 1, aI (K 0) 1247 (va_up g2_3 (3 : Int).toNat v)), (M 3, aR (K 7) 8 gH), (MH 0, aI (K 0) 1247 (gh2_2 0)), (MH 1, aI (K 0) 1247 (gh2_2 1)), (MH 2, aI (K 0) 1247 (gh2_2 2)), (MH 3, aI (K 0) 1247 (gh2_2 3)), (MH 4, aI (K 0) 1247 (gh2_2 4)), (MH 5, aI (K 0) 1247 (gh2_2 5)), (MH 6, aI (K 0) 1247 (gh2_2 6)), (MH 7, aI (K 0) 1247 (gh2_2 7))]) rfl dX11_change_17 (fun H locs G => ?_)
  refine lv_iload_n F.1 F.2.1 dX11_change_18 rfl (lv_at hl 0 rfl) ?_
  exact ad_ireturn F G hR rfl (Nat.le_of_ble_eq_true rfl) (Nat.le_of_ble_eq_true rfl) ⟨gh2_2, va_up g2_3 (3 : Int).toNat v, rfl, hc_4, (MRow_head hc_5 ⟨hc_5.1.1, hc_5.1.2.1, hc_5.1.2.2.1, va_upE (z := 3) rfl, hc_5.1.2.2.2.2⟩ (fun j j0 => va_upO (by omega) (by omega) (by omega))), rfl⟩ dX11_change_19

def rm_X11_setPriority : Room := { frames := 4, cells := 0, slots := 0, locals := 78 }
set_option maxHeartbeats 4000000 in
set_option maxRecDepth 100000 in
theorem c_X11_setPriority (l : Launch) (D : va_G) (K : Nat → ClassId) (z0 : Nat) (m0 : Nat) (M : Nat → Nat) (xth : Int) (xrm : Int) (xsv : Int) (xln : Int) (xat : Int) (xer : Int) (xwr : Int) (xwd : Int) (xlo : Int) (xhi : Int) (xwl : Int) (xml : Int) (xkl : Int) (xfi : Int) (xse : Int) (xdn : Int) (xon : Int) (xtw : Int) (xol : Int) (xrw : Int) (xgl : Int) (xus : Int) (xpr : Int) (xmk : Int) (xab : Int) (g : Nat → Int) (rs : List Rl) (ps : List Pr) (md : Int) (th : Int) (nc : Int) (MH : Nat → Nat) (gH : Nat → Option Nat) (gh : Nat → Nat → Int) (z : Int) (v : Int) (hM : MRow g rs ps md th nc) (hW : RW rs) (hH : ∀ j : Nat, j < 8 → gH j = some (MH j)) (hrm : 0 ≤ xrm ∧ xrm ≤ 8) (hz : -2147483648 ≤ z ∧ z < 2147483648) (hv : -2147483648 ≤ v ∧ v < 2147483648) : CT l D K z0 yX11_setPriority cX11_setPriority 3 (some .int) rm_X11_setPriority [.ref m0, .int (iI z), .int (iI v)] [(m0, mO M xth xrm xsv xln xat xer xwr xwd xlo xhi xwl xml xkl xfi xse xdn xon xtw xol xrw xgl xus xpr xmk xab), (M 1, aI (K 0) 1247 g), (M 3, aR (K 7) 8 gH), (MH 0, aI (K 0) 1247 (gh 0)), (MH 1, aI (K 0) 1247 (gh 1)), (MH 2, aI (K 0) 1247 (gh 2)), (MH 3, aI (K 0) 1247 (gh 3)), (MH 4, aI (K 0) 1247 (gh 4)), (MH 5, aI (K 0) 1247 (gh 5)), (MH 6, aI (K 0) 1247 (gh 6)), (MH 7, aI (K 0) 1247 (gh 7))] (fun v9 u9 => (v9 = some (.int (iI 0)) ∧ (¬ (0 ≤ z ∧ z < rs.length)) ∧ u9 = [(m0, mO M 1 xrm xsv xln xat xer xwr xwd xlo xhi xwl xml xkl xfi xse xdn xon xtw xol xrw xgl xus xpr xmk xab), (M 1, aI (K 0) 1247 g), (M 3, aR (K 7) 8 gH), (MH 0, aI (K 0) 1247 (gh 0)), (MH 1, aI (K 0) 1247 (gh 1)), (MH 2, aI (K 0) 1247 (gh 2)), (MH 3, aI (K 0) 1247 (gh 3)), (MH 4, aI (K 0) 1247 (gh 4)), (MH 5, aI (K 0) 1247 (gh 5)), (MH 6, aI (K 0) 1247 (gh 6)), (MH 7, aI (K 0) 1247 (gh 7))]) ∨ (v9 = some (.int (iI 0)) ∧ (0 ≤ z ∧ z < rs.length) ∧ (¬ (0 ≤ v ∧ v ≤ 99)) ∧ u9 = [(m0, mO M 2 xrm xsv xln xat xer xwr xwd xlo xhi xwl xml xkl xfi xse xdn xon xtw xol xrw xgl xus xpr xmk xab), (M 1, aI (K 0) 1247 g), (M 3, aR (K 7) 8 gH), (MH 0, aI (K 0) 1247 (gh 0)), (MH 1, aI (K 0) 1247 (gh 1)), (MH 2, aI (K 0) 1247 (gh 2)), (MH 3, aI (K 0) 1247 (gh 3)), (MH 4, aI (K 0) 1247 (gh 4)), (MH 5, aI (K 0) 1247 (gh 5)), (MH 6, aI (K 0) 1247 (gh 6)), (MH 7, aI (K 0) 1247 (gh 7))]) ∨ (∃ (gh2 : Nat → Nat → Int), ∃ (g2 : Nat → Int), v9 = some (.int (iI ((rget rs z).2.1))) ∧ (0 ≤ z ∧ z < rs.length) ∧ (0 ≤ v ∧ v ≤ 99) ∧ (RmH g gh gh2 xrm) ∧ (MRow g2 (rsetp rs z v) ps md th (nc + 1)) ∧ u9 = [(m0, mO M 0 (kpS xrm) xsv xln xat xer xwr xwd xlo xhi xwl xml xkl xfi xse xdn xon xtw xol xrw xgl xus xpr xmk xab), (M 1, aI (K 0) 1247 g2), (M 3, aR (K 7) 8 gH), (MH 0, aI (K 0) 1247 (gh2 0)), (MH 1, aI (K 0) 1247 (gh2 1)), (MH 2, aI (K 0) 1247 (gh2 2)), (MH 3, aI (K 0) 1247 (gh2 3)), (MH 4, aI (K 0) 1247 (gh2 4)), (MH 5, aI (K 0) 1247 (gh2 5)), (MH 6, aI (K 0) 1247 (gh2 6)), (MH 7, aI (K 0) 1247 (gh2 7))])) := by
  refine CT.start RX11 "setPriority" (by decide) rfl rfl (Nat.le_of_ble_eq_true rfl) ?_
  intro p9 e9 s9 m9 ag9 bl9 mt9 c9 A9 Q9 ls F G hR hl
  have hl : lv_has ls 3 [(0, .ref m0), (1, .int (iI z)), (2, .int (iI v))] := hl
  have hn := hW.1
  refine lv_aload_n F.1 F.2.1 dX11_setPriority_0 rfl (lv_at hl 0 rfl) ?_
  refine ad_iconst F dX11_setPriority_1 ?_
  refine lv_aload_n F.1 F.2.1 dX11_setPriority_2 rfl (lv_at hl 0 rfl) ?_
  refine lv_iload_n F.1 F.2.1 dX11_setPriority_3 rfl (lv_at hl 1 rfl) ?_
  refine ad_callV (As := [.int (iI z)]) (rest := [.int (iI 1), .ref m0]) F G (c_X11_isRule l D K z0 m0 M xth xrm xsv xln xat xer xwr xwd xlo xhi xwl xml xkl xfi xse xdn xon xtw xol xrw xgl xus xpr xmk xab g rs ps md th nc z hM hW hz) my_X11_isRule mv_X11_171 (wr := [(M 3, aR (K 7) 8 gH), (MH 0, aI (K 0) 1247 (gh 0)), (MH 1, aI (K 0) 1247 (gh 1)), (MH 2, aI (K 0) 1247 (gh 2)), (MH 3, aI (K 0) 1247 (gh 3)), (MH 4, aI (K 0) 1247 (gh 4)), (MH 5, aI (K 0) 1247 (gh 5)), (MH 6, aI (K 0) 1247 (gh 6)), (MH 7, aI (K 0) 1247 (gh 7))]) (isC := [0, 1]) (isR := [2, 3, 4, 5, 6, 7, 8, 9, 10]) ⟨rfl, rfl, rfl, rfl, by decide⟩ 11 0 rfl rfl rfl rfl ⟨Nat.le_of_ble_eq_true rfl, Nat.le_of_ble_eq_true rfl⟩ ⟨Nat.le_of_ble_eq_true rfl, Nat.le_of_ble_eq_true rfl⟩ (Nat.le_of_ble_eq_true rfl) hl.1 (cells9 := 0) (slots9 := 0) ⟨rfl, rfl⟩ dX11_setPriority_4 (fun v u H locs hw_1 G => ?_)
  rcases hw_1 with ⟨rfl, hc_2, rfl⟩ | ⟨rfl, hc_3, rfl⟩
  · replace G := G.perm (ws' := [(m0, mO M xth xrm xsv xln xat xer xwr xwd xlo xhi xwl xml xkl xfi xse xdn xon xtw xol xrw xgl xus xpr xmk xab), (M 1, aI (K 0) 1247 g), (M 3, aR (K 7) 8 gH), (MH 0, aI (K 0) 1247 (gh 0)), (MH 1, aI (K 0) 1247 (gh 1)), (MH 2, aI (K 0) 1247 (gh 2)), (MH 3, aI (K 0) 1247 (gh 3)), (MH 4, aI (K 0) 1247 (gh 4)), (MH 5, aI (K 0) 1247 (gh 5)), (MH 6, aI (K 0) 1247 (gh 6)), (MH 7, aI (K 0) 1247 (gh 7))]) [9, 10, 0, 1, 2, 3, 4, 5, 6, 7, 8] rfl rfl
    refine W.eq (g2 := F0 m9 7 ls [.int (iI 1), .int (iI 1), .ref m0]) rfl ?_
    refine ad_if_ne (tgt := 14) F (by decide) dX11_setPriority_7 (by decide) (fun _ => ?_) (fun cc_4 => absurd cc_4 (by decide))
    refine ad_iconst F dX11_setPriority_14 ?_
    refine ad_callV (As := [.int (iI 1), .int (iI 0)]) (rest := []) F G (c_X11_fails_0 l D K z0 m0 M xth xrm xsv xln xat xer xwr xwd xlo xhi xwl xml xkl xfi xse xdn xon xtw xol xrw xgl xus xpr xmk xab 1 (by omega)) my_X11_fails mv_X11_111 (wr := [(M 1, aI (K 0) 1247 g), (M 3, aR (K 7) 8 gH), (MH 0, aI (K 0) 1247 (gh 0)), (MH 1, aI (K 0) 1247 (gh 1)), (MH 2, aI (K 0) 1247 (gh 2)), (MH 3, aI (K 0) 1247 (gh 3)), (MH 4, aI (K 0) 1247 (gh 4)), (MH 5, aI (K 0) 1247 (gh 5)), (MH 6, aI (K 0) 1247 (gh 6)), (MH 7, aI (K 0) 1247 (gh 7))]) (isC := [0]) (isR := [1, 2, 3, 4, 5, 6, 7, 8, 9, 10]) ⟨rfl, rfl, rfl, rfl, by decide⟩ 11 0 rfl rfl rfl rfl ⟨Nat.le_of_ble_eq_true rfl, Nat.le_of_ble_eq_true rfl⟩ ⟨Nat.le_of_ble_eq_true rfl, Nat.le_of_ble_eq_true rfl⟩ (Nat.le_of_ble_eq_true rfl) hl.1 (cells9 := 0) (slots9 := 0) ⟨rfl, rfl⟩ dX11_setPriority_15 (fun v u H locs hw_5 G => ?_)
    obtain ⟨rfl, rfl⟩ := hw_5
    replace G := G.perm (ws' := [(m0, mO M 0 xrm xsv xln xat xer xwr xwd xlo xhi xwl xml xkl xfi xse xdn xon xtw xol xrw xgl xus xpr xmk xab), (M 1, aI (K 0) 1247 g), (M 3, aR (K 7) 8 gH), (MH 0, aI (K 0) 1247 (gh 0)), (MH 1, aI (K 0) 1247 (gh 1)), (MH 2, aI (K 0) 1247 (gh 2)), (MH 3, aI (K 0) 1247 (gh 3)), (MH 4, aI (K 0) 1247 (gh 4)), (MH 5, aI (K 0) 1247 (gh 5)), (MH 6, aI (K 0) 1247 (gh 6)), (MH 7, aI (K 0) 1247 (gh 7))]) [10, 0, 1, 2, 3, 4, 5, 6, 7, 8, 9] rfl rfl
    refine W.eq (g2 := F0 m9 18 ls [.int (iI 0)]) rfl ?_
    refine ad_if_ne (tgt := 44) F (by decide) dX11_setPriority_18 (by decide) (fun cc_6 => absurd cc_6 (by decide)) (fun _ => ?_)
    refine lv_aload_n F.1 F.2.1 dX11_setPriority_21 rfl (lv_at hl 0 rfl) ?_
    refine ad_iconst F dX11_setPriority_22 ?_
    refine lv_iload_n F.1 F.2.1 dX11_setPriority_23 rfl (lv_at hl 2 rfl) ?_
    refine ad_iconst F dX11_setPriority_24 ?_
    refine ad_bipush F dX11_setPriority_25 (by decide) ?_
    refine ad_callS (As := [.int (iI v), .int (iI 0), .int (iI 99)]) (rest := [.int (iI 2), .ref m0]) F G (c_X11_isBetween l D K z0 v 0 99 hv (by omega) (by omega)) my_X11_isBetween ms_X11_107 (wr := [(m0, mO M 0 xrm xsv xln xat xer xwr xwd xlo xhi xwl xml xkl xfi xse xdn xon xtw xol xrw xgl xus xpr xmk xab), (M 1, aI (K 0) 1247 g), (M 3, aR (K 7) 8 gH), (MH 0, aI (K 0) 1247 (gh 0)), (MH 1, aI (K 0) 1247 (gh 1)), (MH 2, aI (K 0) 1247 (gh 2)), (MH 3, aI (K 0) 1247 (gh 3)), (MH 4, aI (K 0) 1247 (gh 4)), (MH 5, aI (K 0) 1247 (gh 5)), (MH 6, aI (K 0) 1247 (gh 6)), (MH 7, aI (K 0) 1247 (gh 7))]) (isC := []) (isR := [0, 1, 2, 3, 4, 5, 6, 7, 8, 9, 10]) ⟨rfl, rfl, rfl, rfl, by decide⟩ rfl rfl ⟨Nat.le_of_ble_eq_true rfl, Nat.le_of_ble_eq_true rfl⟩ ⟨Nat.le_of_ble_eq_true rfl, Nat.le_of_ble_eq_true rfl⟩ (Nat.le_of_ble_eq_true rfl) hl.1 (cells9 := 0) (slots9 := 0) ⟨rfl, rfl⟩ dX11_setPriority_27 (fun v u H locs hw_7 G => ?_)
    rcases hw_7 with ⟨rfl, hc_8, rfl⟩ | ⟨rfl, hc_9, rfl⟩
    · replace G := G.perm (ws' := [(m0, mO M 0 xrm xsv xln xat xer xwr xwd xlo xhi xwl xml xkl xfi xse xdn xon xtw xol xrw xgl xus xpr xmk xab), (M 1, aI (K 0) 1247 g), (M 3, aR (K 7) 8 gH), (MH 0, aI (K 0) 1247 (gh 0)), (MH 1, aI (K 0) 1247 (gh 1)), (MH 2, aI (K 0) 1247 (gh 2)), (MH 3, aI (K 0) 1247 (gh 3)), (MH 4, aI (K 0) 1247 (gh 4)), (MH 5, aI (K 0) 1247 (gh 5)), (MH 6, aI (K 0) 1247 (gh 6)), (MH 7, aI (K 0) 1247 (gh 7))]) [0, 1, 2, 3, 4, 5, 6, 7, 8, 9, 10] rfl rfl
      refine W.eq (g2 := F0 m9 30 ls [.int (iI 1), .int (iI 2), .ref m0]) rfl ?_
      refine ad_if_ne (tgt := 37) F (by decide) dX11_setPriority_30 (by decide) (fun _ => ?_) (fun cc_10 => absurd cc_10 (by decide))
      refine ad_iconst F dX11_setPriority_37 ?_
      refine ad_callV (As := [.int (iI 2), .int (iI 0)]) (rest := []) F G (c_X11_fails_0 l D K z0 m0 M 0 xrm xsv xln xat xer xwr xwd xlo xhi xwl xml xkl xfi xse xdn xon xtw xol xrw xgl xus xpr xmk xab 2 (by omega)) my_X11_fails mv_X11_111 (wr := [(M 1, aI (K 0) 1247 g), (M 3, aR (K 7) 8 gH), (MH 0, aI (K 0) 1247 (gh 0)), (MH 1, aI (K 0) 1247 (gh 1)), (MH 2, aI (K 0) 1247 (gh 2)), (MH 3, aI (K 0) 1247 (gh 3)), (MH 4, aI (K 0) 1247 (gh 4)), (MH 5, aI (K 0) 1247 (gh 5)), (MH 6, aI (K 0) 1247 (gh 6)), (MH 7, aI (K 0) 1247 (gh 7))]) (isC := [0]) (isR := [1, 2, 3, 4, 5, 6, 7, 8, 9, 10]) ⟨rfl, rfl, rfl, rfl, by decide⟩ 11 0 rfl rfl rfl rfl ⟨Nat.le_of_ble_eq_true rfl, Nat.le_of_ble_eq_true rfl⟩ ⟨Nat.le_of_ble_eq_true rfl, Nat.le_of_ble_eq_true rfl⟩ (Nat.le_of_ble_eq_true rfl) hl.1 (cells9 := 0) (slots9 := 0) ⟨rfl, rfl⟩ dX11_setPriority_38 (fun v u H locs hw_11 G => ?_)
      obtain ⟨rfl, rfl⟩ := hw_11
      replace G := G.perm (ws' := [(m0, mO M 0 xrm xsv xln xat xer xwr xwd xlo xhi xwl xml xkl xfi xse xdn xon xtw xol xrw xgl xus xpr xmk xab), (M 1, aI (K 0) 1247 g), (M 3, aR (K 7) 8 gH), (MH 0, aI (K 0) 1247 (gh 0)), (MH 1, aI (K 0) 1247 (gh 1)), (MH 2, aI (K 0) 1247 (gh 2)), (MH 3, aI (K 0) 1247 (gh 3)), (MH 4, aI (K 0) 1247 (gh 4)), (MH 5, aI (K 0) 1247 (gh 5)), (MH 6, aI (K 0) 1247 (gh 6)), (MH 7, aI (K 0) 1247 (gh 7))]) [10, 0, 1, 2, 3, 4, 5, 6, 7, 8, 9] rfl rfl
      refine W.eq (g2 := F0 m9 41 ls [.int (iI 0)]) rfl ?_
      refine ad_if_eq (tgt := 48) F (by decide) dX11_setPriority_41 (by decide) (fun _ => ?_) (fun cc_12 => absurd cc_12 (by decide))
      refine lv_aload_n F.1 F.2.1 dX11_setPriority_48 rfl (lv_at hl 0 rfl) ?_
      refine ad_iconst F dX11_setPriority_49 ?_
      refine lv_iload_n F.1 F.2.1 dX11_setPriority_50 rfl (lv_at hl 1 rfl) ?_
      refine ad_bipush F dX11_setPriority_51 (by decide) ?_
      refine ad_imul F dX11_setPriority_53 ?_
      refine ad_iadd F dX11_setPriority_54 ?_
      refine ad_iconst F dX11_setPriority_55 ?_
      refine ad_iadd F dX11_setPriority_56 ?_
      refine lv_iload_n F.1 F.2.1 dX11_setPriority_57 rfl (lv_at hl 2 rfl) ?_
      refine ad_callV (As := [.int (iI ((5 + (z * 23)) + 1)), .int (iI v)]) (rest := []) F G (c_X11_change_p l D K z0 m0 M 0 xrm xsv xln xat xer xwr xwd xlo xhi xwl xml xkl xfi xse xdn xon xtw xol xrw xgl xus xpr xmk xab g rs ps md th nc MH gH gh z v hM hW hH hrm hc_2) my_X11_change mv_X11_175 (wr := []) (isC := [0, 1, 2, 3, 4, 5, 6, 7, 8, 9, 10]) (isR := []) ⟨rfl, rfl, rfl, rfl, by decide⟩ 11 0 rfl rfl rfl rfl ⟨Nat.le_of_ble_eq_true rfl, Nat.le_of_ble_eq_true rfl⟩ ⟨Nat.le_of_ble_eq_true rfl, Nat.le_of_ble_eq_true rfl⟩ (Nat.le_of_ble_eq_true rfl) hl.1 (cells9 := 0) (slots9 := 0) ⟨rfl, rfl⟩ dX11_setPriority_58 (fun v u H locs hw_13 G => ?_)
      obtain ⟨gh2_14, g2_15, rfl, hc_16, hc_17, rfl⟩ := hw_13
      replace G := G.perm (ws' := [(m0, mO M 0 (kpS xrm) xsv xln xat xer xwr xwd xlo xhi xwl xml xkl xfi xse xdn xon xtw xol xrw xgl xus xpr xmk xab), (M 1, aI (K 0) 1247 g2_15), (M 3, aR (K 7) 8 gH), (MH 0, aI (K 0) 1247 (gh2_14 0)), (MH 1, aI (K 0) 1247 (gh2_14 1)), (MH 2, aI (K 0) 1247 (gh2_14 2)), (MH 3, aI (K 0) 1247 (gh2_14 3)), (MH 4, aI (K 0) 1247 (gh2_14 4)), (MH 5, aI (K 0) 1247 (gh2_14 5)), (MH 6, aI (K 0) 1247 (gh2_14 6)), (MH 7, aI (K 0) 1247 (gh2_14 7))]) [0, 1, 2, 3, 4, 5, 6, 7, 8, 9, 10] rfl rfl
      refine W.eq (g2 := F0 m9 61 ls [.int (iI ((rget rs z).2.1))]) rfl ?_
      exact ad_ireturn F G hR rfl (Nat.le_of_ble_eq_true rfl) (Nat.le_of_ble_eq_true rfl) (Or.inr (Or.inr (⟨gh2_14, g2_15, rfl, hc_2, hc_8, hc_16, hc_17, rfl⟩))) dX11_setPriority_61
    · replace G := G.perm (ws' := [(m0, mO M 0 xrm xsv xln xat xer xwr xwd xlo xhi xwl xml xkl xfi xse xdn xon xtw xol xrw xgl xus xpr xmk xab), (M 1, aI (K 0) 1247 g), (M 3, aR (K 7) 8 gH), (MH 0, aI (K 0) 1247 (gh 0)), (MH 1, aI (K 0) 1247 (gh 1)), (MH 2, aI (K 0) 1247 (gh 2)), (MH 3, aI (K 0) 1247 (gh 3)), (MH 4, aI (K 0) 1247 (gh 4)), (MH 5, aI (K 0) 1247 (gh 5)), (MH 6, aI (K 0) 1247 (gh 6)), (MH 7, aI (K 0) 1247 (gh 7))]) [0, 1, 2, 3, 4, 5, 6, 7, 8, 9, 10] rfl rfl
      refine W.eq (g2 := F0 m9 30 ls [.int (iI 0), .int (iI 2), .ref m0]) rfl ?_
      refine ad_if_ne (tgt := 37) F (by decide) dX11_setPriority_30 (by decide) (fun cc_18 => absurd cc_18 (by decide)) (fun _ => ?_)
      refine ad_iconst F dX11_setPriority_33 ?_
      refine lv_goto (tgt := 38) F.1 F.2.1 dX11_setPriority_34 (by decide) ?_
      refine ad_callV (As := [.int (iI 2), .int (iI 1)]) (rest := []) F G (c_X11_fails_1 l D K z0 m0 M 0 xrm xsv xln xat xer xwr xwd xlo xhi xwl xml xkl xfi xse xdn xon xtw xol xrw xgl xus xpr xmk xab 2 (by omega)) my_X11_fails mv_X11_111 (wr := [(M 1, aI (K 0) 1247 g), (M 3, aR (K 7) 8 gH), (MH 0, aI (K 0) 1247 (gh 0)), (MH 1, aI (K 0) 1247 (gh 1)), (MH 2, aI (K 0) 1247 (gh 2)), (MH 3, aI (K 0) 1247 (gh 3)), (MH 4, aI (K 0) 1247 (gh 4)), (MH 5, aI (K 0) 1247 (gh 5)), (MH 6, aI (K 0) 1247 (gh 6)), (MH 7, aI (K 0) 1247 (gh 7))]) (isC := [0]) (isR := [1, 2, 3, 4, 5, 6, 7, 8, 9, 10]) ⟨rfl, rfl, rfl, rfl, by decide⟩ 11 0 rfl rfl rfl rfl ⟨Nat.le_of_ble_eq_true rfl, Nat.le_of_ble_eq_true rfl⟩ ⟨Nat.le_of_ble_eq_true rfl, Nat.le_of_ble_eq_true rfl⟩ (Nat.le_of_ble_eq_true rfl) hl.1 (cells9 := 0) (slots9 := 0) ⟨rfl, rfl⟩ dX11_setPriority_38 (fun v u H locs hw_19 G => ?_)
      obtain ⟨rfl, rfl⟩ := hw_19
      replace G := G.perm (ws' := [(m0, mO M 2 xrm xsv xln xat xer xwr xwd xlo xhi xwl xml xkl xfi xse xdn xon xtw xol xrw xgl xus xpr xmk xab), (M 1, aI (K 0) 1247 g), (M 3, aR (K 7) 8 gH), (MH 0, aI (K 0) 1247 (gh 0)), (MH 1, aI (K 0) 1247 (gh 1)), (MH 2, aI (K 0) 1247 (gh 2)), (MH 3, aI (K 0) 1247 (gh 3)), (MH 4, aI (K 0) 1247 (gh 4)), (MH 5, aI (K 0) 1247 (gh 5)), (MH 6, aI (K 0) 1247 (gh 6)), (MH 7, aI (K 0) 1247 (gh 7))]) [10, 0, 1, 2, 3, 4, 5, 6, 7, 8, 9] rfl rfl
      refine W.eq (g2 := F0 m9 41 ls [.int (iI 1)]) rfl ?_
      refine ad_if_eq (tgt := 48) F (by decide) dX11_setPriority_41 (by decide) (fun cc_20 => absurd cc_20 (by decide)) (fun _ => ?_)
      refine ad_iconst F dX11_setPriority_44 ?_
      refine lv_goto (tgt := 61) F.1 F.2.1 dX11_setPriority_45 (by decide) ?_
      exact ad_ireturn F G hR rfl (Nat.le_of_ble_eq_true rfl) (Nat.le_of_ble_eq_true rfl) (Or.inr (Or.inl ⟨rfl, hc_2, hc_9, rfl⟩)) dX11_setPriority_61
  · replace G := G.perm (ws' := [(m0, mO M xth xrm xsv xln xat xer xwr xwd xlo xhi xwl xml xkl xfi xse xdn xon xtw xol xrw xgl xus xpr xmk xab), (M 1, aI (K 0) 1247 g), (M 3, aR (K 7) 8 gH), (MH 0, aI (K 0) 1247 (gh 0)), (MH 1, aI (K 0) 1247 (gh 1)), (MH 2, aI (K 0) 1247 (gh 2)), (MH 3, aI (K 0) 1247 (gh 3)), (MH 4, aI (K 0) 1247 (gh 4)), (MH 5, aI (K 0) 1247 (gh 5)), (MH 6, aI (K 0) 1247 (gh 6)), (MH 7, aI (K 0) 1247 (gh 7))]) [9, 10, 0, 1, 2, 3, 4, 5, 6, 7, 8] rfl rfl
    refine W.eq (g2 := F0 m9 7 ls [.int (iI 0), .int (iI 1), .ref m0]) rfl ?_
    refine ad_if_ne (tgt := 14) F (by decide) dX11_setPriority_7 (by decide) (fun cc_21 => absurd cc_21 (by decide)) (fun _ => ?_)
    refine ad_iconst F dX11_setPriority_10 ?_
    refine lv_goto (tgt := 15) F.1 F.2.1 dX11_setPriority_11 (by decide) ?_
    refine ad_callV (As := [.int (iI 1), .int (iI 1)]) (rest := []) F G (c_X11_fails_1 l D K z0 m0 M xth xrm xsv xln xat xer xwr xwd xlo xhi xwl xml xkl xfi xse xdn xon xtw xol xrw xgl xus xpr xmk xab 1 (by omega)) my_X11_fails mv_X11_111 (wr := [(M 1, aI (K 0) 1247 g), (M 3, aR (K 7) 8 gH), (MH 0, aI (K 0) 1247 (gh 0)), (MH 1, aI (K 0) 1247 (gh 1)), (MH 2, aI (K 0) 1247 (gh 2)), (MH 3, aI (K 0) 1247 (gh 3)), (MH 4, aI (K 0) 1247 (gh 4)), (MH 5, aI (K 0) 1247 (gh 5)), (MH 6, aI (K 0) 1247 (gh 6)), (MH 7, aI (K 0) 1247 (gh 7))]) (isC := [0]) (isR := [1, 2, 3, 4, 5, 6, 7, 8, 9, 10]) ⟨rfl, rfl, rfl, rfl, by decide⟩ 11 0 rfl rfl rfl rfl ⟨Nat.le_of_ble_eq_true rfl, Nat.le_of_ble_eq_true rfl⟩ ⟨Nat.le_of_ble_eq_true rfl, Nat.le_of_ble_eq_true rfl⟩ (Nat.le_of_ble_eq_true rfl) hl.1 (cells9 := 0) (slots9 := 0) ⟨rfl, rfl⟩ dX11_setPriority_15 (fun v u H locs hw_22 G => ?_)
    obtain ⟨rfl, rfl⟩ := hw_22
    replace G := G.perm (ws' := [(m0, mO M 1 xrm xsv xln xat xer xwr xwd xlo xhi xwl xml xkl xfi xse xdn xon xtw xol xrw xgl xus xpr xmk xab), (M 1, aI (K 0) 1247 g), (M 3, aR (K 7) 8 gH), (MH 0, aI (K 0) 1247 (gh 0)), (MH 1, aI (K 0) 1247 (gh 1)), (MH 2, aI (K 0) 1247 (gh 2)), (MH 3, aI (K 0) 1247 (gh 3)), (MH 4, aI (K 0) 1247 (gh 4)), (MH 5, aI (K 0) 1247 (gh 5)), (MH 6, aI (K 0) 1247 (gh 6)), (MH 7, aI (K 0) 1247 (gh 7))]) [10, 0, 1, 2, 3, 4, 5, 6, 7, 8, 9] rfl rfl
    refine W.eq (g2 := F0 m9 18 ls [.int (iI 1)]) rfl ?_
    refine ad_if_ne (tgt := 44) F (by decide) dX11_setPriority_18 (by decide) (fun _ => ?_) (fun cc_23 => absurd cc_23 (by decide))
    refine ad_iconst F dX11_setPriority_44 ?_
    refine lv_goto (tgt := 61) F.1 F.2.1 dX11_setPriority_45 (by decide) ?_
    exact ad_ireturn F G hR rfl (Nat.le_of_ble_eq_true rfl) (Nat.le_of_ble_eq_true rfl) (Or.inl ⟨rfl, hc_3, rfl⟩) dX11_setPriority_61

def rm_X11_setContext : Room := { frames := 4, cells := 0, slots := 0, locals := 78 }
set_option maxHeartbeats 4000000 in
set_option maxRecDepth 100000 in
theorem c_X11_setContext (l : Launch) (D : va_G) (K : Nat → ClassId) (z0 : Nat) (m0 : Nat) (M : Nat → Nat) (xth : Int) (xrm : Int) (xsv : Int) (xln : Int) (xat : Int) (xer : Int) (xwr : Int) (xwd : Int) (xlo : Int) (xhi : Int) (xwl : Int) (xml : Int) (xkl : Int) (xfi : Int) (xse : Int) (xdn : Int) (xon : Int) (xtw : Int) (xol : Int) (xrw : Int) (xgl : Int) (xus : Int) (xpr : Int) (xmk : Int) (xab : Int) (g : Nat → Int) (rs : List Rl) (ps : List Pr) (md : Int) (th : Int) (nc : Int) (MH : Nat → Nat) (gH : Nat → Option Nat) (gh : Nat → Nat → Int) (z : Int) (v : Int) (hM : MRow g rs ps md th nc) (hW : RW rs) (hH : ∀ j : Nat, j < 8 → gH j = some (MH j)) (hrm : 0 ≤ xrm ∧ xrm ≤ 8) (hz : -2147483648 ≤ z ∧ z < 2147483648) (hv : -2147483648 ≤ v ∧ v < 2147483648) : CT l D K z0 yX11_setContext cX11_setContext 3 (some .int) rm_X11_setContext [.ref m0, .int (iI z), .int (iI v)] [(m0, mO M xth xrm xsv xln xat xer xwr xwd xlo xhi xwl xml xkl xfi xse xdn xon xtw xol xrw xgl xus xpr xmk xab), (M 1, aI (K 0) 1247 g), (M 3, aR (K 7) 8 gH), (MH 0, aI (K 0) 1247 (gh 0)), (MH 1, aI (K 0) 1247 (gh 1)), (MH 2, aI (K 0) 1247 (gh 2)), (MH 3, aI (K 0) 1247 (gh 3)), (MH 4, aI (K 0) 1247 (gh 4)), (MH 5, aI (K 0) 1247 (gh 5)), (MH 6, aI (K 0) 1247 (gh 6)), (MH 7, aI (K 0) 1247 (gh 7))] (fun v9 u9 => (v9 = some (.int (iI 0)) ∧ (¬ (0 ≤ z ∧ z < rs.length)) ∧ u9 = [(m0, mO M 1 xrm xsv xln xat xer xwr xwd xlo xhi xwl xml xkl xfi xse xdn xon xtw xol xrw xgl xus xpr xmk xab), (M 1, aI (K 0) 1247 g), (M 3, aR (K 7) 8 gH), (MH 0, aI (K 0) 1247 (gh 0)), (MH 1, aI (K 0) 1247 (gh 1)), (MH 2, aI (K 0) 1247 (gh 2)), (MH 3, aI (K 0) 1247 (gh 3)), (MH 4, aI (K 0) 1247 (gh 4)), (MH 5, aI (K 0) 1247 (gh 5)), (MH 6, aI (K 0) 1247 (gh 6)), (MH 7, aI (K 0) 1247 (gh 7))]) ∨ (v9 = some (.int (iI 0)) ∧ (0 ≤ z ∧ z < rs.length) ∧ (¬ (0 ≤ v ∧ v ≤ 4)) ∧ u9 = [(m0, mO M 2 xrm xsv xln xat xer xwr xwd xlo xhi xwl xml xkl xfi xse xdn xon xtw xol xrw xgl xus xpr xmk xab), (M 1, aI (K 0) 1247 g), (M 3, aR (K 7) 8 gH), (MH 0, aI (K 0) 1247 (gh 0)), (MH 1, aI (K 0) 1247 (gh 1)), (MH 2, aI (K 0) 1247 (gh 2)), (MH 3, aI (K 0) 1247 (gh 3)), (MH 4, aI (K 0) 1247 (gh 4)), (MH 5, aI (K 0) 1247 (gh 5)), (MH 6, aI (K 0) 1247 (gh 6)), (MH 7, aI (K 0) 1247 (gh 7))]) ∨ (∃ (gh2 : Nat → Nat → Int), ∃ (g2 : Nat → Int), v9 = some (.int (iI ((rget rs z).2.2.1))) ∧ (0 ≤ z ∧ z < rs.length) ∧ (0 ≤ v ∧ v ≤ 4) ∧ (RmH g gh gh2 xrm) ∧ (MRow g2 (rsetc rs z v) ps md th (nc + 1)) ∧ u9 = [(m0, mO M 0 (kpS xrm) xsv xln xat xer xwr xwd xlo xhi xwl xml xkl xfi xse xdn xon xtw xol xrw xgl xus xpr xmk xab), (M 1, aI (K 0) 1247 g2), (M 3, aR (K 7) 8 gH), (MH 0, aI (K 0) 1247 (gh2 0)), (MH 1, aI (K 0) 1247 (gh2 1)), (MH 2, aI (K 0) 1247 (gh2 2)), (MH 3, aI (K 0) 1247 (gh2 3)), (MH 4, aI (K 0) 1247 (gh2 4)), (MH 5, aI (K 0) 1247 (gh2 5)), (MH 6, aI (K 0) 1247 (gh2 6)), (MH 7, aI (K 0) 1247 (gh2 7))])) := by
  refine CT.start RX11 "setContext" (by decide) rfl rfl (Nat.le_of_ble_eq_true rfl) ?_
  intro p9 e9 s9 m9 ag9 bl9 mt9 c9 A9 Q9 ls F G hR hl
  have hl : lv_has ls 3 [(0, .ref m0), (1, .int (iI z)), (2, .int (iI v))] := hl
  have hn := hW.1
  refine lv_aload_n F.1 F.2.1 dX11_setContext_0 rfl (lv_at hl 0 rfl) ?_
  refine ad_iconst F dX11_setContext_1 ?_
  refine lv_aload_n F.1 F.2.1 dX11_setContext_2 rfl (lv_at hl 0 rfl) ?_
  refine lv_iload_n F.1 F.2.1 dX11_setContext_3 rfl (lv_at hl 1 rfl) ?_
  refine ad_callV (As := [.int (iI z)]) (rest := [.int (iI 1), .ref m0]) F G (c_X11_isRule l D K z0 m0 M xth xrm xsv xln xat xer xwr xwd xlo xhi xwl xml xkl xfi xse xdn xon xtw xol xrw xgl xus xpr xmk xab g rs ps md th nc z hM hW hz) my_X11_isRule mv_X11_171 (wr := [(M 3, aR (K 7) 8 gH), (MH 0, aI (K 0) 1247 (gh 0)), (MH 1, aI (K 0) 1247 (gh 1)), (MH 2, aI (K 0) 1247 (gh 2)), (MH 3, aI (K 0) 1247 (gh 3)), (MH 4, aI (K 0) 1247 (gh 4)), (MH 5, aI (K 0) 1247 (gh 5)), (MH 6, aI (K 0) 1247 (gh 6)), (MH 7, aI (K 0) 1247 (gh 7))]) (isC := [0, 1]) (isR := [2, 3, 4, 5, 6, 7, 8, 9, 10]) ⟨rfl, rfl, rfl, rfl, by decide⟩ 11 0 rfl rfl rfl rfl ⟨Nat.le_of_ble_eq_true rfl, Nat.le_of_ble_eq_true rfl⟩ ⟨Nat.le_of_ble_eq_true rfl, Nat.le_of_ble_eq_true rfl⟩ (Nat.le_of_ble_eq_true rfl) hl.1 (cells9 := 0) (slots9 := 0) ⟨rfl, rfl⟩ dX11_setContext_4 (fun v u H locs hw_1 G => ?_)
  rcases hw_1 with ⟨rfl, hc_2, rfl⟩ | ⟨rfl, hc_3, rfl⟩
  · replace G := G.perm (ws' := [(m0, mO M xth xrm xsv xln xat xer xwr xwd xlo xhi xwl xml xkl xfi xse xdn xon xtw xol xrw xgl xus xpr xmk xab), (M 1, aI (K 0) 1247 g), (M 3, aR (K 7) 8 gH), (MH 0, aI (K 0) 1247 (gh 0)), (MH 1, aI (K 0) 1247 (gh 1)), (MH 2, aI (K 0) 1247 (gh 2)), (MH 3, aI (K 0) 1247 (gh 3)), (MH 4, aI (K 0) 1247 (gh 4)), (MH 5, aI (K 0) 1247 (gh 5)), (MH 6, aI (K 0) 1247 (gh 6)), (MH 7, aI (K 0) 1247 (gh 7))]) [9, 10, 0, 1, 2, 3, 4, 5, 6, 7, 8] rfl rfl
    refine W.eq (g2 := F0 m9 7 ls [.int (iI 1), .int (iI 1), .ref m0]) rfl ?_
    refine ad_if_ne (tgt := 14) F (by decide) dX11_setContext_7 (by decide) (fun _ => ?_) (fun cc_4 => absurd cc_4 (by decide))
    refine ad_iconst F dX11_setContext_14 ?_
    refine ad_callV (As := [.int (iI 1), .int (iI 0)]) (rest := []) F G (c_X11_fails_0 l D K z0 m0 M xth xrm xsv xln xat xer xwr xwd xlo xhi xwl xml xkl xfi xse xdn xon xtw xol xrw xgl xus xpr xmk xab 1 (by omega)) my_X11_fails mv_X11_111 (wr := [(M 1, aI (K 0) 1247 g), (M 3, aR (K 7) 8 gH), (MH 0, aI (K 0) 1247 (gh 0)), (MH 1, aI (K 0) 1247 (gh 1)), (MH 2, aI (K 0) 1247 (gh 2)), (MH 3, aI (K 0) 1247 (gh 3)), (MH 4, aI (K 0) 1247 (gh 4)), (MH 5, aI (K 0) 1247 (gh 5)), (MH 6, aI (K 0) 1247 (gh 6)), (MH 7, aI (K 0) 1247 (gh 7))]) (isC := [0]) (isR := [1, 2, 3, 4, 5, 6, 7, 8, 9, 10]) ⟨rfl, rfl, rfl, rfl, by decide⟩ 11 0 rfl rfl rfl rfl ⟨Nat.le_of_ble_eq_true rfl, Nat.le_of_ble_eq_true rfl⟩ ⟨Nat.le_of_ble_eq_true rfl, Nat.le_of_ble_eq_true rfl⟩ (Nat.le_of_ble_eq_true rfl) hl.1 (cells9 := 0) (slots9 := 0) ⟨rfl, rfl⟩ dX11_setContext_15 (fun v u H locs hw_5 G => ?_)
    obtain ⟨rfl, rfl⟩ := hw_5
    replace G := G.perm (ws' := [(m0, mO M 0 xrm xsv xln xat xer xwr xwd xlo xhi xwl xml xkl xfi xse xdn xon xtw xol xrw xgl xus xpr xmk xab), (M 1, aI (K 0) 1247 g), (M 3, aR (K 7) 8 gH), (MH 0, aI (K 0) 1247 (gh 0)), (MH 1, aI (K 0) 1247 (gh 1)), (MH 2, aI (K 0) 1247 (gh 2)), (MH 3, aI (K 0) 1247 (gh 3)), (MH 4, aI (K 0) 1247 (gh 4)), (MH 5, aI (K 0) 1247 (gh 5)), (MH 6, aI (K 0) 1247 (gh 6)), (MH 7, aI (K 0) 1247 (gh 7))]) [10, 0, 1, 2, 3, 4, 5, 6, 7, 8, 9] rfl rfl
    refine W.eq (g2 := F0 m9 18 ls [.int (iI 0)]) rfl ?_
    refine ad_if_ne (tgt := 43) F (by decide) dX11_setContext_18 (by decide) (fun cc_6 => absurd cc_6 (by decide)) (fun _ => ?_)
    refine lv_aload_n F.1 F.2.1 dX11_setContext_21 rfl (lv_at hl 0 rfl) ?_
    refine ad_iconst F dX11_setContext_22 ?_
    refine lv_iload_n F.1 F.2.1 dX11_setContext_23 rfl (lv_at hl 2 rfl) ?_
    refine ad_iconst F dX11_setContext_24 ?_
    refine ad_iconst F dX11_setContext_25 ?_
    refine ad_callS (As := [.int (iI v), .int (iI 0), .int (iI 4)]) (rest := [.int (iI 2), .ref m0]) F G (c_X11_isBetween l D K z0 v 0 4 hv (by omega) (by omega)) my_X11_isBetween ms_X11_107 (wr := [(m0, mO M 0 xrm xsv xln xat xer xwr xwd xlo xhi xwl xml xkl xfi xse xdn xon xtw xol xrw xgl xus xpr xmk xab), (M 1, aI (K 0) 1247 g), (M 3, aR (K 7) 8 gH), (MH 0, aI (K 0) 1247 (gh 0)), (MH 1, aI (K 0) 1247 (gh 1)), (MH 2, aI (K 0) 1247 (gh 2)), (MH 3, aI (K 0) 1247 (gh 3)), (MH 4, aI (K 0) 1247 (gh 4)), (MH 5, aI (K 0) 1247 (gh 5)), (MH 6, aI (K 0) 1247 (gh 6)), (MH 7, aI (K 0) 1247 (gh 7))]) (isC := []) (isR := [0, 1, 2, 3, 4, 5, 6, 7, 8, 9, 10]) ⟨rfl, rfl, rfl, rfl, by decide⟩ rfl rfl ⟨Nat.le_of_ble_eq_true rfl, Nat.le_of_ble_eq_true rfl⟩ ⟨Nat.le_of_ble_eq_true rfl, Nat.le_of_ble_eq_true rfl⟩ (Nat.le_of_ble_eq_true rfl) hl.1 (cells9 := 0) (slots9 := 0) ⟨rfl, rfl⟩ dX11_setContext_26 (fun v u H locs hw_7 G => ?_)
    rcases hw_7 with ⟨rfl, hc_8, rfl⟩ | ⟨rfl, hc_9, rfl⟩
    · replace G := G.perm (ws' := [(m0, mO M 0 xrm xsv xln xat xer xwr xwd xlo xhi xwl xml xkl xfi xse xdn xon xtw xol xrw xgl xus xpr xmk xab), (M 1, aI (K 0) 1247 g), (M 3, aR (K 7) 8 gH), (MH 0, aI (K 0) 1247 (gh 0)), (MH 1, aI (K 0) 1247 (gh 1)), (MH 2, aI (K 0) 1247 (gh 2)), (MH 3, aI (K 0) 1247 (gh 3)), (MH 4, aI (K 0) 1247 (gh 4)), (MH 5, aI (K 0) 1247 (gh 5)), (MH 6, aI (K 0) 1247 (gh 6)), (MH 7, aI (K 0) 1247 (gh 7))]) [0, 1, 2, 3, 4, 5, 6, 7, 8, 9, 10] rfl rfl
      refine W.eq (g2 := F0 m9 29 ls [.int (iI 1), .int (iI 2), .ref m0]) rfl ?_
      refine ad_if_ne (tgt := 36) F (by decide) dX11_setContext_29 (by decide) (fun _ => ?_) (fun cc_10 => absurd cc_10 (by decide))
      refine ad_iconst F dX11_setContext_36 ?_
      refine ad_callV (As := [.int (iI 2), .int (iI 0)]) (rest := []) F G (c_X11_fails_0 l D K z0 m0 M 0 xrm xsv xln xat xer xwr xwd xlo xhi xwl xml xkl xfi xse xdn xon xtw xol xrw xgl xus xpr xmk xab 2 (by omega)) my_X11_fails mv_X11_111 (wr := [(M 1, aI (K 0) 1247 g), (M 3, aR (K 7) 8 gH), (MH 0, aI (K 0) 1247 (gh 0)), (MH 1, aI (K 0) 1247 (gh 1)), (MH 2, aI (K 0) 1247 (gh 2)), (MH 3, aI (K 0) 1247 (gh 3)), (MH 4, aI (K 0) 1247 (gh 4)), (MH 5, aI (K 0) 1247 (gh 5)), (MH 6, aI (K 0) 1247 (gh 6)), (MH 7, aI (K 0) 1247 (gh 7))]) (isC := [0]) (isR := [1, 2, 3, 4, 5, 6, 7, 8, 9, 10]) ⟨rfl, rfl, rfl, rfl, by decide⟩ 11 0 rfl rfl rfl rfl ⟨Nat.le_of_ble_eq_true rfl, Nat.le_of_ble_eq_true rfl⟩ ⟨Nat.le_of_ble_eq_true rfl, Nat.le_of_ble_eq_true rfl⟩ (Nat.le_of_ble_eq_true rfl) hl.1 (cells9 := 0) (slots9 := 0) ⟨rfl, rfl⟩ dX11_setContext_37 (fun v u H locs hw_11 G => ?_)
      obtain ⟨rfl, rfl⟩ := hw_11
      replace G := G.perm (ws' := [(m0, mO M 0 xrm xsv xln xat xer xwr xwd xlo xhi xwl xml xkl xfi xse xdn xon xtw xol xrw xgl xus xpr xmk xab), (M 1, aI (K 0) 1247 g), (M 3, aR (K 7) 8 gH), (MH 0, aI (K 0) 1247 (gh 0)), (MH 1, aI (K 0) 1247 (gh 1)), (MH 2, aI (K 0) 1247 (gh 2)), (MH 3, aI (K 0) 1247 (gh 3)), (MH 4, aI (K 0) 1247 (gh 4)), (MH 5, aI (K 0) 1247 (gh 5)), (MH 6, aI (K 0) 1247 (gh 6)), (MH 7, aI (K 0) 1247 (gh 7))]) [10, 0, 1, 2, 3, 4, 5, 6, 7, 8, 9] rfl rfl
      refine W.eq (g2 := F0 m9 40 ls [.int (iI 0)]) rfl ?_
      refine ad_if_eq (tgt := 47) F (by decide) dX11_setContext_40 (by decide) (fun _ => ?_) (fun cc_12 => absurd cc_12 (by decide))
      refine lv_aload_n F.1 F.2.1 dX11_setContext_47 rfl (lv_at hl 0 rfl) ?_
      refine ad_iconst F dX11_setContext_48 ?_
      refine lv_iload_n F.1 F.2.1 dX11_setContext_49 rfl (lv_at hl 1 rfl) ?_
      refine ad_bipush F dX11_setContext_50 (by decide) ?_
      refine ad_imul F dX11_setContext_52 ?_
      refine ad_iadd F dX11_setContext_53 ?_
      refine ad_iconst F dX11_setContext_54 ?_
      refine ad_iadd F dX11_setContext_55 ?_
      refine lv_iload_n F.1 F.2.1 dX11_setContext_56 rfl (lv_at hl 2 rfl) ?_
      refine ad_callV (As := [.int (iI ((5 + (z * 23)) + 2)), .int (iI v)]) (rest := []) F G (c_X11_change_c l D K z0 m0 M 0 xrm xsv xln xat xer xwr xwd xlo xhi xwl xml xkl xfi xse xdn xon xtw xol xrw xgl xus xpr xmk xab g rs ps md th nc MH gH gh z v hM hW hH hrm hc_2) my_X11_change mv_X11_175 (wr := []) (isC := [0, 1, 2, 3, 4, 5, 6, 7, 8, 9, 10]) (isR := []) ⟨rfl, rfl, rfl, rfl, by decide⟩ 11 0 rfl rfl rfl rfl ⟨Nat.le_of_ble_eq_true rfl, Nat.le_of_ble_eq_true rfl⟩ ⟨Nat.le_of_ble_eq_true rfl, Nat.le_of_ble_eq_true rfl⟩ (Nat.le_of_ble_eq_true rfl) hl.1 (cells9 := 0) (slots9 := 0) ⟨rfl, rfl⟩ dX11_setContext_57 (fun v u H locs hw_13 G => ?_)
      obtain ⟨gh2_14, g2_15, rfl, hc_16, hc_17, rfl⟩ := hw_13
      replace G := G.perm (ws' := [(m0, mO M 0 (kpS xrm) xsv xln xat xer xwr xwd xlo xhi xwl xml xkl xfi xse xdn xon xtw xol xrw xgl xus xpr xmk xab), (M 1, aI (K 0) 1247 g2_15), (M 3, aR (K 7) 8 gH), (MH 0, aI (K 0) 1247 (gh2_14 0)), (MH 1, aI (K 0) 1247 (gh2_14 1)), (MH 2, aI (K 0) 1247 (gh2_14 2)), (MH 3, aI (K 0) 1247 (gh2_14 3)), (MH 4, aI (K 0) 1247 (gh2_14 4)), (MH 5, aI (K 0) 1247 (gh2_14 5)), (MH 6, aI (K 0) 1247 (gh2_14 6)), (MH 7, aI (K 0) 1247 (gh2_14 7))]) [0, 1, 2, 3, 4, 5, 6, 7, 8, 9, 10] rfl rfl
      refine W.eq (g2 := F0 m9 60 ls [.int (iI ((rget rs z).2.2.1))]) rfl ?_
      exact ad_ireturn F G hR rfl (Nat.le_of_ble_eq_true rfl) (Nat.le_of_ble_eq_true rfl) (Or.inr (Or.inr (⟨gh2_14, g2_15, rfl, hc_2, hc_8, hc_16, hc_17, rfl⟩))) dX11_setContext_60
    · replace G := G.perm (ws' := [(m0, mO M 0 xrm xsv xln xat xer xwr xwd xlo xhi xwl xml xkl xfi xse xdn xon xtw xol xrw xgl xus xpr xmk xab), (M 1, aI (K 0) 1247 g), (M 3, aR (K 7) 8 gH), (MH 0, aI (K 0) 1247 (gh 0)), (MH 1, aI (K 0) 1247 (gh 1)), (MH 2, aI (K 0) 1247 (gh 2)), (MH 3, aI (K 0) 1247 (gh 3)), (MH 4, aI (K 0) 1247 (gh 4)), (MH 5, aI (K 0) 1247 (gh 5)), (MH 6, aI (K 0) 1247 (gh 6)), (MH 7, aI (K 0) 1247 (gh 7))]) [0, 1, 2, 3, 4, 5, 6, 7, 8, 9, 10] rfl rfl
      refine W.eq (g2 := F0 m9 29 ls [.int (iI 0), .int (iI 2), .ref m0]) rfl ?_
      refine ad_if_ne (tgt := 36) F (by decide) dX11_setContext_29 (by decide) (fun cc_18 => absurd cc_18 (by decide)) (fun _ => ?_)
      refine ad_iconst F dX11_setContext_32 ?_
      refine lv_goto (tgt := 37) F.1 F.2.1 dX11_setContext_33 (by decide) ?_
      refine ad_callV (As := [.int (iI 2), .int (iI 1)]) (rest := []) F G (c_X11_fails_1 l D K z0 m0 M 0 xrm xsv xln xat xer xwr xwd xlo xhi xwl xml xkl xfi xse xdn xon xtw xol xrw xgl xus xpr xmk xab 2 (by omega)) my_X11_fails mv_X11_111 (wr := [(M 1, aI (K 0) 1247 g), (M 3, aR (K 7) 8 gH), (MH 0, aI (K 0) 1247 (gh 0)), (MH 1, aI (K 0) 1247 (gh 1)), (MH 2, aI (K 0) 1247 (gh 2)), (MH 3, aI (K 0) 1247 (gh 3)), (MH 4, aI (K 0) 1247 (gh 4)), (MH 5, aI (K 0) 1247 (gh 5)), (MH 6, aI (K 0) 1247 (gh 6)), (MH 7, aI (K 0) 1247 (gh 7))]) (isC := [0]) (isR := [1, 2, 3, 4, 5, 6, 7, 8, 9, 10]) ⟨rfl, rfl, rfl, rfl, by decide⟩ 11 0 rfl rfl rfl rfl ⟨Nat.le_of_ble_eq_true rfl, Nat.le_of_ble_eq_true rfl⟩ ⟨Nat.le_of_ble_eq_true rfl, Nat.le_of_ble_eq_true rfl⟩ (Nat.le_of_ble_eq_true rfl) hl.1 (cells9 := 0) (slots9 := 0) ⟨rfl, rfl⟩ dX11_setContext_37 (fun v u H locs hw_19 G => ?_)
      obtain ⟨rfl, rfl⟩ := hw_19
      replace G := G.perm (ws' := [(m0, mO M 2 xrm xsv xln xat xer xwr xwd xlo xhi xwl xml xkl xfi xse xdn xon xtw xol xrw xgl xus xpr xmk xab), (M 1, aI (K 0) 1247 g), (M 3, aR (K 7) 8 gH), (MH 0, aI (K 0) 1247 (gh 0)), (MH 1, aI (K 0) 1247 (gh 1)), (MH 2, aI (K 0) 1247 (gh 2)), (MH 3, aI (K 0) 1247 (gh 3)), (MH 4, aI (K 0) 1247 (gh 4)), (MH 5, aI (K 0) 1247 (gh 5)), (MH 6, aI (K 0) 1247 (gh 6)), (MH 7, aI (K 0) 1247 (gh 7))]) [10, 0, 1, 2, 3, 4, 5, 6, 7, 8, 9] rfl rfl
      refine W.eq (g2 := F0 m9 40 ls [.int (iI 1)]) rfl ?_
      refine ad_if_eq (tgt := 47) F (by decide) dX11_setContext_40 (by decide) (fun cc_20 => absurd cc_20 (by decide)) (fun _ => ?_)
      refine ad_iconst F dX11_setContext_43 ?_
      refine lv_goto (tgt := 60) F.1 F.2.1 dX11_setContext_44 (by decide) ?_
      exact ad_ireturn F G hR rfl (Nat.le_of_ble_eq_true rfl) (Nat.le_of_ble_eq_true rfl) (Or.inr (Or.inl ⟨rfl, hc_2, hc_9, rfl⟩)) dX11_setContext_60
  · replace G := G.perm (ws' := [(m0, mO M xth xrm xsv xln xat xer xwr xwd xlo xhi xwl xml xkl xfi xse xdn xon xtw xol xrw xgl xus xpr xmk xab), (M 1, aI (K 0) 1247 g), (M 3, aR (K 7) 8 gH), (MH 0, aI (K 0) 1247 (gh 0)), (MH 1, aI (K 0) 1247 (gh 1)), (MH 2, aI (K 0) 1247 (gh 2)), (MH 3, aI (K 0) 1247 (gh 3)), (MH 4, aI (K 0) 1247 (gh 4)), (MH 5, aI (K 0) 1247 (gh 5)), (MH 6, aI (K 0) 1247 (gh 6)), (MH 7, aI (K 0) 1247 (gh 7))]) [9, 10, 0, 1, 2, 3, 4, 5, 6, 7, 8] rfl rfl
    refine W.eq (g2 := F0 m9 7 ls [.int (iI 0), .int (iI 1), .ref m0]) rfl ?_
    refine ad_if_ne (tgt := 14) F (by decide) dX11_setContext_7 (by decide) (fun cc_21 => absurd cc_21 (by decide)) (fun _ => ?_)
    refine ad_iconst F dX11_setContext_10 ?_
    refine lv_goto (tgt := 15) F.1 F.2.1 dX11_setContext_11 (by decide) ?_
    refine ad_callV (As := [.int (iI 1), .int (iI 1)]) (rest := []) F G (c_X11_fails_1 l D K z0 m0 M xth xrm xsv xln xat xer xwr xwd xlo xhi xwl xml xkl xfi xse xdn xon xtw xol xrw xgl xus xpr xmk xab 1 (by omega)) my_X11_fails mv_X11_111 (wr := [(M 1, aI (K 0) 1247 g), (M 3, aR (K 7) 8 gH), (MH 0, aI (K 0) 1247 (gh 0)), (MH 1, aI (K 0) 1247 (gh 1)), (MH 2, aI (K 0) 1247 (gh 2)), (MH 3, aI (K 0) 1247 (gh 3)), (MH 4, aI (K 0) 1247 (gh 4)), (MH 5, aI (K 0) 1247 (gh 5)), (MH 6, aI (K 0) 1247 (gh 6)), (MH 7, aI (K 0) 1247 (gh 7))]) (isC := [0]) (isR := [1, 2, 3, 4, 5, 6, 7, 8, 9, 10]) ⟨rfl, rfl, rfl, rfl, by decide⟩ 11 0 rfl rfl rfl rfl ⟨Nat.le_of_ble_eq_true rfl, Nat.le_of_ble_eq_true rfl⟩ ⟨Nat.le_of_ble_eq_true rfl, Nat.le_of_ble_eq_true rfl⟩ (Nat.le_of_ble_eq_true rfl) hl.1 (cells9 := 0) (slots9 := 0) ⟨rfl, rfl⟩ dX11_setContext_15 (fun v u H locs hw_22 G => ?_)
    obtain ⟨rfl, rfl⟩ := hw_22
    replace G := G.perm (ws' := [(m0, mO M 1 xrm xsv xln xat xer xwr xwd xlo xhi xwl xml xkl xfi xse xdn xon xtw xol xrw xgl xus xpr xmk xab), (M 1, aI (K 0) 1247 g), (M 3, aR (K 7) 8 gH), (MH 0, aI (K 0) 1247 (gh 0)), (MH 1, aI (K 0) 1247 (gh 1)), (MH 2, aI (K 0) 1247 (gh 2)), (MH 3, aI (K 0) 1247 (gh 3)), (MH 4, aI (K 0) 1247 (gh 4)), (MH 5, aI (K 0) 1247 (gh 5)), (MH 6, aI (K 0) 1247 (gh 6)), (MH 7, aI (K 0) 1247 (gh 7))]) [10, 0, 1, 2, 3, 4, 5, 6, 7, 8, 9] rfl rfl
    refine W.eq (g2 := F0 m9 18 ls [.int (iI 1)]) rfl ?_
    refine ad_if_ne (tgt := 43) F (by decide) dX11_setContext_18 (by decide) (fun _ => ?_) (fun cc_23 => absurd cc_23 (by decide))
    refine ad_iconst F dX11_setContext_43 ?_
    refine lv_goto (tgt := 60) F.1 F.2.1 dX11_setContext_44 (by decide) ?_
    exact ad_ireturn F G hR rfl (Nat.le_of_ble_eq_true rfl) (Nat.le_of_ble_eq_true rfl) (Or.inl ⟨rfl, hc_3, rfl⟩) dX11_setContext_60

def rm_X11_setMode : Room := { frames := 4, cells := 0, slots := 0, locals := 78 }
set_option maxHeartbeats 4000000 in
set_option maxRecDepth 100000 in
theorem c_X11_setMode (l : Launch) (D : va_G) (K : Nat → ClassId) (z0 : Nat) (m0 : Nat) (M : Nat → Nat) (xth : Int) (xrm : Int) (xsv : Int) (xln : Int) (xat : Int) (xer : Int) (xwr : Int) (xwd : Int) (xlo : Int) (xhi : Int) (xwl : Int) (xml : Int) (xkl : Int) (xfi : Int) (xse : Int) (xdn : Int) (xon : Int) (xtw : Int) (xol : Int) (xrw : Int) (xgl : Int) (xus : Int) (xpr : Int) (xmk : Int) (xab : Int) (g : Nat → Int) (rs : List Rl) (ps : List Pr) (md : Int) (th : Int) (nc : Int) (MH : Nat → Nat) (gH : Nat → Option Nat) (gh : Nat → Nat → Int) (v : Int) (hM : MRow g rs ps md th nc) (hW : RW rs) (hH : ∀ j : Nat, j < 8 → gH j = some (MH j)) (hrm : 0 ≤ xrm ∧ xrm ≤ 8) (hv : -2147483648 ≤ v ∧ v < 2147483648) : CT l D K z0 yX11_setMode cX11_setMode 2 (some .int) rm_X11_setMode [.ref m0, .int (iI v)] [(m0, mO M xth xrm xsv xln xat xer xwr xwd xlo xhi xwl xml xkl xfi xse xdn xon xtw xol xrw xgl xus xpr xmk xab), (M 1, aI (K 0) 1247 g), (M 3, aR (K 7) 8 gH), (MH 0, aI (K 0) 1247 (gh 0)), (MH 1, aI (K 0) 1247 (gh 1)), (MH 2, aI (K 0) 1247 (gh 2)), (MH 3, aI (K 0) 1247 (gh 3)), (MH 4, aI (K 0) 1247 (gh 4)), (MH 5, aI (K 0) 1247 (gh 5)), (MH 6, aI (K 0) 1247 (gh 6)), (MH 7, aI (K 0) 1247 (gh 7))] (fun v9 u9 => (v9 = some (.int (iI 0)) ∧ (¬ (v = 0 ∨ v = 1)) ∧ u9 = [(m0, mO M 1 xrm xsv xln xat xer xwr xwd xlo xhi xwl xml xkl xfi xse xdn xon xtw xol xrw xgl xus xpr xmk xab), (M 1, aI (K 0) 1247 g), (M 3, aR (K 7) 8 gH), (MH 0, aI (K 0) 1247 (gh 0)), (MH 1, aI (K 0) 1247 (gh 1)), (MH 2, aI (K 0) 1247 (gh 2)), (MH 3, aI (K 0) 1247 (gh 3)), (MH 4, aI (K 0) 1247 (gh 4)), (MH 5, aI (K 0) 1247 (gh 5)), (MH 6, aI (K 0) 1247 (gh 6)), (MH 7, aI (K 0) 1247 (gh 7))]) ∨ (∃ (gh2 : Nat → Nat → Int), ∃ (g2 : Nat → Int), v9 = some (.int (iI md)) ∧ (v = 0 ∨ v = 1) ∧ (RmH g gh gh2 xrm) ∧ (MRow g2 rs ps v th (nc + 1)) ∧ u9 = [(m0, mO M 0 (kpS xrm) xsv xln xat xer xwr xwd xlo xhi xwl xml xkl xfi xse xdn xon xtw xol xrw xgl xus xpr xmk xab), (M 1, aI (K 0) 1247 g2), (M 3, aR (K 7) 8 gH), (MH 0, aI (K 0) 1247 (gh2 0)), (MH 1, aI (K 0) 1247 (gh2 1)), (MH 2, aI (K 0) 1247 (gh2 2)), (MH 3, aI (K 0) 1247 (gh2 3)), (MH 4, aI (K 0) 1247 (gh2 4)), (MH 5, aI (K 0) 1247 (gh2 5)), (MH 6, aI (K 0) 1247 (gh2 6)), (MH 7, aI (K 0) 1247 (gh2 7))])) := by
  refine CT.start RX11 "setMode" (by decide) rfl rfl (Nat.le_of_ble_eq_true rfl) ?_
  intro p9 e9 s9 m9 ag9 bl9 mt9 c9 A9 Q9 ls F G hR hl
  have hl : lv_has ls 2 [(0, .ref m0), (1, .int (iI v))] := hl
  have hn := hW.1
  refine lv_aload_n F.1 F.2.1 dX11_setMode_0 rfl (lv_at hl 0 rfl) ?_
  refine ad_iconst F dX11_setMode_1 ?_
  refine lv_iload_n F.1 F.2.1 dX11_setMode_2 rfl (lv_at hl 1 rfl) ?_
  refine ad_iconst F dX11_setMode_3 ?_
  refine ad_iconst F dX11_setMode_4 ?_
  refine ad_callS (As := [.int (iI v), .int (iI 0), .int (iI 1)]) (rest := [.int (iI 1), .ref m0]) F G (c_X11_isBetween l D K z0 v 0 1 hv (by omega) (by omega)) my_X11_isBetween ms_X11_107 (wr := [(m0, mO M xth xrm xsv xln xat xer xwr xwd xlo xhi xwl xml xkl xfi xse xdn xon xtw xol xrw xgl xus xpr xmk xab), (M 1, aI (K 0) 1247 g), (M 3, aR (K 7) 8 gH), (MH 0, aI (K 0) 1247 (gh 0)), (MH 1, aI (K 0) 1247 (gh 1)), (MH 2, aI (K 0) 1247 (gh 2)), (MH 3, aI (K 0) 1247 (gh 3)), (MH 4, aI (K 0) 1247 (gh 4)), (MH 5, aI (K 0) 1247 (gh 5)), (MH 6, aI (K 0) 1247 (gh 6)), (MH 7, aI (K 0) 1247 (gh 7))]) (isC := []) (isR := [0, 1, 2, 3, 4, 5, 6, 7, 8, 9, 10]) ⟨rfl, rfl, rfl, rfl, by decide⟩ rfl rfl ⟨Nat.le_of_ble_eq_true rfl, Nat.le_of_ble_eq_true rfl⟩ ⟨Nat.le_of_ble_eq_true rfl, Nat.le_of_ble_eq_true rfl⟩ (Nat.le_of_ble_eq_true rfl) hl.1 (cells9 := 0) (slots9 := 0) ⟨rfl, rfl⟩ dX11_setMode_5 (fun v u H locs hw_1 G => ?_)
  rcases hw_1 with ⟨rfl, hc_2, rfl⟩ | ⟨rfl, hc_3, rfl⟩
  · replace G := G.perm (ws' := [(m0, mO M xth xrm xsv xln xat xer xwr xwd xlo xhi xwl xml xkl xfi xse xdn xon xtw xol xrw xgl xus xpr xmk xab), (M 1, aI (K 0) 1247 g), (M 3, aR (K 7) 8 gH), (MH 0, aI (K 0) 1247 (gh 0)), (MH 1, aI (K 0) 1247 (gh 1)), (MH 2, aI (K 0) 1247 (gh 2)), (MH 3, aI (K 0) 1247 (gh 3)), (MH 4, aI (K 0) 1247 (gh 4)), (MH 5, aI (K 0) 1247 (gh 5)), (MH 6, aI (K 0) 1247 (gh 6)), (MH 7, aI (K 0) 1247 (gh 7))]) [0, 1, 2, 3, 4, 5, 6, 7, 8, 9, 10] rfl rfl
    refine W.eq (g2 := F0 m9 8 ls [.int (iI 1), .int (iI 1), .ref m0]) rfl ?_
    refine ad_if_ne (tgt := 15) F (by decide) dX11_setMode_8 (by decide) (fun _ => ?_) (fun cc_4 => absurd cc_4 (by decide))
    refine ad_iconst F dX11_setMode_15 ?_
    refine ad_callV (As := [.int (iI 1), .int (iI 0)]) (rest := []) F G (c_X11_fails_0 l D K z0 m0 M xth xrm xsv xln xat xer xwr xwd xlo xhi xwl xml xkl xfi xse xdn xon xtw xol xrw xgl xus xpr xmk xab 1 (by omega)) my_X11_fails mv_X11_111 (wr := [(M 1, aI (K 0) 1247 g), (M 3, aR (K 7) 8 gH), (MH 0, aI (K 0) 1247 (gh 0)), (MH 1, aI (K 0) 1247 (gh 1)), (MH 2, aI (K 0) 1247 (gh 2)), (MH 3, aI (K 0) 1247 (gh 3)), (MH 4, aI (K 0) 1247 (gh 4)), (MH 5, aI (K 0) 1247 (gh 5)), (MH 6, aI (K 0) 1247 (gh 6)), (MH 7, aI (K 0) 1247 (gh 7))]) (isC := [0]) (isR := [1, 2, 3, 4, 5, 6, 7, 8, 9, 10]) ⟨rfl, rfl, rfl, rfl, by decide⟩ 11 0 rfl rfl rfl rfl ⟨Nat.le_of_ble_eq_true rfl, Nat.le_of_ble_eq_true rfl⟩ ⟨Nat.le_of_ble_eq_true rfl, Nat.le_of_ble_eq_true rfl⟩ (Nat.le_of_ble_eq_true rfl) hl.1 (cells9 := 0) (slots9 := 0) ⟨rfl, rfl⟩ dX11_setMode_16 (fun v u H locs hw_5 G => ?_)
    obtain ⟨rfl, rfl⟩ := hw_5
    replace G := G.perm (ws' := [(m0, mO M 0 xrm xsv xln xat xer xwr xwd xlo xhi xwl xml xkl xfi xse xdn xon xtw xol xrw xgl xus xpr xmk xab), (M 1, aI (K 0) 1247 g), (M 3, aR (K 7) 8 gH), (MH 0, aI (K 0) 1247 (gh 0)), (MH 1, aI (K 0) 1247 (gh 1)), (MH 2, aI (K 0) 1247 (gh 2)), (MH 3, aI (K 0) 1247 (gh 3)), (MH 4, aI (K 0) 1247 (gh 4)), (MH 5, aI (K 0) 1247 (gh 5)), (MH 6, aI (K 0) 1247 (gh 6)), (MH 7, aI (K 0) 1247 (gh 7))]) [10, 0, 1, 2, 3, 4, 5, 6, 7, 8, 9] rfl rfl
    refine W.eq (g2 := F0 m9 19 ls [.int (iI 0)]) rfl ?_
    refine ad_if_eq (tgt := 26) F (by decide) dX11_setMode_19 (by decide) (fun _ => ?_) (fun cc_6 => absurd cc_6 (by decide))
    refine lv_aload_n F.1 F.2.1 dX11_setMode_26 rfl (lv_at hl 0 rfl) ?_
    refine ad_iconst F dX11_setMode_27 ?_
    refine lv_iload_n F.1 F.2.1 dX11_setMode_28 rfl (lv_at hl 1 rfl) ?_
    refine ad_callV (As := [.int (iI 2), .int (iI v)]) (rest := []) F G (c_X11_change_m l D K z0 m0 M 0 xrm xsv xln xat xer xwr xwd xlo xhi xwl xml xkl xfi xse xdn xon xtw xol xrw xgl xus xpr xmk xab g rs ps md th nc MH gH gh v hM hW hH hrm) my_X11_change mv_X11_175 (wr := []) (isC := [0, 1, 2, 3, 4, 5, 6, 7, 8, 9, 10]) (isR := []) ⟨rfl, rfl, rfl, rfl, by decide⟩ 11 0 rfl rfl rfl rfl ⟨Nat.le_of_ble_eq_true rfl, Nat.le_of_ble_eq_true rfl⟩ ⟨Nat.le_of_ble_eq_true rfl, Nat.le_of_ble_eq_true rfl⟩ (Nat.le_of_ble_eq_true rfl) hl.1 (cells9 := 0) (slots9 := 0) ⟨rfl, rfl⟩ dX11_setMode_29 (fun v u H locs hw_7 G => ?_)
    obtain ⟨gh2_8, g2_9, rfl, hc_10, hc_11, rfl⟩ := hw_7
    replace G := G.perm (ws' := [(m0, mO M 0 (kpS xrm) xsv xln xat xer xwr xwd xlo xhi xwl xml xkl xfi xse xdn xon xtw xol xrw xgl xus xpr xmk xab), (M 1, aI (K 0) 1247 g2_9), (M 3, aR (K 7) 8 gH), (MH 0, aI (K 0) 1247 (gh2_8 0)), (MH 1, aI (K 0) 1247 (gh2_8 1)), (MH 2, aI (K 0) 1247 (gh2_8 2)), (MH 3, aI (K 0) 1247 (gh2_8 3)), (MH 4, aI (K 0) 1247 (gh2_8 4)), (MH 5, aI (K 0) 1247 (gh2_8 5)), (MH 6, aI (K 0) 1247 (gh2_8 6)), (MH 7, aI (K 0) 1247 (gh2_8 7))]) [0, 1, 2, 3, 4, 5, 6, 7, 8, 9, 10] rfl rfl
    refine W.eq (g2 := F0 m9 32 ls [.int (iI md)]) rfl ?_
    exact ad_ireturn F G hR rfl (Nat.le_of_ble_eq_true rfl) (Nat.le_of_ble_eq_true rfl) (Or.inr (⟨gh2_8, g2_9, rfl, (by omega), hc_10, hc_11, rfl⟩)) dX11_setMode_32
  · replace G := G.perm (ws' := [(m0, mO M xth xrm xsv xln xat xer xwr xwd xlo xhi xwl xml xkl xfi xse xdn xon xtw xol xrw xgl xus xpr xmk xab), (M 1, aI (K 0) 1247 g), (M 3, aR (K 7) 8 gH), (MH 0, aI (K 0) 1247 (gh 0)), (MH 1, aI (K 0) 1247 (gh 1)), (MH 2, aI (K 0) 1247 (gh 2)), (MH 3, aI (K 0) 1247 (gh 3)), (MH 4, aI (K 0) 1247 (gh 4)), (MH 5, aI (K 0) 1247 (gh 5)), (MH 6, aI (K 0) 1247 (gh 6)), (MH 7, aI (K 0) 1247 (gh 7))]) [0, 1, 2, 3, 4, 5, 6, 7, 8, 9, 10] rfl rfl
    refine W.eq (g2 := F0 m9 8 ls [.int (iI 0), .int (iI 1), .ref m0]) rfl ?_
    refine ad_if_ne (tgt := 15) F (by decide) dX11_setMode_8 (by decide) (fun cc_12 => absurd cc_12 (by decide)) (fun _ => ?_)
    refine ad_iconst F dX11_setMode_11 ?_
    refine lv_goto (tgt := 16) F.1 F.2.1 dX11_setMode_12 (by decide) ?_
    refine ad_callV (As := [.int (iI 1), .int (iI 1)]) (rest := []) F G (c_X11_fails_1 l D K z0 m0 M xth xrm xsv xln xat xer xwr xwd xlo xhi xwl xml xkl xfi xse xdn xon xtw xol xrw xgl xus xpr xmk xab 1 (by omega)) my_X11_fails mv_X11_111 (wr := [(M 1, aI (K 0) 1247 g), (M 3, aR (K 7) 8 gH), (MH 0, aI (K 0) 1247 (gh 0)), (MH 1, aI (K 0) 1247 (gh 1)), (MH 2, aI (K 0) 1247 (gh 2)), (MH 3, aI (K 0) 1247 (gh 3)), (MH 4, aI (K 0) 1247 (gh 4)), (MH 5, aI (K 0) 1247 (gh 5)), (MH 6, aI (K 0) 1247 (gh 6)), (MH 7, aI (K 0) 1247 (gh 7))]) (isC := [0]) (isR := [1, 2, 3, 4, 5, 6, 7, 8, 9, 10]) ⟨rfl, rfl, rfl, rfl, by decide⟩ 11 0 rfl rfl rfl rfl ⟨Nat.le_of_ble_eq_true rfl, Nat.le_of_ble_eq_true rfl⟩ ⟨Nat.le_of_ble_eq_true rfl, Nat.le_of_ble_eq_true rfl⟩ (Nat.le_of_ble_eq_true rfl) hl.1 (cells9 := 0) (slots9 := 0) ⟨rfl, rfl⟩ dX11_setMode_16 (fun v u H locs hw_13 G => ?_)
    obtain ⟨rfl, rfl⟩ := hw_13
    replace G := G.perm (ws' := [(m0, mO M 1 xrm xsv xln xat xer xwr xwd xlo xhi xwl xml xkl xfi xse xdn xon xtw xol xrw xgl xus xpr xmk xab), (M 1, aI (K 0) 1247 g), (M 3, aR (K 7) 8 gH), (MH 0, aI (K 0) 1247 (gh 0)), (MH 1, aI (K 0) 1247 (gh 1)), (MH 2, aI (K 0) 1247 (gh 2)), (MH 3, aI (K 0) 1247 (gh 3)), (MH 4, aI (K 0) 1247 (gh 4)), (MH 5, aI (K 0) 1247 (gh 5)), (MH 6, aI (K 0) 1247 (gh 6)), (MH 7, aI (K 0) 1247 (gh 7))]) [10, 0, 1, 2, 3, 4, 5, 6, 7, 8, 9] rfl rfl
    refine W.eq (g2 := F0 m9 19 ls [.int (iI 1)]) rfl ?_
    refine ad_if_eq (tgt := 26) F (by decide) dX11_setMode_19 (by decide) (fun cc_14 => absurd cc_14 (by decide)) (fun _ => ?_)
    refine ad_iconst F dX11_setMode_22 ?_
    refine lv_goto (tgt := 32) F.1 F.2.1 dX11_setMode_23 (by decide) ?_
    exact ad_ireturn F G hR rfl (Nat.le_of_ble_eq_true rfl) (Nat.le_of_ble_eq_true rfl) (Or.inl ⟨rfl, (by omega), rfl⟩) dX11_setMode_32

def rm_X11_setThreshold : Room := { frames := 4, cells := 0, slots := 0, locals := 78 }
set_option maxHeartbeats 4000000 in
set_option maxRecDepth 100000 in
theorem c_X11_setThreshold (l : Launch) (D : va_G) (K : Nat → ClassId) (z0 : Nat) (m0 : Nat) (M : Nat → Nat) (xth : Int) (xrm : Int) (xsv : Int) (xln : Int) (xat : Int) (xer : Int) (xwr : Int) (xwd : Int) (xlo : Int) (xhi : Int) (xwl : Int) (xml : Int) (xkl : Int) (xfi : Int) (xse : Int) (xdn : Int) (xon : Int) (xtw : Int) (xol : Int) (xrw : Int) (xgl : Int) (xus : Int) (xpr : Int) (xmk : Int) (xab : Int) (g : Nat → Int) (rs : List Rl) (ps : List Pr) (md : Int) (th : Int) (nc : Int) (MH : Nat → Nat) (gH : Nat → Option Nat) (gh : Nat → Nat → Int) (v : Int) (hM : MRow g rs ps md th nc) (hW : RW rs) (hH : ∀ j : Nat, j < 8 → gH j = some (MH j)) (hrm : 0 ≤ xrm ∧ xrm ≤ 8) (hv : -2147483648 ≤ v ∧ v < 2147483648) : CT l D K z0 yX11_setThreshold cX11_setThreshold 2 (some .int) rm_X11_setThreshold [.ref m0, .int (iI v)] [(m0, mO M xth xrm xsv xln xat xer xwr xwd xlo xhi xwl xml xkl xfi xse xdn xon xtw xol xrw xgl xus xpr xmk xab), (M 1, aI (K 0) 1247 g), (M 3, aR (K 7) 8 gH), (MH 0, aI (K 0) 1247 (gh 0)), (MH 1, aI (K 0) 1247 (gh 1)), (MH 2, aI (K 0) 1247 (gh 2)), (MH 3, aI (K 0) 1247 (gh 3)), (MH 4, aI (K 0) 1247 (gh 4)), (MH 5, aI (K 0) 1247 (gh 5)), (MH 6, aI (K 0) 1247 (gh 6)), (MH 7, aI (K 0) 1247 (gh 7))] (fun v9 u9 => (v9 = some (.int (iI 0)) ∧ (¬ (1 ≤ v ∧ v ≤ 9)) ∧ u9 = [(m0, mO M 1 xrm xsv xln xat xer xwr xwd xlo xhi xwl xml xkl xfi xse xdn xon xtw xol xrw xgl xus xpr xmk xab), (M 1, aI (K 0) 1247 g), (M 3, aR (K 7) 8 gH), (MH 0, aI (K 0) 1247 (gh 0)), (MH 1, aI (K 0) 1247 (gh 1)), (MH 2, aI (K 0) 1247 (gh 2)), (MH 3, aI (K 0) 1247 (gh 3)), (MH 4, aI (K 0) 1247 (gh 4)), (MH 5, aI (K 0) 1247 (gh 5)), (MH 6, aI (K 0) 1247 (gh 6)), (MH 7, aI (K 0) 1247 (gh 7))]) ∨ (∃ (gh2 : Nat → Nat → Int), ∃ (g2 : Nat → Int), v9 = some (.int (iI th)) ∧ (1 ≤ v ∧ v ≤ 9) ∧ (RmH g gh gh2 xrm) ∧ (MRow g2 rs ps md v (nc + 1)) ∧ u9 = [(m0, mO M 0 (kpS xrm) xsv xln xat xer xwr xwd xlo xhi xwl xml xkl xfi xse xdn xon xtw xol xrw xgl xus xpr xmk xab), (M 1, aI (K 0) 1247 g2), (M 3, aR (K 7) 8 gH), (MH 0, aI (K 0) 1247 (gh2 0)), (MH 1, aI (K 0) 1247 (gh2 1)), (MH 2, aI (K 0) 1247 (gh2 2)), (MH 3, aI (K 0) 1247 (gh2 3)), (MH 4, aI (K 0) 1247 (gh2 4)), (MH 5, aI (K 0) 1247 (gh2 5)), (MH 6, aI (K 0) 1247 (gh2 6)), (MH 7, aI (K 0) 1247 (gh2 7))])) := by
  refine CT.start RX11 "setThreshold" (by decide) rfl rfl (Nat.le_of_ble_eq_true rfl) ?_
  intro p9 e9 s9 m9 ag9 bl9 mt9 c9 A9 Q9 ls F G hR hl
  have hl : lv_has ls 2 [(0, .ref m0), (1, .int (iI v))] := hl
  have hn := hW.1
  refine lv_aload_n F.1 F.2.1 dX11_setThreshold_0 rfl (lv_at hl 0 rfl) ?_
  refine ad_iconst F dX11_setThreshold_1 ?_
  refine lv_iload_n F.1 F.2.1 dX11_setThreshold_2 rfl (lv_at hl 1 rfl) ?_
  refine ad_iconst F dX11_setThreshold_3 ?_
  refine ad_bipush F dX11_setThreshold_4 (by decide) ?_
  refine ad_callS (As := [.int (iI v), .int (iI 1), .int (iI 9)]) (rest := [.int (iI 1), .ref m0]) F G (c_X11_isBetween l D K z0 v 1 9 hv (by omega) (by omega)) my_X11_isBetween ms_X11_107 (wr := [(m0, mO M xth xrm xsv xln xat xer xwr xwd xlo xhi xwl xml xkl xfi xse xdn xon xtw xol xrw xgl xus xpr xmk xab), (M 1, aI (K 0) 1247 g), (M 3, aR (K 7) 8 gH), (MH 0, aI (K 0) 1247 (gh 0)), (MH 1, aI (K 0) 1247 (gh 1)), (MH 2, aI (K 0) 1247 (gh 2)), (MH 3, aI (K 0) 1247 (gh 3)), (MH 4, aI (K 0) 1247 (gh 4)), (MH 5, aI (K 0) 1247 (gh 5)), (MH 6, aI (K 0) 1247 (gh 6)), (MH 7, aI (K 0) 1247 (gh 7))]) (isC := []) (isR := [0, 1, 2, 3, 4, 5, 6, 7, 8, 9, 10]) ⟨rfl, rfl, rfl, rfl, by decide⟩ rfl rfl ⟨Nat.le_of_ble_eq_true rfl, Nat.le_of_ble_eq_true rfl⟩ ⟨Nat.le_of_ble_eq_true rfl, Nat.le_of_ble_eq_true rfl⟩ (Nat.le_of_ble_eq_true rfl) hl.1 (cells9 := 0) (slots9 := 0) ⟨rfl, rfl⟩ dX11_setThreshold_6 (fun v u H locs hw_1 G => ?_)
  rcases hw_1 with ⟨rfl, hc_2, rfl⟩ | ⟨rfl, hc_3, rfl⟩
  · replace G := G.perm (ws' := [(m0, mO M xth xrm xsv xln xat xer xwr xwd xlo xhi xwl xml xkl xfi xse xdn xon xtw xol xrw xgl xus xpr xmk xab), (M 1, aI (K 0) 1247 g), (M 3, aR (K 7) 8 gH), (MH 0, aI (K 0) 1247 (gh 0)), (MH 1, aI (K 0) 1247 (gh 1)), (MH 2, aI (K 0) 1247 (gh 2)), (MH 3, aI (K 0) 1247 (gh 3)), (MH 4, aI (K 0) 1247 (gh 4)), (MH 5, aI (K 0) 1247 (gh 5)), (MH 6, aI (K 0) 1247 (gh 6)), (MH 7, aI (K 0) 1247 (gh 7))]) [0, 1, 2, 3, 4, 5, 6, 7, 8, 9, 10] rfl rfl
    refine W.eq (g2 := F0 m9 9 ls [.int (iI 1), .int (iI 1), .ref m0]) rfl ?_
    refine ad_if_ne (tgt := 16) F (by decide) dX11_setThreshold_9 (by decide) (fun _ => ?_) (fun cc_4 => absurd cc_4 (by decide))
    refine ad_iconst F dX11_setThreshold_16 ?_
    refine ad_callV (As := [.int (iI 1), .int (iI 0)]) (rest := []) F G (c_X11_fails_0 l D K z0 m0 M xth xrm xsv xln xat xer xwr xwd xlo xhi xwl xml xkl xfi xse xdn xon xtw xol xrw xgl xus xpr xmk xab 1 (by omega)) my_X11_fails mv_X11_111 (wr := [(M 1, aI (K 0) 1247 g), (M 3, aR (K 7) 8 gH), (MH 0, aI (K 0) 1247 (gh 0)), (MH 1, aI (K 0) 1247 (gh 1)), (MH 2, aI (K 0) 1247 (gh 2)), (MH 3, aI (K 0) 1247 (gh 3)), (MH 4, aI (K 0) 1247 (gh 4)), (MH 5, aI (K 0) 1247 (gh 5)), (MH 6, aI (K 0) 1247 (gh 6)), (MH 7, aI (K 0) 1247 (gh 7))]) (isC := [0]) (isR := [1, 2, 3, 4, 5, 6, 7, 8, 9, 10]) ⟨rfl, rfl, rfl, rfl, by decide⟩ 11 0 rfl rfl rfl rfl ⟨Nat.le_of_ble_eq_true rfl, Nat.le_of_ble_eq_true rfl⟩ ⟨Nat.le_of_ble_eq_true rfl, Nat.le_of_ble_eq_true rfl⟩ (Nat.le_of_ble_eq_true rfl) hl.1 (cells9 := 0) (slots9 := 0) ⟨rfl, rfl⟩ dX11_setThreshold_17 (fun v u H locs hw_5 G => ?_)
    obtain ⟨rfl, rfl⟩ := hw_5
    replace G := G.perm (ws' := [(m0, mO M 0 xrm xsv xln xat xer xwr xwd xlo xhi xwl xml xkl xfi xse xdn xon xtw xol xrw xgl xus xpr xmk xab), (M 1, aI (K 0) 1247 g), (M 3, aR (K 7) 8 gH), (MH 0, aI (K 0) 1247 (gh 0)), (MH 1, aI (K 0) 1247 (gh 1)), (MH 2, aI (K 0) 1247 (gh 2)), (MH 3, aI (K 0) 1247 (gh 3)), (MH 4, aI (K 0) 1247 (gh 4)), (MH 5, aI (K 0) 1247 (gh 5)), (MH 6, aI (K 0) 1247 (gh 6)), (MH 7, aI (K 0) 1247 (gh 7))]) [10, 0, 1, 2, 3, 4, 5, 6, 7, 8, 9] rfl rfl
    refine W.eq (g2 := F0 m9 20 ls [.int (iI 0)]) rfl ?_
    refine ad_if_eq (tgt := 27) F (by decide) dX11_setThreshold_20 (by decide) (fun _ => ?_) (fun cc_6 => absurd cc_6 (by decide))
    refine lv_aload_n F.1 F.2.1 dX11_setThreshold_27 rfl (lv_at hl 0 rfl) ?_
    refine ad_iconst F dX11_setThreshold_28 ?_
    refine lv_iload_n F.1 F.2.1 dX11_setThreshold_29 rfl (lv_at hl 1 rfl) ?_
    refine ad_callV (As := [.int (iI 3), .int (iI v)]) (rest := []) F G (c_X11_change_t l D K z0 m0 M 0 xrm xsv xln xat xer xwr xwd xlo xhi xwl xml xkl xfi xse xdn xon xtw xol xrw xgl xus xpr xmk xab g rs ps md th nc MH gH gh v hM hW hH hrm) my_X11_change mv_X11_175 (wr := []) (isC := [0, 1, 2, 3, 4, 5, 6, 7, 8, 9, 10]) (isR := []) ⟨rfl, rfl, rfl, rfl, by decide⟩ 11 0 rfl rfl rfl rfl ⟨Nat.le_of_ble_eq_true rfl, Nat.le_of_ble_eq_true rfl⟩ ⟨Nat.le_of_ble_eq_true rfl, Nat.le_of_ble_eq_true rfl⟩ (Nat.le_of_ble_eq_true rfl) hl.1 (cells9 := 0) (slots9 := 0) ⟨rfl, rfl⟩ dX11_setThreshold_30 (fun v u H locs hw_7 G => ?_)
    obtain ⟨gh2_8, g2_9, rfl, hc_10, hc_11, rfl⟩ := hw_7
    replace G := G.perm (ws' := [(m0, mO M 0 (kpS xrm) xsv xln xat xer xwr xwd xlo xhi xwl xml xkl xfi xse xdn xon xtw xol xrw xgl xus xpr xmk xab), (M 1, aI (K 0) 1247 g2_9), (M 3, aR (K 7) 8 gH), (MH 0, aI (K 0) 1247 (gh2_8 0)), (MH 1, aI (K 0) 1247 (gh2_8 1)), (MH 2, aI (K 0) 1247 (gh2_8 2)), (MH 3, aI (K 0) 1247 (gh2_8 3)), (MH 4, aI (K 0) 1247 (gh2_8 4)), (MH 5, aI (K 0) 1247 (gh2_8 5)), (MH 6, aI (K 0) 1247 (gh2_8 6)), (MH 7, aI (K 0) 1247 (gh2_8 7))]) [0, 1, 2, 3, 4, 5, 6, 7, 8, 9, 10] rfl rfl
    refine W.eq (g2 := F0 m9 33 ls [.int (iI th)]) rfl ?_
    exact ad_ireturn F G hR rfl (Nat.le_of_ble_eq_true rfl) (Nat.le_of_ble_eq_true rfl) (Or.inr (⟨gh2_8, g2_9, rfl, hc_2, hc_10, hc_11, rfl⟩)) dX11_setThreshold_33
  · replace G := G.perm (ws' := [(m0, mO M xth xrm xsv xln xat xer xwr xwd xlo xhi xwl xml xkl xfi xse xdn xon xtw xol xrw xgl xus xpr xmk xab), (M 1, aI (K 0) 1247 g), (M 3, aR (K 7) 8 gH), (MH 0, aI (K 0) 1247 (gh 0)), (MH 1, aI (K 0) 1247 (gh 1)), (MH 2, aI (K 0) 1247 (gh 2)), (MH 3, aI (K 0) 1247 (gh 3)), (MH 4, aI (K 0) 1247 (gh 4)), (MH 5, aI (K 0) 1247 (gh 5)), (MH 6, aI (K 0) 1247 (gh 6)), (MH 7, aI (K 0) 1247 (gh 7))]) [0, 1, 2, 3, 4, 5, 6, 7, 8, 9, 10] rfl rfl
    refine W.eq (g2 := F0 m9 9 ls [.int (iI 0), .int (iI 1), .ref m0]) rfl ?_
    refine ad_if_ne (tgt := 16) F (by decide) dX11_setThreshold_9 (by decide) (fun cc_12 => absurd cc_12 (by decide)) (fun _ => ?_)
    refine ad_iconst F dX11_setThreshold_12 ?_
    refine lv_goto (tgt := 17) F.1 F.2.1 dX11_setThreshold_13 (by decide) ?_
    refine ad_callV (As := [.int (iI 1), .int (iI 1)]) (rest := []) F G (c_X11_fails_1 l D K z0 m0 M xth xrm xsv xln xat xer xwr xwd xlo xhi xwl xml xkl xfi xse xdn xon xtw xol xrw xgl xus xpr xmk xab 1 (by omega)) my_X11_fails mv_X11_111 (wr := [(M 1, aI (K 0) 1247 g), (M 3, aR (K 7) 8 gH), (MH 0, aI (K 0) 1247 (gh 0)), (MH 1, aI (K 0) 1247 (gh 1)), (MH 2, aI (K 0) 1247 (gh 2)), (MH 3, aI (K 0) 1247 (gh 3)), (MH 4, aI (K 0) 1247 (gh 4)), (MH 5, aI (K 0) 1247 (gh 5)), (MH 6, aI (K 0) 1247 (gh 6)), (MH 7, aI (K 0) 1247 (gh 7))]) (isC := [0]) (isR := [1, 2, 3, 4, 5, 6, 7, 8, 9, 10]) ⟨rfl, rfl, rfl, rfl, by decide⟩ 11 0 rfl rfl rfl rfl ⟨Nat.le_of_ble_eq_true rfl, Nat.le_of_ble_eq_true rfl⟩ ⟨Nat.le_of_ble_eq_true rfl, Nat.le_of_ble_eq_true rfl⟩ (Nat.le_of_ble_eq_true rfl) hl.1 (cells9 := 0) (slots9 := 0) ⟨rfl, rfl⟩ dX11_setThreshold_17 (fun v u H locs hw_13 G => ?_)
    obtain ⟨rfl, rfl⟩ := hw_13
    replace G := G.perm (ws' := [(m0, mO M 1 xrm xsv xln xat xer xwr xwd xlo xhi xwl xml xkl xfi xse xdn xon xtw xol xrw xgl xus xpr xmk xab), (M 1, aI (K 0) 1247 g), (M 3, aR (K 7) 8 gH), (MH 0, aI (K 0) 1247 (gh 0)), (MH 1, aI (K 0) 1247 (gh 1)), (MH 2, aI (K 0) 1247 (gh 2)), (MH 3, aI (K 0) 1247 (gh 3)), (MH 4, aI (K 0) 1247 (gh 4)), (MH 5, aI (K 0) 1247 (gh 5)), (MH 6, aI (K 0) 1247 (gh 6)), (MH 7, aI (K 0) 1247 (gh 7))]) [10, 0, 1, 2, 3, 4, 5, 6, 7, 8, 9] rfl rfl
    refine W.eq (g2 := F0 m9 20 ls [.int (iI 1)]) rfl ?_
    refine ad_if_eq (tgt := 27) F (by decide) dX11_setThreshold_20 (by decide) (fun cc_14 => absurd cc_14 (by decide)) (fun _ => ?_)
    refine ad_iconst F dX11_setThreshold_23 ?_
    refine lv_goto (tgt := 33) F.1 F.2.1 dX11_setThreshold_24 (by decide) ?_
    exact ad_ireturn F G hR rfl (Nat.le_of_ble_eq_true rfl) (Nat.le_of_ble_eq_true rfl) (Or.inl ⟨rfl, hc_3, rfl⟩) dX11_setThreshold_33

def rm_X11_addRule : Room := { frames := 4, cells := 0, slots := 0, locals := 75 }
set_option maxHeartbeats 4000000 in
set_option maxRecDepth 100000 in
theorem c_X11_addRule (l : Launch) (D : va_G) (K : Nat → ClassId) (z0 : Nat) (m0 : Nat) (M : Nat → Nat) (xth : Int) (xrm : Int) (xsv : Int) (xat : Int) (xer : Int) (xwr : Int) (xwd : Int) (xlo : Int) (xhi : Int) (xwl : Int) (xml : Int) (xkl : Int) (xfi : Int) (xse : Int) (xdn : Int) (xon : Int) (xtw : Int) (xol : Int) (xrw : Int) (xgl : Int) (xus : Int) (xpr : Int) (xmk : Int) (xab : Int) (gbf : Nat → Int) (w : List Int) (gbg : Nat → Int) (gle : Nat → Int) (gam : Nat → Int) (g : Nat → Int) (rs : List Rl) (ps : List Pr) (md : Int) (th : Int) (nc : Int) (MH : Nat → Nat) (gH : Nat → Option Nat) (gh : Nat → Nat → Int) (k : Int) (p : Int) (c : Int) (hT : Tx gbf w) (hC : Chs w) (hL : w.length ≤ 100) (hM : MRow g rs ps md th nc) (hW : RW rs) (hH : ∀ j : Nat, j < 8 → gH j = some (MH j)) (hrm : 0 ≤ xrm ∧ xrm ≤ 8) (hk : -2147483648 ≤ k ∧ k < 2147483648) (hp : -2147483648 ≤ p ∧ p < 2147483648) (hc : -2147483648 ≤ c ∧ c < 2147483648) : CT l D K z0 yX11_addRule cX11_addRule 5 (some .int) rm_X11_addRule [.ref m0, .int (iI k), .int (iI p), .int (iI c)] [(m0, mO M xth xrm xsv (w.length : Int) xat xer xwr xwd xlo xhi xwl xml xkl xfi xse xdn xon xtw xol xrw xgl xus xpr xmk xab), (M 6, aI (K 2) 100 gbf), (M 11, aI (K 0) 60 gbg), (M 12, aI (K 0) 60 gle), (M 13, aI (K 4) 60 gam), (M 1, aI (K 0) 1247 g), (M 3, aR (K 7) 8 gH), (MH 0, aI (K 0) 1247 (gh 0)), (MH 1, aI (K 0) 1247 (gh 1)), (MH 2, aI (K 0) 1247 (gh 2)), (MH 3, aI (K 0) 1247 (gh 3)), (MH 4, aI (K 0) 1247 (gh 4)), (MH 5, aI (K 0) 1247 (gh 5)), (MH 6, aI (K 0) 1247 (gh 6)), (MH 7, aI (K 0) 1247 (gh 7))] (fun v9 u9 => (v9 = some (.int (iI 0)) ∧ (¬ (0 ≤ k ∧ k ≤ 2 ∧ 0 ≤ p ∧ p ≤ 99 ∧ 0 ≤ c ∧ c ≤ 4)) ∧ u9 = [(m0, mO M 1 xrm xsv (w.length : Int) xat xer xwr xwd xlo xhi xwl xml xkl xfi xse xdn xon xtw xol xrw xgl xus xpr xmk xab), (M 6, aI (K 2) 100 gbf), (M 11, aI (K 0) 60 gbg), (M 12, aI (K 0) 60 gle), (M 13, aI (K 4) 60 gam), (M 1, aI (K 0) 1247 g), (M 3, aR (K 7) 8 gH), (MH 0, aI (K 0) 1247 (gh 0)), (MH 1, aI (K 0) 1247 (gh 1)), (MH 2, aI (K 0) 1247 (gh 2)), (MH 3, aI (K 0) 1247 (gh 3)), (MH 4, aI (K 0) 1247 (gh 4)), (MH 5, aI (K 0) 1247 (gh 5)), (MH 6, aI (K 0) 1247 (gh 6)), (MH 7, aI (K 0) 1247 (gh 7))]) ∨ (∃ (xe2 : Int), ∃ (az : Int), ∃ (wd2 : Int), ∃ (wr2 : Int), ∃ (gbg2 : Nat → Int), ∃ (gle2 : Nat → Int), ∃ (gam2 : Nat → Int), v9 = some (.int (iI 0)) ∧ (0 ≤ k ∧ k ≤ 2 ∧ 0 ≤ p ∧ p ≤ 99 ∧ 0 ≤ c ∧ c ≤ 4) ∧ (errR w = xe2) ∧ (0 ≤ xe2) ∧ u9 = [(m0, mO M 2 xrm xsv 0 az xe2 wr2 wd2 xlo xhi xwl xml xkl xfi xse xdn xon xtw xol xrw xgl xus xpr xmk xab), (M 6, aI (K 2) 100 gbf), (M 11, aI (K 0) 60 gbg2), (M 12, aI (K 0) 60 gle2), (M 13, aI (K 4) 60 gam2), (M 1, aI (K 0) 1247 g), (M 3, aR (K 7) 8 gH), (MH 0, aI (K 0) 1247 (gh 0)), (MH 1, aI (K 0) 1247 (gh 1)), (MH 2, aI (K 0) 1247 (gh 2)), (MH 3, aI (K 0) 1247 (gh 3)), (MH 4, aI (K 0) 1247 (gh 4)), (MH 5, aI (K 0) 1247 (gh 5)), (MH 6, aI (K 0) 1247 (gh 6)), (MH 7, aI (K 0) 1247 (gh 7))]) ∨ (∃ (az : Int), ∃ (wd2 : Int), ∃ (wr2 : Int), ∃ (gbg2 : Nat → Int), ∃ (gle2 : Nat → Int), ∃ (gam2 : Nat → Int), v9 = some (.int (iI 0)) ∧ (0 ≤ k ∧ k ≤ 2 ∧ 0 ≤ p ∧ p ≤ 99 ∧ 0 ≤ c ∧ c ≤ 4) ∧ (errR w = -1) ∧ (rs.length = 24) ∧ u9 = [(m0, mO M 3 xrm xsv 0 az xer wr2 wd2 xlo xhi xwl xml xkl xfi xse xdn xon xtw xol xrw xgl xus xpr xmk xab), (M 6, aI (K 2) 100 gbf), (M 11, aI (K 0) 60 gbg2), (M 12, aI (K 0) 60 gle2), (M 13, aI (K 4) 60 gam2), (M 1, aI (K 0) 1247 g), (M 3, aR (K 7) 8 gH), (MH 0, aI (K 0) 1247 (gh 0)), (MH 1, aI (K 0) 1247 (gh 1)), (MH 2, aI (K 0) 1247 (gh 2)), (MH 3, aI (K 0) 1247 (gh 3)), (MH 4, aI (K 0) 1247 (gh 4)), (MH 5, aI (K 0) 1247 (gh 5)), (MH 6, aI (K 0) 1247 (gh 6)), (MH 7, aI (K 0) 1247 (gh 7))]) ∨ (∃ (az : Int), ∃ (wd2 : Int), ∃ (wr2 : Int), ∃ (gbg2 : Nat → Int), ∃ (gle2 : Nat → Int), ∃ (gam2 : Nat → Int), ∃ (gh2 : Nat → Nat → Int), ∃ (g2 : Nat → Int), v9 = some (.int (iI (rs.length : Int))) ∧ (0 ≤ k ∧ k ≤ 2 ∧ 0 ≤ p ∧ p ≤ 99 ∧ 0 ≤ c ∧ c ≤ 4) ∧ (errR w = -1) ∧ (rs.length < 24) ∧ (RmH g gh gh2 xrm) ∧ (MRow g2 (rs ++ [(k, p, c, shW w, loW w)]) ps md th (nc + 1)) ∧ u9 = [(m0, mO M 0 (kpS xrm) xsv 0 az xer wr2 wd2 xlo xhi xwl xml xkl xfi xse xdn xon xtw xol xrw xgl xus xpr xmk xab), (M 6, aI (K 2) 100 gbf), (M 11, aI (K 0) 60 gbg2), (M 12, aI (K 0) 60 gle2), (M 13, aI (K 4) 60 gam2), (M 1, aI (K 0) 1247 g2), (M 3, aR (K 7) 8 gH), (MH 0, aI (K 0) 1247 (gh2 0)), (MH 1, aI (K 0) 1247 (gh2 1)), (MH 2, aI (K 0) 1247 (gh2 2)), (MH 3, aI (K 0) 1247 (gh2 3)), (MH 4, aI (K 0) 1247 (gh2 4)), (MH 5, aI (K 0) 1247 (gh2 5)), (MH 6, aI (K 0) 1247 (gh2 6)), (MH 7, aI (K 0) 1247 (gh2 7))])) := by
  refine CT.start RX11 "addRule" (by decide) rfl rfl (Nat.le_of_ble_eq_true rfl) ?_
  intro p9 e9 s9 m9 ag9 bl9 mt9 c9 A9 Q9 ls F G hR hl
  have hl : lv_has ls 5 [(0, .ref m0), (1, .int (iI k)), (2, .int (iI p)), (3, .int (iI c))] := hl
  have hn := hW.1
  refine lv_aload_n F.1 F.2.1 dX11_addRule_0 rfl (lv_at hl 0 rfl) ?_
  refine ad_iconst F dX11_addRule_1 ?_
  refine lv_iload_n F.1 F.2.1 dX11_addRule_2 rfl (lv_at hl 1 rfl) ?_
  refine ad_iconst F dX11_addRule_3 ?_
  refine ad_iconst F dX11_addRule_4 ?_
  refine ad_callS (As := [.int (iI k), .int (iI 0), .int (iI 2)]) (rest := [.int (iI 1), .ref m0]) F G (c_X11_isBetween l D K z0 k 0 2 hk (by omega) (by omega)) my_X11_isBetween ms_X11_107 (wr := [(m0, mO M xth xrm xsv (w.length : Int) xat xer xwr xwd xlo xhi xwl xml xkl xfi xse xdn xon xtw xol xrw xgl xus xpr xmk xab), (M 6, aI (K 2) 100 gbf), (M 11, aI (K 0) 60 gbg), (M 12, aI (K 0) 60 gle), (M 13, aI (K 4) 60 gam), (M 1, aI (K 0) 1247 g), (M 3, aR (K 7) 8 gH), (MH 0, aI (K 0) 1247 (gh 0)), (MH 1, aI (K 0) 1247 (gh 1)), (MH 2, aI (K 0) 1247 (gh 2)), (MH 3, aI (K 0) 1247 (gh 3)), (MH 4, aI (K 0) 1247 (gh 4)), (MH 5, aI (K 0) 1247 (gh 5)), (MH 6, aI (K 0) 1247 (gh 6)), (MH 7, aI (K 0) 1247 (gh 7))]) (isC := []) (isR := [0, 1, 2, 3, 4, 5, 6, 7, 8, 9, 10, 11, 12, 13, 14]) ⟨rfl, rfl, rfl, rfl, by decide⟩ rfl rfl ⟨Nat.le_of_ble_eq_true rfl, Nat.le_of_ble_eq_true rfl⟩ ⟨Nat.le_of_ble_eq_true rfl, Nat.le_of_ble_eq_true rfl⟩ (Nat.le_of_ble_eq_true rfl) hl.1 (cells9 := 0) (slots9 := 0) ⟨rfl, rfl⟩ dX11_addRule_5 (fun v u H locs hw_1 G => ?_)
  rcases hw_1 with ⟨rfl, hc_2, rfl⟩ | ⟨rfl, hc_3, rfl⟩
  · replace G := G.perm (ws' := [(m0, mO M xth xrm xsv (w.length : Int) xat xer xwr xwd xlo xhi xwl xml xkl xfi xse xdn xon xtw xol xrw xgl xus xpr xmk xab), (M 6, aI (K 2) 100 gbf), (M 11, aI (K 0) 60 gbg), (M 12, aI (K 0) 60 gle), (M 13, aI (K 4) 60 gam), (M 1, aI (K 0) 1247 g), (M 3, aR (K 7) 8 gH), (MH 0, aI (K 0) 1247 (gh 0)), (MH 1, aI (K 0) 1247 (gh 1)), (MH 2, aI (K 0) 1247 (gh 2)), (MH 3, aI (K 0) 1247 (gh 3)), (MH 4, aI (K 0) 1247 (gh 4)), (MH 5, aI (K 0) 1247 (gh 5)), (MH 6, aI (K 0) 1247 (gh 6)), (MH 7, aI (K 0) 1247 (gh 7))]) [0, 1, 2, 3, 4, 5, 6, 7, 8, 9, 10, 11, 12, 13, 14] rfl rfl
    refine W.eq (g2 := F0 m9 8 ls [.int (iI 1), .int (iI 1), .ref m0]) rfl ?_
    refine ad_if_eq (tgt := 30) F (by decide) dX11_addRule_8 (by decide) (fun cc_4 => absurd cc_4 (by decide)) (fun _ => ?_)
    refine lv_iload_n F.1 F.2.1 dX11_addRule_11 rfl (lv_at hl 2 rfl) ?_
    refine ad_iconst F dX11_addRule_12 ?_
    refine ad_bipush F dX11_addRule_13 (by decide) ?_
    refine ad_callS (As := [.int (iI p), .int (iI 0), .int (iI 99)]) (rest := [.int (iI 1), .ref m0]) F G (c_X11_isBetween l D K z0 p 0 99 hp (by omega) (by omega)) my_X11_isBetween ms_X11_107 (wr := [(m0, mO M xth xrm xsv (w.length : Int) xat xer xwr xwd xlo xhi xwl xml xkl xfi xse xdn xon xtw xol xrw xgl xus xpr xmk xab), (M 6, aI (K 2) 100 gbf), (M 11, aI (K 0) 60 gbg), (M 12, aI (K 0) 60 gle), (M 13, aI (K 4) 60 gam), (M 1, aI (K 0) 1247 g), (M 3, aR (K 7) 8 gH), (MH 0, aI (K 0) 1247 (gh 0)), (MH 1, aI (K 0) 1247 (gh 1)), (MH 2, aI (K 0) 1247 (gh 2)), (MH 3, aI (K 0) 1247 (gh 3)), (MH 4, aI (K 0) 1247 (gh 4)), (MH 5, aI (K 0) 1247 (gh 5)), (MH 6, aI (K 0) 1247 (gh 6)), (MH 7, aI (K 0) 1247 (gh 7))]) (isC := []) (isR := [0, 1, 2, 3, 4, 5, 6, 7, 8, 9, 10, 11, 12, 13, 14]) ⟨rfl, rfl, rfl, rfl, by decide⟩ rfl rfl ⟨Nat.le_of_ble_eq_true rfl, Nat.le_of_ble_eq_true rfl⟩ ⟨Nat.le_of_ble_eq_true rfl, Nat.le_of_ble_eq_true rfl⟩ (Nat.le_of_ble_eq_true rfl) hl.1 (cells9 := 0) (slots9 := 0) ⟨rfl, rfl⟩ dX11_addRule_15 (fun v u H locs hw_5 G => ?_)
    rcases hw_5 with ⟨rfl, hc_6, rfl⟩ | ⟨rfl, hc_7, rfl⟩
    · replace G := G.perm (ws' := [(m0, mO M xth xrm xsv (w.length : Int) xat xer xwr xwd xlo xhi xwl xml xkl xfi xse xdn xon xtw xol xrw xgl xus xpr xmk xab), (M 6, aI (K 2) 100 gbf), (M 11, aI (K 0) 60 gbg), (M 12, aI (K 0) 60 gle), (M 13, aI (K 4) 60 gam), (M 1, aI (K 0) 1247 g), (M 3, aR (K 7) 8 gH), (MH 0, aI (K 0) 1247 (gh 0)), (MH 1, aI (K 0) 1247 (gh 1)), (MH 2, aI (K 0) 1247 (gh 2)), (MH 3, aI (K 0) 1247 (gh 3)), (MH 4, aI (K 0) 1247 (gh 4)), (MH 5, aI (K 0) 1247 (gh 5)), (MH 6, aI (K 0) 1247 (gh 6)), (MH 7, aI (K 0) 1247 (gh 7))]) [0, 1, 2, 3, 4, 5, 6, 7, 8, 9, 10, 11, 12, 13, 14] rfl rfl
      refine W.eq (g2 := F0 m9 18 ls [.int (iI 1), .int (iI 1), .ref m0]) rfl ?_
      refine ad_if_eq (tgt := 30) F (by decide) dX11_addRule_18 (by decide) (fun cc_8 => absurd cc_8 (by decide)) (fun _ => ?_)
      refine lv_iload_n F.1 F.2.1 dX11_addRule_21 rfl (lv_at hl 3 rfl) ?_
      refine ad_iconst F dX11_addRule_22 ?_
      refine ad_iconst F dX11_addRule_23 ?_
      refine ad_callS (As := [.int (iI c), .int (iI 0), .int (iI 4)]) (rest := [.int (iI 1), .ref m0]) F G (c_X11_isBetween l D K z0 c 0 4 hc (by omega) (by omega)) my_X11_isBetween ms_X11_107 (wr := [(m0, mO M xth xrm xsv (w.length : Int) xat xer xwr xwd xlo xhi xwl xml xkl xfi xse xdn xon xtw xol xrw xgl xus xpr xmk xab), (M 6, aI (K 2) 100 gbf), (M 11, aI (K 0) 60 gbg), (M 12, aI (K 0) 60 gle), (M 13, aI (K 4) 60 gam), (M 1, aI (K 0) 1247 g), (M 3, aR (K 7) 8 gH), (MH 0, aI (K 0) 1247 (gh 0)), (MH 1, aI (K 0) 1247 (gh 1)), (MH 2, aI (K 0) 1247 (gh 2)), (MH 3, aI (K 0) 1247 (gh 3)), (MH 4, aI (K 0) 1247 (gh 4)), (MH 5, aI (K 0) 1247 (gh 5)), (MH 6, aI (K 0) 1247 (gh 6)), (MH 7, aI (K 0) 1247 (gh 7))]) (isC := []) (isR := [0, 1, 2, 3, 4, 5, 6, 7, 8, 9, 10, 11, 12, 13, 14]) ⟨rfl, rfl, rfl, rfl, by decide⟩ rfl rfl ⟨Nat.le_of_ble_eq_true rfl, Nat.le_of_ble_eq_true rfl⟩ ⟨Nat.le_of_ble_eq_true rfl, Nat.le_of_ble_eq_true rfl⟩ (Nat.le_of_ble_eq_true rfl) hl.1 (cells9 := 0) (slots9 := 0) ⟨rfl, rfl⟩ dX11_addRule_24 (fun v u H locs hw_9 G => ?_)
      rcases hw_9 with ⟨rfl, hc_10, rfl⟩ | ⟨rfl, hc_11, rfl⟩
      · replace G := G.perm (ws' := [(m0, mO M xth xrm xsv (w.length : Int) xat xer xwr xwd xlo xhi xwl xml xkl xfi xse xdn xon xtw xol xrw xgl xus xpr xmk xab), (M 6, aI (K 2) 100 gbf), (M 11, aI (K 0) 60 gbg), (M 12, aI (K 0) 60 gle), (M 13, aI (K 4) 60 gam), (M 1, aI (K 0) 1247 g), (M 3, aR (K 7) 8 gH), (MH 0, aI (K 0) 1247 (gh 0)), (MH 1, aI (K 0) 1247 (gh 1)), (MH 2, aI (K 0) 1247 (gh 2)), (MH 3, aI (K 0) 1247 (gh 3)), (MH 4, aI (K 0) 1247 (gh 4)), (MH 5, aI (K 0) 1247 (gh 5)), (MH 6, aI (K 0) 1247 (gh 6)), (MH 7, aI (K 0) 1247 (gh 7))]) [0, 1, 2, 3, 4, 5, 6, 7, 8, 9, 10, 11, 12, 13, 14] rfl rfl
        refine W.eq (g2 := F0 m9 27 ls [.int (iI 1), .int (iI 1), .ref m0]) rfl ?_
        refine ad_if_ne (tgt := 34) F (by decide) dX11_addRule_27 (by decide) (fun _ => ?_) (fun cc_12 => absurd cc_12 (by decide))
        refine ad_iconst F dX11_addRule_34 ?_
        refine ad_callV (As := [.int (iI 1), .int (iI 0)]) (rest := []) F G (c_X11_fails_0 l D K z0 m0 M xth xrm xsv (w.length : Int) xat xer xwr xwd xlo xhi xwl xml xkl xfi xse xdn xon xtw xol xrw xgl xus xpr xmk xab 1 (by omega)) my_X11_fails mv_X11_111 (wr := [(M 6, aI (K 2) 100 gbf), (M 11, aI (K 0) 60 gbg), (M 12, aI (K 0) 60 gle), (M 13, aI (K 4) 60 gam), (M 1, aI (K 0) 1247 g), (M 3, aR (K 7) 8 gH), (MH 0, aI (K 0) 1247 (gh 0)), (MH 1, aI (K 0) 1247 (gh 1)), (MH 2, aI (K 0) 1247 (gh 2)), (MH 3, aI (K 0) 1247 (gh 3)), (MH 4, aI (K 0) 1247 (gh 4)), (MH 5, aI (K 0) 1247 (gh 5)), (MH 6, aI (K 0) 1247 (gh 6)), (MH 7, aI (K 0) 1247 (gh 7))]) (isC := [0]) (isR := [1, 2, 3, 4, 5, 6, 7, 8, 9, 10, 11, 12, 13, 14]) ⟨rfl, rfl, rfl, rfl, by decide⟩ 11 0 rfl rfl rfl rfl ⟨Nat.le_of_ble_eq_true rfl, Nat.le_of_ble_eq_true rfl⟩ ⟨Nat.le_of_ble_eq_true rfl, Nat.le_of_ble_eq_true rfl⟩ (Nat.le_of_ble_eq_true rfl) hl.1 (cells9 := 0) (slots9 := 0) ⟨rfl, rfl⟩ dX11_addRule_35 (fun v u H locs hw_13 G => ?_)
        obtain ⟨rfl, rfl⟩ := hw_13
        replace G := G.perm (ws' := [(m0, mO M 0 xrm xsv (w.length : Int) xat xer xwr xwd xlo xhi xwl xml xkl xfi xse xdn xon xtw xol xrw xgl xus xpr xmk xab), (M 6, aI (K 2) 100 gbf), (M 11, aI (K 0) 60 gbg), (M 12, aI (K 0) 60 gle), (M 13, aI (K 4) 60 gam), (M 1, aI (K 0) 1247 g), (M 3, aR (K 7) 8 gH), (MH 0, aI (K 0) 1247 (gh 0)), (MH 1, aI (K 0) 1247 (gh 1)), (MH 2, aI (K 0) 1247 (gh 2)), (MH 3, aI (K 0) 1247 (gh 3)), (MH 4, aI (K 0) 1247 (gh 4)), (MH 5, aI (K 0) 1247 (gh 5)), (MH 6, aI (K 0) 1247 (gh 6)), (MH 7, aI (K 0) 1247 (gh 7))]) [14, 0, 1, 2, 3, 4, 5, 6, 7, 8, 9, 10, 11, 12, 13] rfl rfl
        refine W.eq (g2 := F0 m9 38 ls [.int (iI 0)]) rfl ?_
        refine ad_if_eq (tgt := 43) F (by decide) dX11_addRule_38 (by decide) (fun _ => ?_) (fun cc_14 => absurd cc_14 (by decide))
        refine lv_aload_n F.1 F.2.1 dX11_addRule_43 rfl (lv_at hl 0 rfl) ?_
        refine ad_iconst F dX11_addRule_44 ?_
        refine lv_aload_n F.1 F.2.1 dX11_addRule_45 rfl (lv_at hl 0 rfl) ?_
        refine ad_callV (As := []) (rest := [.int (iI 2), .ref m0]) F G (c_X11_readRule l D K z0 m0 M 0 xrm xsv xer xlo xhi xwl xml xkl xfi xse xdn xon xtw xol xrw xgl xus xpr xmk xab gbf w gbg gle gam xat xwd xwr hT hC hL) my_X11_readRule mv_X11_161 (wr := [(M 1, aI (K 0) 1247 g), (M 3, aR (K 7) 8 gH), (MH 0, aI (K 0) 1247 (gh 0)), (MH 1, aI (K 0) 1247 (gh 1)), (MH 2, aI (K 0) 1247 (gh 2)), (MH 3, aI (K 0) 1247 (gh 3)), (MH 4, aI (K 0) 1247 (gh 4)), (MH 5, aI (K 0) 1247 (gh 5)), (MH 6, aI (K 0) 1247 (gh 6)), (MH 7, aI (K 0) 1247 (gh 7))]) (isC := [0, 1, 2, 3, 4]) (isR := [5, 6, 7, 8, 9, 10, 11, 12, 13, 14]) ⟨rfl, rfl, rfl, rfl, by decide⟩ 11 0 rfl rfl rfl rfl ⟨Nat.le_of_ble_eq_true rfl, Nat.le_of_ble_eq_true rfl⟩ ⟨Nat.le_of_ble_eq_true rfl, Nat.le_of_ble_eq_true rfl⟩ (Nat.le_of_ble_eq_true rfl) hl.1 (cells9 := 0) (slots9 := 0) ⟨rfl, rfl⟩ dX11_addRule_46 (fun v u H locs hw_15 G => ?_)
        rcases hw_15 with ⟨az_16, wd2_17, gbg2_18, gle2_19, gam2_20, rfl, hc_21, hc_22, rfl⟩ | ⟨az_23, wd2_24, gbg2_25, gle2_26, gam2_27, rfl, hc_28, hc_29, rfl⟩
        · replace G := G.perm (ws' := [(m0, mO M 0 xrm xsv 0 az_16 az_16 1 wd2_17 xlo xhi xwl xml xkl xfi xse xdn xon xtw xol xrw xgl xus xpr xmk xab), (M 6, aI (K 2) 100 gbf), (M 11, aI (K 0) 60 gbg2_18), (M 12, aI (K 0) 60 gle2_19), (M 13, aI (K 4) 60 gam2_20), (M 1, aI (K 0) 1247 g), (M 3, aR (K 7) 8 gH), (MH 0, aI (K 0) 1247 (gh 0)), (MH 1, aI (K 0) 1247 (gh 1)), (MH 2, aI (K 0) 1247 (gh 2)), (MH 3, aI (K 0) 1247 (gh 3)), (MH 4, aI (K 0) 1247 (gh 4)), (MH 5, aI (K 0) 1247 (gh 5)), (MH 6, aI (K 0) 1247 (gh 6)), (MH 7, aI (K 0) 1247 (gh 7))]) [10, 11, 12, 13, 14, 0, 1, 2, 3, 4, 5, 6, 7, 8, 9] rfl rfl
          refine W.eq (g2 := F0 m9 49 ls [.int (iI 1), .int (iI 2), .ref m0]) rfl ?_
          refine ad_callV (As := [.int (iI 2), .int (iI 1)]) (rest := []) F G (c_X11_fails_1 l D K z0 m0 M 0 xrm xsv 0 az_16 az_16 1 wd2_17 xlo xhi xwl xml xkl xfi xse xdn xon xtw xol xrw xgl xus xpr xmk xab 2 (by omega)) my_X11_fails mv_X11_111 (wr := [(M 6, aI (K 2) 100 gbf), (M 11, aI (K 0) 60 gbg2_18), (M 12, aI (K 0) 60 gle2_19), (M 13, aI (K 4) 60 gam2_20), (M 1, aI (K 0) 1247 g), (M 3, aR (K 7) 8 gH), (MH 0, aI (K 0) 1247 (gh 0)), (MH 1, aI (K 0) 1247 (gh 1)), (MH 2, aI (K 0) 1247 (gh 2)), (MH 3, aI (K 0) 1247 (gh 3)), (MH 4, aI (K 0) 1247 (gh 4)), (MH 5, aI (K 0) 1247 (gh 5)), (MH 6, aI (K 0) 1247 (gh 6)), (MH 7, aI (K 0) 1247 (gh 7))]) (isC := [0]) (isR := [1, 2, 3, 4, 5, 6, 7, 8, 9, 10, 11, 12, 13, 14]) ⟨rfl, rfl, rfl, rfl, by decide⟩ 11 0 rfl rfl rfl rfl ⟨Nat.le_of_ble_eq_true rfl, Nat.le_of_ble_eq_true rfl⟩ ⟨Nat.le_of_ble_eq_true rfl, Nat.le_of_ble_eq_true rfl⟩ (Nat.le_of_ble_eq_true rfl) hl.1 (cells9 := 0) (slots9 := 0) ⟨rfl, rfl⟩ dX11_addRule_49 (fun v u H locs hw_30 G => ?_)
          obtain ⟨rfl, rfl⟩ := hw_30
          replace G := G.perm (ws' := [(m0, mO M 2 xrm xsv 0 az_16 az_16 1 wd2_17 xlo xhi xwl xml xkl xfi xse xdn xon xtw xol xrw xgl xus xpr xmk xab), (M 6, aI (K 2) 100 gbf), (M 11, aI (K 0) 60 gbg2_18), (M 12, aI (K 0) 60 gle2_19), (M 13, aI (K 4) 60 gam2_20), (M 1, aI (K 0) 1247 g), (M 3, aR (K 7) 8 gH), (MH 0, aI (K 0) 1247 (gh 0)), (MH 1, aI (K 0) 1247 (gh 1)), (MH 2, aI (K 0) 1247 (gh 2)), (MH 3, aI (K 0) 1247 (gh 3)), (MH 4, aI (K 0) 1247 (gh 4)), (MH 5, aI (K 0) 1247 (gh 5)), (MH 6, aI (K 0) 1247 (gh 6)), (MH 7, aI (K 0) 1247 (gh 7))]) [14, 0, 1, 2, 3, 4, 5, 6, 7, 8, 9, 10, 11, 12, 13] rfl rfl
          refine W.eq (g2 := F0 m9 52 ls [.int (iI 1)]) rfl ?_
          refine ad_if_ne (tgt := 79) F (by decide) dX11_addRule_52 (by decide) (fun _ => ?_) (fun cc_31 => absurd cc_31 (by decide))
          refine ad_iconst F dX11_addRule_79 ?_
          exact ad_ireturn F G hR rfl (Nat.le_of_ble_eq_true rfl) (Nat.le_of_ble_eq_true rfl) (Or.inr (Or.inl ⟨az_16, az_16, wd2_17, 1, gbg2_18, gle2_19, gam2_20, rfl, (by omega), hc_21, hc_22, rfl⟩)) dX11_addRule_80
        · replace G := G.perm (ws' := [(m0, mO M 0 xrm xsv 0 az_23 xer 0 wd2_24 xlo xhi xwl xml xkl xfi xse xdn xon xtw xol xrw xgl xus xpr xmk xab), (M 6, aI (K 2) 100 gbf), (M 11, aI (K 0) 60 gbg2_25), (M 12, aI (K 0) 60 gle2_26), (M 13, aI (K 4) 60 gam2_27), (M 1, aI (K 0) 1247 g), (M 3, aR (K 7) 8 gH), (MH 0, aI (K 0) 1247 (gh 0)), (MH 1, aI (K 0) 1247 (gh 1)), (MH 2, aI (K 0) 1247 (gh 2)), (MH 3, aI (K 0) 1247 (gh 3)), (MH 4, aI (K 0) 1247 (gh 4)), (MH 5, aI (K 0) 1247 (gh 5)), (MH 6, aI (K 0) 1247 (gh 6)), (MH 7, aI (K 0) 1247 (gh 7))]) [10, 11, 12, 13, 14, 0, 1, 2, 3, 4, 5, 6, 7, 8, 9] rfl rfl
          refine W.eq (g2 := F0 m9 49 ls [.int (iI 0), .int (iI 2), .ref m0]) rfl ?_
          refine ad_callV (As := [.int (iI 2), .int (iI 0)]) (rest := []) F G (c_X11_fails_0 l D K z0 m0 M 0 xrm xsv 0 az_23 xer 0 wd2_24 xlo xhi xwl xml xkl xfi xse xdn xon xtw xol xrw xgl xus xpr xmk xab 2 (by omega)) my_X11_fails mv_X11_111 (wr := [(M 6, aI (K 2) 100 gbf), (M 11, aI (K 0) 60 gbg2_25), (M 12, aI (K 0) 60 gle2_26), (M 13, aI (K 4) 60 gam2_27), (M 1, aI (K 0) 1247 g), (M 3, aR (K 7) 8 gH), (MH 0, aI (K 0) 1247 (gh 0)), (MH 1, aI (K 0) 1247 (gh 1)), (MH 2, aI (K 0) 1247 (gh 2)), (MH 3, aI (K 0) 1247 (gh 3)), (MH 4, aI (K 0) 1247 (gh 4)), (MH 5, aI (K 0) 1247 (gh 5)), (MH 6, aI (K 0) 1247 (gh 6)), (MH 7, aI (K 0) 1247 (gh 7))]) (isC := [0]) (isR := [1, 2, 3, 4, 5, 6, 7, 8, 9, 10, 11, 12, 13, 14]) ⟨rfl, rfl, rfl, rfl, by decide⟩ 11 0 rfl rfl rfl rfl ⟨Nat.le_of_ble_eq_true rfl, Nat.le_of_ble_eq_true rfl⟩ ⟨Nat.le_of_ble_eq_true rfl, Nat.le_of_ble_eq_true rfl⟩ (Nat.le_of_ble_eq_true rfl) hl.1 (cells9 := 0) (slots9 := 0) ⟨rfl, rfl⟩ dX11_addRule_49 (fun v u H locs hw_32 G => ?_)
          obtain ⟨rfl, rfl⟩ := hw_32
          replace G := G.perm (ws' := [(m0, mO M 0 xrm xsv 0 az_23 xer 0 wd2_24 xlo xhi xwl xml xkl xfi xse xdn xon xtw xol xrw xgl xus xpr xmk xab), (M 6, aI (K 2) 100 gbf), (M 11, aI (K 0) 60 gbg2_25), (M 12, aI (K 0) 60 gle2_26), (M 13, aI (K 4) 60 gam2_27), (M 1, aI (K 0) 1247 g), (M 3, aR (K 7) 8 gH), (MH 0, aI (K 0) 1247 (gh 0)), (MH 1, aI (K 0) 1247 (gh 1)), (MH 2, aI (K 0) 1247 (gh 2)), (MH 3, aI (K 0) 1247 (gh 3)), (MH 4, aI (K 0) 1247 (gh 4)), (MH 5, aI (K 0) 1247 (gh 5)), (MH 6, aI (K 0) 1247 (gh 6)), (MH 7, aI (K 0) 1247 (gh 7))]) [14, 0, 1, 2, 3, 4, 5, 6, 7, 8, 9, 10, 11, 12, 13] rfl rfl
          refine W.eq (g2 := F0 m9 52 ls [.int (iI 0)]) rfl ?_
          refine ad_if_ne (tgt := 79) F (by decide) dX11_addRule_52 (by decide) (fun cc_33 => absurd cc_33 (by decide)) (fun _ => ?_)
          refine lv_aload_n F.1 F.2.1 dX11_addRule_55 rfl (lv_at hl 0 rfl) ?_
          refine ad_iconst F dX11_addRule_56 ?_
          refine lv_aload_n F.1 F.2.1 dX11_addRule_57 rfl (lv_at hl 0 rfl) ?_
          refine ad_get F G fl_X11_9 0 rfl rfl dX11_addRule_58 ?_
          refine ad_iconst F dX11_addRule_61 ?_
          refine ad_iald F G 5 rfl (w := (rs.length : Int)) (by omega) (hM.1.1) dX11_addRule_62 ?_
          refine ad_bipush F dX11_addRule_63 (by decide) ?_
          refine ad_icmp_ne (tgt := 72) F (by omega) dX11_addRule_65 (by decide) (fun cc_34 => ?_) (fun cc_34 => ?_)
          · refine ad_iconst F dX11_addRule_72 ?_
            refine ad_callV (As := [.int (iI 3), .int (iI 0)]) (rest := []) F G (c_X11_fails_0 l D K z0 m0 M 0 xrm xsv 0 az_23 xer 0 wd2_24 xlo xhi xwl xml xkl xfi xse xdn xon xtw xol xrw xgl xus xpr xmk xab 3 (by omega)) my_X11_fails mv_X11_111 (wr := [(M 6, aI (K 2) 100 gbf), (M 11, aI (K 0) 60 gbg2_25), (M 12, aI (K 0) 60 gle2_26), (M 13, aI (K 4) 60 gam2_27), (M 1, aI (K 0) 1247 g), (M 3, aR (K 7) 8 gH), (MH 0, aI (K 0) 1247 (gh 0)), (MH 1, aI (K 0) 1247 (gh 1)), (MH 2, aI (K 0) 1247 (gh 2)), (MH 3, aI (K 0) 1247 (gh 3)), (MH 4, aI (K 0) 1247 (gh 4)), (MH 5, aI (K 0) 1247 (gh 5)), (MH 6, aI (K 0) 1247 (gh 6)), (MH 7, aI (K 0) 1247 (gh 7))]) (isC := [0]) (isR := [1, 2, 3, 4, 5, 6, 7, 8, 9, 10, 11, 12, 13, 14]) ⟨rfl, rfl, rfl, rfl, by decide⟩ 11 0 rfl rfl rfl rfl ⟨Nat.le_of_ble_eq_true rfl, Nat.le_of_ble_eq_true rfl⟩ ⟨Nat.le_of_ble_eq_true rfl, Nat.le_of_ble_eq_true rfl⟩ (Nat.le_of_ble_eq_true rfl) hl.1 (cells9 := 0) (slots9 := 0) ⟨rfl, rfl⟩ dX11_addRule_73 (fun v u H locs hw_35 G => ?_)
            obtain ⟨rfl, rfl⟩ := hw_35
            replace G := G.perm (ws' := [(m0, mO M 0 xrm xsv 0 az_23 xer 0 wd2_24 xlo xhi xwl xml xkl xfi xse xdn xon xtw xol xrw xgl xus xpr xmk xab), (M 6, aI (K 2) 100 gbf), (M 11, aI (K 0) 60 gbg2_25), (M 12, aI (K 0) 60 gle2_26), (M 13, aI (K 4) 60 gam2_27), (M 1, aI (K 0) 1247 g), (M 3, aR (K 7) 8 gH), (MH 0, aI (K 0) 1247 (gh 0)), (MH 1, aI (K 0) 1247 (gh 1)), (MH 2, aI (K 0) 1247 (gh 2)), (MH 3, aI (K 0) 1247 (gh 3)), (MH 4, aI (K 0) 1247 (gh 4)), (MH 5, aI (K 0) 1247 (gh 5)), (MH 6, aI (K 0) 1247 (gh 6)), (MH 7, aI (K 0) 1247 (gh 7))]) [14, 0, 1, 2, 3, 4, 5, 6, 7, 8, 9, 10, 11, 12, 13] rfl rfl
            refine W.eq (g2 := F0 m9 76 ls [.int (iI 0)]) rfl ?_
            refine ad_if_eq (tgt := 81) F (by decide) dX11_addRule_76 (by decide) (fun _ => ?_) (fun cc_36 => absurd cc_36 (by decide))
            refine lv_aload_n F.1 F.2.1 dX11_addRule_81 rfl (lv_at hl 0 rfl) ?_
            refine ad_callV (As := []) (rest := []) F G (c_X11_remember l D K z0 m0 M 0 xrm xsv 0 az_23 xer 0 wd2_24 xlo xhi xwl xml xkl xfi xse xdn xon xtw xol xrw xgl xus xpr xmk xab g rs ps md th nc MH gH gh hM hH hrm) my_X11_remember mv_X11_164 (wr := [(M 6, aI (K 2) 100 gbf), (M 11, aI (K 0) 60 gbg2_25), (M 12, aI (K 0) 60 gle2_26), (M 13, aI (K 4) 60 gam2_27)]) (isC := [0, 5, 6, 7, 8, 9, 10, 11, 12, 13, 14]) (isR := [1, 2, 3, 4]) ⟨rfl, rfl, rfl, rfl, by decide⟩ 11 0 rfl rfl rfl rfl ⟨Nat.le_of_ble_eq_true rfl, Nat.le_of_ble_eq_true rfl⟩ ⟨Nat.le_of_ble_eq_true rfl, Nat.le_of_ble_eq_true rfl⟩ (Nat.le_of_ble_eq_true rfl) hl.1 (cells9 := 0) (slots9 := 0) ⟨rfl, rfl⟩ dX11_addRule_82 (fun v u H locs hw_37 G => ?_)
            obtain ⟨gh2_38, g2_39, rfl, hc_40, hc_41, rfl⟩ := hw_37
            replace G := G.perm (ws' := [(m0, mO M 0 (kpS xrm) xsv 0 az_23 xer 0 wd2_24 xlo xhi xwl xml xkl xfi xse xdn xon xtw xol xrw xgl xus xpr xmk xab), (M 6, aI (K 2) 100 gbf), (M 11, aI (K 0) 60 gbg2_25), (M 12, aI (K 0) 60 gle2_26), (M 13, aI (K 4) 60 gam2_27), (M 1, aI (K 0) 1247 g2_39), (M 3, aR (K 7) 8 gH), (MH 0, aI (K 0) 1247 (gh2_38 0)), (MH 1, aI (K 0) 1247 (gh2_38 1)), (MH 2, aI (K 0) 1247 (gh2_38 2)), (MH 3, aI (K 0) 1247 (gh2_38 3)), (MH 4, aI (K 0) 1247 (gh2_38 4)), (MH 5, aI (K 0) 1247 (gh2_38 5)), (MH 6, aI (K 0) 1247 (gh2_38 6)), (MH 7, aI (K 0) 1247 (gh2_38 7))]) [4, 0, 1, 2, 3, 5, 6, 7, 8, 9, 10, 11, 12, 13, 14] rfl rfl
            refine W.eq (g2 := F0 m9 85 ls []) rfl ?_
            refine ad_iconst F dX11_addRule_85 ?_
            refine lv_aload_n F.1 F.2.1 dX11_addRule_86 rfl (lv_at hl 0 rfl) ?_
            refine ad_get F G fl_X11_9 0 rfl rfl dX11_addRule_87 ?_
            refine ad_iconst F dX11_addRule_90 ?_
            refine ad_iald F G 5 rfl (w := (rs.length : Int)) (by omega) (hc_41.1.1) dX11_addRule_91 ?_
            refine ad_bipush F dX11_addRule_92 (by decide) ?_
            refine ad_imul F dX11_addRule_94 ?_
            refine ad_iadd F dX11_addRule_95 ?_
            refine lv_istore (lv' := [(4, .int (iI (5 + ((rs.length : Int) * 23)))), (0, .ref m0), (1, .int (iI k)), (2, .int (iI p)), (3, .int (iI c))]) F.1 F.2.1 dX11_addRule_96 hl (by decide) rfl (fun ls hl => ?_)
            refine lv_aload_n F.1 F.2.1 dX11_addRule_98 rfl (lv_at hl 1 rfl) ?_
            refine ad_get F G fl_X11_9 0 rfl rfl dX11_addRule_99 ?_
            refine lv_iload F.1 F.2.1 dX11_addRule_102 (lv_at hl 0 rfl) ?_
            refine ad_iconst F dX11_addRule_104 ?_
            refine ad_iadd F dX11_addRule_105 ?_
            refine lv_iload_n F.1 F.2.1 dX11_addRule_106 rfl (lv_at hl 2 rfl) ?_
            refine ad_iast F G 5 rfl (by omega) (ws' := [(m0, mO M 0 (kpS xrm) xsv 0 az_23 xer 0 wd2_24 xlo xhi xwl xml xkl xfi xse xdn xon xtw xol xrw xgl xus xpr xmk xab), (M 6, aI (K 2) 100 gbf), (M 11, aI (K 0) 60 gbg2_25), (M 12, aI (K 0) 60 gle2_26), (M 13, aI (K 4) 60 gam2_27), (M 1, aI (K 0) 1247 (va_up g2_39 ((5 + ((rs.length : Int) * 23)) + 0).toNat k)), (M 3, aR (K 7) 8 gH), (MH 0, aI (K 0) 1247 (gh2_38 0)), (MH 1, aI (K 0) 1247 (gh2_38 1)), (MH 2, aI (K 0) 1247 (gh2_38 2)), (MH 3, aI (K 0) 1247 (gh2_38 3)), (MH 4, aI (K 0) 1247 (gh2_38 4)), (MH 5, aI (K 0) 1247 (gh2_38 5)), (MH 6, aI (K 0) 1247 (gh2_38 6)), (MH 7, aI (K 0) 1247 (gh2_38 7))]) rfl dX11_addRule_107 (fun H locs G => ?_)
            refine lv_aload_n F.1 F.2.1 dX11_addRule_108 rfl (lv_at hl 1 rfl) ?_
            refine ad_get F G fl_X11_9 0 rfl rfl dX11_addRule_109 ?_
            refine lv_iload F.1 F.2.1 dX11_addRule_112 (lv_at hl 0 rfl) ?_
            refine ad_iconst F dX11_addRule_114 ?_
            refine ad_iadd F dX11_addRule_115 ?_
            refine lv_iload_n F.1 F.2.1 dX11_addRule_116 rfl (lv_at hl 3 rfl) ?_
            refine ad_iast F G 5 rfl (by omega) (ws' := [(m0, mO M 0 (kpS xrm) xsv 0 az_23 xer 0 wd2_24 xlo xhi xwl xml xkl xfi xse xdn xon xtw xol xrw xgl xus xpr xmk xab), (M 6, aI (K 2) 100 gbf), (M 11, aI (K 0) 60 gbg2_25), (M 12, aI (K 0) 60 gle2_26), (M 13, aI (K 4) 60 gam2_27), (M 1, aI (K 0) 1247 (va_up (va_up g2_39 ((5 + ((rs.length : Int) * 23)) + 0).toNat k) ((5 + ((rs.length : Int) * 23)) + 1).toNat p)), (M 3, aR (K 7) 8 gH), (MH 0, aI (K 0) 1247 (gh2_38 0)), (MH 1, aI (K 0) 1247 (gh2_38 1)), (MH 2, aI (K 0) 1247 (gh2_38 2)), (MH 3, aI (K 0) 1247 (gh2_38 3)), (MH 4, aI (K 0) 1247 (gh2_38 4)), (MH 5, aI (K 0) 1247 (gh2_38 5)), (MH 6, aI (K 0) 1247 (gh2_38 6)), (MH 7, aI (K 0) 1247 (gh2_38 7))]) rfl dX11_addRule_117 (fun H locs G => ?_)
            refine lv_aload_n F.1 F.2.1 dX11_addRule_118 rfl (lv_at hl 1 rfl) ?_
            refine ad_get F G fl_X11_9 0 rfl rfl dX11_addRule_119 ?_
            refine lv_iload F.1 F.2.1 dX11_addRule_122 (lv_at hl 0 rfl) ?_
            refine ad_iconst F dX11_addRule_124 ?_
            refine ad_iadd F dX11_addRule_125 ?_
            refine lv_iload_n F.1 F.2.1 dX11_addRule_126 rfl (lv_at hl 4 rfl) ?_
            refine ad_iast F G 5 rfl (by omega) (ws' := [(m0, mO M 0 (kpS xrm) xsv 0 az_23 xer 0 wd2_24 xlo xhi xwl xml xkl xfi xse xdn xon xtw xol xrw xgl xus xpr xmk xab), (M 6, aI (K 2) 100 gbf), (M 11, aI (K 0) 60 gbg2_25), (M 12, aI (K 0) 60 gle2_26), (M 13, aI (K 4) 60 gam2_27), (M 1, aI (K 0) 1247 (va_up (va_up (va_up g2_39 ((5 + ((rs.length : Int) * 23)) + 0).toNat k) ((5 + ((rs.length : Int) * 23)) + 1).toNat p) ((5 + ((rs.length : Int) * 23)) + 2).toNat c)), (M 3, aR (K 7) 8 gH), (MH 0, aI (K 0) 1247 (gh2_38 0)), (MH 1, aI (K 0) 1247 (gh2_38 1)), (MH 2, aI (K 0) 1247 (gh2_38 2)), (MH 3, aI (K 0) 1247 (gh2_38 3)), (MH 4, aI (K 0) 1247 (gh2_38 4)), (MH 5, aI (K 0) 1247 (gh2_38 5)), (MH 6, aI (K 0) 1247 (gh2_38 6)), (MH 7, aI (K 0) 1247 (gh2_38 7))]) rfl dX11_addRule_127 (fun H locs G => ?_)
            refine lv_aload_n F.1 F.2.1 dX11_addRule_128 rfl (lv_at hl 1 rfl) ?_
            refine lv_iload F.1 F.2.1 dX11_addRule_129 (lv_at hl 0 rfl) ?_
            refine ad_iconst F dX11_addRule_131 ?_
            refine ad_iconst F dX11_addRule_132 ?_
            have hok := errR_ok hc_28
            refine ad_callV (As := [.int (iI (5 + ((rs.length : Int) * 23))), .int (iI 0), .int (iI 1)]) (rest := []) F G (c_X11_writeForms l D K z0 m0 M 0 (kpS xrm) xsv 0 az_23 xer 0 wd2_24 xlo xhi xwl xml xkl xfi xse xdn xon xtw xol xrw xgl xus xpr xmk xab gbf w gbg2_25 gle2_26 (va_up (va_up (va_up g2_39 ((5 + ((rs.length : Int) * 23)) + 0).toNat k) ((5 + ((rs.length : Int) * 23)) + 1).toNat p) ((5 + ((rs.length : Int) * 23)) + 2).toNat c) (5 + ((rs.length : Int) * 23)) 0 1 0 (lend w 0) (lend w 0 + 1) ((w.length : Int) - (lend w 0 + 1)) hT hC hL (by omega) (by omega) (by omega) ⟨hc_29.1, hc_29.2.1⟩ hc_29.2.2 (by omega) (by omega)) my_X11_writeForms mv_X11_167 (wr := [(M 13, aI (K 4) 60 gam2_27), (M 3, aR (K 7) 8 gH), (MH 0, aI (K 0) 1247 (gh2_38 0)), (MH 1, aI (K 0) 1247 (gh2_38 1)), (MH 2, aI (K 0) 1247 (gh2_38 2)), (MH 3, aI (K 0) 1247 (gh2_38 3)), (MH 4, aI (K 0) 1247 (gh2_38 4)), (MH 5, aI (K 0) 1247 (gh2_38 5)), (MH 6, aI (K 0) 1247 (gh2_38 6)), (MH 7, aI (K 0) 1247 (gh2_38 7))]) (isC := [0, 1, 2, 3, 5]) (isR := [4, 6, 7, 8, 9, 10, 11, 12, 13, 14]) ⟨rfl, rfl, rfl, rfl, by decide⟩ 11 0 rfl rfl rfl rfl ⟨Nat.le_of_ble_eq_true rfl, Nat.le_of_ble_eq_true rfl⟩ ⟨Nat.le_of_ble_eq_true rfl, Nat.le_of_ble_eq_true rfl⟩ (Nat.le_of_ble_eq_true rfl) hl.1 (cells9 := 0) (slots9 := 0) ⟨rfl, rfl⟩ dX11_addRule_133 (fun v u H locs hw_42 G => ?_)
            obtain ⟨g2_43, rfl, hc_44, hc_45, rfl⟩ := hw_42
            replace G := G.perm (ws' := [(m0, mO M 0 (kpS xrm) xsv 0 az_23 xer 0 wd2_24 xlo xhi xwl xml xkl xfi xse xdn xon xtw xol xrw xgl xus xpr xmk xab), (M 6, aI (K 2) 100 gbf), (M 11, aI (K 0) 60 gbg2_25), (M 12, aI (K 0) 60 gle2_26), (M 13, aI (K 4) 60 gam2_27), (M 1, aI (K 0) 1247 g2_43), (M 3, aR (K 7) 8 gH), (MH 0, aI (K 0) 1247 (gh2_38 0)), (MH 1, aI (K 0) 1247 (gh2_38 1)), (MH 2, aI (K 0) 1247 (gh2_38 2)), (MH 3, aI (K 0) 1247 (gh2_38 3)), (MH 4, aI (K 0) 1247 (gh2_38 4)), (MH 5, aI (K 0) 1247 (gh2_38 5)), (MH 6, aI (K 0) 1247 (gh2_38 6)), (MH 7, aI (K 0) 1247 (gh2_38 7))]) [10, 11, 12, 13, 0, 14, 1, 2, 3, 4, 5, 6, 7, 8, 9] rfl rfl
            refine W.eq (g2 := F0 m9 136 ls []) rfl ?_
            refine lv_aload_n F.1 F.2.1 dX11_addRule_136 rfl (lv_at hl 1 rfl) ?_
            refine ad_get F G fl_X11_9 0 rfl rfl dX11_addRule_137 ?_
            refine ad_iconst F dX11_addRule_140 ?_
            refine lv_dup2_11 F.1 F.2.1 dX11_addRule_141 rfl rfl ?_
            refine ad_iald F G 5 rfl (w := (rs.length : Int)) (by omega) (by rw [hc_45 0 (by omega) (by omega), va_upO (by omega) (by omega) (by omega), va_upO (by omega) (by omega) (by omega), va_upO (by omega) (by omega) (by omega)]; exact hc_41.1.1) dX11_addRule_142 ?_
            refine ad_iconst F dX11_addRule_143 ?_
            refine ad_iadd F dX11_addRule_144 ?_
            refine ad_iast F G 5 rfl (by omega) (ws' := [(m0, mO M 0 (kpS xrm) xsv 0 az_23 xer 0 wd2_24 xlo xhi xwl xml xkl xfi xse xdn xon xtw xol xrw xgl xus xpr xmk xab), (M 6, aI (K 2) 100 gbf), (M 11, aI (K 0) 60 gbg2_25), (M 12, aI (K 0) 60 gle2_26), (M 13, aI (K 4) 60 gam2_27), (M 1, aI (K 0) 1247 (va_up g2_43 (0 : Int).toNat ((rs.length : Int) + 1))), (M 3, aR (K 7) 8 gH), (MH 0, aI (K 0) 1247 (gh2_38 0)), (MH 1, aI (K 0) 1247 (gh2_38 1)), (MH 2, aI (K 0) 1247 (gh2_38 2)), (MH 3, aI (K 0) 1247 (gh2_38 3)), (MH 4, aI (K 0) 1247 (gh2_38 4)), (MH 5, aI (K 0) 1247 (gh2_38 5)), (MH 6, aI (K 0) 1247 (gh2_38 6)), (MH 7, aI (K 0) 1247 (gh2_38 7))]) rfl dX11_addRule_145 (fun H locs G => ?_)
            refine lv_aload_n F.1 F.2.1 dX11_addRule_146 rfl (lv_at hl 1 rfl) ?_
            refine ad_get F G fl_X11_9 0 rfl rfl dX11_addRule_147 ?_
            refine ad_iconst F dX11_addRule_150 ?_
            refine ad_iald F G 5 rfl (w := ((rs.length : Int) + 1)) (by omega) (va_upE rfl) dX11_addRule_151 ?_
            refine ad_iconst F dX11_addRule_152 ?_
            refine ad_isub F dX11_addRule_153 ?_
            exact ad_ireturn F G hR rfl (Nat.le_of_ble_eq_true rfl) (Nat.le_of_ble_eq_true rfl) (Or.inr (Or.inr (Or.inr (⟨az_23, wd2_24, 0, gbg2_25, gle2_26, gam2_27, gh2_38, va_up g2_43 (0 : Int).toNat ((rs.length : Int) + 1), (ad_eqi (by omega)), (by omega), hc_28, (by omega), hc_40, (MRow_add hc_41 (by omega) rfl (by rw [shW_eq hc_28, loW_eq hc_28]; exact hc_44) hc_45 rfl), rfl⟩)))) dX11_addRule_154
          · refine ad_iconst F dX11_addRule_68 ?_
            refine lv_goto (tgt := 73) F.1 F.2.1 dX11_addRule_69 (by decide) ?_
            refine ad_callV (As := [.int (iI 3), .int (iI 1)]) (rest := []) F G (c_X11_fails_1 l D K z0 m0 M 0 xrm xsv 0 az_23 xer 0 wd2_24 xlo xhi xwl xml xkl xfi xse xdn xon xtw xol xrw xgl xus xpr xmk xab 3 (by omega)) my_X11_fails mv_X11_111 (wr := [(M 6, aI (K 2) 100 gbf), (M 11, aI (K 0) 60 gbg2_25), (M 12, aI (K 0) 60 gle2_26), (M 13, aI (K 4) 60 gam2_27), (M 1, aI (K 0) 1247 g), (M 3, aR (K 7) 8 gH), (MH 0, aI (K 0) 1247 (gh 0)), (MH 1, aI (K 0) 1247 (gh 1)), (MH 2, aI (K 0) 1247 (gh 2)), (MH 3, aI (K 0) 1247 (gh 3)), (MH 4, aI (K 0) 1247 (gh 4)), (MH 5, aI (K 0) 1247 (gh 5)), (MH 6, aI (K 0) 1247 (gh 6)), (MH 7, aI (K 0) 1247 (gh 7))]) (isC := [0]) (isR := [1, 2, 3, 4, 5, 6, 7, 8, 9, 10, 11, 12, 13, 14]) ⟨rfl, rfl, rfl, rfl, by decide⟩ 11 0 rfl rfl rfl rfl ⟨Nat.le_of_ble_eq_true rfl, Nat.le_of_ble_eq_true rfl⟩ ⟨Nat.le_of_ble_eq_true rfl, Nat.le_of_ble_eq_true rfl⟩ (Nat.le_of_ble_eq_true rfl) hl.1 (cells9 := 0) (slots9 := 0) ⟨rfl, rfl⟩ dX11_addRule_73 (fun v u H locs hw_46 G => ?_)
            obtain ⟨rfl, rfl⟩ := hw_46
            replace G := G.perm (ws' := [(m0, mO M 3 xrm xsv 0 az_23 xer 0 wd2_24 xlo xhi xwl xml xkl xfi xse xdn xon xtw xol xrw xgl xus xpr xmk xab), (M 6, aI (K 2) 100 gbf), (M 11, aI (K 0) 60 gbg2_25), (M 12, aI (K 0) 60 gle2_26), (M 13, aI (K 4) 60 gam2_27), (M 1, aI (K 0) 1247 g), (M 3, aR (K 7) 8 gH), (MH 0, aI (K 0) 1247 (gh 0)), (MH 1, aI (K 0) 1247 (gh 1)), (MH 2, aI (K 0) 1247 (gh 2)), (MH 3, aI (K 0) 1247 (gh 3)), (MH 4, aI (K 0) 1247 (gh 4)), (MH 5, aI (K 0) 1247 (gh 5)), (MH 6, aI (K 0) 1247 (gh 6)), (MH 7, aI (K 0) 1247 (gh 7))]) [14, 0, 1, 2, 3, 4, 5, 6, 7, 8, 9, 10, 11, 12, 13] rfl rfl
            refine W.eq (g2 := F0 m9 76 ls [.int (iI 1)]) rfl ?_
            refine ad_if_eq (tgt := 81) F (by decide) dX11_addRule_76 (by decide) (fun cc_47 => absurd cc_47 (by decide)) (fun _ => ?_)
            refine ad_iconst F dX11_addRule_79 ?_
            exact ad_ireturn F G hR rfl (Nat.le_of_ble_eq_true rfl) (Nat.le_of_ble_eq_true rfl) (Or.inr (Or.inr (Or.inl ⟨az_23, wd2_24, 0, gbg2_25, gle2_26, gam2_27, rfl, (by omega), hc_28, (by omega), rfl⟩))) dX11_addRule_80
      · replace G := G.perm (ws' := [(m0, mO M xth xrm xsv (w.length : Int) xat xer xwr xwd xlo xhi xwl xml xkl xfi xse xdn xon xtw xol xrw xgl xus xpr xmk xab), (M 6, aI (K 2) 100 gbf), (M 11, aI (K 0) 60 gbg), (M 12, aI (K 0) 60 gle), (M 13, aI (K 4) 60 gam), (M 1, aI (K 0) 1247 g), (M 3, aR (K 7) 8 gH), (MH 0, aI (K 0) 1247 (gh 0)), (MH 1, aI (K 0) 1247 (gh 1)), (MH 2, aI (K 0) 1247 (gh 2)), (MH 3, aI (K 0) 1247 (gh 3)), (MH 4, aI (K 0) 1247 (gh 4)), (MH 5, aI (K 0) 1247 (gh 5)), (MH 6, aI (K 0) 1247 (gh 6)), (MH 7, aI (K 0) 1247 (gh 7))]) [0, 1, 2, 3, 4, 5, 6, 7, 8, 9, 10, 11, 12, 13, 14] rfl rfl
        refine W.eq (g2 := F0 m9 27 ls [.int (iI 0), .int (iI 1), .ref m0]) rfl ?_
        refine ad_if_ne (tgt := 34) F (by decide) dX11_addRule_27 (by decide) (fun cc_48 => absurd cc_48 (by decide)) (fun _ => ?_)
        refine ad_iconst F dX11_addRule_30 ?_
        refine lv_goto (tgt := 35) F.1 F.2.1 dX11_addRule_31 (by decide) ?_
        refine ad_callV (As := [.int (iI 1), .int (iI 1)]) (rest := []) F G (c_X11_fails_1 l D K z0 m0 M xth xrm xsv (w.length : Int) xat xer xwr xwd xlo xhi xwl xml xkl xfi xse xdn xon xtw xol xrw xgl xus xpr xmk xab 1 (by omega)) my_X11_fails mv_X11_111 (wr := [(M 6, aI (K 2) 100 gbf), (M 11, aI (K 0) 60 gbg), (M 12, aI (K 0) 60 gle), (M 13, aI (K 4) 60 gam), (M 1, aI (K 0) 1247 g), (M 3, aR (K 7) 8 gH), (MH 0, aI (K 0) 1247 (gh 0)), (MH 1, aI (K 0) 1247 (gh 1)), (MH 2, aI (K 0) 1247 (gh 2)), (MH 3, aI (K 0) 1247 (gh 3)), (MH 4, aI (K 0) 1247 (gh 4)), (MH 5, aI (K 0) 1247 (gh 5)), (MH 6, aI (K 0) 1247 (gh 6)), (MH 7, aI (K 0) 1247 (gh 7))]) (isC := [0]) (isR := [1, 2, 3, 4, 5, 6, 7, 8, 9, 10, 11, 12, 13, 14]) ⟨rfl, rfl, rfl, rfl, by decide⟩ 11 0 rfl rfl rfl rfl ⟨Nat.le_of_ble_eq_true rfl, Nat.le_of_ble_eq_true rfl⟩ ⟨Nat.le_of_ble_eq_true rfl, Nat.le_of_ble_eq_true rfl⟩ (Nat.le_of_ble_eq_true rfl) hl.1 (cells9 := 0) (slots9 := 0) ⟨rfl, rfl⟩ dX11_addRule_35 (fun v u H locs hw_49 G => ?_)
        obtain ⟨rfl, rfl⟩ := hw_49
        replace G := G.perm (ws' := [(m0, mO M 1 xrm xsv (w.length : Int) xat xer xwr xwd xlo xhi xwl xml xkl xfi xse xdn xon xtw xol xrw xgl xus xpr xmk xab), (M 6, aI (K 2) 100 gbf), (M 11, aI (K 0) 60 gbg), (M 12, aI (K 0) 60 gle), (M 13, aI (K 4) 60 gam), (M 1, aI (K 0) 1247 g), (M 3, aR (K 7) 8 gH), (MH 0, aI (K 0) 1247 (gh 0)), (MH 1, aI (K 0) 1247 (gh 1)), (MH 2, aI (K 0) 1247 (gh 2)), (MH 3, aI (K 0) 1247 (gh 3)), (MH 4, aI (K 0) 1247 (gh 4)), (MH 5, aI (K 0) 1247 (gh 5)), (MH 6, aI (K 0) 1247 (gh 6)), (MH 7, aI (K 0) 1247 (gh 7))]) [14, 0, 1, 2, 3, 4, 5, 6, 7, 8, 9, 10, 11, 12, 13] rfl rfl
        refine W.eq (g2 := F0 m9 38 ls [.int (iI 1)]) rfl ?_
        refine ad_if_eq (tgt := 43) F (by decide) dX11_addRule_38 (by decide) (fun cc_50 => absurd cc_50 (by decide)) (fun _ => ?_)
        refine ad_iconst F dX11_addRule_41 ?_
        exact ad_ireturn F G hR rfl (Nat.le_of_ble_eq_true rfl) (Nat.le_of_ble_eq_true rfl) (Or.inl ⟨rfl, (by omega), rfl⟩) dX11_addRule_42
    · replace G := G.perm (ws' := [(m0, mO M xth xrm xsv (w.length : Int) xat xer xwr xwd xlo xhi xwl xml xkl xfi xse xdn xon xtw xol xrw xgl xus xpr xmk xab), (M 6, aI (K 2) 100 gbf), (M 11, aI (K 0) 60 gbg), (M 12, aI (K 0) 60 gle), (M 13, aI (K 4) 60 gam), (M 1, aI (K 0) 1247 g), (M 3, aR (K 7) 8 gH), (MH 0, aI (K 0) 1247 (gh 0)), (MH 1, aI (K 0) 1247 (gh 1)), (MH 2, aI (K 0) 1247 (gh 2)), (MH 3, aI (K 0) 1247 (gh 3)), (MH 4, aI (K 0) 1247 (gh 4)), (MH 5, aI (K 0) 1247 (gh 5)), (MH 6, aI (K 0) 1247 (gh 6)), (MH 7, aI (K 0) 1247 (gh 7))]) [0, 1, 2, 3, 4, 5, 6, 7, 8, 9, 10, 11, 12, 13, 14] rfl rfl
      refine W.eq (g2 := F0 m9 18 ls [.int (iI 0), .int (iI 1), .ref m0]) rfl ?_
      refine ad_if_eq (tgt := 30) F (by decide) dX11_addRule_18 (by decide) (fun _ => ?_) (fun cc_51 => absurd cc_51 (by decide))
      refine ad_iconst F dX11_addRule_30 ?_
      refine lv_goto (tgt := 35) F.1 F.2.1 dX11_addRule_31 (by decide) ?_
      refine ad_callV (As := [.int (iI 1), .int (iI 1)]) (rest := []) F G (c_X11_fails_1 l D K z0 m0 M xth xrm xsv (w.length : Int) xat xer xwr xwd xlo xhi xwl xml xkl xfi xse xdn xon xtw xol xrw xgl xus xpr xmk xab 1 (by omega)) my_X11_fails mv_X11_111 (wr := [(M 6, aI (K 2) 100 gbf), (M 11, aI (K 0) 60 gbg), (M 12, aI (K 0) 60 gle), (M 13, aI (K 4) 60 gam), (M 1, aI (K 0) 1247 g), (M 3, aR (K 7) 8 gH), (MH 0, aI (K 0) 1247 (gh 0)), (MH 1, aI (K 0) 1247 (gh 1)), (MH 2, aI (K 0) 1247 (gh 2)), (MH 3, aI (K 0) 1247 (gh 3)), (MH 4, aI (K 0) 1247 (gh 4)), (MH 5, aI (K 0) 1247 (gh 5)), (MH 6, aI (K 0) 1247 (gh 6)), (MH 7, aI (K 0) 1247 (gh 7))]) (isC := [0]) (isR := [1, 2, 3, 4, 5, 6, 7, 8, 9, 10, 11, 12, 13, 14]) ⟨rfl, rfl, rfl, rfl, by decide⟩ 11 0 rfl rfl rfl rfl ⟨Nat.le_of_ble_eq_true rfl, Nat.le_of_ble_eq_true rfl⟩ ⟨Nat.le_of_ble_eq_true rfl, Nat.le_of_ble_eq_true rfl⟩ (Nat.le_of_ble_eq_true rfl) hl.1 (cells9 := 0) (slots9 := 0) ⟨rfl, rfl⟩ dX11_addRule_35 (fun v u H locs hw_52 G => ?_)
      obtain ⟨rfl, rfl⟩ := hw_52
      replace G := G.perm (ws' := [(m0, mO M 1 xrm xsv (w.length : Int) xat xer xwr xwd xlo xhi xwl xml xkl xfi xse xdn xon xtw xol xrw xgl xus xpr xmk xab), (M 6, aI (K 2) 100 gbf), (M 11, aI (K 0) 60 gbg), (M 12, aI (K 0) 60 gle), (M 13, aI (K 4) 60 gam), (M 1, aI (K 0) 1247 g), (M 3, aR (K 7) 8 gH), (MH 0, aI (K 0) 1247 (gh 0)), (MH 1, aI (K 0) 1247 (gh 1)), (MH 2, aI (K 0) 1247 (gh 2)), (MH 3, aI (K 0) 1247 (gh 3)), (MH 4, aI (K 0) 1247 (gh 4)), (MH 5, aI (K 0) 1247 (gh 5)), (MH 6, aI (K 0) 1247 (gh 6)), (MH 7, aI (K 0) 1247 (gh 7))]) [14, 0, 1, 2, 3, 4, 5, 6, 7, 8, 9, 10, 11, 12, 13] rfl rfl
      refine W.eq (g2 := F0 m9 38 ls [.int (iI 1)]) rfl ?_
      refine ad_if_eq (tgt := 43) F (by decide) dX11_addRule_38 (by decide) (fun cc_53 => absurd cc_53 (by decide)) (fun _ => ?_)
      refine ad_iconst F dX11_addRule_41 ?_
      exact ad_ireturn F G hR rfl (Nat.le_of_ble_eq_true rfl) (Nat.le_of_ble_eq_true rfl) (Or.inl ⟨rfl, (by omega), rfl⟩) dX11_addRule_42
  · replace G := G.perm (ws' := [(m0, mO M xth xrm xsv (w.length : Int) xat xer xwr xwd xlo xhi xwl xml xkl xfi xse xdn xon xtw xol xrw xgl xus xpr xmk xab), (M 6, aI (K 2) 100 gbf), (M 11, aI (K 0) 60 gbg), (M 12, aI (K 0) 60 gle), (M 13, aI (K 4) 60 gam), (M 1, aI (K 0) 1247 g), (M 3, aR (K 7) 8 gH), (MH 0, aI (K 0) 1247 (gh 0)), (MH 1, aI (K 0) 1247 (gh 1)), (MH 2, aI (K 0) 1247 (gh 2)), (MH 3, aI (K 0) 1247 (gh 3)), (MH 4, aI (K 0) 1247 (gh 4)), (MH 5, aI (K 0) 1247 (gh 5)), (MH 6, aI (K 0) 1247 (gh 6)), (MH 7, aI (K 0) 1247 (gh 7))]) [0, 1, 2, 3, 4, 5, 6, 7, 8, 9, 10, 11, 12, 13, 14] rfl rfl
    refine W.eq (g2 := F0 m9 8 ls [.int (iI 0), .int (iI 1), .ref m0]) rfl ?_
    refine ad_if_eq (tgt := 30) F (by decide) dX11_addRule_8 (by decide) (fun _ => ?_) (fun cc_54 => absurd cc_54 (by decide))
    refine ad_iconst F dX11_addRule_30 ?_
    refine lv_goto (tgt := 35) F.1 F.2.1 dX11_addRule_31 (by decide) ?_
    refine ad_callV (As := [.int (iI 1), .int (iI 1)]) (rest := []) F G (c_X11_fails_1 l D K z0 m0 M xth xrm xsv (w.length : Int) xat xer xwr xwd xlo xhi xwl xml xkl xfi xse xdn xon xtw xol xrw xgl xus xpr xmk xab 1 (by omega)) my_X11_fails mv_X11_111 (wr := [(M 6, aI (K 2) 100 gbf), (M 11, aI (K 0) 60 gbg), (M 12, aI (K 0) 60 gle), (M 13, aI (K 4) 60 gam), (M 1, aI (K 0) 1247 g), (M 3, aR (K 7) 8 gH), (MH 0, aI (K 0) 1247 (gh 0)), (MH 1, aI (K 0) 1247 (gh 1)), (MH 2, aI (K 0) 1247 (gh 2)), (MH 3, aI (K 0) 1247 (gh 3)), (MH 4, aI (K 0) 1247 (gh 4)), (MH 5, aI (K 0) 1247 (gh 5)), (MH 6, aI (K 0) 1247 (gh 6)), (MH 7, aI (K 0) 1247 (gh 7))]) (isC := [0]) (isR := [1, 2, 3, 4, 5, 6, 7, 8, 9, 10, 11, 12, 13, 14]) ⟨rfl, rfl, rfl, rfl, by decide⟩ 11 0 rfl rfl rfl rfl ⟨Nat.le_of_ble_eq_true rfl, Nat.le_of_ble_eq_true rfl⟩ ⟨Nat.le_of_ble_eq_true rfl, Nat.le_of_ble_eq_true rfl⟩ (Nat.le_of_ble_eq_true rfl) hl.1 (cells9 := 0) (slots9 := 0) ⟨rfl, rfl⟩ dX11_addRule_35 (fun v u H locs hw_55 G => ?_)
    obtain ⟨rfl, rfl⟩ := hw_55
    replace G := G.perm (ws' := [(m0, mO M 1 xrm xsv (w.length : Int) xat xer xwr xwd xlo xhi xwl xml xkl xfi xse xdn xon xtw xol xrw xgl xus xpr xmk xab), (M 6, aI (K 2) 100 gbf), (M 11, aI (K 0) 60 gbg), (M 12, aI (K 0) 60 gle), (M 13, aI (K 4) 60 gam), (M 1, aI (K 0) 1247 g), (M 3, aR (K 7) 8 gH), (MH 0, aI (K 0) 1247 (gh 0)), (MH 1, aI (K 0) 1247 (gh 1)), (MH 2, aI (K 0) 1247 (gh 2)), (MH 3, aI (K 0) 1247 (gh 3)), (MH 4, aI (K 0) 1247 (gh 4)), (MH 5, aI (K 0) 1247 (gh 5)), (MH 6, aI (K 0) 1247 (gh 6)), (MH 7, aI (K 0) 1247 (gh 7))]) [14, 0, 1, 2, 3, 4, 5, 6, 7, 8, 9, 10, 11, 12, 13] rfl rfl
    refine W.eq (g2 := F0 m9 38 ls [.int (iI 1)]) rfl ?_
    refine ad_if_eq (tgt := 43) F (by decide) dX11_addRule_38 (by decide) (fun cc_56 => absurd cc_56 (by decide)) (fun _ => ?_)
    refine ad_iconst F dX11_addRule_41 ?_
    exact ad_ireturn F G hR rfl (Nat.le_of_ble_eq_true rfl) (Nat.le_of_ble_eq_true rfl) (Or.inl ⟨rfl, (by omega), rfl⟩) dX11_addRule_42
