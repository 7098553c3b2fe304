def rm_X11_errorPosition : Room := { frames := 2, cells := 0, slots := 0, locals := 34 }
set_option maxHeartbeats 4000000 in
set_option maxRecDepth 100000 in
theorem c_X11_errorPosition (l : Launch) (D : va_G) (K : Nat → ClassId) (z0 : Nat) (m0 : Nat) (M : Nat → Nat) (xth : Int) (xrm : Int) (xsv : Int) (xln : Int) (xat : Int) (xer : Int) (xwr : Int) (xwd : Int) (xlo : Int) (xhi : Int) (xwl : Int) (xml : Int) (xkl : Int) (xfi : Int) (xse : Int) (xdn : Int) (xon : Int) (xtw : Int) (xol : Int) (xrw : Int) (xgl : Int) (xus : Int) (xpr : Int) (xmk : Int) (xab : Int) (her : -2147483648 ≤ xer ∧ xer < 2147483648) : CT l D K z0 yX11_errorPosition cX11_errorPosition 1 (some .int) rm_X11_errorPosition [.ref m0] [(m0, mO M xth xrm xsv xln xat xer xwr xwd xlo xhi xwl xml xkl xfi xse xdn xon xtw xol xrw xgl xus xpr xmk xab)] (fun v9 u9 => (v9 = some (.int (iI 0)) ∧ (xer < 0) ∧ u9 = [(m0, mO M 1 xrm xsv xln xat xer xwr xwd xlo xhi xwl xml xkl xfi xse xdn xon xtw xol xrw xgl xus xpr xmk xab)]) ∨ (v9 = some (.int (iI xer)) ∧ (0 ≤ xer) ∧ u9 = [(m0, mO M 0 xrm xsv xln xat xer xwr xwd xlo xhi xwl xml xkl xfi xse xdn xon xtw xol xrw xgl xus xpr xmk xab)])) := by
  refine CT.start RX11 "errorPosition" (by decide) rfl rfl (Nat.le_of_ble_eq_true rfl) ?_
  intro p9 e9 s9 m9 ag9 bl9 mt9 c9 A9 Q9 ls F G hR hl
  have hl : lv_has ls 1 [(0, .ref m0)] := hl
  refine lv_aload_n F.1 F.2.1 dX11_errorPosition_0 rfl (lv_at hl 0 rfl) ?_
  refine ad_iconst F dX11_errorPosition_1 ?_
  refine lv_aload_n F.1 F.2.1 dX11_errorPosition_2 rfl (lv_at hl 0 rfl) ?_
  refine ad_get F G fl_X11_25 0 rfl rfl dX11_errorPosition_3 ?_
  refine ad_if_ge (tgt := 13) F (by omega) dX11_errorPosition_6 (by decide) (fun cc_1 => ?_) (fun cc_1 => ?_)
  · refine ad_iconst F dX11_errorPosition_13 ?_
    refine ad_callV (As := [.int (iI 1), .int (iI 0)]) (rest := []) F G (c_X11_fails_0 l D K z0 m0 M xth xrm xsv xln xat xer xwr xwd xlo xhi xwl xml xkl xfi xse xdn xon xtw xol xrw xgl xus xpr xmk xab 1 (by omega)) my_X11_fails mv_X11_111 (wr := []) (isC := [0]) (isR := []) ⟨rfl, rfl, rfl, rfl, by decide⟩ 11 0 rfl rfl rfl rfl ⟨Nat.le_of_ble_eq_true rfl, Nat.le_of_ble_eq_true rfl⟩ ⟨Nat.le_of_ble_eq_true rfl, Nat.le_of_ble_eq_true rfl⟩ (Nat.le_of_ble_eq_true rfl) hl.1 (cells9 := 0) (slots9 := 0) ⟨rfl, rfl⟩ dX11_errorPosition_14 (fun v u H locs hw_2 G => ?_)
    obtain ⟨rfl, rfl⟩ := hw_2
    replace G := G.perm (ws' := [(m0, mO M 0 xrm xsv xln xat xer xwr xwd xlo xhi xwl xml xkl xfi xse xdn xon xtw xol xrw xgl xus xpr xmk xab)]) [0] rfl rfl
    refine W.eq (g2 := F0 m9 17 ls [.int (iI 0)]) rfl ?_
    refine ad_if_eq (tgt := 24) F (by decide) dX11_errorPosition_17 (by decide) (fun _ => ?_) (fun cc_3 => absurd cc_3 (by decide))
    refine lv_aload_n F.1 F.2.1 dX11_errorPosition_24 rfl (lv_at hl 0 rfl) ?_
    refine ad_get F G fl_X11_25 0 rfl rfl dX11_errorPosition_25 ?_
    exact ad_ireturn F G hR rfl (Nat.le_of_ble_eq_true rfl) (Nat.le_of_ble_eq_true rfl) (Or.inr (⟨rfl, cc_1, rfl⟩)) dX11_errorPosition_28
  · refine ad_iconst F dX11_errorPosition_9 ?_
    refine lv_goto (tgt := 14) F.1 F.2.1 dX11_errorPosition_10 (by decide) ?_
    refine ad_callV (As := [.int (iI 1), .int (iI 1)]) (rest := []) F G (c_X11_fails_1 l D K z0 m0 M xth xrm xsv xln xat xer xwr xwd xlo xhi xwl xml xkl xfi xse xdn xon xtw xol xrw xgl xus xpr xmk xab 1 (by omega)) my_X11_fails mv_X11_111 (wr := []) (isC := [0]) (isR := []) ⟨rfl, rfl, rfl, rfl, by decide⟩ 11 0 rfl rfl rfl rfl ⟨Nat.le_of_ble_eq_true rfl, Nat.le_of_ble_eq_true rfl⟩ ⟨Nat.le_of_ble_eq_true rfl, Nat.le_of_ble_eq_true rfl⟩ (Nat.le_of_ble_eq_true rfl) hl.1 (cells9 := 0) (slots9 := 0) ⟨rfl, rfl⟩ dX11_errorPosition_14 (fun v u H locs hw_4 G => ?_)
    obtain ⟨rfl, rfl⟩ := hw_4
    replace G := G.perm (ws' := [(m0, mO M 1 xrm xsv xln xat xer xwr xwd xlo xhi xwl xml xkl xfi xse xdn xon xtw xol xrw xgl xus xpr xmk xab)]) [0] rfl rfl
    refine W.eq (g2 := F0 m9 17 ls [.int (iI 1)]) rfl ?_
    refine ad_if_eq (tgt := 24) F (by decide) dX11_errorPosition_17 (by decide) (fun cc_5 => absurd cc_5 (by decide)) (fun _ => ?_)
    refine ad_iconst F dX11_errorPosition_20 ?_
    refine lv_goto (tgt := 28) F.1 F.2.1 dX11_errorPosition_21 (by decide) ?_
    exact ad_ireturn F G hR rfl (Nat.le_of_ble_eq_true rfl) (Nat.le_of_ble_eq_true rfl) (Or.inl ⟨rfl, cc_1, rfl⟩) dX11_errorPosition_28

def rm_X11_hasNone : Room := { frames := 1, cells := 0, slots := 0, locals := 12 }
set_option maxHeartbeats 4000000 in
set_option maxRecDepth 100000 in
theorem c_X11_hasNone (l : Launch) (D : va_G) (K : Nat → ClassId) (z0 : Nat) (m0 : Nat) (M : Nat → Nat) (xth : Int) (xrm : Int) (xsv : Int) (xln : Int) (xat : Int) (xer : Int) (xwr : Int) (xwd : Int) (xlo : Int) (xhi : Int) (xwl : Int) (xml : Int) (xkl : Int) (xfi : Int) (xse : Int) (xdn : Int) (xon : Int) (xtw : Int) (xol : Int) (xrw : Int) (xgl : Int) (xus : Int) (xpr : Int) (xmk : Int) (xab : Int) (hrw : -2147483648 ≤ xrw ∧ xrw < 2147483648) : CT l D K z0 yX11_hasNone cX11_hasNone 1 (some .boolean) rm_X11_hasNone [.ref m0] [(m0, mO M xth xrm xsv xln xat xer xwr xwd xlo xhi xwl xml xkl xfi xse xdn xon xtw xol xrw xgl xus xpr xmk xab)] (fun v9 u9 => (v9 = some (.int (iI 1)) ∧ (xrw < 0) ∧ u9 = [(m0, mO M xth xrm xsv xln xat xer xwr xwd xlo xhi xwl xml xkl xfi xse xdn xon xtw xol xrw xgl xus xpr xmk xab)]) ∨ (v9 = some (.int (iI 0)) ∧ (¬ (xrw < 0)) ∧ u9 = [(m0, mO M xth xrm xsv xln xat xer xwr xwd xlo xhi xwl xml xkl xfi xse xdn xon xtw xol xrw xgl xus xpr xmk xab)])) := by
  refine CT.start RX11 "hasNone" (by decide) rfl rfl (Nat.le_of_ble_eq_true rfl) ?_
  intro p9 e9 s9 m9 ag9 bl9 mt9 c9 A9 Q9 ls F G hR hl
  have hl : lv_has ls 1 [(0, .ref m0)] := hl
  refine lv_aload_n F.1 F.2.1 dX11_hasNone_0 rfl (lv_at hl 0 rfl) ?_
  refine ad_get F G fl_X11_72 0 rfl rfl dX11_hasNone_1 ?_
  refine ad_if_ge (tgt := 11) F (by omega) dX11_hasNone_4 (by decide) (fun cc_1 => ?_) (fun cc_1 => ?_)
  · refine ad_iconst F dX11_hasNone_11 ?_
    exact ad_zreturn F G hR rfl (Nat.le_of_ble_eq_true rfl) (Nat.le_of_ble_eq_true rfl) rfl (Or.inr (⟨rfl, (by omega), rfl⟩)) dX11_hasNone_12
  · refine ad_iconst F dX11_hasNone_7 ?_
    refine lv_goto (tgt := 12) F.1 F.2.1 dX11_hasNone_8 (by decide) ?_
    exact ad_zreturn F G hR rfl (Nat.le_of_ble_eq_true rfl) (Nat.le_of_ble_eq_true rfl) rfl (Or.inl ⟨rfl, cc_1, rfl⟩) dX11_hasNone_12

def rm_X11_output_n : Room := { frames := 2, cells := 0, slots := 0, locals := 34 }
set_option maxHeartbeats 4000000 in
set_option maxRecDepth 100000 in
theorem c_X11_output_n (l : Launch) (D : va_G) (K : Nat → ClassId) (z0 : Nat) (m0 : Nat) (M : Nat → Nat) (xth : Int) (xrm : Int) (xsv : Int) (xln : Int) (xat : Int) (xer : Int) (xwr : Int) (xwd : Int) (xlo : Int) (xhi : Int) (xwl : Int) (xml : Int) (xkl : Int) (xfi : Int) (xse : Int) (xdn : Int) (xon : Int) (xtw : Int) (xol : Int) (xrw : Int) (xgl : Int) (xus : Int) (xpr : Int) (xmk : Int) (xab : Int) (gou : Nat → Int) (z : Int) (hz : -2147483648 ≤ z ∧ z < 2147483648) (hrr : -1 ≤ xrw ∧ xrw ≤ 60) (hn_ : xrw < 0) : CT l D K z0 yX11_output cX11_output 2 (some .char) rm_X11_output_n [.ref m0, .int (iI z)] [(m0, mO M xth xrm xsv xln xat xer xwr xwd xlo xhi xwl xml xkl xfi xse xdn xon xtw xol xrw xgl xus xpr xmk xab), (M 35, aI (K 0) 2000 gou)] (fun v9 u9 => v9 = some (.int (iI 0)) ∧ u9 = [(m0, mO M 1 xrm xsv xln xat xer xwr xwd xlo xhi xwl xml xkl xfi xse xdn xon xtw xol xrw xgl xus xpr xmk xab), (M 35, aI (K 0) 2000 gou)]) := by
  refine CT.start RX11 "output" (by decide) rfl rfl (Nat.le_of_ble_eq_true rfl) ?_
  intro p9 e9 s9 m9 ag9 bl9 mt9 c9 A9 Q9 ls F G hR hl
  have hl : lv_has ls 2 [(0, .ref m0), (1, .int (iI z))] := hl
  refine lv_aload_n F.1 F.2.1 dX11_output_0 rfl (lv_at hl 0 rfl) ?_
  refine ad_iconst F dX11_output_1 ?_
  refine lv_aload_n F.1 F.2.1 dX11_output_2 rfl (lv_at hl 0 rfl) ?_
  refine ad_callV (As := []) (rest := [.int (iI 1), .ref m0]) F G (c_X11_hasNone l D K z0 m0 M xth xrm xsv xln xat xer xwr xwd xlo xhi xwl xml xkl xfi xse xdn xon xtw xol xrw xgl xus xpr xmk xab (by omega)) my_X11_hasNone mv_X11_342 (wr := [(M 35, aI (K 0) 2000 gou)]) (isC := [0]) (isR := [1]) ⟨rfl, rfl, rfl, rfl, by decide⟩ 11 0 rfl rfl rfl rfl ⟨Nat.le_of_ble_eq_true rfl, Nat.le_of_ble_eq_true rfl⟩ ⟨Nat.le_of_ble_eq_true rfl, Nat.le_of_ble_eq_true rfl⟩ (Nat.le_of_ble_eq_true rfl) hl.1 (cells9 := 0) (slots9 := 0) ⟨rfl, rfl⟩ dX11_output_3 (fun v u H locs hw_1 G => ?_)
  rcases hw_1 with ⟨rfl, hc_2, rfl⟩ | ⟨rfl, hc_3, rfl⟩
  · replace G := G.perm (ws' := [(m0, mO M xth xrm xsv xln xat xer xwr xwd xlo xhi xwl xml xkl xfi xse xdn xon xtw xol xrw xgl xus xpr xmk xab), (M 35, aI (K 0) 2000 gou)]) [1, 0] rfl rfl
    refine W.eq (g2 := F0 m9 6 ls [.int (iI 1), .int (iI 1), .ref m0]) rfl ?_
    refine ad_callV (As := [.int (iI 1), .int (iI 1)]) (rest := []) F G (c_X11_fails_1 l D K z0 m0 M xth xrm xsv xln xat xer xwr xwd xlo xhi xwl xml xkl xfi xse xdn xon xtw xol xrw xgl xus xpr xmk xab 1 (by omega)) my_X11_fails mv_X11_111 (wr := [(M 35, aI (K 0) 2000 gou)]) (isC := [0]) (isR := [1]) ⟨rfl, rfl, rfl, rfl, by decide⟩ 11 0 rfl rfl rfl rfl ⟨Nat.le_of_ble_eq_true rfl, Nat.le_of_ble_eq_true rfl⟩ ⟨Nat.le_of_ble_eq_true rfl, Nat.le_of_ble_eq_true rfl⟩ (Nat.le_of_ble_eq_true rfl) hl.1 (cells9 := 0) (slots9 := 0) ⟨rfl, rfl⟩ dX11_output_6 (fun v u H locs hw_4 G => ?_)
    obtain ⟨rfl, rfl⟩ := hw_4
    replace G := G.perm (ws' := [(m0, mO M 1 xrm xsv xln xat xer xwr xwd xlo xhi xwl xml xkl xfi xse xdn xon xtw xol xrw xgl xus xpr xmk xab), (M 35, aI (K 0) 2000 gou)]) [1, 0] rfl rfl
    refine W.eq (g2 := F0 m9 9 ls [.int (iI 1)]) rfl ?_
    refine ad_if_ne (tgt := 39) F (by decide) dX11_output_9 (by decide) (fun _ => ?_) (fun cc_5 => absurd cc_5 (by decide))
    refine ad_iconst F dX11_output_39 ?_
    refine lv_goto (tgt := 50) F.1 F.2.1 dX11_output_40 (by decide) ?_
    exact ad_zreturn F G hR rfl (Nat.le_of_ble_eq_true rfl) (Nat.le_of_ble_eq_true rfl) (iI_charN (by omega)).1 ⟨rfl, rfl⟩ dX11_output_50
  · replace G := G.perm (ws' := [(m0, mO M xth xrm xsv xln xat xer xwr xwd xlo xhi xwl xml xkl xfi xse xdn xon xtw xol xrw xgl xus xpr xmk xab), (M 35, aI (K 0) 2000 gou)]) [1, 0] rfl rfl
    refine W.eq (g2 := F0 m9 6 ls [.int (iI 0), .int (iI 1), .ref m0]) rfl ?_
    exfalso; omega

def rm_X11_output_t : Room := { frames := 2, cells := 0, slots := 0, locals := 34 }
set_option maxHeartbeats 4000000 in
set_option maxRecDepth 100000 in
theorem c_X11_output_t (l : Launch) (D : va_G) (K : Nat → ClassId) (z0 : Nat) (m0 : Nat) (M : Nat → Nat) (xth : Int) (xrm : Int) (xsv : Int) (xln : Int) (xat : Int) (xer : Int) (xwr : Int) (xwd : Int) (xlo : Int) (xhi : Int) (xwl : Int) (xml : Int) (xkl : Int) (xfi : Int) (xse : Int) (xdn : Int) (xon : Int) (xtw : Int) (xrw : Int) (xgl : Int) (xus : Int) (xpr : Int) (xmk : Int) (xab : Int) (gou : Nat → Int) (ow : List Int) (z : Int) (hTo : Tx gou ow) (hCo : Chs ow) (hLo : ow.length ≤ 1300) (hrr : -1 ≤ xrw ∧ xrw ≤ 60) (hn_ : 0 ≤ xrw) (hz : -2147483648 ≤ z ∧ z < 2147483648) : CT l D K z0 yX11_output cX11_output 2 (some .char) rm_X11_output_t [.ref m0, .int (iI z)] [(m0, mO M xth xrm xsv xln xat xer xwr xwd xlo xhi xwl xml xkl xfi xse xdn xon xtw (ow.length : Int) xrw xgl xus xpr xmk xab), (M 35, aI (K 0) 2000 gou)] (fun v9 u9 => (v9 = some (.int (iI 0)) ∧ (¬ (0 ≤ z ∧ z < ow.length)) ∧ u9 = [(m0, mO M 2 xrm xsv xln xat xer xwr xwd xlo xhi xwl xml xkl xfi xse xdn xon xtw (ow.length : Int) xrw xgl xus xpr xmk xab), (M 35, aI (K 0) 2000 gou)]) ∨ (v9 = some (.int (iI (lat ow z))) ∧ (0 ≤ z ∧ z < ow.length) ∧ u9 = [(m0, mO M 0 xrm xsv xln xat xer xwr xwd xlo xhi xwl xml xkl xfi xse xdn xon xtw (ow.length : Int) xrw xgl xus xpr xmk xab), (M 35, aI (K 0) 2000 gou)])) := by
  refine CT.start RX11 "output" (by decide) rfl rfl (Nat.le_of_ble_eq_true rfl) ?_
  intro p9 e9 s9 m9 ag9 bl9 mt9 c9 A9 Q9 ls F G hR hl
  have hl : lv_has ls 2 [(0, .ref m0), (1, .int (iI z))] := hl
  refine lv_aload_n F.1 F.2.1 dX11_output_0 rfl (lv_at hl 0 rfl) ?_
  refine ad_iconst F dX11_output_1 ?_
  refine lv_aload_n F.1 F.2.1 dX11_output_2 rfl (lv_at hl 0 rfl) ?_
  refine ad_callV (As := []) (rest := [.int (iI 1), .ref m0]) F G (c_X11_hasNone l D K z0 m0 M xth xrm xsv xln xat xer xwr xwd xlo xhi xwl xml xkl xfi xse xdn xon xtw (ow.length : Int) xrw xgl xus xpr xmk xab (by omega)) my_X11_hasNone mv_X11_342 (wr := [(M 35, aI (K 0) 2000 gou)]) (isC := [0]) (isR := [1]) ⟨rfl, rfl, rfl, rfl, by decide⟩ 11 0 rfl rfl rfl rfl ⟨Nat.le_of_ble_eq_true rfl, Nat.le_of_ble_eq_true rfl⟩ ⟨Nat.le_of_ble_eq_true rfl, Nat.le_of_ble_eq_true rfl⟩ (Nat.le_of_ble_eq_true rfl) hl.1 (cells9 := 0) (slots9 := 0) ⟨rfl, rfl⟩ dX11_output_3 (fun v u H locs hw_1 G => ?_)
  rcases hw_1 with ⟨rfl, hc_2, rfl⟩ | ⟨rfl, hc_3, rfl⟩
  · replace G := G.perm (ws' := [(m0, mO M xth xrm xsv xln xat xer xwr xwd xlo xhi xwl xml xkl xfi xse xdn xon xtw (ow.length : Int) xrw xgl xus xpr xmk xab), (M 35, aI (K 0) 2000 gou)]) [1, 0] rfl rfl
    refine W.eq (g2 := F0 m9 6 ls [.int (iI 1), .int (iI 1), .ref m0]) rfl ?_
    exfalso; omega
  · replace G := G.perm (ws' := [(m0, mO M xth xrm xsv xln xat xer xwr xwd xlo xhi xwl xml xkl xfi xse xdn xon xtw (ow.length : Int) xrw xgl xus xpr xmk xab), (M 35, aI (K 0) 2000 gou)]) [1, 0] rfl rfl
    refine W.eq (g2 := F0 m9 6 ls [.int (iI 0), .int (iI 1), .ref m0]) rfl ?_
    refine ad_callV (As := [.int (iI 1), .int (iI 0)]) (rest := []) F G (c_X11_fails_0 l D K z0 m0 M xth xrm xsv xln xat xer xwr xwd xlo xhi xwl xml xkl xfi xse xdn xon xtw (ow.length : Int) xrw xgl xus xpr xmk xab 1 (by omega)) my_X11_fails mv_X11_111 (wr := [(M 35, aI (K 0) 2000 gou)]) (isC := [0]) (isR := [1]) ⟨rfl, rfl, rfl, rfl, by decide⟩ 11 0 rfl rfl rfl rfl ⟨Nat.le_of_ble_eq_true rfl, Nat.le_of_ble_eq_true rfl⟩ ⟨Nat.le_of_ble_eq_true rfl, Nat.le_of_ble_eq_true rfl⟩ (Nat.le_of_ble_eq_true rfl) hl.1 (cells9 := 0) (slots9 := 0) ⟨rfl, rfl⟩ dX11_output_6 (fun v u H locs hw_4 G => ?_)
    obtain ⟨rfl, rfl⟩ := hw_4
    replace G := G.perm (ws' := [(m0, mO M 0 xrm xsv xln xat xer xwr xwd xlo xhi xwl xml xkl xfi xse xdn xon xtw (ow.length : Int) xrw xgl xus xpr xmk xab), (M 35, aI (K 0) 2000 gou)]) [1, 0] rfl rfl
    refine W.eq (g2 := F0 m9 9 ls [.int (iI 0)]) rfl ?_
    refine ad_if_ne (tgt := 39) F (by decide) dX11_output_9 (by decide) (fun cc_5 => absurd cc_5 (by decide)) (fun _ => ?_)
    refine lv_aload_n F.1 F.2.1 dX11_output_12 rfl (lv_at hl 0 rfl) ?_
    refine ad_iconst F dX11_output_13 ?_
    refine lv_iload_n F.1 F.2.1 dX11_output_14 rfl (lv_at hl 1 rfl) ?_
    refine ad_iconst F dX11_output_15 ?_
    refine lv_aload_n F.1 F.2.1 dX11_output_16 rfl (lv_at hl 0 rfl) ?_
    refine ad_get F G fl_X11_292 0 rfl rfl dX11_output_17 ?_
    refine ad_iconst F dX11_output_20 ?_
    refine ad_isub F dX11_output_21 ?_
    refine ad_callS (As := [.int (iI z), .int (iI 0), .int (iI ((ow.length : Int) - 1))]) (rest := [.int (iI 2), .ref m0]) F G (c_X11_isBetween l D K z0 z 0 ((ow.length : Int) - 1) hz (by omega) (by omega)) my_X11_isBetween ms_X11_107 (wr := [(m0, mO M 0 xrm xsv xln xat xer xwr xwd xlo xhi xwl xml xkl xfi xse xdn xon xtw (ow.length : Int) xrw xgl xus xpr xmk xab), (M 35, aI (K 0) 2000 gou)]) (isC := []) (isR := [0, 1]) ⟨rfl, rfl, rfl, rfl, by decide⟩ rfl rfl ⟨Nat.le_of_ble_eq_true rfl, Nat.le_of_ble_eq_true rfl⟩ ⟨Nat.le_of_ble_eq_true rfl, Nat.le_of_ble_eq_true rfl⟩ (Nat.le_of_ble_eq_true rfl) hl.1 (cells9 := 0) (slots9 := 0) ⟨rfl, rfl⟩ dX11_output_22 (fun v u H locs hw_6 G => ?_)
    rcases hw_6 with ⟨rfl, hc_7, rfl⟩ | ⟨rfl, hc_8, rfl⟩
    · replace G := G.perm (ws' := [(m0, mO M 0 xrm xsv xln xat xer xwr xwd xlo xhi xwl xml xkl xfi xse xdn xon xtw (ow.length : Int) xrw xgl xus xpr xmk xab), (M 35, aI (K 0) 2000 gou)]) [0, 1] rfl rfl
      refine W.eq (g2 := F0 m9 25 ls [.int (iI 1), .int (iI 2), .ref m0]) rfl ?_
      refine ad_if_ne (tgt := 32) F (by decide) dX11_output_25 (by decide) (fun _ => ?_) (fun cc_9 => absurd cc_9 (by decide))
      refine ad_iconst F dX11_output_32 ?_
      refine ad_callV (As := [.int (iI 2), .int (iI 0)]) (rest := []) F G (c_X11_fails_0 l D K z0 m0 M 0 xrm xsv xln xat xer xwr xwd xlo xhi xwl xml xkl xfi xse xdn xon xtw (ow.length : Int) xrw xgl xus xpr xmk xab 2 (by omega)) my_X11_fails mv_X11_111 (wr := [(M 35, aI (K 0) 2000 gou)]) (isC := [0]) (isR := [1]) ⟨rfl, rfl, rfl, rfl, by decide⟩ 11 0 rfl rfl rfl rfl ⟨Nat.le_of_ble_eq_true rfl, Nat.le_of_ble_eq_true rfl⟩ ⟨Nat.le_of_ble_eq_true rfl, Nat.le_of_ble_eq_true rfl⟩ (Nat.le_of_ble_eq_true rfl) hl.1 (cells9 := 0) (slots9 := 0) ⟨rfl, rfl⟩ dX11_output_33 (fun v u H locs hw_10 G => ?_)
      obtain ⟨rfl, rfl⟩ := hw_10
      replace G := G.perm (ws' := [(m0, mO M 0 xrm xsv xln xat xer xwr xwd xlo xhi xwl xml xkl xfi xse xdn xon xtw (ow.length : Int) xrw xgl xus xpr xmk xab), (M 35, aI (K 0) 2000 gou)]) [1, 0] rfl rfl
      refine W.eq (g2 := F0 m9 36 ls [.int (iI 0)]) rfl ?_
      refine ad_if_eq (tgt := 43) F (by decide) dX11_output_36 (by decide) (fun _ => ?_) (fun cc_11 => absurd cc_11 (by decide))
      refine lv_aload_n F.1 F.2.1 dX11_output_43 rfl (lv_at hl 0 rfl) ?_
      refine ad_get F G fl_X11_69 0 rfl rfl dX11_output_44 ?_
      refine lv_iload_n F.1 F.2.1 dX11_output_47 rfl (lv_at hl 1 rfl) ?_
      refine ad_iald F G 1 rfl (w := lat ow z) (by omega) (Tx_at hTo (by omega) (by omega)) dX11_output_48 ?_
      have hcz := lat_ch hCo z
      refine lv_i2c (v := iI (lat ow z)) F.1 F.2.1 dX11_output_49 (iI_i2c (by omega)) ?_
      exact ad_zreturn F G hR rfl (Nat.le_of_ble_eq_true rfl) (Nat.le_of_ble_eq_true rfl) (iI_charN (by omega)).1 (Or.inr (⟨rfl, (by omega), rfl⟩)) dX11_output_50
    · replace G := G.perm (ws' := [(m0, mO M 0 xrm xsv xln xat xer xwr xwd xlo xhi xwl xml xkl xfi xse xdn xon xtw (ow.length : Int) xrw xgl xus xpr xmk xab), (M 35, aI (K 0) 2000 gou)]) [0, 1] rfl rfl
      refine W.eq (g2 := F0 m9 25 ls [.int (iI 0), .int (iI 2), .ref m0]) rfl ?_
      refine ad_if_ne (tgt := 32) F (by decide) dX11_output_25 (by decide) (fun cc_12 => absurd cc_12 (by decide)) (fun _ => ?_)
      refine ad_iconst F dX11_output_28 ?_
      refine lv_goto (tgt := 33) F.1 F.2.1 dX11_output_29 (by decide) ?_
      refine ad_callV (As := [.int (iI 2), .int (iI 1)]) (rest := []) F G (c_X11_fails_1 l D K z0 m0 M 0 xrm xsv xln xat xer xwr xwd xlo xhi xwl xml xkl xfi xse xdn xon xtw (ow.length : Int) xrw xgl xus xpr xmk xab 2 (by omega)) my_X11_fails mv_X11_111 (wr := [(M 35, aI (K 0) 2000 gou)]) (isC := [0]) (isR := [1]) ⟨rfl, rfl, rfl, rfl, by decide⟩ 11 0 rfl rfl rfl rfl ⟨Nat.le_of_ble_eq_true rfl, Nat.le_of_ble_eq_true rfl⟩ ⟨Nat.le_of_ble_eq_true rfl, Nat.le_of_ble_eq_true rfl⟩ (Nat.le_of_ble_eq_true rfl) hl.1 (cells9 := 0) (slots9 := 0) ⟨rfl, rfl⟩ dX11_output_33 (fun v u H locs hw_13 G => ?_)
      obtain ⟨rfl, rfl⟩ := hw_13
      replace G := G.perm (ws' := [(m0, mO M 2 xrm xsv xln xat xer xwr xwd xlo xhi xwl xml xkl xfi xse xdn xon xtw (ow.length : Int) xrw xgl xus xpr xmk xab), (M 35, aI (K 0) 2000 gou)]) [1, 0] rfl rfl
      refine W.eq (g2 := F0 m9 36 ls [.int (iI 1)]) rfl ?_
      refine ad_if_eq (tgt := 43) F (by decide) dX11_output_36 (by decide) (fun cc_14 => absurd cc_14 (by decide)) (fun _ => ?_)
      refine ad_iconst F dX11_output_39 ?_
      refine lv_goto (tgt := 50) F.1 F.2.1 dX11_output_40 (by decide) ?_
      exact ad_zreturn F G hR rfl (Nat.le_of_ble_eq_true rfl) (Nat.le_of_ble_eq_true rfl) (iI_charN (by omega)).1 (Or.inl ⟨rfl, (by omega), rfl⟩) dX11_output_50

def rm_X11_takeBack_n : Room := { frames := 2, cells := 0, slots := 0, locals := 34 }
set_option maxHeartbeats 4000000 in
set_option maxRecDepth 100000 in
theorem c_X11_takeBack_n (l : Launch) (D : va_G) (K : Nat → ClassId) (z0 : Nat) (m0 : Nat) (M : Nat → Nat) (xth : Int) (xrm : Int) (xsv : Int) (xln : Int) (xat : Int) (xer : Int) (xwr : Int) (xwd : Int) (xlo : Int) (xhi : Int) (xwl : Int) (xml : Int) (xkl : Int) (xfi : Int) (xse : Int) (xdn : Int) (xon : Int) (xtw : Int) (xol : Int) (xrw : Int) (xgl : Int) (xus : Int) (xpr : Int) (xmk : Int) (xab : Int) (gbf : Nat → Int) (gou : Nat → Int) (hrr : -1 ≤ xrw ∧ xrw ≤ 60) (hn_ : xrw < 0) : CT l D K z0 yX11_takeBack cX11_takeBack 2 (some .int) rm_X11_takeBack_n [.ref m0] [(m0, mO M xth xrm xsv xln xat xer xwr xwd xlo xhi xwl xml xkl xfi xse xdn xon xtw xol xrw xgl xus xpr xmk xab), (M 6, aI (K 2) 100 gbf), (M 35, aI (K 0) 2000 gou)] (fun v9 u9 => v9 = some (.int (iI 0)) ∧ u9 = [(m0, mO M 1 xrm xsv xln xat xer xwr xwd xlo xhi xwl xml xkl xfi xse xdn xon xtw xol xrw xgl xus xpr xmk xab), (M 6, aI (K 2) 100 gbf), (M 35, aI (K 0) 2000 gou)]) := by
  refine CT.start RX11 "takeBack" (by decide) rfl rfl (Nat.le_of_ble_eq_true rfl) ?_
  intro p9 e9 s9 m9 ag9 bl9 mt9 c9 A9 Q9 ls F G hR hl
  have hl : lv_has ls 2 [(0, .ref m0)] := hl
  refine lv_aload_n F.1 F.2.1 dX11_takeBack_0 rfl (lv_at hl 0 rfl) ?_
  refine ad_iconst F dX11_takeBack_1 ?_
  refine lv_aload_n F.1 F.2.1 dX11_takeBack_2 rfl (lv_at hl 0 rfl) ?_
  refine ad_callV (As := []) (rest := [.int (iI 1), .ref m0]) F G (c_X11_hasNone l D K z0 m0 M xth xrm xsv xln xat xer xwr xwd xlo xhi xwl xml xkl xfi xse xdn xon xtw xol xrw xgl xus xpr xmk xab (by omega)) my_X11_hasNone mv_X11_342 (wr := [(M 6, aI (K 2) 100 gbf), (M 35, aI (K 0) 2000 gou)]) (isC := [0]) (isR := [1, 2]) ⟨rfl, rfl, rfl, rfl, by decide⟩ 11 0 rfl rfl rfl rfl ⟨Nat.le_of_ble_eq_true rfl, Nat.le_of_ble_eq_true rfl⟩ ⟨Nat.le_of_ble_eq_true rfl, Nat.le_of_ble_eq_true rfl⟩ (Nat.le_of_ble_eq_true rfl) hl.1 (cells9 := 0) (slots9 := 0) ⟨rfl, rfl⟩ dX11_takeBack_3 (fun v u H locs hw_1 G => ?_)
  rcases hw_1 with ⟨rfl, hc_2, rfl⟩ | ⟨rfl, hc_3, rfl⟩
  · replace G := G.perm (ws' := [(m0, mO M xth xrm xsv xln xat xer xwr xwd xlo xhi xwl xml xkl xfi xse xdn xon xtw xol xrw xgl xus xpr xmk xab), (M 6, aI (K 2) 100 gbf), (M 35, aI (K 0) 2000 gou)]) [2, 0, 1] rfl rfl
    refine W.eq (g2 := F0 m9 6 ls [.int (iI 1), .int (iI 1), .ref m0]) rfl ?_
    refine ad_callV (As := [.int (iI 1), .int (iI 1)]) (rest := []) F G (c_X11_fails_1 l D K z0 m0 M xth xrm xsv xln xat xer xwr xwd xlo xhi xwl xml xkl xfi xse xdn xon xtw xol xrw xgl xus xpr xmk xab 1 (by omega)) my_X11_fails mv_X11_111 (wr := [(M 6, aI (K 2) 100 gbf), (M 35, aI (K 0) 2000 gou)]) (isC := [0]) (isR := [1, 2]) ⟨rfl, rfl, rfl, rfl, by decide⟩ 11 0 rfl rfl rfl rfl ⟨Nat.le_of_ble_eq_true rfl, Nat.le_of_ble_eq_true rfl⟩ ⟨Nat.le_of_ble_eq_true rfl, Nat.le_of_ble_eq_true rfl⟩ (Nat.le_of_ble_eq_true rfl) hl.1 (cells9 := 0) (slots9 := 0) ⟨rfl, rfl⟩ dX11_takeBack_6 (fun v u H locs hw_4 G => ?_)
    obtain ⟨rfl, rfl⟩ := hw_4
    replace G := G.perm (ws' := [(m0, mO M 1 xrm xsv xln xat xer xwr xwd xlo xhi xwl xml xkl xfi xse xdn xon xtw xol xrw xgl xus xpr xmk xab), (M 6, aI (K 2) 100 gbf), (M 35, aI (K 0) 2000 gou)]) [2, 0, 1] rfl rfl
    refine W.eq (g2 := F0 m9 9 ls [.int (iI 1)]) rfl ?_
    refine ad_if_ne (tgt := 34) F (by decide) dX11_takeBack_9 (by decide) (fun _ => ?_) (fun cc_5 => absurd cc_5 (by decide))
    refine ad_iconst F dX11_takeBack_34 ?_
    exact ad_ireturn F G hR rfl (Nat.le_of_ble_eq_true rfl) (Nat.le_of_ble_eq_true rfl) ⟨rfl, rfl⟩ dX11_takeBack_35
  · replace G := G.perm (ws' := [(m0, mO M xth xrm xsv xln xat xer xwr xwd xlo xhi xwl xml xkl xfi xse xdn xon xtw xol xrw xgl xus xpr xmk xab), (M 6, aI (K 2) 100 gbf), (M 35, aI (K 0) 2000 gou)]) [2, 0, 1] rfl rfl
    refine W.eq (g2 := F0 m9 6 ls [.int (iI 0), .int (iI 1), .ref m0]) rfl ?_
    exfalso; omega

def rm_X11_takeBack_t : Room := { frames := 2, cells := 0, slots := 0, locals := 34 }
set_option maxHeartbeats 4000000 in
set_option maxRecDepth 100000 in
theorem c_X11_takeBack_t (l : Launch) (D : va_G) (K : Nat → ClassId) (z0 : Nat) (m0 : Nat) (M : Nat → Nat) (xth : Int) (xrm : Int) (xsv : Int) (xln : Int) (xat : Int) (xer : Int) (xwr : Int) (xwd : Int) (xlo : Int) (xhi : Int) (xwl : Int) (xml : Int) (xkl : Int) (xfi : Int) (xse : Int) (xdn : Int) (xon : Int) (xtw : Int) (xrw : Int) (xgl : Int) (xus : Int) (xpr : Int) (xmk : Int) (xab : Int) (gou : Nat → Int) (ow : List Int) (gbf : Nat → Int) (hTo : Tx gou ow) (hCo : Chs ow) (hLo : ow.length ≤ 1300) (hcb : ∀ j : Nat, j < 100 → 0 ≤ gbf j ∧ gbf j < 65536) (hrr : -1 ≤ xrw ∧ xrw ≤ 60) (hn_ : 0 ≤ xrw) : CT l D K z0 yX11_takeBack cX11_takeBack 2 (some .int) rm_X11_takeBack_t [.ref m0] [(m0, mO M xth xrm xsv xln xat xer xwr xwd xlo xhi xwl xml xkl xfi xse xdn xon xtw (ow.length : Int) xrw xgl xus xpr xmk xab), (M 35, aI (K 0) 2000 gou), (M 6, aI (K 2) 100 gbf)] (fun v9 u9 => (v9 = some (.int (iI 0)) ∧ (100 < ow.length) ∧ u9 = [(m0, mO M 2 xrm xsv xln xat xer xwr xwd xlo xhi xwl xml xkl xfi xse xdn xon xtw (ow.length : Int) xrw xgl xus xpr xmk xab), (M 35, aI (K 0) 2000 gou), (M 6, aI (K 2) 100 gbf)]) ∨ (∃ (gbf2 : Nat → Int), v9 = some (.int (iI (ow.length : Int))) ∧ (ow.length ≤ 100) ∧ (Tx gbf2 ow) ∧ (∀ j : Nat, j < 100 → 0 ≤ gbf2 j ∧ gbf2 j < 65536) ∧ u9 = [(m0, mO M 0 xrm xsv (ow.length : Int) xat xer xwr xwd xlo xhi xwl xml xkl xfi xse xdn xon xtw (ow.length : Int) xrw xgl xus xpr xmk xab), (M 35, aI (K 0) 2000 gou), (M 6, aI (K 2) 100 gbf2)])) := by
  refine CT.start RX11 "takeBack" (by decide) rfl rfl (Nat.le_of_ble_eq_true rfl) ?_
  intro p9 e9 s9 m9 ag9 bl9 mt9 c9 A9 Q9 ls F G hR hl
  have hl : lv_has ls 2 [(0, .ref m0)] := hl
  refine lv_aload_n F.1 F.2.1 dX11_takeBack_0 rfl (lv_at hl 0 rfl) ?_
  refine ad_iconst F dX11_takeBack_1 ?_
  refine lv_aload_n F.1 F.2.1 dX11_takeBack_2 rfl (lv_at hl 0 rfl) ?_
  refine ad_callV (As := []) (rest := [.int (iI 1), .ref m0]) F G (c_X11_hasNone l D K z0 m0 M xth xrm xsv xln xat xer xwr xwd xlo xhi xwl xml xkl xfi xse xdn xon xtw (ow.length : Int) xrw xgl xus xpr xmk xab (by omega)) my_X11_hasNone mv_X11_342 (wr := [(M 35, aI (K 0) 2000 gou), (M 6, aI (K 2) 100 gbf)]) (isC := [0]) (isR := [1, 2]) ⟨rfl, rfl, rfl, rfl, by decide⟩ 11 0 rfl rfl rfl rfl ⟨Nat.le_of_ble_eq_true rfl, Nat.le_of_ble_eq_true rfl⟩ ⟨Nat.le_of_ble_eq_true rfl, Nat.le_of_ble_eq_true rfl⟩ (Nat.le_of_ble_eq_true rfl) hl.1 (cells9 := 0) (slots9 := 0) ⟨rfl, rfl⟩ dX11_takeBack_3 (fun v u H locs hw_1 G => ?_)
  rcases hw_1 with ⟨rfl, hc_2, rfl⟩ | ⟨rfl, hc_3, rfl⟩
  · replace G := G.perm (ws' := [(m0, mO M xth xrm xsv xln xat xer xwr xwd xlo xhi xwl xml xkl xfi xse xdn xon xtw (ow.length : Int) xrw xgl xus xpr xmk xab), (M 35, aI (K 0) 2000 gou), (M 6, aI (K 2) 100 gbf)]) [2, 0, 1] rfl rfl
    refine W.eq (g2 := F0 m9 6 ls [.int (iI 1), .int (iI 1), .ref m0]) rfl ?_
    exfalso; omega
  · replace G := G.perm (ws' := [(m0, mO M xth xrm xsv xln xat xer xwr xwd xlo xhi xwl xml xkl xfi xse xdn xon xtw (ow.length : Int) xrw xgl xus xpr xmk xab), (M 35, aI (K 0) 2000 gou), (M 6, aI (K 2) 100 gbf)]) [2, 0, 1] rfl rfl
    refine W.eq (g2 := F0 m9 6 ls [.int (iI 0), .int (iI 1), .ref m0]) rfl ?_
    refine ad_callV (As := [.int (iI 1), .int (iI 0)]) (rest := []) F G (c_X11_fails_0 l D K z0 m0 M xth xrm xsv xln xat xer xwr xwd xlo xhi xwl xml xkl xfi xse xdn xon xtw (ow.length : Int) xrw xgl xus xpr xmk xab 1 (by omega)) my_X11_fails mv_X11_111 (wr := [(M 35, aI (K 0) 2000 gou), (M 6, aI (K 2) 100 gbf)]) (isC := [0]) (isR := [1, 2]) ⟨rfl, rfl, rfl, rfl, by decide⟩ 11 0 rfl rfl rfl rfl ⟨Nat.le_of_ble_eq_true rfl, Nat.le_of_ble_eq_true rfl⟩ ⟨Nat.le_of_ble_eq_true rfl, Nat.le_of_ble_eq_true rfl⟩ (Nat.le_of_ble_eq_true rfl) hl.1 (cells9 := 0) (slots9 := 0) ⟨rfl, rfl⟩ dX11_takeBack_6 (fun v u H locs hw_4 G => ?_)
    obtain ⟨rfl, rfl⟩ := hw_4
    replace G := G.perm (ws' := [(m0, mO M 0 xrm xsv xln xat xer xwr xwd xlo xhi xwl xml xkl xfi xse xdn xon xtw (ow.length : Int) xrw xgl xus xpr xmk xab), (M 35, aI (K 0) 2000 gou), (M 6, aI (K 2) 100 gbf)]) [2, 0, 1] rfl rfl
    refine W.eq (g2 := F0 m9 9 ls [.int (iI 0)]) rfl ?_
    refine ad_if_ne (tgt := 34) F (by decide) dX11_takeBack_9 (by decide) (fun cc_5 => absurd cc_5 (by decide)) (fun _ => ?_)
    refine lv_aload_n F.1 F.2.1 dX11_takeBack_12 rfl (lv_at hl 0 rfl) ?_
    refine ad_iconst F dX11_takeBack_13 ?_
    refine lv_aload_n F.1 F.2.1 dX11_takeBack_14 rfl (lv_at hl 0 rfl) ?_
    refine ad_get F G fl_X11_292 0 rfl rfl dX11_takeBack_15 ?_
    refine ad_bipush F dX11_takeBack_18 (by decide) ?_
    refine ad_icmp_le (tgt := 27) F (by omega) dX11_takeBack_20 (by decide) (fun cc_6 => ?_) (fun cc_6 => ?_)
    · refine ad_iconst F dX11_takeBack_27 ?_
      refine ad_callV (As := [.int (iI 2), .int (iI 0)]) (rest := []) F G (c_X11_fails_0 l D K z0 m0 M 0 xrm xsv xln xat xer xwr xwd xlo xhi xwl xml xkl xfi xse xdn xon xtw (ow.length : Int) xrw xgl xus xpr xmk xab 2 (by omega)) my_X11_fails mv_X11_111 (wr := [(M 35, aI (K 0) 2000 gou), (M 6, aI (K 2) 100 gbf)]) (isC := [0]) (isR := [1, 2]) ⟨rfl, rfl, rfl, rfl, by decide⟩ 11 0 rfl rfl rfl rfl ⟨Nat.le_of_ble_eq_true rfl, Nat.le_of_ble_eq_true rfl⟩ ⟨Nat.le_of_ble_eq_true rfl, Nat.le_of_ble_eq_true rfl⟩ (Nat.le_of_ble_eq_true rfl) hl.1 (cells9 := 0) (slots9 := 0) ⟨rfl, rfl⟩ dX11_takeBack_28 (fun v u H locs hw_7 G => ?_)
      obtain ⟨rfl, rfl⟩ := hw_7
      replace G := G.perm (ws' := [(m0, mO M 0 xrm xsv xln xat xer xwr xwd xlo xhi xwl xml xkl xfi xse xdn xon xtw (ow.length : Int) xrw xgl xus xpr xmk xab), (M 35, aI (K 0) 2000 gou), (M 6, aI (K 2) 100 gbf)]) [2, 0, 1] rfl rfl
      refine W.eq (g2 := F0 m9 31 ls [.int (iI 0)]) rfl ?_
      refine ad_if_eq (tgt := 36) F (by decide) dX11_takeBack_31 (by decide) (fun _ => ?_) (fun cc_8 => absurd cc_8 (by decide))
      refine ad_iconst F dX11_takeBack_36 ?_
      refine lv_istore_n (lv' := [(1, .int (iI 0)), (0, .ref m0)]) F.1 F.2.1 dX11_takeBack_37 rfl hl (by decide) rfl (fun ls hl => ?_)
      have lp38 : ∀ (n38 : Nat) (k : Int) (gx : Nat → Int) (H : Heap) (locs : List Loc) (ls : Array Slot), (0 ≤ k ∧ k ≤ ow.length) → (∀ j : Nat, (j : Int) < k → gx j = lat ow j) → (∀ j : Nat, j < 100 → 0 ≤ gx j ∧ gx j < 65536) → (ow.length - k) < (n38 : Int) → ad_G D A9 s9.heap H locs [(m0, mO M 0 xrm xsv xln xat xer xwr xwd xlo xhi xwl xml xkl xfi xse xdn xon xtw (ow.length : Int) xrw xgl xus xpr xmk xab), (M 35, aI (K 0) 2000 gou), (M 6, aI (K 2) 100 gx)] → lv_has ls 2 [(0, .ref m0), (1, .int (iI k))] → W p9 l e9 rm_X11_takeBack_t s9 m9 ag9 bl9 mt9 c9 H locs 0 0 Q9 (F0 m9 38 ls []) := by
        intro n38
        induction n38 with
        | zero =>
          intro k gx H locs ls hk hg hx hm38
          exact absurd hm38 (by omega)
        | succ n38 ih38 =>
          intro k gx H locs ls hk hg hx hm38 G hl
          refine lv_iload_n F.1 F.2.1 dX11_takeBack_38 rfl (lv_at hl 1 rfl) ?_
          refine lv_aload_n F.1 F.2.1 dX11_takeBack_39 rfl (lv_at hl 0 rfl) ?_
          refine ad_get F G fl_X11_292 0 rfl rfl dX11_takeBack_40 ?_
          refine ad_icmp_ge (tgt := 65) F (by omega) dX11_takeBack_43 (by decide) (fun cc_9 => ?_) (fun cc_9 => ?_)
          · refine lv_aload_n F.1 F.2.1 dX11_takeBack_65 rfl (lv_at hl 0 rfl) ?_
            refine lv_aload_n F.1 F.2.1 dX11_takeBack_66 rfl (lv_at hl 0 rfl) ?_
            refine ad_get F G fl_X11_292 0 rfl rfl dX11_takeBack_67 ?_
            refine ad_put F G fl_X11_115 0 rfl rfl rfl (Nat.le_of_ble_eq_true rfl) (ws' := [(m0, mO M 0 xrm xsv (ow.length : Int) xat xer xwr xwd xlo xhi xwl xml xkl xfi xse xdn xon xtw (ow.length : Int) xrw xgl xus xpr xmk xab), (M 35, aI (K 0) 2000 gou), (M 6, aI (K 2) 100 gx)]) rfl dX11_takeBack_70 (fun H locs G => ?_)
            refine lv_aload_n F.1 F.2.1 dX11_takeBack_73 rfl (lv_at hl 0 rfl) ?_
            refine ad_get F G fl_X11_115 0 rfl rfl dX11_takeBack_74 ?_
            exact ad_ireturn F G hR rfl (Nat.le_of_ble_eq_true rfl) (Nat.le_of_ble_eq_true rfl) (Or.inr (⟨gx, rfl, (by omega), (Tx_of_lat (fun j h => hg j (by omega))), hx, rfl⟩)) dX11_takeBack_77
          · refine lv_aload_n F.1 F.2.1 dX11_takeBack_46 rfl (lv_at hl 0 rfl) ?_
            refine ad_get F G fl_X11_21 0 rfl rfl dX11_takeBack_47 ?_
            refine lv_iload_n F.1 F.2.1 dX11_takeBack_50 rfl (lv_at hl 1 rfl) ?_
            refine lv_aload_n F.1 F.2.1 dX11_takeBack_51 rfl (lv_at hl 0 rfl) ?_
            refine ad_get F G fl_X11_69 0 rfl rfl dX11_takeBack_52 ?_
            refine lv_iload_n F.1 F.2.1 dX11_takeBack_55 rfl (lv_at hl 1 rfl) ?_
            refine ad_iald F G 1 rfl (w := lat ow k) (by omega) (Tx_at hTo (by omega) (by omega)) dX11_takeBack_56 ?_
            have hcz := lat_ch hCo k
            refine lv_i2c (v := iI (lat ow k)) F.1 F.2.1 dX11_takeBack_57 (iI_i2c (by omega)) ?_
            refine ad_cast F G 2 rfl (by omega) (by omega) (ws' := [(m0, mO M 0 xrm xsv xln xat xer xwr xwd xlo xhi xwl xml xkl xfi xse xdn xon xtw (ow.length : Int) xrw xgl xus xpr xmk xab), (M 35, aI (K 0) 2000 gou), (M 6, aI (K 2) 100 (va_up gx k.toNat (lat ow k)))]) rfl dX11_takeBack_58 (fun H locs G => ?_)
            refine ad_iinc (lv' := [(1, .int (iI (k + 1))), (0, .ref m0)]) F dX11_takeBack_59 hl (k := 1) rfl (by decide) rfl (fun ls hl => ?_)
            refine lv_goto (tgt := 38) F.1 F.2.1 dX11_takeBack_62 (by decide) ?_
            exact ih38 (k + 1) (va_up gx k.toNat (lat ow k)) _ _ _ (by omega) (fun j h => by simp only [va_up]; split; (rename_i e; rw [show (j : Int) = k by omega]); exact hg j (by omega)) (fun j h => by simp only [va_up]; split; (omega); exact hx j h) (by omega) (G.perm (ws' := [(m0, mO M 0 xrm xsv xln xat xer xwr xwd xlo xhi xwl xml xkl xfi xse xdn xon xtw (ow.length : Int) xrw xgl xus xpr xmk xab), (M 35, aI (K 0) 2000 gou), (M 6, aI (K 2) 100 (va_up gx k.toNat (lat ow k)))]) [0, 1, 2] rfl rfl) (lv_sub hl [1, 0] rfl)
      exact lp38 ((((ow.length - 0 : Int)) + 1).toNat) 0 gbf _ _ _ (by omega) (fun j h => by omega) hcb (by omega) (G.perm (ws' := [(m0, mO M 0 xrm xsv xln xat xer xwr xwd xlo xhi xwl xml xkl xfi xse xdn xon xtw (ow.length : Int) xrw xgl xus xpr xmk xab), (M 35, aI (K 0) 2000 gou), (M 6, aI (K 2) 100 gbf)]) [0, 1, 2] rfl rfl) (lv_sub hl [1, 0] rfl)
    · refine ad_iconst F dX11_takeBack_23 ?_
      refine lv_goto (tgt := 28) F.1 F.2.1 dX11_takeBack_24 (by decide) ?_
      refine ad_callV (As := [.int (iI 2), .int (iI 1)]) (rest := []) F G (c_X11_fails_1 l D K z0 m0 M 0 xrm xsv xln xat xer xwr xwd xlo xhi xwl xml xkl xfi xse xdn xon xtw (ow.length : Int) xrw xgl xus xpr xmk xab 2 (by omega)) my_X11_fails mv_X11_111 (wr := [(M 35, aI (K 0) 2000 gou), (M 6, aI (K 2) 100 gbf)]) (isC := [0]) (isR := [1, 2]) ⟨rfl, rfl, rfl, rfl, by decide⟩ 11 0 rfl rfl rfl rfl ⟨Nat.le_of_ble_eq_true rfl, Nat.le_of_ble_eq_true rfl⟩ ⟨Nat.le_of_ble_eq_true rfl, Nat.le_of_ble_eq_true rfl⟩ (Nat.le_of_ble_eq_true rfl) hl.1 (cells9 := 0) (slots9 := 0) ⟨rfl, rfl⟩ dX11_takeBack_28 (fun v u H locs hw_10 G => ?_)
      obtain ⟨rfl, rfl⟩ := hw_10
      replace G := G.perm (ws' := [(m0, mO M 2 xrm xsv xln xat xer xwr xwd xlo xhi xwl xml xkl xfi xse xdn xon xtw (ow.length : Int) xrw xgl xus xpr xmk xab), (M 35, aI (K 0) 2000 gou), (M 6, aI (K 2) 100 gbf)]) [2, 0, 1] rfl rfl
      refine W.eq (g2 := F0 m9 31 ls [.int (iI 1)]) rfl ?_
      refine ad_if_eq (tgt := 36) F (by decide) dX11_takeBack_31 (by decide) (fun cc_11 => absurd cc_11 (by decide)) (fun _ => ?_)
      refine ad_iconst F dX11_takeBack_34 ?_
      exact ad_ireturn F G hR rfl (Nat.le_of_ble_eq_true rfl) (Nat.le_of_ble_eq_true rfl) (Or.inl ⟨rfl, (by omega), rfl⟩) dX11_takeBack_35

def rm_X11_word_n : Room := { frames := 2, cells := 0, slots := 0, locals := 34 }
set_option maxHeartbeats 4000000 in
set_option maxRecDepth 100000 in
theorem c_X11_word_n (l : Launch) (D : va_G) (K : Nat → ClassId) (z0 : Nat) (m0 : Nat) (M : Nat → Nat) (xth : Int) (xrm : Int) (xsv : Int) (xln : Int) (xat : Int) (xer : Int) (xwr : Int) (xwd : Int) (xlo : Int) (xhi : Int) (xwl : Int) (xml : Int) (xkl : Int) (xfi : Int) (xse : Int) (xdn : Int) (xon : Int) (xtw : Int) (xol : Int) (xrw : Int) (xgl : Int) (xus : Int) (xpr : Int) (xmk : Int) (xab : Int) (q1 : Nat → Int) (q2 : Nat → Int) (q3 : Nat → Int) (q4 : Nat → Int) (q5 : Nat → Int) (q6 : Nat → Int) (z : Int) (w : Int) (hz : -2147483648 ≤ z ∧ z < 2147483648) (hw : -2147483648 ≤ w ∧ w < 2147483648) (hrr : -1 ≤ xrw ∧ xrw ≤ 60) (hn_ : xrw < 0) : CT l D K z0 yX11_word cX11_word 3 (some .int) rm_X11_word_n [.ref m0, .int (iI z), .int (iI w)] [(m0, mO M xth xrm xsv xln xat xer xwr xwd xlo xhi xwl xml xkl xfi xse xdn xon xtw xol xrw xgl xus xpr xmk xab), (M 29, aI (K 0) 60 q1), (M 30, aI (K 0) 60 q2), (M 31, aI (K 0) 60 q3), (M 32, aI (K 0) 60 q4), (M 33, aI (K 0) 60 q5), (M 34, aI (K 0) 60 q6)] (fun v9 u9 => v9 = some (.int (iI 0)) ∧ u9 = [(m0, mO M 1 xrm xsv xln xat xer xwr xwd xlo xhi xwl xml xkl xfi xse xdn xon xtw xol xrw xgl xus xpr xmk xab), (M 29, aI (K 0) 60 q1), (M 30, aI (K 0) 60 q2), (M 31, aI (K 0) 60 q3), (M 32, aI (K 0) 60 q4), (M 33, aI (K 0) 60 q5), (M 34, aI (K 0) 60 q6)]) := by
  refine CT.start RX11 "word" (by decide) rfl rfl (Nat.le_of_ble_eq_true rfl) ?_
  intro p9 e9 s9 m9 ag9 bl9 mt9 c9 A9 Q9 ls F G hR hl
  have hl : lv_has ls 3 [(0, .ref m0), (1, .int (iI z)), (2, .int (iI w))] := hl
  refine lv_aload_n F.1 F.2.1 dX11_word_0 rfl (lv_at hl 0 rfl) ?_
  refine ad_iconst F dX11_word_1 ?_
  refine lv_aload_n F.1 F.2.1 dX11_word_2 rfl (lv_at hl 0 rfl) ?_
  refine ad_callV (As := []) (rest := [.int (iI 1), .ref m0]) F G (c_X11_hasNone l D K z0 m0 M xth xrm xsv xln xat xer xwr xwd xlo xhi xwl xml xkl xfi xse xdn xon xtw xol xrw xgl xus xpr xmk xab (by omega)) my_X11_hasNone mv_X11_342 (wr := [(M 29, aI (K 0) 60 q1), (M 30, aI (K 0) 60 q2), (M 31, aI (K 0) 60 q3), (M 32, aI (K 0) 60 q4), (M 33, aI (K 0) 60 q5), (M 34, aI (K 0) 60 q6)]) (isC := [0]) (isR := [1, 2, 3, 4, 5, 6]) ⟨rfl, rfl, rfl, rfl, by decide⟩ 11 0 rfl rfl rfl rfl ⟨Nat.le_of_ble_eq_true rfl, Nat.le_of_ble_eq_true rfl⟩ ⟨Nat.le_of_ble_eq_true rfl, Nat.le_of_ble_eq_true rfl⟩ (Nat.le_of_ble_eq_true rfl) hl.1 (cells9 := 0) (slots9 := 0) ⟨rfl, rfl⟩ dX11_word_3 (fun v u H locs hw_1 G => ?_)
  rcases hw_1 with ⟨rfl, hc_2, rfl⟩ | ⟨rfl, hc_3, rfl⟩
  · replace G := G.perm (ws' := [(m0, mO M xth xrm xsv xln xat xer xwr xwd xlo xhi xwl xml xkl xfi xse xdn xon xtw xol xrw xgl xus xpr xmk xab), (M 29, aI (K 0) 60 q1), (M 30, aI (K 0) 60 q2), (M 31, aI (K 0) 60 q3), (M 32, aI (K 0) 60 q4), (M 33, aI (K 0) 60 q5), (M 34, aI (K 0) 60 q6)]) [6, 0, 1, 2, 3, 4, 5] rfl rfl
    refine W.eq (g2 := F0 m9 6 ls [.int (iI 1), .int (iI 1), .ref m0]) rfl ?_
    refine ad_callV (As := [.int (iI 1), .int (iI 1)]) (rest := []) F G (c_X11_fails_1 l D K z0 m0 M xth xrm xsv xln xat xer xwr xwd xlo xhi xwl xml xkl xfi xse xdn xon xtw xol xrw xgl xus xpr xmk xab 1 (by omega)) my_X11_fails mv_X11_111 (wr := [(M 29, aI (K 0) 60 q1), (M 30, aI (K 0) 60 q2), (M 31, aI (K 0) 60 q3), (M 32, aI (K 0) 60 q4), (M 33, aI (K 0) 60 q5), (M 34, aI (K 0) 60 q6)]) (isC := [0]) (isR := [1, 2, 3, 4, 5, 6]) ⟨rfl, rfl, rfl, rfl, by decide⟩ 11 0 rfl rfl rfl rfl ⟨Nat.le_of_ble_eq_true rfl, Nat.le_of_ble_eq_true rfl⟩ ⟨Nat.le_of_ble_eq_true rfl, Nat.le_of_ble_eq_true rfl⟩ (Nat.le_of_ble_eq_true rfl) hl.1 (cells9 := 0) (slots9 := 0) ⟨rfl, rfl⟩ dX11_word_6 (fun v u H locs hw_4 G => ?_)
    obtain ⟨rfl, rfl⟩ := hw_4
    replace G := G.perm (ws' := [(m0, mO M 1 xrm xsv xln xat xer xwr xwd xlo xhi xwl xml xkl xfi xse xdn xon xtw xol xrw xgl xus xpr xmk xab), (M 29, aI (K 0) 60 q1), (M 30, aI (K 0) 60 q2), (M 31, aI (K 0) 60 q3), (M 32, aI (K 0) 60 q4), (M 33, aI (K 0) 60 q5), (M 34, aI (K 0) 60 q6)]) [6, 0, 1, 2, 3, 4, 5] rfl rfl
    refine W.eq (g2 := F0 m9 9 ls [.int (iI 1)]) rfl ?_
    refine ad_if_ne (tgt := 61) F (by decide) dX11_word_9 (by decide) (fun _ => ?_) (fun cc_5 => absurd cc_5 (by decide))
    refine ad_iconst F dX11_word_61 ?_
    exact ad_ireturn F G hR rfl (Nat.le_of_ble_eq_true rfl) (Nat.le_of_ble_eq_true rfl) ⟨rfl, rfl⟩ dX11_word_62
  · replace G := G.perm (ws' := [(m0, mO M xth xrm xsv xln xat xer xwr xwd xlo xhi xwl xml xkl xfi xse xdn xon xtw xol xrw xgl xus xpr xmk xab), (M 29, aI (K 0) 60 q1), (M 30, aI (K 0) 60 q2), (M 31, aI (K 0) 60 q3), (M 32, aI (K 0) 60 q4), (M 33, aI (K 0) 60 q5), (M 34, aI (K 0) 60 q6)]) [6, 0, 1, 2, 3, 4, 5] rfl rfl
    refine W.eq (g2 := F0 m9 6 ls [.int (iI 0), .int (iI 1), .ref m0]) rfl ?_
    exfalso; omega

def rm_X11_word_t : Room := { frames := 2, cells := 0, slots := 0, locals := 34 }
set_option maxHeartbeats 4000000 in
set_option maxRecDepth 100000 in
theorem c_X11_word_t (l : Launch) (D : va_G) (K : Nat → ClassId) (z0 : Nat) (m0 : Nat) (M : Nat → Nat) (xth : Int) (xrm : Int) (xsv : Int) (xln : Int) (xat : Int) (xer : Int) (xwr : Int) (xwd : Int) (xlo : Int) (xhi : Int) (xwl : Int) (xml : Int) (xkl : Int) (xfi : Int) (xse : Int) (xdn : Int) (xon : Int) (xtw : Int) (xol : Int) (xgl : Int) (xus : Int) (xpr : Int) (xmk : Int) (xab : Int) (q1 : Nat → Int) (q2 : Nat → Int) (q3 : Nat → Int) (q4 : Nat → Int) (q5 : Nat → Int) (q6 : Nat → Int) (qs : List Wq) (z : Int) (w : Int) (hQ : QRep q1 q2 q3 q4 q5 q6 qs) (hql : qs.length ≤ 50) (hz : -2147483648 ≤ z ∧ z < 2147483648) (hw : -2147483648 ≤ w ∧ w < 2147483648) : CT l D K z0 yX11_word cX11_word 3 (some .int) rm_X11_word_t [.ref m0, .int (iI z), .int (iI w)] [(m0, mO M xth xrm xsv xln xat xer xwr xwd xlo xhi xwl xml xkl xfi xse xdn xon xtw xol (qs.length : Int) xgl xus xpr xmk xab), (M 29, aI (K 0) 60 q1), (M 30, aI (K 0) 60 q2), (M 31, aI (K 0) 60 q3), (M 32, aI (K 0) 60 q4), (M 33, aI (K 0) 60 q5), (M 34, aI (K 0) 60 q6)] (fun v9 u9 => (v9 = some (.int (iI 0)) ∧ (¬ (0 ≤ z ∧ z < qs.length)) ∧ u9 = [(m0, mO M 2 xrm xsv xln xat xer xwr xwd xlo xhi xwl xml xkl xfi xse xdn xon xtw xol (qs.length : Int) xgl xus xpr xmk xab), (M 29, aI (K 0) 60 q1), (M 30, aI (K 0) 60 q2), (M 31, aI (K 0) 60 q3), (M 32, aI (K 0) 60 q4), (M 33, aI (K 0) 60 q5), (M 34, aI (K 0) 60 q6)]) ∨ (v9 = some (.int (iI 0)) ∧ (0 ≤ z ∧ z < qs.length) ∧ (¬ (0 ≤ w ∧ w ≤ 5)) ∧ u9 = [(m0, mO M 3 xrm xsv xln xat xer xwr xwd xlo xhi xwl xml xkl xfi xse xdn xon xtw xol (qs.length : Int) xgl xus xpr xmk xab), (M 29, aI (K 0) 60 q1), (M 30, aI (K 0) 60 q2), (M 31, aI (K 0) 60 q3), (M 32, aI (K 0) 60 q4), (M 33, aI (K 0) 60 q5), (M 34, aI (K 0) 60 q6)]) ∨ (v9 = some (.int (iI (quA (qget qs z) w))) ∧ (0 ≤ z ∧ z < qs.length) ∧ (0 ≤ w ∧ w ≤ 5) ∧ u9 = [(m0, mO M 0 xrm xsv xln xat xer xwr xwd xlo xhi xwl xml xkl xfi xse xdn xon xtw xol (qs.length : Int) xgl xus xpr xmk xab), (M 29, aI (K 0) 60 q1), (M 30, aI (K 0) 60 q2), (M 31, aI (K 0) 60 q3), (M 32, aI (K 0) 60 q4), (M 33, aI (K 0) 60 q5), (M 34, aI (K 0) 60 q6)])) := by
  refine CT.start RX11 "word" (by decide) rfl rfl (Nat.le_of_ble_eq_true rfl) ?_
  intro p9 e9 s9 m9 ag9 bl9 mt9 c9 A9 Q9 ls F G hR hl
  have hl : lv_has ls 3 [(0, .ref m0), (1, .int (iI z)), (2, .int (iI w))] := hl
  refine lv_aload_n F.1 F.2.1 dX11_word_0 rfl (lv_at hl 0 rfl) ?_
  refine ad_iconst F dX11_word_1 ?_
  refine lv_aload_n F.1 F.2.1 dX11_word_2 rfl (lv_at hl 0 rfl) ?_
  refine ad_callV (As := []) (rest := [.int (iI 1), .ref m0]) F G (c_X11_hasNone l D K z0 m0 M xth xrm xsv xln xat xer xwr xwd xlo xhi xwl xml xkl xfi xse xdn xon xtw xol (qs.length : Int) xgl xus xpr xmk xab (by omega)) my_X11_hasNone mv_X11_342 (wr := [(M 29, aI (K 0) 60 q1), (M 30, aI (K 0) 60 q2), (M 31, aI (K 0) 60 q3), (M 32, aI (K 0) 60 q4), (M 33, aI (K 0) 60 q5), (M 34, aI (K 0) 60 q6)]) (isC := [0]) (isR := [1, 2, 3, 4, 5, 6]) ⟨rfl, rfl, rfl, rfl, by decide⟩ 11 0 rfl rfl rfl rfl ⟨Nat.le_of_ble_eq_true rfl, Nat.le_of_ble_eq_true rfl⟩ ⟨Nat.le_of_ble_eq_true rfl, Nat.le_of_ble_eq_true rfl⟩ (Nat.le_of_ble_eq_true rfl) hl.1 (cells9 := 0) (slots9 := 0) ⟨rfl, rfl⟩ dX11_word_3 (fun v u H locs hw_1 G => ?_)
  rcases hw_1 with ⟨rfl, hc_2, rfl⟩ | ⟨rfl, hc_3, rfl⟩
  · replace G := G.perm (ws' := [(m0, mO M xth xrm xsv xln xat xer xwr xwd xlo xhi xwl xml xkl xfi xse xdn xon xtw xol (qs.length : Int) xgl xus xpr xmk xab), (M 29, aI (K 0) 60 q1), (M 30, aI (K 0) 60 q2), (M 31, aI (K 0) 60 q3), (M 32, aI (K 0) 60 q4), (M 33, aI (K 0) 60 q5), (M 34, aI (K 0) 60 q6)]) [6, 0, 1, 2, 3, 4, 5] rfl rfl
    refine W.eq (g2 := F0 m9 6 ls [.int (iI 1), .int (iI 1), .ref m0]) rfl ?_
    exfalso; omega
  · replace G := G.perm (ws' := [(m0, mO M xth xrm xsv xln xat xer xwr xwd xlo xhi xwl xml xkl xfi xse xdn xon xtw xol (qs.length : Int) xgl xus xpr xmk xab), (M 29, aI (K 0) 60 q1), (M 30, aI (K 0) 60 q2), (M 31, aI (K 0) 60 q3), (M 32, aI (K 0) 60 q4), (M 33, aI (K 0) 60 q5), (M 34, aI (K 0) 60 q6)]) [6, 0, 1, 2, 3, 4, 5] rfl rfl
    refine W.eq (g2 := F0 m9 6 ls [.int (iI 0), .int (iI 1), .ref m0]) rfl ?_
    refine ad_callV (As := [.int (iI 1), .int (iI 0)]) (rest := []) F G (c_X11_fails_0 l D K z0 m0 M xth xrm xsv xln xat xer xwr xwd xlo xhi xwl xml xkl xfi xse xdn xon xtw xol (qs.length : Int) xgl xus xpr xmk xab 1 (by omega)) my_X11_fails mv_X11_111 (wr := [(M 29, aI (K 0) 60 q1), (M 30, aI (K 0) 60 q2), (M 31, aI (K 0) 60 q3), (M 32, aI (K 0) 60 q4), (M 33, aI (K 0) 60 q5), (M 34, aI (K 0) 60 q6)]) (isC := [0]) (isR := [1, 2, 3, 4, 5, 6]) ⟨rfl, rfl, rfl, rfl, by decide⟩ 11 0 rfl rfl rfl rfl ⟨Nat.le_of_ble_eq_true rfl, Nat.le_of_ble_eq_true rfl⟩ ⟨Nat.le_of_ble_eq_true rfl, Nat.le_of_ble_eq_true rfl⟩ (Nat.le_of_ble_eq_true rfl) hl.1 (cells9 := 0) (slots9 := 0) ⟨rfl, rfl⟩ dX11_word_6 (fun v u H locs hw_4 G => ?_)
    obtain ⟨rfl, rfl⟩ := hw_4
    replace G := G.perm (ws' := [(m0, mO M 0 xrm xsv xln xat xer xwr xwd xlo xhi xwl xml xkl xfi xse xdn xon xtw xol (qs.length : Int) xgl xus xpr xmk xab), (M 29, aI (K 0) 60 q1), (M 30, aI (K 0) 60 q2), (M 31, aI (K 0) 60 q3), (M 32, aI (K 0) 60 q4), (M 33, aI (K 0) 60 q5), (M 34, aI (K 0) 60 q6)]) [6, 0, 1, 2, 3, 4, 5] rfl rfl
    refine W.eq (g2 := F0 m9 9 ls [.int (iI 0)]) rfl ?_
    refine ad_if_ne (tgt := 61) F (by decide) dX11_word_9 (by decide) (fun cc_5 => absurd cc_5 (by decide)) (fun _ => ?_)
    refine lv_aload_n F.1 F.2.1 dX11_word_12 rfl (lv_at hl 0 rfl) ?_
    refine ad_iconst F dX11_word_13 ?_
    refine lv_iload_n F.1 F.2.1 dX11_word_14 rfl (lv_at hl 1 rfl) ?_
    refine ad_iconst F dX11_word_15 ?_
    refine lv_aload_n F.1 F.2.1 dX11_word_16 rfl (lv_at hl 0 rfl) ?_
    refine ad_get F G fl_X11_72 0 rfl rfl dX11_word_17 ?_
    refine ad_iconst F dX11_word_20 ?_
    refine ad_isub F dX11_word_21 ?_
    refine ad_callS (As := [.int (iI z), .int (iI 0), .int (iI ((qs.length : Int) - 1))]) (rest := [.int (iI 2), .ref m0]) F G (c_X11_isBetween l D K z0 z 0 ((qs.length : Int) - 1) hz (by omega) (by omega)) my_X11_isBetween ms_X11_107 (wr := [(m0, mO M 0 xrm xsv xln xat xer xwr xwd xlo xhi xwl xml xkl xfi xse xdn xon xtw xol (qs.length : Int) xgl xus xpr xmk xab), (M 29, aI (K 0) 60 q1), (M 30, aI (K 0) 60 q2), (M 31, aI (K 0) 60 q3), (M 32, aI (K 0) 60 q4), (M 33, aI (K 0) 60 q5), (M 34, aI (K 0) 60 q6)]) (isC := []) (isR := [0, 1, 2, 3, 4, 5, 6]) ⟨rfl, rfl, rfl, rfl, by decide⟩ rfl rfl ⟨Nat.le_of_ble_eq_true rfl, Nat.le_of_ble_eq_true rfl⟩ ⟨Nat.le_of_ble_eq_true rfl, Nat.le_of_ble_eq_true rfl⟩ (Nat.le_of_ble_eq_true rfl) hl.1 (cells9 := 0) (slots9 := 0) ⟨rfl, rfl⟩ dX11_word_22 (fun v u H locs hw_6 G => ?_)
    rcases hw_6 with ⟨rfl, hc_7, rfl⟩ | ⟨rfl, hc_8, rfl⟩
    · replace G := G.perm (ws' := [(m0, mO M 0 xrm xsv xln xat xer xwr xwd xlo xhi xwl xml xkl xfi xse xdn xon xtw xol (qs.length : Int) xgl xus xpr xmk xab), (M 29, aI (K 0) 60 q1), (M 30, aI (K 0) 60 q2), (M 31, aI (K 0) 60 q3), (M 32, aI (K 0) 60 q4), (M 33, aI (K 0) 60 q5), (M 34, aI (K 0) 60 q6)]) [0, 1, 2, 3, 4, 5, 6] rfl rfl
      refine W.eq (g2 := F0 m9 25 ls [.int (iI 1), .int (iI 2), .ref m0]) rfl ?_
      refine ad_if_ne (tgt := 32) F (by decide) dX11_word_25 (by decide) (fun _ => ?_) (fun cc_9 => absurd cc_9 (by decide))
      refine ad_iconst F dX11_word_32 ?_
      refine ad_callV (As := [.int (iI 2), .int (iI 0)]) (rest := []) F G (c_X11_fails_0 l D K z0 m0 M 0 xrm xsv xln xat xer xwr xwd xlo xhi xwl xml xkl xfi xse xdn xon xtw xol (qs.length : Int) xgl xus xpr xmk xab 2 (by omega)) my_X11_fails mv_X11_111 (wr := [(M 29, aI (K 0) 60 q1), (M 30, aI (K 0) 60 q2), (M 31, aI (K 0) 60 q3), (M 32, aI (K 0) 60 q4), (M 33, aI (K 0) 60 q5), (M 34, aI (K 0) 60 q6)]) (isC := [0]) (isR := [1, 2, 3, 4, 5, 6]) ⟨rfl, rfl, rfl, rfl, by decide⟩ 11 0 rfl rfl rfl rfl ⟨Nat.le_of_ble_eq_true rfl, Nat.le_of_ble_eq_true rfl⟩ ⟨Nat.le_of_ble_eq_true rfl, Nat.le_of_ble_eq_true rfl⟩ (Nat.le_of_ble_eq_true rfl) hl.1 (cells9 := 0) (slots9 := 0) ⟨rfl, rfl⟩ dX11_word_33 (fun v u H locs hw_10 G => ?_)
      obtain ⟨rfl, rfl⟩ := hw_10
      replace G := G.perm (ws' := [(m0, mO M 0 xrm xsv xln xat xer xwr xwd xlo xhi xwl xml xkl xfi xse xdn xon xtw xol (qs.length : Int) xgl xus xpr xmk xab), (M 29, aI (K 0) 60 q1), (M 30, aI (K 0) 60 q2), (M 31, aI (K 0) 60 q3), (M 32, aI (K 0) 60 q4), (M 33, aI (K 0) 60 q5), (M 34, aI (K 0) 60 q6)]) [6, 0, 1, 2, 3, 4, 5] rfl rfl
      refine W.eq (g2 := F0 m9 36 ls [.int (iI 0)]) rfl ?_
      refine ad_if_ne (tgt := 61) F (by decide) dX11_word_36 (by decide) (fun cc_11 => absurd cc_11 (by decide)) (fun _ => ?_)
      refine lv_aload_n F.1 F.2.1 dX11_word_39 rfl (lv_at hl 0 rfl) ?_
      refine ad_iconst F dX11_word_40 ?_
      refine lv_iload_n F.1 F.2.1 dX11_word_41 rfl (lv_at hl 2 rfl) ?_
      refine ad_iconst F dX11_word_42 ?_
      refine ad_iconst F dX11_word_43 ?_
      refine ad_callS (As := [.int (iI w), .int (iI 0), .int (iI 5)]) (rest := [.int (iI 3), .ref m0]) F G (c_X11_isBetween l D K z0 w 0 5 hw (by omega) (by omega)) my_X11_isBetween ms_X11_107 (wr := [(m0, mO M 0 xrm xsv xln xat xer xwr xwd xlo xhi xwl xml xkl xfi xse xdn xon xtw xol (qs.length : Int) xgl xus xpr xmk xab), (M 29, aI (K 0) 60 q1), (M 30, aI (K 0) 60 q2), (M 31, aI (K 0) 60 q3), (M 32, aI (K 0) 60 q4), (M 33, aI (K 0) 60 q5), (M 34, aI (K 0) 60 q6)]) (isC := []) (isR := [0, 1, 2, 3, 4, 5, 6]) ⟨rfl, rfl, rfl, rfl, by decide⟩ rfl rfl ⟨Nat.le_of_ble_eq_true rfl, Nat.le_of_ble_eq_true rfl⟩ ⟨Nat.le_of_ble_eq_true rfl, Nat.le_of_ble_eq_true rfl⟩ (Nat.le_of_ble_eq_true rfl) hl.1 (cells9 := 0) (slots9 := 0) ⟨rfl, rfl⟩ dX11_word_44 (fun v u H locs hw_12 G => ?_)
      rcases hw_12 with ⟨rfl, hc_13, rfl⟩ | ⟨rfl, hc_14, rfl⟩
      · replace G := G.perm (ws' := [(m0, mO M 0 xrm xsv xln xat xer xwr xwd xlo xhi xwl xml xkl xfi xse xdn xon xtw xol (qs.length : Int) xgl xus xpr xmk xab), (M 29, aI (K 0) 60 q1), (M 30, aI (K 0) 60 q2), (M 31, aI (K 0) 60 q3), (M 32, aI (K 0) 60 q4), (M 33, aI (K 0) 60 q5), (M 34, aI (K 0) 60 q6)]) [0, 1, 2, 3, 4, 5, 6] rfl rfl
        refine W.eq (g2 := F0 m9 47 ls [.int (iI 1), .int (iI 3), .ref m0]) rfl ?_
        refine ad_if_ne (tgt := 54) F (by decide) dX11_word_47 (by decide) (fun _ => ?_) (fun cc_15 => absurd cc_15 (by decide))
        refine ad_iconst F dX11_word_54 ?_
        refine ad_callV (As := [.int (iI 3), .int (iI 0)]) (rest := []) F G (c_X11_fails_0 l D K z0 m0 M 0 xrm xsv xln xat xer xwr xwd xlo xhi xwl xml xkl xfi xse xdn xon xtw xol (qs.length : Int) xgl xus xpr xmk xab 3 (by omega)) my_X11_fails mv_X11_111 (wr := [(M 29, aI (K 0) 60 q1), (M 30, aI (K 0) 60 q2), (M 31, aI (K 0) 60 q3), (M 32, aI (K 0) 60 q4), (M 33, aI (K 0) 60 q5), (M 34, aI (K 0) 60 q6)]) (isC := [0]) (isR := [1, 2, 3, 4, 5, 6]) ⟨rfl, rfl, rfl, rfl, by decide⟩ 11 0 rfl rfl rfl rfl ⟨Nat.le_of_ble_eq_true rfl, Nat.le_of_ble_eq_true rfl⟩ ⟨Nat.le_of_ble_eq_true rfl, Nat.le_of_ble_eq_true rfl⟩ (Nat.le_of_ble_eq_true rfl) hl.1 (cells9 := 0) (slots9 := 0) ⟨rfl, rfl⟩ dX11_word_55 (fun v u H locs hw_16 G => ?_)
        obtain ⟨rfl, rfl⟩ := hw_16
        replace G := G.perm (ws' := [(m0, mO M 0 xrm xsv xln xat xer xwr xwd xlo xhi xwl xml xkl xfi xse xdn xon xtw xol (qs.length : Int) xgl xus xpr xmk xab), (M 29, aI (K 0) 60 q1), (M 30, aI (K 0) 60 q2), (M 31, aI (K 0) 60 q3), (M 32, aI (K 0) 60 q4), (M 33, aI (K 0) 60 q5), (M 34, aI (K 0) 60 q6)]) [6, 0, 1, 2, 3, 4, 5] rfl rfl
        refine W.eq (g2 := F0 m9 58 ls [.int (iI 0)]) rfl ?_
        refine ad_if_eq (tgt := 63) F (by decide) dX11_word_58 (by decide) (fun _ => ?_) (fun cc_17 => absurd cc_17 (by decide))
        refine lv_iload_n F.1 F.2.1 dX11_word_63 rfl (lv_at hl 2 rfl) ?_
        rcases (show (w < 0 ∨ 4 < w) ∨ w = 0 ∨ w = 1 ∨ w = 2 ∨ w = 3 ∨ w = 4 by omega) with cs_18 | cs_18 | cs_18 | cs_18 | cs_18 | cs_18
        · refine ad_tabOut (tgt := 135) F dX11_word_64 (by omega) cs_18 (by decide) ?_
          refine lv_aload_n F.1 F.2.1 dX11_word_135 rfl (lv_at hl 0 rfl) ?_
          refine ad_get F G fl_X11_66 0 rfl rfl dX11_word_136 ?_
          refine lv_iload_n F.1 F.2.1 dX11_word_139 rfl (lv_at hl 1 rfl) ?_
          refine ad_iald F G 6 rfl (w := (qget qs z).2.2.2.2.2) (by omega) (QRep_at hQ (by omega) (by omega)).2.2.2.2.2 dX11_word_140 ?_
          exact ad_ireturn F G hR rfl (Nat.le_of_ble_eq_true rfl) (Nat.le_of_ble_eq_true rfl) (Or.inr (Or.inr (⟨(ad_eqi (by rw [show w = 5 by omega]; rfl)), (by omega), hc_13, rfl⟩))) dX11_word_141
        · refine ad_tabIn (v := 0) (tgt := 100) F dX11_word_64 cs_18 (by decide) (by decide) (by decide) rfl (by decide) ?_
          refine lv_aload_n F.1 F.2.1 dX11_word_100 rfl (lv_at hl 0 rfl) ?_
          refine ad_get F G fl_X11_51 0 rfl rfl dX11_word_101 ?_
          refine lv_iload_n F.1 F.2.1 dX11_word_104 rfl (lv_at hl 1 rfl) ?_
          refine ad_iald F G 1 rfl (w := (qget qs z).1) (by omega) (QRep_at hQ (by omega) (by omega)).1 dX11_word_105 ?_
          exact ad_ireturn F G hR rfl (Nat.le_of_ble_eq_true rfl) (Nat.le_of_ble_eq_true rfl) (Or.inr (Or.inr (⟨(ad_eqi (by rw [cs_18]; rfl)), (by omega), hc_13, rfl⟩))) dX11_word_106
        · refine ad_tabIn (v := 1) (tgt := 107) F dX11_word_64 cs_18 (by decide) (by decide) (by decide) rfl (by decide) ?_
          refine lv_aload_n F.1 F.2.1 dX11_word_107 rfl (lv_at hl 0 rfl) ?_
          refine ad_get F G fl_X11_54 0 rfl rfl dX11_word_108 ?_
          refine lv_iload_n F.1 F.2.1 dX11_word_111 rfl (lv_at hl 1 rfl) ?_
          refine ad_iald F G 2 rfl (w := (qget qs z).2.1) (by omega) (QRep_at hQ (by omega) (by omega)).2.1 dX11_word_112 ?_
          exact ad_ireturn F G hR rfl (Nat.le_of_ble_eq_true rfl) (Nat.le_of_ble_eq_true rfl) (Or.inr (Or.inr (⟨(ad_eqi (by rw [cs_18]; rfl)), (by omega), hc_13, rfl⟩))) dX11_word_113
        · refine ad_tabIn (v := 2) (tgt := 114) F dX11_word_64 cs_18 (by decide) (by decide) (by decide) rfl (by decide) ?_
          refine lv_aload_n F.1 F.2.1 dX11_word_114 rfl (lv_at hl 0 rfl) ?_
          refine ad_get F G fl_X11_57 0 rfl rfl dX11_word_115 ?_
          refine lv_iload_n F.1 F.2.1 dX11_word_118 rfl (lv_at hl 1 rfl) ?_
          refine ad_iald F G 3 rfl (w := (qget qs z).2.2.1) (by omega) (QRep_at hQ (by omega) (by omega)).2.2.1 dX11_word_119 ?_
          exact ad_ireturn F G hR rfl (Nat.le_of_ble_eq_true rfl) (Nat.le_of_ble_eq_true rfl) (Or.inr (Or.inr (⟨(ad_eqi (by rw [cs_18]; rfl)), (by omega), hc_13, rfl⟩))) dX11_word_120
        · refine ad_tabIn (v := 3) (tgt := 121) F dX11_word_64 cs_18 (by decide) (by decide) (by decide) rfl (by decide) ?_
          refine lv_aload_n F.1 F.2.1 dX11_word_121 rfl (lv_at hl 0 rfl) ?_
          refine ad_get F G fl_X11_60 0 rfl rfl dX11_word_122 ?_
          refine lv_iload_n F.1 F.2.1 dX11_word_125 rfl (lv_at hl 1 rfl) ?_
          refine ad_iald F G 4 rfl (w := (qget qs z).2.2.2.1) (by omega) (QRep_at hQ (by omega) (by omega)).2.2.2.1 dX11_word_126 ?_
          exact ad_ireturn F G hR rfl (Nat.le_of_ble_eq_true rfl) (Nat.le_of_ble_eq_true rfl) (Or.inr (Or.inr (⟨(ad_eqi (by rw [cs_18]; rfl)), (by omega), hc_13, rfl⟩))) dX11_word_127
        · refine ad_tabIn (v := 4) (tgt := 128) F dX11_word_64 cs_18 (by decide) (by decide) (by decide) rfl (by decide) ?_
          refine lv_aload_n F.1 F.2.1 dX11_word_128 rfl (lv_at hl 0 rfl) ?_
          refine ad_get F G fl_X11_63 0 rfl rfl dX11_word_129 ?_
          refine lv_iload_n F.1 F.2.1 dX11_word_132 rfl (lv_at hl 1 rfl) ?_
          refine ad_iald F G 5 rfl (w := (qget qs z).2.2.2.2.1) (by omega) (QRep_at hQ (by omega) (by omega)).2.2.2.2.1 dX11_word_133 ?_
          exact ad_ireturn F G hR rfl (Nat.le_of_ble_eq_true rfl) (Nat.le_of_ble_eq_true rfl) (Or.inr (Or.inr (⟨(ad_eqi (by rw [cs_18]; rfl)), (by omega), hc_13, rfl⟩))) dX11_word_134
      · replace G := G.perm (ws' := [(m0, mO M 0 xrm xsv xln xat xer xwr xwd xlo xhi xwl xml xkl xfi xse xdn xon xtw xol (qs.length : Int) xgl xus xpr xmk xab), (M 29, aI (K 0) 60 q1), (M 30, aI (K 0) 60 q2), (M 31, aI (K 0) 60 q3), (M 32, aI (K 0) 60 q4), (M 33, aI (K 0) 60 q5), (M 34, aI (K 0) 60 q6)]) [0, 1, 2, 3, 4, 5, 6] rfl rfl
        refine W.eq (g2 := F0 m9 47 ls [.int (iI 0), .int (iI 3), .ref m0]) rfl ?_
        refine ad_if_ne (tgt := 54) F (by decide) dX11_word_47 (by decide) (fun cc_19 => absurd cc_19 (by decide)) (fun _ => ?_)
        refine ad_iconst F dX11_word_50 ?_
        refine lv_goto (tgt := 55) F.1 F.2.1 dX11_word_51 (by decide) ?_
        refine ad_callV (As := [.int (iI 3), .int (iI 1)]) (rest := []) F G (c_X11_fails_1 l D K z0 m0 M 0 xrm xsv xln xat xer xwr xwd xlo xhi xwl xml xkl xfi xse xdn xon xtw xol (qs.length : Int) xgl xus xpr xmk xab 3 (by omega)) my_X11_fails mv_X11_111 (wr := [(M 29, aI (K 0) 60 q1), (M 30, aI (K 0) 60 q2), (M 31, aI (K 0) 60 q3), (M 32, aI (K 0) 60 q4), (M 33, aI (K 0) 60 q5), (M 34, aI (K 0) 60 q6)]) (isC := [0]) (isR := [1, 2, 3, 4, 5, 6]) ⟨rfl, rfl, rfl, rfl, by decide⟩ 11 0 rfl rfl rfl rfl ⟨Nat.le_of_ble_eq_true rfl, Nat.le_of_ble_eq_true rfl⟩ ⟨Nat.le_of_ble_eq_true rfl, Nat.le_of_ble_eq_true rfl⟩ (Nat.le_of_ble_eq_true rfl) hl.1 (cells9 := 0) (slots9 := 0) ⟨rfl, rfl⟩ dX11_word_55 (fun v u H locs hw_20 G => ?_)
        obtain ⟨rfl, rfl⟩ := hw_20
        replace G := G.perm (ws' := [(m0, mO M 3 xrm xsv xln xat xer xwr xwd xlo xhi xwl xml xkl xfi xse xdn xon xtw xol (qs.length : Int) xgl xus xpr xmk xab), (M 29, aI (K 0) 60 q1), (M 30, aI (K 0) 60 q2), (M 31, aI (K 0) 60 q3), (M 32, aI (K 0) 60 q4), (M 33, aI (K 0) 60 q5), (M 34, aI (K 0) 60 q6)]) [6, 0, 1, 2, 3, 4, 5] rfl rfl
        refine W.eq (g2 := F0 m9 58 ls [.int (iI 1)]) rfl ?_
        refine ad_if_eq (tgt := 63) F (by decide) dX11_word_58 (by decide) (fun cc_21 => absurd cc_21 (by decide)) (fun _ => ?_)
        refine ad_iconst F dX11_word_61 ?_
        exact ad_ireturn F G hR rfl (Nat.le_of_ble_eq_true rfl) (Nat.le_of_ble_eq_true rfl) (Or.inr (Or.inl ⟨rfl, (by omega), hc_14, rfl⟩)) dX11_word_62
    · replace G := G.perm (ws' := [(m0, mO M 0 xrm xsv xln xat xer xwr xwd xlo xhi xwl xml xkl xfi xse xdn xon xtw xol (qs.length : Int) xgl xus xpr xmk xab), (M 29, aI (K 0) 60 q1), (M 30, aI (K 0) 60 q2), (M 31, aI (K 0) 60 q3), (M 32, aI (K 0) 60 q4), (M 33, aI (K 0) 60 q5), (M 34, aI (K 0) 60 q6)]) [0, 1, 2, 3, 4, 5, 6] rfl rfl
      refine W.eq (g2 := F0 m9 25 ls [.int (iI 0), .int (iI 2), .ref m0]) rfl ?_
      refine ad_if_ne (tgt := 32) F (by decide) dX11_word_25 (by decide) (fun cc_22 => absurd cc_22 (by decide)) (fun _ => ?_)
      refine ad_iconst F dX11_word_28 ?_
      refine lv_goto (tgt := 33) F.1 F.2.1 dX11_word_29 (by decide) ?_
      refine ad_callV (As := [.int (iI 2), .int (iI 1)]) (rest := []) F G (c_X11_fails_1 l D K z0 m0 M 0 xrm xsv xln xat xer xwr xwd xlo xhi xwl xml xkl xfi xse xdn xon xtw xol (qs.length : Int) xgl xus xpr xmk xab 2 (by omega)) my_X11_fails mv_X11_111 (wr := [(M 29, aI (K 0) 60 q1), (M 30, aI (K 0) 60 q2), (M 31, aI (K 0) 60 q3), (M 32, aI (K 0) 60 q4), (M 33, aI (K 0) 60 q5), (M 34, aI (K 0) 60 q6)]) (isC := [0]) (isR := [1, 2, 3, 4, 5, 6]) ⟨rfl, rfl, rfl, rfl, by decide⟩ 11 0 rfl rfl rfl rfl ⟨Nat.le_of_ble_eq_true rfl, Nat.le_of_ble_eq_true rfl⟩ ⟨Nat.le_of_ble_eq_true rfl, Nat.le_of_ble_eq_true rfl⟩ (Nat.le_of_ble_eq_true rfl) hl.1 (cells9 := 0) (slots9 := 0) ⟨rfl, rfl⟩ dX11_word_33 (fun v u H locs hw_23 G => ?_)
      obtain ⟨rfl, rfl⟩ := hw_23
      replace G := G.perm (ws' := [(m0, mO M 2 xrm xsv xln xat xer xwr xwd xlo xhi xwl xml xkl xfi xse xdn xon xtw xol (qs.length : Int) xgl xus xpr xmk xab), (M 29, aI (K 0) 60 q1), (M 30, aI (K 0) 60 q2), (M 31, aI (K 0) 60 q3), (M 32, aI (K 0) 60 q4), (M 33, aI (K 0) 60 q5), (M 34, aI (K 0) 60 q6)]) [6, 0, 1, 2, 3, 4, 5] rfl rfl
      refine W.eq (g2 := F0 m9 36 ls [.int (iI 1)]) rfl ?_
      refine ad_if_ne (tgt := 61) F (by decide) dX11_word_36 (by decide) (fun _ => ?_) (fun cc_24 => absurd cc_24 (by decide))
      refine ad_iconst F dX11_word_61 ?_
      exact ad_ireturn F G hR rfl (Nat.le_of_ble_eq_true rfl) (Nat.le_of_ble_eq_true rfl) (Or.inl ⟨rfl, (by omega), rfl⟩) dX11_word_62

def rm_X11_result_n : Room := { frames := 2, cells := 0, slots := 0, locals := 34 }
set_option maxHeartbeats 4000000 in
set_option maxRecDepth 100000 in
theorem c_X11_result_n (l : Launch) (D : va_G) (K : Nat → ClassId) (z0 : Nat) (m0 : Nat) (M : Nat → Nat) (xth : Int) (xrm : Int) (xsv : Int) (xln : Int) (xat : Int) (xer : Int) (xwr : Int) (xwd : Int) (xlo : Int) (xhi : Int) (xwl : Int) (xml : Int) (xkl : Int) (xfi : Int) (xse : Int) (xdn : Int) (xon : Int) (xtw : Int) (xol : Int) (xrw : Int) (xgl : Int) (xus : Int) (xpr : Int) (xmk : Int) (xab : Int) (w : Int) (hw : -2147483648 ≤ w ∧ w < 2147483648) (hrr : -1 ≤ xrw ∧ xrw ≤ 60) (hn_ : xrw < 0) : CT l D K z0 yX11_result cX11_result 2 (some .int) rm_X11_result_n [.ref m0, .int (iI w)] [(m0, mO M xth xrm xsv xln xat xer xwr xwd xlo xhi xwl xml xkl xfi xse xdn xon xtw xol xrw xgl xus xpr xmk xab)] (fun v9 u9 => v9 = some (.int (iI 0)) ∧ u9 = [(m0, mO M 1 xrm xsv xln xat xer xwr xwd xlo xhi xwl xml xkl xfi xse xdn xon xtw xol xrw xgl xus xpr xmk xab)]) := by
  refine CT.start RX11 "result" (by decide) rfl rfl (Nat.le_of_ble_eq_true rfl) ?_
  intro p9 e9 s9 m9 ag9 bl9 mt9 c9 A9 Q9 ls F G hR hl
  have hl : lv_has ls 2 [(0, .ref m0), (1, .int (iI w))] := hl
  refine lv_aload_n F.1 F.2.1 dX11_result_0 rfl (lv_at hl 0 rfl) ?_
  refine ad_iconst F dX11_result_1 ?_
  refine lv_aload_n F.1 F.2.1 dX11_result_2 rfl (lv_at hl 0 rfl) ?_
  refine ad_callV (As := []) (rest := [.int (iI 1), .ref m0]) F G (c_X11_hasNone l D K z0 m0 M xth xrm xsv xln xat xer xwr xwd xlo xhi xwl xml xkl xfi xse xdn xon xtw xol xrw xgl xus xpr xmk xab (by omega)) my_X11_hasNone mv_X11_342 (wr := []) (isC := [0]) (isR := []) ⟨rfl, rfl, rfl, rfl, by decide⟩ 11 0 rfl rfl rfl rfl ⟨Nat.le_of_ble_eq_true rfl, Nat.le_of_ble_eq_true rfl⟩ ⟨Nat.le_of_ble_eq_true rfl, Nat.le_of_ble_eq_true rfl⟩ (Nat.le_of_ble_eq_true rfl) hl.1 (cells9 := 0) (slots9 := 0) ⟨rfl, rfl⟩ dX11_result_3 (fun v u H locs hw_1 G => ?_)
  rcases hw_1 with ⟨rfl, hc_2, rfl⟩ | ⟨rfl, hc_3, rfl⟩
  · replace G := G.perm (ws' := [(m0, mO M xth xrm xsv xln xat xer xwr xwd xlo xhi xwl xml xkl xfi xse xdn xon xtw xol xrw xgl xus xpr xmk xab)]) [0] rfl rfl
    refine W.eq (g2 := F0 m9 6 ls [.int (iI 1), .int (iI 1), .ref m0]) rfl ?_
    refine ad_callV (As := [.int (iI 1), .int (iI 1)]) (rest := []) F G (c_X11_fails_1 l D K z0 m0 M xth xrm xsv xln xat xer xwr xwd xlo xhi xwl xml xkl xfi xse xdn xon xtw xol xrw xgl xus xpr xmk xab 1 (by omega)) my_X11_fails mv_X11_111 (wr := []) (isC := [0]) (isR := []) ⟨rfl, rfl, rfl, rfl, by decide⟩ 11 0 rfl rfl rfl rfl ⟨Nat.le_of_ble_eq_true rfl, Nat.le_of_ble_eq_true rfl⟩ ⟨Nat.le_of_ble_eq_true rfl, Nat.le_of_ble_eq_true rfl⟩ (Nat.le_of_ble_eq_true rfl) hl.1 (cells9 := 0) (slots9 := 0) ⟨rfl, rfl⟩ dX11_result_6 (fun v u H locs hw_4 G => ?_)
    obtain ⟨rfl, rfl⟩ := hw_4
    replace G := G.perm (ws' := [(m0, mO M 1 xrm xsv xln xat xer xwr xwd xlo xhi xwl xml xkl xfi xse xdn xon xtw xol xrw xgl xus xpr xmk xab)]) [0] rfl rfl
    refine W.eq (g2 := F0 m9 9 ls [.int (iI 1)]) rfl ?_
    refine ad_if_ne (tgt := 34) F (by decide) dX11_result_9 (by decide) (fun _ => ?_) (fun cc_5 => absurd cc_5 (by decide))
    refine ad_iconst F dX11_result_34 ?_
    exact ad_ireturn F G hR rfl (Nat.le_of_ble_eq_true rfl) (Nat.le_of_ble_eq_true rfl) ⟨rfl, rfl⟩ dX11_result_35
  · replace G := G.perm (ws' := [(m0, mO M xth xrm xsv xln xat xer xwr xwd xlo xhi xwl xml xkl xfi xse xdn xon xtw xol xrw xgl xus xpr xmk xab)]) [0] rfl rfl
    refine W.eq (g2 := F0 m9 6 ls [.int (iI 0), .int (iI 1), .ref m0]) rfl ?_
    exfalso; omega

def rm_X11_result_t : Room := { frames := 2, cells := 0, slots := 0, locals := 34 }
set_option maxHeartbeats 4000000 in
set_option maxRecDepth 100000 in
theorem c_X11_result_t (l : Launch) (D : va_G) (K : Nat → ClassId) (z0 : Nat) (m0 : Nat) (M : Nat → Nat) (xth : Int) (xrm : Int) (xsv : Int) (xln : Int) (xat : Int) (xer : Int) (xwr : Int) (xwd : Int) (xlo : Int) (xhi : Int) (xwl : Int) (xml : Int) (xkl : Int) (xfi : Int) (xse : Int) (xdn : Int) (xon : Int) (xtw : Int) (xol : Int) (xrw : Int) (xgl : Int) (xus : Int) (xpr : Int) (xmk : Int) (xab : Int) (w : Int) (hrr : -1 ≤ xrw ∧ xrw ≤ 60) (hn_ : 0 ≤ xrw) (hw : -2147483648 ≤ w ∧ w < 2147483648) : CT l D K z0 yX11_result cX11_result 2 (some .int) rm_X11_result_t [.ref m0, .int (iI w)] [(m0, mO M xth xrm xsv xln xat xer xwr xwd xlo xhi xwl xml xkl xfi xse xdn xon xtw xol xrw xgl xus xpr xmk xab)] (fun v9 u9 => (v9 = some (.int (iI 0)) ∧ (¬ (0 ≤ w ∧ w ≤ 5)) ∧ u9 = [(m0, mO M 2 xrm xsv xln xat xer xwr xwd xlo xhi xwl xml xkl xfi xse xdn xon xtw xol xrw xgl xus xpr xmk xab)]) ∨ (v9 = some (.int (iI (reA xrw xol xgl xus xmk xab w))) ∧ (0 ≤ w ∧ w ≤ 5) ∧ u9 = [(m0, mO M 0 xrm xsv xln xat xer xwr xwd xlo xhi xwl xml xkl xfi xse xdn xon xtw xol xrw xgl xus xpr xmk xab)])) := by
  refine CT.start RX11 "result" (by decide) rfl rfl (Nat.le_of_ble_eq_true rfl) ?_
  intro p9 e9 s9 m9 ag9 bl9 mt9 c9 A9 Q9 ls F G hR hl
  have hl : lv_has ls 2 [(0, .ref m0), (1, .int (iI w))] := hl
  refine lv_aload_n F.1 F.2.1 dX11_result_0 rfl (lv_at hl 0 rfl) ?_
  refine ad_iconst F dX11_result_1 ?_
  refine lv_aload_n F.1 F.2.1 dX11_result_2 rfl (lv_at hl 0 rfl) ?_
  refine ad_callV (As := []) (rest := [.int (iI 1), .ref m0]) F G (c_X11_hasNone l D K z0 m0 M xth xrm xsv xln xat xer xwr xwd xlo xhi xwl xml xkl xfi xse xdn xon xtw xol xrw xgl xus xpr xmk xab (by omega)) my_X11_hasNone mv_X11_342 (wr := []) (isC := [0]) (isR := []) ⟨rfl, rfl, rfl, rfl, by decide⟩ 11 0 rfl rfl rfl rfl ⟨Nat.le_of_ble_eq_true rfl, Nat.le_of_ble_eq_true rfl⟩ ⟨Nat.le_of_ble_eq_true rfl, Nat.le_of_ble_eq_true rfl⟩ (Nat.le_of_ble_eq_true rfl) hl.1 (cells9 := 0) (slots9 := 0) ⟨rfl, rfl⟩ dX11_result_3 (fun v u H locs hw_1 G => ?_)
  rcases hw_1 with ⟨rfl, hc_2, rfl⟩ | ⟨rfl, hc_3, rfl⟩
  · replace G := G.perm (ws' := [(m0, mO M xth xrm xsv xln xat xer xwr xwd xlo xhi xwl xml xkl xfi xse xdn xon xtw xol xrw xgl xus xpr xmk xab)]) [0] rfl rfl
    refine W.eq (g2 := F0 m9 6 ls [.int (iI 1), .int (iI 1), .ref m0]) rfl ?_
    exfalso; omega
  · replace G := G.perm (ws' := [(m0, mO M xth xrm xsv xln xat xer xwr xwd xlo xhi xwl xml xkl xfi xse xdn xon xtw xol xrw xgl xus xpr xmk xab)]) [0] rfl rfl
    refine W.eq (g2 := F0 m9 6 ls [.int (iI 0), .int (iI 1), .ref m0]) rfl ?_
    refine ad_callV (As := [.int (iI 1), .int (iI 0)]) (rest := []) F G (c_X11_fails_0 l D K z0 m0 M xth xrm xsv xln xat xer xwr xwd xlo xhi xwl xml xkl xfi xse xdn xon xtw xol xrw xgl xus xpr xmk xab 1 (by omega)) my_X11_fails mv_X11_111 (wr := []) (isC := [0]) (isR := []) ⟨rfl, rfl, rfl, rfl, by decide⟩ 11 0 rfl rfl rfl rfl ⟨Nat.le_of_ble_eq_true rfl, Nat.le_of_ble_eq_true rfl⟩ ⟨Nat.le_of_ble_eq_true rfl, Nat.le_of_ble_eq_true rfl⟩ (Nat.le_of_ble_eq_true rfl) hl.1 (cells9 := 0) (slots9 := 0) ⟨rfl, rfl⟩ dX11_result_6 (fun v u H locs hw_4 G => ?_)
    obtain ⟨rfl, rfl⟩ := hw_4
    replace G := G.perm (ws' := [(m0, mO M 0 xrm xsv xln xat xer xwr xwd xlo xhi xwl xml xkl xfi xse xdn xon xtw xol xrw xgl xus xpr xmk xab)]) [0] rfl rfl
    refine W.eq (g2 := F0 m9 9 ls [.int (iI 0)]) rfl ?_
    refine ad_if_ne (tgt := 34) F (by decide) dX11_result_9 (by decide) (fun cc_5 => absurd cc_5 (by decide)) (fun _ => ?_)
    refine lv_aload_n F.1 F.2.1 dX11_result_12 rfl (lv_at hl 0 rfl) ?_
    refine ad_iconst F dX11_result_13 ?_
    refine lv_iload_n F.1 F.2.1 dX11_result_14 rfl (lv_at hl 1 rfl) ?_
    refine ad_iconst F dX11_result_15 ?_
    refine ad_iconst F dX11_result_16 ?_
    refine ad_callS (As := [.int (iI w), .int (iI 0), .int (iI 5)]) (rest := [.int (iI 2), .ref m0]) F G (c_X11_isBetween l D K z0 w 0 5 hw (by omega) (by omega)) my_X11_isBetween ms_X11_107 (wr := [(m0, mO M 0 xrm xsv xln xat xer xwr xwd xlo xhi xwl xml xkl xfi xse xdn xon xtw xol xrw xgl xus xpr xmk xab)]) (isC := []) (isR := [0]) ⟨rfl, rfl, rfl, rfl, by decide⟩ rfl rfl ⟨Nat.le_of_ble_eq_true rfl, Nat.le_of_ble_eq_true rfl⟩ ⟨Nat.le_of_ble_eq_true rfl, Nat.le_of_ble_eq_true rfl⟩ (Nat.le_of_ble_eq_true rfl) hl.1 (cells9 := 0) (slots9 := 0) ⟨rfl, rfl⟩ dX11_result_17 (fun v u H locs hw_6 G => ?_)
    rcases hw_6 with ⟨rfl, hc_7, rfl⟩ | ⟨rfl, hc_8, rfl⟩
    · replace G := G.perm (ws' := [(m0, mO M 0 xrm xsv xln xat xer xwr xwd xlo xhi xwl xml xkl xfi xse xdn xon xtw xol xrw xgl xus xpr xmk xab)]) [0] rfl rfl
      refine W.eq (g2 := F0 m9 20 ls [.int (iI 1), .int (iI 2), .ref m0]) rfl ?_
      refine ad_if_ne (tgt := 27) F (by decide) dX11_result_20 (by decide) (fun _ => ?_) (fun cc_9 => absurd cc_9 (by decide))
      refine ad_iconst F dX11_result_27 ?_
      refine ad_callV (As := [.int (iI 2), .int (iI 0)]) (rest := []) F G (c_X11_fails_0 l D K z0 m0 M 0 xrm xsv xln xat xer xwr xwd xlo xhi xwl xml xkl xfi xse xdn xon xtw xol xrw xgl xus xpr xmk xab 2 (by omega)) my_X11_fails mv_X11_111 (wr := []) (isC := [0]) (isR := []) ⟨rfl, rfl, rfl, rfl, by decide⟩ 11 0 rfl rfl rfl rfl ⟨Nat.le_of_ble_eq_true rfl, Nat.le_of_ble_eq_true rfl⟩ ⟨Nat.le_of_ble_eq_true rfl, Nat.le_of_ble_eq_true rfl⟩ (Nat.le_of_ble_eq_true rfl) hl.1 (cells9 := 0) (slots9 := 0) ⟨rfl, rfl⟩ dX11_result_28 (fun v u H locs hw_10 G => ?_)
      obtain ⟨rfl, rfl⟩ := hw_10
      replace G := G.perm (ws' := [(m0, mO M 0 xrm xsv xln xat xer xwr xwd xlo xhi xwl xml xkl xfi xse xdn xon xtw xol xrw xgl xus xpr xmk xab)]) [0] rfl rfl
      refine W.eq (g2 := F0 m9 31 ls [.int (iI 0)]) rfl ?_
      refine ad_if_eq (tgt := 36) F (by decide) dX11_result_31 (by decide) (fun _ => ?_) (fun cc_11 => absurd cc_11 (by decide))
      refine lv_iload_n F.1 F.2.1 dX11_result_36 rfl (lv_at hl 1 rfl) ?_
      rcases (show (w < 0 ∨ 4 < w) ∨ w = 0 ∨ w = 1 ∨ w = 2 ∨ w = 3 ∨ w = 4 by omega) with cs_12 | cs_12 | cs_12 | cs_12 | cs_12 | cs_12
      · refine ad_tabOut (tgt := 97) F dX11_result_37 (by omega) cs_12 (by decide) ?_
        refine lv_aload_n F.1 F.2.1 dX11_result_97 rfl (lv_at hl 0 rfl) ?_
        refine ad_get F G fl_X11_316 0 rfl rfl dX11_result_98 ?_
        exact ad_ireturn F G hR rfl (Nat.le_of_ble_eq_true rfl) (Nat.le_of_ble_eq_true rfl) (Or.inr (⟨(ad_eqi (by rw [show w = 5 by omega]; rfl)), hc_7, rfl⟩)) dX11_result_101
      · refine ad_tabIn (v := 0) (tgt := 72) F dX11_result_37 cs_12 (by decide) (by decide) (by decide) rfl (by decide) ?_
        refine lv_aload_n F.1 F.2.1 dX11_result_72 rfl (lv_at hl 0 rfl) ?_
        refine ad_get F G fl_X11_72 0 rfl rfl dX11_result_73 ?_
        exact ad_ireturn F G hR rfl (Nat.le_of_ble_eq_true rfl) (Nat.le_of_ble_eq_true rfl) (Or.inr (⟨(ad_eqi (by rw [cs_12]; rfl)), hc_7, rfl⟩)) dX11_result_76
      · refine ad_tabIn (v := 1) (tgt := 77) F dX11_result_37 cs_12 (by decide) (by decide) (by decide) rfl (by decide) ?_
        refine lv_aload_n F.1 F.2.1 dX11_result_77 rfl (lv_at hl 0 rfl) ?_
        refine ad_get F G fl_X11_292 0 rfl rfl dX11_result_78 ?_
        exact ad_ireturn F G hR rfl (Nat.le_of_ble_eq_true rfl) (Nat.le_of_ble_eq_true rfl) (Or.inr (⟨(ad_eqi (by rw [cs_12]; rfl)), hc_7, rfl⟩)) dX11_result_81
      · refine ad_tabIn (v := 2) (tgt := 82) F dX11_result_37 cs_12 (by decide) (by decide) (by decide) rfl (by decide) ?_
        refine lv_aload_n F.1 F.2.1 dX11_result_82 rfl (lv_at hl 0 rfl) ?_
        refine ad_get F G fl_X11_313 0 rfl rfl dX11_result_83 ?_
        exact ad_ireturn F G hR rfl (Nat.le_of_ble_eq_true rfl) (Nat.le_of_ble_eq_true rfl) (Or.inr (⟨(ad_eqi (by rw [cs_12]; rfl)), hc_7, rfl⟩)) dX11_result_86
      · refine ad_tabIn (v := 3) (tgt := 87) F dX11_result_37 cs_12 (by decide) (by decide) (by decide) rfl (by decide) ?_
        refine lv_aload_n F.1 F.2.1 dX11_result_87 rfl (lv_at hl 0 rfl) ?_
        refine ad_get F G fl_X11_295 0 rfl rfl dX11_result_88 ?_
        exact ad_ireturn F G hR rfl (Nat.le_of_ble_eq_true rfl) (Nat.le_of_ble_eq_true rfl) (Or.inr (⟨(ad_eqi (by rw [cs_12]; rfl)), hc_7, rfl⟩)) dX11_result_91
      · refine ad_tabIn (v := 4) (tgt := 92) F dX11_result_37 cs_12 (by decide) (by decide) (by decide) rfl (by decide) ?_
        refine lv_aload_n F.1 F.2.1 dX11_result_92 rfl (lv_at hl 0 rfl) ?_
        refine ad_get F G fl_X11_304 0 rfl rfl dX11_result_93 ?_
        exact ad_ireturn F G hR rfl (Nat.le_of_ble_eq_true rfl) (Nat.le_of_ble_eq_true rfl) (Or.inr (⟨(ad_eqi (by rw [cs_12]; rfl)), hc_7, rfl⟩)) dX11_result_96
    · replace G := G.perm (ws' := [(m0, mO M 0 xrm xsv xln xat xer xwr xwd xlo xhi xwl xml xkl xfi xse xdn xon xtw xol xrw xgl xus xpr xmk xab)]) [0] rfl rfl
      refine W.eq (g2 := F0 m9 20 ls [.int (iI 0), .int (iI 2), .ref m0]) rfl ?_
      refine ad_if_ne (tgt := 27) F (by decide) dX11_result_20 (by decide) (fun cc_13 => absurd cc_13 (by decide)) (fun _ => ?_)
      refine ad_iconst F dX11_result_23 ?_
      refine lv_goto (tgt := 28) F.1 F.2.1 dX11_result_24 (by decide) ?_
      refine ad_callV (As := [.int (iI 2), .int (iI 1)]) (rest := []) F G (c_X11_fails_1 l D K z0 m0 M 0 xrm xsv xln xat xer xwr xwd xlo xhi xwl xml xkl xfi xse xdn xon xtw xol xrw xgl xus xpr xmk xab 2 (by omega)) my_X11_fails mv_X11_111 (wr := []) (isC := [0]) (isR := []) ⟨rfl, rfl, rfl, rfl, by decide⟩ 11 0 rfl rfl rfl rfl ⟨Nat.le_of_ble_eq_true rfl, Nat.le_of_ble_eq_true rfl⟩ ⟨Nat.le_of_ble_eq_true rfl, Nat.le_of_ble_eq_true rfl⟩ (Nat.le_of_ble_eq_true rfl) hl.1 (cells9 := 0) (slots9 := 0) ⟨rfl, rfl⟩ dX11_result_28 (fun v u H locs hw_14 G => ?_)
      obtain ⟨rfl, rfl⟩ := hw_14
      replace G := G.perm (ws' := [(m0, mO M 2 xrm xsv xln xat xer xwr xwd xlo xhi xwl xml xkl xfi xse xdn xon xtw xol xrw xgl xus xpr xmk xab)]) [0] rfl rfl
      refine W.eq (g2 := F0 m9 31 ls [.int (iI 1)]) rfl ?_
      refine ad_if_eq (tgt := 36) F (by decide) dX11_result_31 (by decide) (fun cc_15 => absurd cc_15 (by decide)) (fun _ => ?_)
      refine ad_iconst F dX11_result_34 ?_
      exact ad_ireturn F G hR rfl (Nat.le_of_ble_eq_true rfl) (Nat.le_of_ble_eq_true rfl) (Or.inl ⟨rfl, hc_8, rfl⟩) dX11_result_35

def rm_X11_share_n : Room := { frames := 2, cells := 0, slots := 0, locals := 34 }
set_option maxHeartbeats 4000000 in
set_option maxRecDepth 100000 in
theorem c_X11_share_n (l : Launch) (D : va_G) (K : Nat → ClassId) (z0 : Nat) (m0 : Nat) (M : Nat → Nat) (xth : Int) (xrm : Int) (xsv : Int) (xln : Int) (xat : Int) (xer : Int) (xwr : Int) (xwd : Int) (xlo : Int) (xhi : Int) (xwl : Int) (xml : Int) (xkl : Int) (xfi : Int) (xse : Int) (xdn : Int) (xon : Int) (xtw : Int) (xol : Int) (xrw : Int) (xgl : Int) (xus : Int) (xpr : Int) (xmk : Int) (xab : Int) (hrr : -1 ≤ xrw ∧ xrw ≤ 60) (hn_ : xrw < 0) : CT l D K z0 yX11_share cX11_share 1 (some .double) rm_X11_share_n [.ref m0] [(m0, mO M xth xrm xsv xln xat xer xwr xwd xlo xhi xwl xml xkl xfi xse xdn xon xtw xol xrw xgl xus xpr xmk xab)] (fun v9 u9 => v9 = some (.double (0 : UInt64)) ∧ u9 = [(m0, mO M 1 xrm xsv xln xat xer xwr xwd xlo xhi xwl xml xkl xfi xse xdn xon xtw xol xrw xgl xus xpr xmk xab)]) := by
  refine CT.start RX11 "share" (by decide) rfl rfl (Nat.le_of_ble_eq_true rfl) ?_
  intro p9 e9 s9 m9 ag9 bl9 mt9 c9 A9 Q9 ls F G hR hl
  have hl : lv_has ls 1 [(0, .ref m0)] := hl
  refine lv_aload_n F.1 F.2.1 dX11_share_0 rfl (lv_at hl 0 rfl) ?_
  refine ad_iconst F dX11_share_1 ?_
  refine lv_aload_n F.1 F.2.1 dX11_share_2 rfl (lv_at hl 0 rfl) ?_
  refine ad_callV (As := []) (rest := [.int (iI 1), .ref m0]) F G (c_X11_hasNone l D K z0 m0 M xth xrm xsv xln xat xer xwr xwd xlo xhi xwl xml xkl xfi xse xdn xon xtw xol xrw xgl xus xpr xmk xab (by omega)) my_X11_hasNone mv_X11_342 (wr := []) (isC := [0]) (isR := []) ⟨rfl, rfl, rfl, rfl, by decide⟩ 11 0 rfl rfl rfl rfl ⟨Nat.le_of_ble_eq_true rfl, Nat.le_of_ble_eq_true rfl⟩ ⟨Nat.le_of_ble_eq_true rfl, Nat.le_of_ble_eq_true rfl⟩ (Nat.le_of_ble_eq_true rfl) hl.1 (cells9 := 0) (slots9 := 0) ⟨rfl, rfl⟩ dX11_share_3 (fun v u H locs hw_1 G => ?_)
  rcases hw_1 with ⟨rfl, hc_2, rfl⟩ | ⟨rfl, hc_3, rfl⟩
  · replace G := G.perm (ws' := [(m0, mO M xth xrm xsv xln xat xer xwr xwd xlo xhi xwl xml xkl xfi xse xdn xon xtw xol xrw xgl xus xpr xmk xab)]) [0] rfl rfl
    refine W.eq (g2 := F0 m9 6 ls [.int (iI 1), .int (iI 1), .ref m0]) rfl ?_
    refine ad_callV (As := [.int (iI 1), .int (iI 1)]) (rest := []) F G (c_X11_fails_1 l D K z0 m0 M xth xrm xsv xln xat xer xwr xwd xlo xhi xwl xml xkl xfi xse xdn xon xtw xol xrw xgl xus xpr xmk xab 1 (by omega)) my_X11_fails mv_X11_111 (wr := []) (isC := [0]) (isR := []) ⟨rfl, rfl, rfl, rfl, by decide⟩ 11 0 rfl rfl rfl rfl ⟨Nat.le_of_ble_eq_true rfl, Nat.le_of_ble_eq_true rfl⟩ ⟨Nat.le_of_ble_eq_true rfl, Nat.le_of_ble_eq_true rfl⟩ (Nat.le_of_ble_eq_true rfl) hl.1 (cells9 := 0) (slots9 := 0) ⟨rfl, rfl⟩ dX11_share_6 (fun v u H locs hw_4 G => ?_)
    obtain ⟨rfl, rfl⟩ := hw_4
    replace G := G.perm (ws' := [(m0, mO M 1 xrm xsv xln xat xer xwr xwd xlo xhi xwl xml xkl xfi xse xdn xon xtw xol xrw xgl xus xpr xmk xab)]) [0] rfl rfl
    refine W.eq (g2 := F0 m9 9 ls [.int (iI 1)]) rfl ?_
    refine ad_if_eq (tgt := 16) F (by decide) dX11_share_9 (by decide) (fun cc_5 => absurd cc_5 (by decide)) (fun _ => ?_)
    refine lv_dconst0 F.1 F.2.1 dX11_share_12 ?_
    refine lv_goto (tgt := 27) F.1 F.2.1 dX11_share_13 (by decide) ?_
    exact ad_dreturn F G hR rfl (Nat.le_of_ble_eq_true rfl) (Nat.le_of_ble_eq_true rfl) ⟨rfl, rfl⟩ dX11_share_27
  · replace G := G.perm (ws' := [(m0, mO M xth xrm xsv xln xat xer xwr xwd xlo xhi xwl xml xkl xfi xse xdn xon xtw xol xrw xgl xus xpr xmk xab)]) [0] rfl rfl
    refine W.eq (g2 := F0 m9 6 ls [.int (iI 0), .int (iI 1), .ref m0]) rfl ?_
    exfalso; omega

def rm_X11_share_t : Room := { frames := 2, cells := 0, slots := 0, locals := 34 }
set_option maxHeartbeats 4000000 in
set_option maxRecDepth 100000 in
theorem c_X11_share_t (l : Launch) (D : va_G) (K : Nat → ClassId) (z0 : Nat) (m0 : Nat) (M : Nat → Nat) (xth : Int) (xrm : Int) (xsv : Int) (xln : Int) (xat : Int) (xer : Int) (xwr : Int) (xwd : Int) (xlo : Int) (xhi : Int) (xwl : Int) (xml : Int) (xkl : Int) (xfi : Int) (xse : Int) (xdn : Int) (xon : Int) (xtw : Int) (xol : Int) (xrw : Int) (xgl : Int) (xus : Int) (xpr : Int) (xmk : Int) (xab : Int) (hrr : -1 ≤ xrw ∧ xrw ≤ 60) (hn_ : 0 ≤ xrw) (hol : 0 ≤ xol ∧ xol ≤ 1200 ∧ 1 ≤ xgl ∧ xgl ≤ 100) : CT l D K z0 yX11_share cX11_share 1 (some .double) rm_X11_share_t [.ref m0] [(m0, mO M xth xrm xsv xln xat xer xwr xwd xlo xhi xwl xml xkl xfi xse xdn xon xtw xol xrw xgl xus xpr xmk xab)] (fun v9 u9 => v9 = some (.double (shD xol xgl)) ∧ u9 = [(m0, mO M 0 xrm xsv xln xat xer xwr xwd xlo xhi xwl xml xkl xfi xse xdn xon xtw xol xrw xgl xus xpr xmk xab)]) := by
  refine CT.start RX11 "share" (by decide) rfl rfl (Nat.le_of_ble_eq_true rfl) ?_
  intro p9 e9 s9 m9 ag9 bl9 mt9 c9 A9 Q9 ls F G hR hl
  have hl : lv_has ls 1 [(0, .ref m0)] := hl
  refine lv_aload_n F.1 F.2.1 dX11_share_0 rfl (lv_at hl 0 rfl) ?_
  refine ad_iconst F dX11_share_1 ?_
  refine lv_aload_n F.1 F.2.1 dX11_share_2 rfl (lv_at hl 0 rfl) ?_
  refine ad_callV (As := []) (rest := [.int (iI 1), .ref m0]) F G (c_X11_hasNone l D K z0 m0 M xth xrm xsv xln xat xer xwr xwd xlo xhi xwl xml xkl xfi xse xdn xon xtw xol xrw xgl xus xpr xmk xab (by omega)) my_X11_hasNone mv_X11_342 (wr := []) (isC := [0]) (isR := []) ⟨rfl, rfl, rfl, rfl, by decide⟩ 11 0 rfl rfl rfl rfl ⟨Nat.le_of_ble_eq_true rfl, Nat.le_of_ble_eq_true rfl⟩ ⟨Nat.le_of_ble_eq_true rfl, Nat.le_of_ble_eq_true rfl⟩ (Nat.le_of_ble_eq_true rfl) hl.1 (cells9 := 0) (slots9 := 0) ⟨rfl, rfl⟩ dX11_share_3 (fun v u H locs hw_1 G => ?_)
  rcases hw_1 with ⟨rfl, hc_2, rfl⟩ | ⟨rfl, hc_3, rfl⟩
  · replace G := G.perm (ws' := [(m0, mO M xth xrm xsv xln xat xer xwr xwd xlo xhi xwl xml xkl xfi xse xdn xon xtw xol xrw xgl xus xpr xmk xab)]) [0] rfl rfl
    refine W.eq (g2 := F0 m9 6 ls [.int (iI 1), .int (iI 1), .ref m0]) rfl ?_
    exfalso; omega
  · replace G := G.perm (ws' := [(m0, mO M xth xrm xsv xln xat xer xwr xwd xlo xhi xwl xml xkl xfi xse xdn xon xtw xol xrw xgl xus xpr xmk xab)]) [0] rfl rfl
    refine W.eq (g2 := F0 m9 6 ls [.int (iI 0), .int (iI 1), .ref m0]) rfl ?_
    refine ad_callV (As := [.int (iI 1), .int (iI 0)]) (rest := []) F G (c_X11_fails_0 l D K z0 m0 M xth xrm xsv xln xat xer xwr xwd xlo xhi xwl xml xkl xfi xse xdn xon xtw xol xrw xgl xus xpr xmk xab 1 (by omega)) my_X11_fails mv_X11_111 (wr := []) (isC := [0]) (isR := []) ⟨rfl, rfl, rfl, rfl, by decide⟩ 11 0 rfl rfl rfl rfl ⟨Nat.le_of_ble_eq_true rfl, Nat.le_of_ble_eq_true rfl⟩ ⟨Nat.le_of_ble_eq_true rfl, Nat.le_of_ble_eq_true rfl⟩ (Nat.le_of_ble_eq_true rfl) hl.1 (cells9 := 0) (slots9 := 0) ⟨rfl, rfl⟩ dX11_share_6 (fun v u H locs hw_4 G => ?_)
    obtain ⟨rfl, rfl⟩ := hw_4
    replace G := G.perm (ws' := [(m0, mO M 0 xrm xsv xln xat xer xwr xwd xlo xhi xwl xml xkl xfi xse xdn xon xtw xol xrw xgl xus xpr xmk xab)]) [0] rfl rfl
    refine W.eq (g2 := F0 m9 9 ls [.int (iI 0)]) rfl ?_
    refine ad_if_eq (tgt := 16) F (by decide) dX11_share_9 (by decide) (fun _ => ?_) (fun cc_5 => absurd cc_5 (by decide))
    refine lv_aload_n F.1 F.2.1 dX11_share_16 rfl (lv_at hl 0 rfl) ?_
    refine ad_get F G fl_X11_292 0 rfl rfl dX11_share_17 ?_
    refine lv_i2d F.1 F.2.1 dX11_share_20 ?_
    refine lv_aload_n F.1 F.2.1 dX11_share_21 rfl (lv_at hl 0 rfl) ?_
    refine ad_get F G fl_X11_313 0 rfl rfl dX11_share_22 ?_
    refine lv_i2d F.1 F.2.1 dX11_share_25 ?_
    refine lv_ddiv F.1 F.2.1 dX11_share_26 (ddiv_ok (i2d_fin (by omega)) (i2d_nz (by omega))) ?_
    exact ad_dreturn F G hR rfl (Nat.le_of_ble_eq_true rfl) (Nat.le_of_ble_eq_true rfl) ⟨rfl, rfl⟩ dX11_share_27

def rm_X11_meanPriority_n : Room := { frames := 2, cells := 0, slots := 0, locals := 34 }
set_option maxHeartbeats 4000000 in
set_option maxRecDepth 100000 in
theorem c_X11_meanPriority_n (l : Launch) (D : va_G) (K : Nat → ClassId) (z0 : Nat) (m0 : Nat) (M : Nat → Nat) (xth : Int) (xrm : Int) (xsv : Int) (xln : Int) (xat : Int) (xer : Int) (xwr : Int) (xwd : Int) (xlo : Int) (xhi : Int) (xwl : Int) (xml : Int) (xkl : Int) (xfi : Int) (xse : Int) (xdn : Int) (xon : Int) (xtw : Int) (xol : Int) (xrw : Int) (xgl : Int) (xus : Int) (xpr : Int) (xmk : Int) (xab : Int) (hrr : -1 ≤ xrw ∧ xrw ≤ 60) (hn_ : xrw < 0) : CT l D K z0 yX11_meanPriority cX11_meanPriority 1 (some .float) rm_X11_meanPriority_n [.ref m0] [(m0, mO M xth xrm xsv xln xat xer xwr xwd xlo xhi xwl xml xkl xfi xse xdn xon xtw xol xrw xgl xus xpr xmk xab)] (fun v9 u9 => v9 = some (.float (0 : UInt32)) ∧ u9 = [(m0, mO M 1 xrm xsv xln xat xer xwr xwd xlo xhi xwl xml xkl xfi xse xdn xon xtw xol xrw xgl xus xpr xmk xab)]) := by
  refine CT.start RX11 "meanPriority" (by decide) rfl rfl (Nat.le_of_ble_eq_true rfl) ?_
  intro p9 e9 s9 m9 ag9 bl9 mt9 c9 A9 Q9 ls F G hR hl
  have hl : lv_has ls 1 [(0, .ref m0)] := hl
  refine lv_aload_n F.1 F.2.1 dX11_meanPriority_0 rfl (lv_at hl 0 rfl) ?_
  refine ad_iconst F dX11_meanPriority_1 ?_
  refine lv_aload_n F.1 F.2.1 dX11_meanPriority_2 rfl (lv_at hl 0 rfl) ?_
  refine ad_callV (As := []) (rest := [.int (iI 1), .ref m0]) F G (c_X11_hasNone l D K z0 m0 M xth xrm xsv xln xat xer xwr xwd xlo xhi xwl xml xkl xfi xse xdn xon xtw xol xrw xgl xus xpr xmk xab (by omega)) my_X11_hasNone mv_X11_342 (wr := []) (isC := [0]) (isR := []) ⟨rfl, rfl, rfl, rfl, by decide⟩ 11 0 rfl rfl rfl rfl ⟨Nat.le_of_ble_eq_true rfl, Nat.le_of_ble_eq_true rfl⟩ ⟨Nat.le_of_ble_eq_true rfl, Nat.le_of_ble_eq_true rfl⟩ (Nat.le_of_ble_eq_true rfl) hl.1 (cells9 := 0) (slots9 := 0) ⟨rfl, rfl⟩ dX11_meanPriority_3 (fun v u H locs hw_1 G => ?_)
  rcases hw_1 with ⟨rfl, hc_2, rfl⟩ | ⟨rfl, hc_3, rfl⟩
  · replace G := G.perm (ws' := [(m0, mO M xth xrm xsv xln xat xer xwr xwd xlo xhi xwl xml xkl xfi xse xdn xon xtw xol xrw xgl xus xpr xmk xab)]) [0] rfl rfl
    refine W.eq (g2 := F0 m9 6 ls [.int (iI 1), .int (iI 1), .ref m0]) rfl ?_
    refine ad_callV (As := [.int (iI 1), .int (iI 1)]) (rest := []) F G (c_X11_fails_1 l D K z0 m0 M xth xrm xsv xln xat xer xwr xwd xlo xhi xwl xml xkl xfi xse xdn xon xtw xol xrw xgl xus xpr xmk xab 1 (by omega)) my_X11_fails mv_X11_111 (wr := []) (isC := [0]) (isR := []) ⟨rfl, rfl, rfl, rfl, by decide⟩ 11 0 rfl rfl rfl rfl ⟨Nat.le_of_ble_eq_true rfl, Nat.le_of_ble_eq_true rfl⟩ ⟨Nat.le_of_ble_eq_true rfl, Nat.le_of_ble_eq_true rfl⟩ (Nat.le_of_ble_eq_true rfl) hl.1 (cells9 := 0) (slots9 := 0) ⟨rfl, rfl⟩ dX11_meanPriority_6 (fun v u H locs hw_4 G => ?_)
    obtain ⟨rfl, rfl⟩ := hw_4
    replace G := G.perm (ws' := [(m0, mO M 1 xrm xsv xln xat xer xwr xwd xlo xhi xwl xml xkl xfi xse xdn xon xtw xol xrw xgl xus xpr xmk xab)]) [0] rfl rfl
    refine W.eq (g2 := F0 m9 9 ls [.int (iI 1)]) rfl ?_
    refine ad_if_ne (tgt := 32) F (by decide) dX11_meanPriority_9 (by decide) (fun _ => ?_) (fun cc_5 => absurd cc_5 (by decide))
    refine lv_fconst0 F.1 F.2.1 dX11_meanPriority_32 ?_
    refine lv_goto (tgt := 47) F.1 F.2.1 dX11_meanPriority_33 (by decide) ?_
    exact ad_freturn F G hR rfl (Nat.le_of_ble_eq_true rfl) (Nat.le_of_ble_eq_true rfl) ⟨rfl, rfl⟩ dX11_meanPriority_47
  · replace G := G.perm (ws' := [(m0, mO M xth xrm xsv xln xat xer xwr xwd xlo xhi xwl xml xkl xfi xse xdn xon xtw xol xrw xgl xus xpr xmk xab)]) [0] rfl rfl
    refine W.eq (g2 := F0 m9 6 ls [.int (iI 0), .int (iI 1), .ref m0]) rfl ?_
    exfalso; omega

def rm_X11_meanPriority_t : Room := { frames := 2, cells := 0, slots := 0, locals := 34 }
set_option maxHeartbeats 4000000 in
set_option maxRecDepth 100000 in
theorem c_X11_meanPriority_t (l : Launch) (D : va_G) (K : Nat → ClassId) (z0 : Nat) (m0 : Nat) (M : Nat → Nat) (xth : Int) (xrm : Int) (xsv : Int) (xln : Int) (xat : Int) (xer : Int) (xwr : Int) (xwd : Int) (xlo : Int) (xhi : Int) (xwl : Int) (xml : Int) (xkl : Int) (xfi : Int) (xse : Int) (xdn : Int) (xon : Int) (xtw : Int) (xol : Int) (xrw : Int) (xgl : Int) (xus : Int) (xpr : Int) (xmk : Int) (xab : Int) (hrr : -1 ≤ xrw ∧ xrw ≤ 60) (hn_ : 0 ≤ xrw) (hus : 0 ≤ xus ∧ xus ≤ 100 ∧ 0 ≤ xpr ∧ xpr ≤ 9900) : CT l D K z0 yX11_meanPriority cX11_meanPriority 1 (some .float) rm_X11_meanPriority_t [.ref m0] [(m0, mO M xth xrm xsv xln xat xer xwr xwd xlo xhi xwl xml xkl xfi xse xdn xon xtw xol xrw xgl xus xpr xmk xab)] (fun v9 u9 => (v9 = some (.float (0 : UInt32)) ∧ (xus = 0) ∧ u9 = [(m0, mO M 2 xrm xsv xln xat xer xwr xwd xlo xhi xwl xml xkl xfi xse xdn xon xtw xol xrw xgl xus xpr xmk xab)]) ∨ (v9 = some (.float (shr xpr xus)) ∧ (0 < xus) ∧ u9 = [(m0, mO M 0 xrm xsv xln xat xer xwr xwd xlo xhi xwl xml xkl xfi xse xdn xon xtw xol xrw xgl xus xpr xmk xab)])) := by
  refine CT.start RX11 "meanPriority" (by decide) rfl rfl (Nat.le_of_ble_eq_true rfl) ?_
  intro p9 e9 s9 m9 ag9 bl9 mt9 c9 A9 Q9 ls F G hR hl
  have hl : lv_has ls 1 [(0, .ref m0)] := hl
  refine lv_aload_n F.1 F.2.1 dX11_meanPriority_0 rfl (lv_at hl 0 rfl) ?_
  refine ad_iconst F dX11_meanPriority_1 ?_
  refine lv_aload_n F.1 F.2.1 dX11_meanPriority_2 rfl (lv_at hl 0 rfl) ?_
  refine ad_callV (As := []) (rest := [.int (iI 1), .ref m0]) F G (c_X11_hasNone l D K z0 m0 M xth xrm xsv xln xat xer xwr xwd xlo xhi xwl xml xkl xfi xse xdn xon xtw xol xrw xgl xus xpr xmk xab (by omega)) my_X11_hasNone mv_X11_342 (wr := []) (isC := [0]) (isR := []) ⟨rfl, rfl, rfl, rfl, by decide⟩ 11 0 rfl rfl rfl rfl ⟨Nat.le_of_ble_eq_true rfl, Nat.le_of_ble_eq_true rfl⟩ ⟨Nat.le_of_ble_eq_true rfl, Nat.le_of_ble_eq_true rfl⟩ (Nat.le_of_ble_eq_true rfl) hl.1 (cells9 := 0) (slots9 := 0) ⟨rfl, rfl⟩ dX11_meanPriority_3 (fun v u H locs hw_1 G => ?_)
  rcases hw_1 with ⟨rfl, hc_2, rfl⟩ | ⟨rfl, hc_3, rfl⟩
  · replace G := G.perm (ws' := [(m0, mO M xth xrm xsv xln xat xer xwr xwd xlo xhi xwl xml xkl xfi xse xdn xon xtw xol xrw xgl xus xpr xmk xab)]) [0] rfl rfl
    refine W.eq (g2 := F0 m9 6 ls [.int (iI 1), .int (iI 1), .ref m0]) rfl ?_
    exfalso; omega
  · replace G := G.perm (ws' := [(m0, mO M xth xrm xsv xln xat xer xwr xwd xlo xhi xwl xml xkl xfi xse xdn xon xtw xol xrw xgl xus xpr xmk xab)]) [0] rfl rfl
    refine W.eq (g2 := F0 m9 6 ls [.int (iI 0), .int (iI 1), .ref m0]) rfl ?_
    refine ad_callV (As := [.int (iI 1), .int (iI 0)]) (rest := []) F G (c_X11_fails_0 l D K z0 m0 M xth xrm xsv xln xat xer xwr xwd xlo xhi xwl xml xkl xfi xse xdn xon xtw xol xrw xgl xus xpr xmk xab 1 (by omega)) my_X11_fails mv_X11_111 (wr := []) (isC := [0]) (isR := []) ⟨rfl, rfl, rfl, rfl, by decide⟩ 11 0 rfl rfl rfl rfl ⟨Nat.le_of_ble_eq_true rfl, Nat.le_of_ble_eq_true rfl⟩ ⟨Nat.le_of_ble_eq_true rfl, Nat.le_of_ble_eq_true rfl⟩ (Nat.le_of_ble_eq_true rfl) hl.1 (cells9 := 0) (slots9 := 0) ⟨rfl, rfl⟩ dX11_meanPriority_6 (fun v u H locs hw_4 G => ?_)
    obtain ⟨rfl, rfl⟩ := hw_4
    replace G := G.perm (ws' := [(m0, mO M 0 xrm xsv xln xat xer xwr xwd xlo xhi xwl xml xkl xfi xse xdn xon xtw xol xrw xgl xus xpr xmk xab)]) [0] rfl rfl
    refine W.eq (g2 := F0 m9 9 ls [.int (iI 0)]) rfl ?_
    refine ad_if_ne (tgt := 32) F (by decide) dX11_meanPriority_9 (by decide) (fun cc_5 => absurd cc_5 (by decide)) (fun _ => ?_)
    refine lv_aload_n F.1 F.2.1 dX11_meanPriority_12 rfl (lv_at hl 0 rfl) ?_
    refine ad_iconst F dX11_meanPriority_13 ?_
    refine lv_aload_n F.1 F.2.1 dX11_meanPriority_14 rfl (lv_at hl 0 rfl) ?_
    refine ad_get F G fl_X11_295 0 rfl rfl dX11_meanPriority_15 ?_
    refine ad_if_ne (tgt := 25) F (by omega) dX11_meanPriority_18 (by decide) (fun cc_6 => ?_) (fun cc_6 => ?_)
    · refine ad_iconst F dX11_meanPriority_25 ?_
      refine ad_callV (As := [.int (iI 2), .int (iI 0)]) (rest := []) F G (c_X11_fails_0 l D K z0 m0 M 0 xrm xsv xln xat xer xwr xwd xlo xhi xwl xml xkl xfi xse xdn xon xtw xol xrw xgl xus xpr xmk xab 2 (by omega)) my_X11_fails mv_X11_111 (wr := []) (isC := [0]) (isR := []) ⟨rfl, rfl, rfl, rfl, by decide⟩ 11 0 rfl rfl rfl rfl ⟨Nat.le_of_ble_eq_true rfl, Nat.le_of_ble_eq_true rfl⟩ ⟨Nat.le_of_ble_eq_true rfl, Nat.le_of_ble_eq_true rfl⟩ (Nat.le_of_ble_eq_true rfl) hl.1 (cells9 := 0) (slots9 := 0) ⟨rfl, rfl⟩ dX11_meanPriority_26 (fun v u H locs hw_7 G => ?_)
      obtain ⟨rfl, rfl⟩ := hw_7
      replace G := G.perm (ws' := [(m0, mO M 0 xrm xsv xln xat xer xwr xwd xlo xhi xwl xml xkl xfi xse xdn xon xtw xol xrw xgl xus xpr xmk xab)]) [0] rfl rfl
      refine W.eq (g2 := F0 m9 29 ls [.int (iI 0)]) rfl ?_
      refine ad_if_eq (tgt := 36) F (by decide) dX11_meanPriority_29 (by decide) (fun _ => ?_) (fun cc_8 => absurd cc_8 (by decide))
      refine lv_aload_n F.1 F.2.1 dX11_meanPriority_36 rfl (lv_at hl 0 rfl) ?_
      refine ad_get F G fl_X11_298 0 rfl rfl dX11_meanPriority_37 ?_
      refine lv_i2f F.1 F.2.1 dX11_meanPriority_40 ?_
      refine lv_aload_n F.1 F.2.1 dX11_meanPriority_41 rfl (lv_at hl 0 rfl) ?_
      refine ad_get F G fl_X11_295 0 rfl rfl dX11_meanPriority_42 ?_
      refine lv_i2f F.1 F.2.1 dX11_meanPriority_45 ?_
      refine lv_fdiv F.1 F.2.1 dX11_meanPriority_46 (fdiv_ok (i2f_fin (by omega)) (i2f_nz (by omega))) ?_
      exact ad_freturn F G hR rfl (Nat.le_of_ble_eq_true rfl) (Nat.le_of_ble_eq_true rfl) (Or.inr (⟨rfl, (by omega), rfl⟩)) dX11_meanPriority_47
    · refine ad_iconst F dX11_meanPriority_21 ?_
      refine lv_goto (tgt := 26) F.1 F.2.1 dX11_meanPriority_22 (by decide) ?_
      refine ad_callV (As := [.int (iI 2), .int (iI 1)]) (rest := []) F G (c_X11_fails_1 l D K z0 m0 M 0 xrm xsv xln xat xer xwr xwd xlo xhi xwl xml xkl xfi xse xdn xon xtw xol xrw xgl xus xpr xmk xab 2 (by omega)) my_X11_fails mv_X11_111 (wr := []) (isC := [0]) (isR := []) ⟨rfl, rfl, rfl, rfl, by decide⟩ 11 0 rfl rfl rfl rfl ⟨Nat.le_of_ble_eq_true rfl, Nat.le_of_ble_eq_true rfl⟩ ⟨Nat.le_of_ble_eq_true rfl, Nat.le_of_ble_eq_true rfl⟩ (Nat.le_of_ble_eq_true rfl) hl.1 (cells9 := 0) (slots9 := 0) ⟨rfl, rfl⟩ dX11_meanPriority_26 (fun v u H locs hw_9 G => ?_)
      obtain ⟨rfl, rfl⟩ := hw_9
      replace G := G.perm (ws' := [(m0, mO M 2 xrm xsv xln xat xer xwr xwd xlo xhi xwl xml xkl xfi xse xdn xon xtw xol xrw xgl xus xpr xmk xab)]) [0] rfl rfl
      refine W.eq (g2 := F0 m9 29 ls [.int (iI 1)]) rfl ?_
      refine ad_if_eq (tgt := 36) F (by decide) dX11_meanPriority_29 (by decide) (fun cc_10 => absurd cc_10 (by decide)) (fun _ => ?_)
      refine lv_fconst0 F.1 F.2.1 dX11_meanPriority_32 ?_
      refine lv_goto (tgt := 47) F.1 F.2.1 dX11_meanPriority_33 (by decide) ?_
      exact ad_freturn F G hR rfl (Nat.le_of_ble_eq_true rfl) (Nat.le_of_ble_eq_true rfl) (Or.inl ⟨rfl, cc_6, rfl⟩) dX11_meanPriority_47

def rm_X11_isRow : Room := { frames := 2, cells := 0, slots := 0, locals := 34 }
set_option maxHeartbeats 4000000 in
set_option maxRecDepth 100000 in
theorem c_X11_isRow (l : Launch) (D : va_G) (K : Nat → ClassId) (z0 : Nat) (r : Int) (hr : -2147483648 ≤ r ∧ r < 2147483648) : CT l D K z0 yX11_isRow cX11_isRow 1 (some .boolean) rm_X11_isRow [.int (iI r)] [] (fun v9 u9 => (v9 = some (.int (iI 1)) ∧ (r = 0 ∨ r = 1) ∧ u9 = []) ∨ (v9 = some (.int (iI 0)) ∧ (¬ (r = 0 ∨ r = 1)) ∧ u9 = [])) := by
  refine CT.start RX11 "isRow" (by decide) rfl rfl (Nat.le_of_ble_eq_true rfl) ?_
  intro p9 e9 s9 m9 ag9 bl9 mt9 c9 A9 Q9 ls F G hR hl
  have hl : lv_has ls 1 [(0, .int (iI r))] := hl
  refine lv_iload_n F.1 F.2.1 dX11_isRow_0 rfl (lv_at hl 0 rfl) ?_
  refine ad_iconst F dX11_isRow_1 ?_
  refine ad_iconst F dX11_isRow_2 ?_
  refine ad_callS (As := [.int (iI r), .int (iI 0), .int (iI 1)]) (rest := []) F G (c_X11_isBetween l D K z0 r 0 1 hr (by omega) (by omega)) my_X11_isBetween ms_X11_107 (wr := []) (isC := []) (isR := []) ⟨rfl, rfl, rfl, rfl, by decide⟩ rfl rfl ⟨Nat.le_of_ble_eq_true rfl, Nat.le_of_ble_eq_true rfl⟩ ⟨Nat.le_of_ble_eq_true rfl, Nat.le_of_ble_eq_true rfl⟩ (Nat.le_of_ble_eq_true rfl) hl.1 (cells9 := 0) (slots9 := 0) ⟨rfl, rfl⟩ dX11_isRow_3 (fun v u H locs hw_1 G => ?_)
  rcases hw_1 with ⟨rfl, hc_2, rfl⟩ | ⟨rfl, hc_3, rfl⟩
  · replace G := G.perm (ws' := []) [] rfl rfl
    refine W.eq (g2 := F0 m9 6 ls [.int (iI 1)]) rfl ?_
    exact ad_zreturn F G hR rfl (Nat.le_of_ble_eq_true rfl) (Nat.le_of_ble_eq_true rfl) rfl (Or.inl ⟨rfl, (by omega), rfl⟩) dX11_isRow_6
  · replace G := G.perm (ws' := []) [] rfl rfl
    refine W.eq (g2 := F0 m9 6 ls [.int (iI 0)]) rfl ?_
    exact ad_zreturn F G hR rfl (Nat.le_of_ble_eq_true rfl) (Nat.le_of_ble_eq_true rfl) rfl (Or.inr (⟨rfl, (by omega), rfl⟩)) dX11_isRow_6
