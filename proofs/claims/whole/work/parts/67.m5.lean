def rm_X11_readPairs : Room := { frames := 4, cells := 0, slots := 0, locals := 79 }
set_option maxHeartbeats 4000000 in
set_option maxRecDepth 100000 in
theorem c_X11_readPairs (l : Launch) (D : va_G) (K : Nat → ClassId) (z0 : Nat) (m0 : Nat) (M : Nat → Nat) (xth : Int) (xrm : Int) (xsv : Int) (xer : Int) (xlo : Int) (xhi : Int) (xwl : Int) (xml : Int) (xkl : Int) (xfi : Int) (xse : Int) (xdn : Int) (xon : Int) (xtw : Int) (xol : Int) (xrw : Int) (xgl : Int) (xus : Int) (xpr : Int) (xmk : Int) (xab : Int) (gbf : Nat → Int) (w : List Int) (gbg : Nat → Int) (gle : Nat → Int) (gam : Nat → Int) (xat : Int) (xwd : Int) (xwr : Int) (hT : Tx gbf w) (hC : Chs w) (hL : w.length ≤ 100) : CT l D K z0 yX11_readPairs cX11_readPairs 2 (some .boolean) rm_X11_readPairs [.ref m0] [(m0, mO M xth xrm xsv (w.length : Int) xat xer xwr xwd xlo xhi xwl xml xkl xfi xse xdn xon xtw xol xrw xgl xus xpr xmk xab), (M 6, aI (K 2) 100 gbf), (M 11, aI (K 0) 60 gbg), (M 12, aI (K 0) 60 gle), (M 13, aI (K 4) 60 gam)] (fun v9 u9 => (∃ (wd2 : Int), ∃ (az : Int), ∃ (gbg2 : Nat → Int), ∃ (gle2 : Nat → Int), ∃ (gam2 : Nat → Int), v9 = some (.int (iI 1)) ∧ (PE 0 1 w az) ∧ (0 ≤ az ∧ az ≤ w.length) ∧ u9 = [(m0, mO M xth xrm xsv 0 az az 1 wd2 xlo xhi xwl xml xkl xfi xse xdn xon xtw xol xrw xgl xus xpr xmk xab), (M 6, aI (K 2) 100 gbf), (M 11, aI (K 0) 60 gbg2), (M 12, aI (K 0) 60 gle2), (M 13, aI (K 4) 60 gam2)]) ∨ (∃ (n : Nat), ∃ (az : Int), ∃ (gbg2 : Nat → Int), ∃ (gle2 : Nat → Int), ∃ (gam2 : Nat → Int), v9 = some (.int (iI 0)) ∧ (PE 0 1 w (-1)) ∧ (RP w n) ∧ (RdW gbg2 gle2 gam2 w (2 * n)) ∧ u9 = [(m0, mO M xth xrm xsv 0 az xer 0 (2 * (n : Int)) xlo xhi xwl xml xkl xfi xse xdn xon xtw xol xrw xgl xus xpr xmk xab), (M 6, aI (K 2) 100 gbf), (M 11, aI (K 0) 60 gbg2), (M 12, aI (K 0) 60 gle2), (M 13, aI (K 4) 60 gam2)])) := by
  refine CT.start RX11 "readPairs" (by decide) rfl rfl (Nat.le_of_ble_eq_true rfl) ?_
  intro p9 e9 s9 m9 ag9 bl9 mt9 c9 A9 Q9 ls F G hR hl
  have hl : lv_has ls 2 [(0, .ref m0)] := hl
  refine lv_aload_n F.1 F.2.1 dX11_readPairs_0 rfl (lv_at hl 0 rfl) ?_
  refine ad_callV (As := []) (rest := []) F G (c_X11_begin l D K z0 m0 M xth xrm xsv (w.length : Int) xat xer xwr xwd xlo xhi xwl xml xkl xfi xse xdn xon xtw xol xrw xgl xus xpr xmk xab ) my_X11_begin mv_X11_146 (wr := [(M 6, aI (K 2) 100 gbf), (M 11, aI (K 0) 60 gbg), (M 12, aI (K 0) 60 gle), (M 13, aI (K 4) 60 gam)]) (isC := [0]) (isR := [1, 2, 3, 4]) ⟨rfl, rfl, rfl, rfl, by decide⟩ 11 0 rfl rfl rfl rfl ⟨Nat.le_of_ble_eq_true rfl, Nat.le_of_ble_eq_true rfl⟩ ⟨Nat.le_of_ble_eq_true rfl, Nat.le_of_ble_eq_true rfl⟩ (Nat.le_of_ble_eq_true rfl) hl.1 (cells9 := 0) (slots9 := 0) ⟨rfl, rfl⟩ dX11_readPairs_1 (fun v u H locs hw_1 G => ?_)
  obtain ⟨rfl, rfl⟩ := hw_1
  replace G := G.perm (ws' := [(m0, mO M xth xrm xsv (w.length : Int) 0 xer 0 0 xlo xhi xwl xml xkl xfi xse xdn xon xtw xol xrw xgl xus xpr xmk xab), (M 6, aI (K 2) 100 gbf), (M 11, aI (K 0) 60 gbg), (M 12, aI (K 0) 60 gle), (M 13, aI (K 4) 60 gam)]) [4, 0, 1, 2, 3] rfl rfl
  refine W.eq (g2 := F0 m9 4 ls []) rfl ?_
  replace G := G.eq (ws' := [(m0, mO M xth xrm xsv (w.length : Int) (stk w 0) xer 0 ((0 : Nat) : Int) xlo xhi xwl xml xkl xfi xse xdn xon xtw xol xrw xgl xus xpr xmk xab), (M 6, aI (K 2) 100 gbf), (M 11, aI (K 0) 60 gbg), (M 12, aI (K 0) 60 gle), (M 13, aI (K 4) 60 gam)]) (rfl)
  refine lv_aload_n F.1 F.2.1 dX11_readPairs_4 rfl (lv_at hl 0 rfl) ?_
  refine ad_bipush F dX11_readPairs_5 (by decide) ?_
  refine ad_iconst F dX11_readPairs_7 ?_
  refine ad_callV (As := [.int (iI 60), .int (iI 0)]) (rest := []) F G (c_X11_passWords_0 l D K z0 m0 M xth xrm xsv xer 0 xlo xhi xwl xml xkl xfi xse xdn xon xtw xol xrw xgl xus xpr xmk xab gbf w gbg gle gam 1 0 0 0 60 hT hC hL rfl (by omega) (psi_0 _ _ _) (fun j hj => absurd hj (Nat.not_lt_zero _)) (by omega)) my_X11_passWords mv_X11_149 (wr := []) (isC := [0, 1, 2, 3, 4]) (isR := []) ⟨rfl, rfl, rfl, rfl, by decide⟩ 11 0 rfl rfl rfl rfl ⟨Nat.le_of_ble_eq_true rfl, Nat.le_of_ble_eq_true rfl⟩ ⟨Nat.le_of_ble_eq_true rfl, Nat.le_of_ble_eq_true rfl⟩ (Nat.le_of_ble_eq_true rfl) hl.1 (cells9 := 0) (slots9 := 0) ⟨rfl, rfl⟩ dX11_readPairs_8 (fun v u H locs hw_2 G => ?_)
  obtain ⟨n_3, fz_4, az_5, wr_6, gbg2_7, gle2_8, gam2_9, rfl, hc_10, hc_11, hc_12, hc_13, hc_14, rfl⟩ := hw_2
  replace G := G.perm (ws' := [(m0, mO M xth xrm xsv (w.length : Int) az_5 xer wr_6 ((n_3 : Int) + 1) xlo xhi xwl xml xkl xfi xse xdn xon xtw xol xrw xgl xus xpr xmk xab), (M 6, aI (K 2) 100 gbf), (M 11, aI (K 0) 60 gbg2_7), (M 12, aI (K 0) 60 gle2_8), (M 13, aI (K 4) 60 gam2_9)]) [0, 1, 2, 3, 4] rfl rfl
  refine W.eq (g2 := F0 m9 11 ls []) rfl ?_
  have hpx1 : 0 ≤ az_5 ∧ az_5 ≤ w.length := psx_rng hc_10
  refine lv_aload_n F.1 F.2.1 dX11_readPairs_11 rfl (lv_at hl 0 rfl) ?_
  refine ad_get F G fl_X11_129 0 rfl rfl dX11_readPairs_12 ?_
  refine lv_istore_n (lv' := [(1, .int (iI ((n_3 : Int) + 1))), (0, .ref m0)]) F.1 F.2.1 dX11_readPairs_15 rfl hl (by decide) rfl (fun ls hl => ?_)
  refine lv_aload_n F.1 F.2.1 dX11_readPairs_16 rfl (lv_at hl 1 rfl) ?_
  refine lv_dup F.1 F.2.1 dX11_readPairs_17 rfl ?_
  refine ad_get F G fl_X11_118 0 rfl rfl dX11_readPairs_18 ?_
  refine lv_aload_n F.1 F.2.1 dX11_readPairs_21 rfl (lv_at hl 1 rfl) ?_
  refine ad_bipush F dX11_readPairs_22 (by decide) ?_
  refine ad_callV (As := [.int (iI 61)]) (rest := [.int (iI wr_6), .ref m0]) F G (c_X11_passes l D K z0 m0 M xth xrm xsv az_5 xer wr_6 ((n_3 : Int) + 1) xlo xhi xwl xml xkl xfi xse xdn xon xtw xol xrw xgl xus xpr xmk xab gbf w 61 hT hC hL hpx1 hc_14 (by omega)) my_X11_passes mv_X11_136 (wr := [(M 11, aI (K 0) 60 gbg2_7), (M 12, aI (K 0) 60 gle2_8), (M 13, aI (K 4) 60 gam2_9)]) (isC := [0, 1]) (isR := [2, 3, 4]) ⟨rfl, rfl, rfl, rfl, by decide⟩ 11 0 rfl rfl rfl rfl ⟨Nat.le_of_ble_eq_true rfl, Nat.le_of_ble_eq_true rfl⟩ ⟨Nat.le_of_ble_eq_true rfl, Nat.le_of_ble_eq_true rfl⟩ (Nat.le_of_ble_eq_true rfl) hl.1 (cells9 := 0) (slots9 := 0) ⟨rfl, rfl⟩ dX11_readPairs_24 (fun v u H locs hw_15 G => ?_)
  rcases hw_15 with ⟨rfl, hc_16, rfl⟩ | ⟨rfl, hc_17, rfl⟩
  · replace G := G.perm (ws' := [(m0, mO M xth xrm xsv (w.length : Int) (az_5 + 1) xer wr_6 ((n_3 : Int) + 1) xlo xhi xwl xml xkl xfi xse xdn xon xtw xol xrw xgl xus xpr xmk xab), (M 6, aI (K 2) 100 gbf), (M 11, aI (K 0) 60 gbg2_7), (M 12, aI (K 0) 60 gle2_8), (M 13, aI (K 4) 60 gam2_9)]) [3, 4, 0, 1, 2] rfl rfl
    refine W.eq (g2 := F0 m9 27 ls [.int (iI 1), .int (iI wr_6), .ref m0]) rfl ?_
    refine ad_if_ne (tgt := 34) F (by decide) dX11_readPairs_27 (by decide) (fun _ => ?_) (fun cc_18 => absurd cc_18 (by decide))
    refine ad_iconst F dX11_readPairs_34 ?_
    refine ad_iorn F (by omega) dX11_readPairs_35 ?_
    refine ad_put F G fl_X11_118 0 rfl (iI_boolN (by omega)).1 (iI_boolN (by omega)).2 (Nat.le_of_ble_eq_true rfl) (ws' := [(m0, mO M xth xrm xsv (w.length : Int) (az_5 + 1) xer wr_6 ((n_3 : Int) + 1) xlo xhi xwl xml xkl xfi xse xdn xon xtw xol xrw xgl xus xpr xmk xab), (M 6, aI (K 2) 100 gbf), (M 11, aI (K 0) 60 gbg2_7), (M 12, aI (K 0) 60 gle2_8), (M 13, aI (K 4) 60 gam2_9)]) rfl dX11_readPairs_36 (fun H locs G => ?_)
    refine lv_aload_n F.1 F.2.1 dX11_readPairs_39 rfl (lv_at hl 1 rfl) ?_
    refine ad_get F G fl_X11_118 0 rfl rfl dX11_readPairs_40 ?_
    refine ad_if_ne (tgt := 52) F (by omega) dX11_readPairs_43 (by decide) (fun cc_19 => ?_) (fun cc_19 => ?_)
    · exact absurd cc_19 (by omega)
    · have hX0 : PSX 0 1 w 0 0 n_3 fz_4 az_5 0 := by (have q : wr_6 = 0 := hc_16.1); (rw [q] at hc_10); exact hc_10
      have hwd9 : bW w n_3 = fz_4 ∧ eW w n_3 = az_5 ∧ stk w (n_3 + 1) = az_5 + 1 ∧ ∀ j : Nat, j < n_3 + 1 → WdOk w j ∧ (bW w j = stk w j ∨ (0 : Int) = 1) := psx_wd hX0 (fun _ q => by rw [hc_16.2.2] at q; exact absurd q (by unfold isL; omega))
      have hS9 : PSI 0 1 w ((n_3 + 1 : Nat) : Int) ((n_3 : Int) + 1) (n_3 + 1) := by
        have h9 := psx_eq hX0 hc_16.2.1 hc_16.2.2
        rw [show (n_3 : Int) - 0 + 1 = (n_3 : Int) + 1 by omega] at h9
        rw [show ((n_3 + 1 : Nat) : Int) = (n_3 : Int) + 1 by omega]
        exact h9
      have hR9 : RdW gbg2_7 gle2_8 gam2_9 w (n_3 + 1) := rd_full hc_12 (by rw [hwd9.1]; exact hc_11.1) (by rw [hwd9.1, hwd9.2.1]; exact hc_11.2.1) (by rw [mk_plain hX0 rfl]; exact hc_11.2.2)
      replace G := G.eq (ws' := [(m0, mO M xth xrm xsv (w.length : Int) (stk w (n_3 + 1)) xer wr_6 ((n_3 + 1 : Nat) : Int) xlo xhi xwl xml xkl xfi xse xdn xon xtw xol xrw xgl xus xpr xmk xab), (M 6, aI (K 2) 100 gbf), (M 11, aI (K 0) 60 gbg2_7), (M 12, aI (K 0) 60 gle2_8), (M 13, aI (K 4) 60 gam2_9)]) (by rw [hwd9.2.2.1, show ((n_3 + 1 : Nat) : Int) = (n_3 : Int) + 1 by omega])
      refine lv_aload_n F.1 F.2.1 dX11_readPairs_46 rfl (lv_at hl 1 rfl) ?_
      refine lv_iload_n F.1 F.2.1 dX11_readPairs_47 rfl (lv_at hl 0 rfl) ?_
      refine ad_iconst F dX11_readPairs_48 ?_
      refine ad_callV (As := [.int (iI ((n_3 : Int) + 1)), .int (iI 0)]) (rest := []) F G (c_X11_passWords_0 l D K z0 m0 M xth xrm xsv xer wr_6 xlo xhi xwl xml xkl xfi xse xdn xon xtw xol xrw xgl xus xpr xmk xab gbf w gbg2_7 gle2_8 gam2_9 1 ((n_3 : Int) + 1) (n_3 + 1) 0 ((n_3 : Int) + 1) hT hC hL rfl cc_19 hS9 hR9 (by omega)) my_X11_passWords mv_X11_149 (wr := []) (isC := [0, 1, 2, 3, 4]) (isR := []) ⟨rfl, rfl, rfl, rfl, by decide⟩ 11 0 rfl rfl rfl rfl ⟨Nat.le_of_ble_eq_true rfl, Nat.le_of_ble_eq_true rfl⟩ ⟨Nat.le_of_ble_eq_true rfl, Nat.le_of_ble_eq_true rfl⟩ (Nat.le_of_ble_eq_true rfl) hl.1 (cells9 := 0) (slots9 := 0) ⟨rfl, rfl⟩ dX11_readPairs_49 (fun v u H locs hw_20 G => ?_)
      obtain ⟨n_21, fz_22, az_23, wr_24, gbg2_25, gle2_26, gam2_27, rfl, hc_28, hc_29, hc_30, hc_31, hc_32, rfl⟩ := hw_20
      replace G := G.perm (ws' := [(m0, mO M xth xrm xsv (w.length : Int) az_23 xer wr_24 ((n_21 : Int) + 1) xlo xhi xwl xml xkl xfi xse xdn xon xtw xol xrw xgl xus xpr xmk xab), (M 6, aI (K 2) 100 gbf), (M 11, aI (K 0) 60 gbg2_25), (M 12, aI (K 0) 60 gle2_26), (M 13, aI (K 4) 60 gam2_27)]) [0, 1, 2, 3, 4] rfl rfl
      refine W.eq (g2 := F0 m9 52 ls []) rfl ?_
      have hpx3 : 0 ≤ az_23 ∧ az_23 ≤ w.length := psx_rng hc_28
      refine lv_aload_n F.1 F.2.1 dX11_readPairs_52 rfl (lv_at hl 1 rfl) ?_
      refine lv_dup F.1 F.2.1 dX11_readPairs_53 rfl ?_
      refine ad_get F G fl_X11_118 0 rfl rfl dX11_readPairs_54 ?_
      refine lv_aload_n F.1 F.2.1 dX11_readPairs_57 rfl (lv_at hl 1 rfl) ?_
      refine ad_get F G fl_X11_122 0 rfl rfl dX11_readPairs_58 ?_
      refine lv_aload_n F.1 F.2.1 dX11_readPairs_61 rfl (lv_at hl 1 rfl) ?_
      refine ad_get F G fl_X11_115 0 rfl rfl dX11_readPairs_62 ?_
      refine ad_icmp_ne (tgt := 82) F (by omega) dX11_readPairs_65 (by decide) (fun cc_33 => ?_) (fun cc_33 => ?_)
      · refine ad_iconst F dX11_readPairs_82 ?_
        refine ad_iorn F (by omega) dX11_readPairs_83 ?_
        refine ad_put F G fl_X11_118 0 rfl (iI_boolN (by omega)).1 (iI_boolN (by omega)).2 (Nat.le_of_ble_eq_true rfl) (ws' := [(m0, mO M xth xrm xsv (w.length : Int) az_23 xer wr_24 ((n_21 : Int) + 1) xlo xhi xwl xml xkl xfi xse xdn xon xtw xol xrw xgl xus xpr xmk xab), (M 6, aI (K 2) 100 gbf), (M 11, aI (K 0) 60 gbg2_25), (M 12, aI (K 0) 60 gle2_26), (M 13, aI (K 4) 60 gam2_27)]) rfl dX11_readPairs_84 (fun H locs G => ?_)
        refine lv_aload_n F.1 F.2.1 dX11_readPairs_87 rfl (lv_at hl 1 rfl) ?_
        refine ad_iconst F dX11_readPairs_88 ?_
        refine ad_callV (As := [.int (iI 1)]) (rest := []) F G (c_X11_isMalformed_1 l D K z0 m0 M xth xrm xsv (w.length : Int) az_23 xer wr_24 ((n_21 : Int) + 1) xlo xhi xwl xml xkl xfi xse xdn xon xtw xol xrw xgl xus xpr xmk xab hc_32 (by omega) (by omega)) my_X11_isMalformed mv_X11_153 (wr := [(M 6, aI (K 2) 100 gbf), (M 11, aI (K 0) 60 gbg2_25), (M 12, aI (K 0) 60 gle2_26), (M 13, aI (K 4) 60 gam2_27)]) (isC := [0]) (isR := [1, 2, 3, 4]) ⟨rfl, rfl, rfl, rfl, by decide⟩ 11 0 rfl rfl rfl rfl ⟨Nat.le_of_ble_eq_true rfl, Nat.le_of_ble_eq_true rfl⟩ ⟨Nat.le_of_ble_eq_true rfl, Nat.le_of_ble_eq_true rfl⟩ (Nat.le_of_ble_eq_true rfl) hl.1 (cells9 := 0) (slots9 := 0) ⟨rfl, rfl⟩ dX11_readPairs_89 (fun v u H locs hw_34 G => ?_)
        rcases hw_34 with ⟨rfl, hc_35, rfl⟩ | ⟨rfl, hc_36, rfl⟩
        · replace G := G.perm (ws' := [(m0, mO M xth xrm xsv 0 az_23 az_23 1 ((n_21 : Int) + 1) xlo xhi xwl xml xkl xfi xse xdn xon xtw xol xrw xgl xus xpr xmk xab), (M 6, aI (K 2) 100 gbf), (M 11, aI (K 0) 60 gbg2_25), (M 12, aI (K 0) 60 gle2_26), (M 13, aI (K 4) 60 gam2_27)]) [4, 0, 1, 2, 3] rfl rfl
          refine W.eq (g2 := F0 m9 92 ls [.int (iI 1)]) rfl ?_
          exact ad_zreturn F G hR rfl (Nat.le_of_ble_eq_true rfl) (Nat.le_of_ble_eq_true rfl) rfl (Or.inl ⟨((n_21 : Int) + 1), az_23, gbg2_25, gle2_26, gam2_27, rfl, (psx_err hc_28 (fun q => psx_nok hc_28 q (fun r => by have := hc_31; omega) (fun r => by omega)) (fun q r => by omega)), hpx3, rfl⟩) dX11_readPairs_92
        · replace G := G.perm (ws' := [(m0, mO M xth xrm xsv 0 az_23 xer 0 ((n_21 : Int) + 1) xlo xhi xwl xml xkl xfi xse xdn xon xtw xol xrw xgl xus xpr xmk xab), (M 6, aI (K 2) 100 gbf), (M 11, aI (K 0) 60 gbg2_25), (M 12, aI (K 0) 60 gle2_26), (M 13, aI (K 4) 60 gam2_27)]) [4, 0, 1, 2, 3] rfl rfl
          refine W.eq (g2 := F0 m9 92 ls [.int (iI 0)]) rfl ?_
          have hX1 : PSX 0 1 w ((n_3 + 1 : Nat) : Int) ((n_3 : Int) + 1) n_21 fz_22 az_23 0 := by (have q : wr_24 = 0 := (by omega)); (rw [q] at hc_28); exact hc_28
          have hw8 := psx_wd hX1 (fun q => by omega)
          have hpe : PE 0 1 w (-1) := psx_good hX1 (by omega) (Or.inr (by omega))
          obtain ⟨k9, hk9⟩ := PE_pairs hpe hL
          have hk8 : 2 * k9 = n_21 + 1 := stk_uniq hk9.2.2.1 (by rw [hw8.2.2.1]; omega) (fun j hj => (hk9.2.2.2.1 j hj).1) (fun j hj => (hw8.2.2.2 j hj).1)
          have hR8 : RdW gbg2_25 gle2_26 gam2_27 w (2 * k9) := by
            rw [hk8]
            exact rd_full hc_30 (by rw [hw8.1]; exact hc_29.1) (by rw [hw8.1, hw8.2.1]; exact hc_29.2.1) (by rw [mk_plain hX1 rfl]; exact hc_29.2.2)
          exact ad_zreturn F G hR rfl (Nat.le_of_ble_eq_true rfl) (Nat.le_of_ble_eq_true rfl) rfl (Or.inr (⟨k9, az_23, gbg2_25, gle2_26, gam2_27, rfl, hpe, hk9, hR8, (by rw [show ((n_21 : Int) + 1) = 2 * (k9 : Int) by omega])⟩)) dX11_readPairs_92
      · refine lv_aload_n F.1 F.2.1 dX11_readPairs_68 rfl (lv_at hl 1 rfl) ?_
        refine ad_get F G fl_X11_129 0 rfl rfl dX11_readPairs_69 ?_
        refine ad_iconst F dX11_readPairs_72 ?_
        refine lv_iload_n F.1 F.2.1 dX11_readPairs_73 rfl (lv_at hl 0 rfl) ?_
        refine ad_imul F dX11_readPairs_74 ?_
        refine ad_icmp_ge (tgt := 82) F (by omega) dX11_readPairs_75 (by decide) (fun cc_37 => ?_) (fun cc_37 => ?_)
        · refine ad_iconst F dX11_readPairs_82 ?_
          refine ad_iorn F (by omega) dX11_readPairs_83 ?_
          refine ad_put F G fl_X11_118 0 rfl (iI_boolN (by omega)).1 (iI_boolN (by omega)).2 (Nat.le_of_ble_eq_true rfl) (ws' := [(m0, mO M xth xrm xsv (w.length : Int) az_23 xer wr_24 ((n_21 : Int) + 1) xlo xhi xwl xml xkl xfi xse xdn xon xtw xol xrw xgl xus xpr xmk xab), (M 6, aI (K 2) 100 gbf), (M 11, aI (K 0) 60 gbg2_25), (M 12, aI (K 0) 60 gle2_26), (M 13, aI (K 4) 60 gam2_27)]) rfl dX11_readPairs_84 (fun H locs G => ?_)
          refine lv_aload_n F.1 F.2.1 dX11_readPairs_87 rfl (lv_at hl 1 rfl) ?_
          refine ad_iconst F dX11_readPairs_88 ?_
          refine ad_callV (As := [.int (iI 1)]) (rest := []) F G (c_X11_isMalformed_1 l D K z0 m0 M xth xrm xsv (w.length : Int) az_23 xer wr_24 ((n_21 : Int) + 1) xlo xhi xwl xml xkl xfi xse xdn xon xtw xol xrw xgl xus xpr xmk xab hc_32 (by omega) (by omega)) my_X11_isMalformed mv_X11_153 (wr := [(M 6, aI (K 2) 100 gbf), (M 11, aI (K 0) 60 gbg2_25), (M 12, aI (K 0) 60 gle2_26), (M 13, aI (K 4) 60 gam2_27)]) (isC := [0]) (isR := [1, 2, 3, 4]) ⟨rfl, rfl, rfl, rfl, by decide⟩ 11 0 rfl rfl rfl rfl ⟨Nat.le_of_ble_eq_true rfl, Nat.le_of_ble_eq_true rfl⟩ ⟨Nat.le_of_ble_eq_true rfl, Nat.le_of_ble_eq_true rfl⟩ (Nat.le_of_ble_eq_true rfl) hl.1 (cells9 := 0) (slots9 := 0) ⟨rfl, rfl⟩ dX11_readPairs_89 (fun v u H locs hw_38 G => ?_)
          rcases hw_38 with ⟨rfl, hc_39, rfl⟩ | ⟨rfl, hc_40, rfl⟩
          · replace G := G.perm (ws' := [(m0, mO M xth xrm xsv 0 az_23 az_23 1 ((n_21 : Int) + 1) xlo xhi xwl xml xkl xfi xse xdn xon xtw xol xrw xgl xus xpr xmk xab), (M 6, aI (K 2) 100 gbf), (M 11, aI (K 0) 60 gbg2_25), (M 12, aI (K 0) 60 gle2_26), (M 13, aI (K 4) 60 gam2_27)]) [4, 0, 1, 2, 3] rfl rfl
            refine W.eq (g2 := F0 m9 92 ls [.int (iI 1)]) rfl ?_
            exact ad_zreturn F G hR rfl (Nat.le_of_ble_eq_true rfl) (Nat.le_of_ble_eq_true rfl) rfl (Or.inl ⟨((n_21 : Int) + 1), az_23, gbg2_25, gle2_26, gam2_27, rfl, (psx_err hc_28 (fun q => psx_nok hc_28 q (fun r => by have := hc_31; omega) (fun r => by omega)) (fun q r => by omega)), hpx3, rfl⟩) dX11_readPairs_92
          · replace G := G.perm (ws' := [(m0, mO M xth xrm xsv 0 az_23 xer 0 ((n_21 : Int) + 1) xlo xhi xwl xml xkl xfi xse xdn xon xtw xol xrw xgl xus xpr xmk xab), (M 6, aI (K 2) 100 gbf), (M 11, aI (K 0) 60 gbg2_25), (M 12, aI (K 0) 60 gle2_26), (M 13, aI (K 4) 60 gam2_27)]) [4, 0, 1, 2, 3] rfl rfl
            refine W.eq (g2 := F0 m9 92 ls [.int (iI 0)]) rfl ?_
            have hX1 : PSX 0 1 w ((n_3 + 1 : Nat) : Int) ((n_3 : Int) + 1) n_21 fz_22 az_23 0 := by (have q : wr_24 = 0 := (by omega)); (rw [q] at hc_28); exact hc_28
            have hw8 := psx_wd hX1 (fun q => by omega)
            have hpe : PE 0 1 w (-1) := psx_good hX1 (by omega) (Or.inr (by omega))
            obtain ⟨k9, hk9⟩ := PE_pairs hpe hL
            have hk8 : 2 * k9 = n_21 + 1 := stk_uniq hk9.2.2.1 (by rw [hw8.2.2.1]; omega) (fun j hj => (hk9.2.2.2.1 j hj).1) (fun j hj => (hw8.2.2.2 j hj).1)
            have hR8 : RdW gbg2_25 gle2_26 gam2_27 w (2 * k9) := by
              rw [hk8]
              exact rd_full hc_30 (by rw [hw8.1]; exact hc_29.1) (by rw [hw8.1, hw8.2.1]; exact hc_29.2.1) (by rw [mk_plain hX1 rfl]; exact hc_29.2.2)
            exact ad_zreturn F G hR rfl (Nat.le_of_ble_eq_true rfl) (Nat.le_of_ble_eq_true rfl) rfl (Or.inr (⟨k9, az_23, gbg2_25, gle2_26, gam2_27, rfl, hpe, hk9, hR8, (by rw [show ((n_21 : Int) + 1) = 2 * (k9 : Int) by omega])⟩)) dX11_readPairs_92
        · refine ad_iconst F dX11_readPairs_78 ?_
          refine lv_goto (tgt := 83) F.1 F.2.1 dX11_readPairs_79 (by decide) ?_
          refine ad_iory F (by omega) dX11_readPairs_83 ?_
          refine ad_put F G fl_X11_118 0 rfl rfl rfl (Nat.le_of_ble_eq_true rfl) (ws' := [(m0, mO M xth xrm xsv (w.length : Int) az_23 xer 1 ((n_21 : Int) + 1) xlo xhi xwl xml xkl xfi xse xdn xon xtw xol xrw xgl xus xpr xmk xab), (M 6, aI (K 2) 100 gbf), (M 11, aI (K 0) 60 gbg2_25), (M 12, aI (K 0) 60 gle2_26), (M 13, aI (K 4) 60 gam2_27)]) rfl dX11_readPairs_84 (fun H locs G => ?_)
          refine lv_aload_n F.1 F.2.1 dX11_readPairs_87 rfl (lv_at hl 1 rfl) ?_
          refine ad_iconst F dX11_readPairs_88 ?_
          refine ad_callV (As := [.int (iI 1)]) (rest := []) F G (c_X11_isMalformed_1 l D K z0 m0 M xth xrm xsv (w.length : Int) az_23 xer 1 ((n_21 : Int) + 1) xlo xhi xwl xml xkl xfi xse xdn xon xtw xol xrw xgl xus xpr xmk xab (by omega) (by omega) (by omega)) my_X11_isMalformed mv_X11_153 (wr := [(M 6, aI (K 2) 100 gbf), (M 11, aI (K 0) 60 gbg2_25), (M 12, aI (K 0) 60 gle2_26), (M 13, aI (K 4) 60 gam2_27)]) (isC := [0]) (isR := [1, 2, 3, 4]) ⟨rfl, rfl, rfl, rfl, by decide⟩ 11 0 rfl rfl rfl rfl ⟨Nat.le_of_ble_eq_true rfl, Nat.le_of_ble_eq_true rfl⟩ ⟨Nat.le_of_ble_eq_true rfl, Nat.le_of_ble_eq_true rfl⟩ (Nat.le_of_ble_eq_true rfl) hl.1 (cells9 := 0) (slots9 := 0) ⟨rfl, rfl⟩ dX11_readPairs_89 (fun v u H locs hw_41 G => ?_)
          rcases hw_41 with ⟨rfl, hc_42, rfl⟩ | ⟨rfl, hc_43, rfl⟩
          · replace G := G.perm (ws' := [(m0, mO M xth xrm xsv 0 az_23 az_23 1 ((n_21 : Int) + 1) xlo xhi xwl xml xkl xfi xse xdn xon xtw xol xrw xgl xus xpr xmk xab), (M 6, aI (K 2) 100 gbf), (M 11, aI (K 0) 60 gbg2_25), (M 12, aI (K 0) 60 gle2_26), (M 13, aI (K 4) 60 gam2_27)]) [4, 0, 1, 2, 3] rfl rfl
            refine W.eq (g2 := F0 m9 92 ls [.int (iI 1)]) rfl ?_
            exact ad_zreturn F G hR rfl (Nat.le_of_ble_eq_true rfl) (Nat.le_of_ble_eq_true rfl) rfl (Or.inl ⟨((n_21 : Int) + 1), az_23, gbg2_25, gle2_26, gam2_27, rfl, (psx_err hc_28 (fun q => psx_nok hc_28 q (fun r => by have := hc_31; omega) (fun r => by omega)) (fun q r => by omega)), hpx3, rfl⟩) dX11_readPairs_92
          · replace G := G.perm (ws' := [(m0, mO M xth xrm xsv 0 az_23 xer 0 ((n_21 : Int) + 1) xlo xhi xwl xml xkl xfi xse xdn xon xtw xol xrw xgl xus xpr xmk xab), (M 6, aI (K 2) 100 gbf), (M 11, aI (K 0) 60 gbg2_25), (M 12, aI (K 0) 60 gle2_26), (M 13, aI (K 4) 60 gam2_27)]) [4, 0, 1, 2, 3] rfl rfl
            refine W.eq (g2 := F0 m9 92 ls [.int (iI 0)]) rfl ?_
            exfalso; omega
  · replace G := G.perm (ws' := [(m0, mO M xth xrm xsv (w.length : Int) az_5 xer wr_6 ((n_3 : Int) + 1) xlo xhi xwl xml xkl xfi xse xdn xon xtw xol xrw xgl xus xpr xmk xab), (M 6, aI (K 2) 100 gbf), (M 11, aI (K 0) 60 gbg2_7), (M 12, aI (K 0) 60 gle2_8), (M 13, aI (K 4) 60 gam2_9)]) [3, 4, 0, 1, 2] rfl rfl
    refine W.eq (g2 := F0 m9 27 ls [.int (iI 0), .int (iI wr_6), .ref m0]) rfl ?_
    refine ad_if_ne (tgt := 34) F (by decide) dX11_readPairs_27 (by decide) (fun cc_44 => absurd cc_44 (by decide)) (fun _ => ?_)
    refine ad_iconst F dX11_readPairs_30 ?_
    refine lv_goto (tgt := 35) F.1 F.2.1 dX11_readPairs_31 (by decide) ?_
    refine ad_iory F (by omega) dX11_readPairs_35 ?_
    refine ad_put F G fl_X11_118 0 rfl rfl rfl (Nat.le_of_ble_eq_true rfl) (ws' := [(m0, mO M xth xrm xsv (w.length : Int) az_5 xer 1 ((n_3 : Int) + 1) xlo xhi xwl xml xkl xfi xse xdn xon xtw xol xrw xgl xus xpr xmk xab), (M 6, aI (K 2) 100 gbf), (M 11, aI (K 0) 60 gbg2_7), (M 12, aI (K 0) 60 gle2_8), (M 13, aI (K 4) 60 gam2_9)]) rfl dX11_readPairs_36 (fun H locs G => ?_)
    refine lv_aload_n F.1 F.2.1 dX11_readPairs_39 rfl (lv_at hl 1 rfl) ?_
    refine ad_get F G fl_X11_118 0 rfl rfl dX11_readPairs_40 ?_
    refine ad_if_ne (tgt := 52) F (by decide) dX11_readPairs_43 (by decide) (fun _ => ?_) (fun cc_45 => absurd cc_45 (by decide))
    refine lv_aload_n F.1 F.2.1 dX11_readPairs_52 rfl (lv_at hl 1 rfl) ?_
    refine lv_dup F.1 F.2.1 dX11_readPairs_53 rfl ?_
    refine ad_get F G fl_X11_118 0 rfl rfl dX11_readPairs_54 ?_
    refine lv_aload_n F.1 F.2.1 dX11_readPairs_57 rfl (lv_at hl 1 rfl) ?_
    refine ad_get F G fl_X11_122 0 rfl rfl dX11_readPairs_58 ?_
    refine lv_aload_n F.1 F.2.1 dX11_readPairs_61 rfl (lv_at hl 1 rfl) ?_
    refine ad_get F G fl_X11_115 0 rfl rfl dX11_readPairs_62 ?_
    refine ad_icmp_ne (tgt := 82) F (by omega) dX11_readPairs_65 (by decide) (fun cc_46 => ?_) (fun cc_46 => ?_)
    · refine ad_iconst F dX11_readPairs_82 ?_
      refine ad_iorn F (by omega) dX11_readPairs_83 ?_
      refine ad_put F G fl_X11_118 0 rfl rfl rfl (Nat.le_of_ble_eq_true rfl) (ws' := [(m0, mO M xth xrm xsv (w.length : Int) az_5 xer 1 ((n_3 : Int) + 1) xlo xhi xwl xml xkl xfi xse xdn xon xtw xol xrw xgl xus xpr xmk xab), (M 6, aI (K 2) 100 gbf), (M 11, aI (K 0) 60 gbg2_7), (M 12, aI (K 0) 60 gle2_8), (M 13, aI (K 4) 60 gam2_9)]) rfl dX11_readPairs_84 (fun H locs G => ?_)
      refine lv_aload_n F.1 F.2.1 dX11_readPairs_87 rfl (lv_at hl 1 rfl) ?_
      refine ad_iconst F dX11_readPairs_88 ?_
      refine ad_callV (As := [.int (iI 1)]) (rest := []) F G (c_X11_isMalformed_1 l D K z0 m0 M xth xrm xsv (w.length : Int) az_5 xer 1 ((n_3 : Int) + 1) xlo xhi xwl xml xkl xfi xse xdn xon xtw xol xrw xgl xus xpr xmk xab (by omega) (by omega) (by omega)) my_X11_isMalformed mv_X11_153 (wr := [(M 6, aI (K 2) 100 gbf), (M 11, aI (K 0) 60 gbg2_7), (M 12, aI (K 0) 60 gle2_8), (M 13, aI (K 4) 60 gam2_9)]) (isC := [0]) (isR := [1, 2, 3, 4]) ⟨rfl, rfl, rfl, rfl, by decide⟩ 11 0 rfl rfl rfl rfl ⟨Nat.le_of_ble_eq_true rfl, Nat.le_of_ble_eq_true rfl⟩ ⟨Nat.le_of_ble_eq_true rfl, Nat.le_of_ble_eq_true rfl⟩ (Nat.le_of_ble_eq_true rfl) hl.1 (cells9 := 0) (slots9 := 0) ⟨rfl, rfl⟩ dX11_readPairs_89 (fun v u H locs hw_47 G => ?_)
      rcases hw_47 with ⟨rfl, hc_48, rfl⟩ | ⟨rfl, hc_49, rfl⟩
      · replace G := G.perm (ws' := [(m0, mO M xth xrm xsv 0 az_5 az_5 1 ((n_3 : Int) + 1) xlo xhi xwl xml xkl xfi xse xdn xon xtw xol xrw xgl xus xpr xmk xab), (M 6, aI (K 2) 100 gbf), (M 11, aI (K 0) 60 gbg2_7), (M 12, aI (K 0) 60 gle2_8), (M 13, aI (K 4) 60 gam2_9)]) [4, 0, 1, 2, 3] rfl rfl
        refine W.eq (g2 := F0 m9 92 ls [.int (iI 1)]) rfl ?_
        exact ad_zreturn F G hR rfl (Nat.le_of_ble_eq_true rfl) (Nat.le_of_ble_eq_true rfl) rfl (Or.inl ⟨((n_3 : Int) + 1), az_5, gbg2_7, gle2_8, gam2_9, rfl, (psx_err hc_10 (fun q => psx_nok hc_10 q (fun r => by have := hc_13; omega) (fun r => by have := hc_17; omega)) (fun q r => by omega)), hpx1, rfl⟩) dX11_readPairs_92
      · replace G := G.perm (ws' := [(m0, mO M xth xrm xsv 0 az_5 xer 0 ((n_3 : Int) + 1) xlo xhi xwl xml xkl xfi xse xdn xon xtw xol xrw xgl xus xpr xmk xab), (M 6, aI (K 2) 100 gbf), (M 11, aI (K 0) 60 gbg2_7), (M 12, aI (K 0) 60 gle2_8), (M 13, aI (K 4) 60 gam2_9)]) [4, 0, 1, 2, 3] rfl rfl
        refine W.eq (g2 := F0 m9 92 ls [.int (iI 0)]) rfl ?_
        exfalso; omega
    · refine lv_aload_n F.1 F.2.1 dX11_readPairs_68 rfl (lv_at hl 1 rfl) ?_
      refine ad_get F G fl_X11_129 0 rfl rfl dX11_readPairs_69 ?_
      refine ad_iconst F dX11_readPairs_72 ?_
      refine lv_iload_n F.1 F.2.1 dX11_readPairs_73 rfl (lv_at hl 0 rfl) ?_
      refine ad_imul F dX11_readPairs_74 ?_
      refine ad_icmp_ge (tgt := 82) F (by omega) dX11_readPairs_75 (by decide) (fun cc_50 => ?_) (fun cc_50 => ?_)
      · refine ad_iconst F dX11_readPairs_82 ?_
        refine ad_iorn F (by omega) dX11_readPairs_83 ?_
        refine ad_put F G fl_X11_118 0 rfl rfl rfl (Nat.le_of_ble_eq_true rfl) (ws' := [(m0, mO M xth xrm xsv (w.length : Int) az_5 xer 1 ((n_3 : Int) + 1) xlo xhi xwl xml xkl xfi xse xdn xon xtw xol xrw xgl xus xpr xmk xab), (M 6, aI (K 2) 100 gbf), (M 11, aI (K 0) 60 gbg2_7), (M 12, aI (K 0) 60 gle2_8), (M 13, aI (K 4) 60 gam2_9)]) rfl dX11_readPairs_84 (fun H locs G => ?_)
        refine lv_aload_n F.1 F.2.1 dX11_readPairs_87 rfl (lv_at hl 1 rfl) ?_
        refine ad_iconst F dX11_readPairs_88 ?_
        refine ad_callV (As := [.int (iI 1)]) (rest := []) F G (c_X11_isMalformed_1 l D K z0 m0 M xth xrm xsv (w.length : Int) az_5 xer 1 ((n_3 : Int) + 1) xlo xhi xwl xml xkl xfi xse xdn xon xtw xol xrw xgl xus xpr xmk xab (by omega) (by omega) (by omega)) my_X11_isMalformed mv_X11_153 (wr := [(M 6, aI (K 2) 100 gbf), (M 11, aI (K 0) 60 gbg2_7), (M 12, aI (K 0) 60 gle2_8), (M 13, aI (K 4) 60 gam2_9)]) (isC := [0]) (isR := [1, 2, 3, 4]) ⟨rfl, rfl, rfl, rfl, by decide⟩ 11 0 rfl rfl rfl rfl ⟨Nat.le_of_ble_eq_true rfl, Nat.le_of_ble_eq_true rfl⟩ ⟨Nat.le_of_ble_eq_true rfl, Nat.le_of_ble_eq_true rfl⟩ (Nat.le_of_ble_eq_true rfl) hl.1 (cells9 := 0) (slots9 := 0) ⟨rfl, rfl⟩ dX11_readPairs_89 (fun v u H locs hw_51 G => ?_)
        rcases hw_51 with ⟨rfl, hc_52, rfl⟩ | ⟨rfl, hc_53, rfl⟩
        · replace G := G.perm (ws' := [(m0, mO M xth xrm xsv 0 az_5 az_5 1 ((n_3 : Int) + 1) xlo xhi xwl xml xkl xfi xse xdn xon xtw xol xrw xgl xus xpr xmk xab), (M 6, aI (K 2) 100 gbf), (M 11, aI (K 0) 60 gbg2_7), (M 12, aI (K 0) 60 gle2_8), (M 13, aI (K 4) 60 gam2_9)]) [4, 0, 1, 2, 3] rfl rfl
          refine W.eq (g2 := F0 m9 92 ls [.int (iI 1)]) rfl ?_
          exact ad_zreturn F G hR rfl (Nat.le_of_ble_eq_true rfl) (Nat.le_of_ble_eq_true rfl) rfl (Or.inl ⟨((n_3 : Int) + 1), az_5, gbg2_7, gle2_8, gam2_9, rfl, (psx_err hc_10 (fun q => psx_nok hc_10 q (fun r => by have := hc_13; omega) (fun r => by have := hc_17; omega)) (fun q r => by omega)), hpx1, rfl⟩) dX11_readPairs_92
        · replace G := G.perm (ws' := [(m0, mO M xth xrm xsv 0 az_5 xer 0 ((n_3 : Int) + 1) xlo xhi xwl xml xkl xfi xse xdn xon xtw xol xrw xgl xus xpr xmk xab), (M 6, aI (K 2) 100 gbf), (M 11, aI (K 0) 60 gbg2_7), (M 12, aI (K 0) 60 gle2_8), (M 13, aI (K 4) 60 gam2_9)]) [4, 0, 1, 2, 3] rfl rfl
          refine W.eq (g2 := F0 m9 92 ls [.int (iI 0)]) rfl ?_
          exfalso; omega
      · refine ad_iconst F dX11_readPairs_78 ?_
        refine lv_goto (tgt := 83) F.1 F.2.1 dX11_readPairs_79 (by decide) ?_
        refine ad_iory F (by omega) dX11_readPairs_83 ?_
        refine ad_put F G fl_X11_118 0 rfl rfl rfl (Nat.le_of_ble_eq_true rfl) (ws' := [(m0, mO M xth xrm xsv (w.length : Int) az_5 xer 1 ((n_3 : Int) + 1) xlo xhi xwl xml xkl xfi xse xdn xon xtw xol xrw xgl xus xpr xmk xab), (M 6, aI (K 2) 100 gbf), (M 11, aI (K 0) 60 gbg2_7), (M 12, aI (K 0) 60 gle2_8), (M 13, aI (K 4) 60 gam2_9)]) rfl dX11_readPairs_84 (fun H locs G => ?_)
        refine lv_aload_n F.1 F.2.1 dX11_readPairs_87 rfl (lv_at hl 1 rfl) ?_
        refine ad_iconst F dX11_readPairs_88 ?_
        refine ad_callV (As := [.int (iI 1)]) (rest := []) F G (c_X11_isMalformed_1 l D K z0 m0 M xth xrm xsv (w.length : Int) az_5 xer 1 ((n_3 : Int) + 1) xlo xhi xwl xml xkl xfi xse xdn xon xtw xol xrw xgl xus xpr xmk xab (by omega) (by omega) (by omega)) my_X11_isMalformed mv_X11_153 (wr := [(M 6, aI (K 2) 100 gbf), (M 11, aI (K 0) 60 gbg2_7), (M 12, aI (K 0) 60 gle2_8), (M 13, aI (K 4) 60 gam2_9)]) (isC := [0]) (isR := [1, 2, 3, 4]) ⟨rfl, rfl, rfl, rfl, by decide⟩ 11 0 rfl rfl rfl rfl ⟨Nat.le_of_ble_eq_true rfl, Nat.le_of_ble_eq_true rfl⟩ ⟨Nat.le_of_ble_eq_true rfl, Nat.le_of_ble_eq_true rfl⟩ (Nat.le_of_ble_eq_true rfl) hl.1 (cells9 := 0) (slots9 := 0) ⟨rfl, rfl⟩ dX11_readPairs_89 (fun v u H locs hw_54 G => ?_)
        rcases hw_54 with ⟨rfl, hc_55, rfl⟩ | ⟨rfl, hc_56, rfl⟩
        · replace G := G.perm (ws' := [(m0, mO M xth xrm xsv 0 az_5 az_5 1 ((n_3 : Int) + 1) xlo xhi xwl xml xkl xfi xse xdn xon xtw xol xrw xgl xus xpr xmk xab), (M 6, aI (K 2) 100 gbf), (M 11, aI (K 0) 60 gbg2_7), (M 12, aI (K 0) 60 gle2_8), (M 13, aI (K 4) 60 gam2_9)]) [4, 0, 1, 2, 3] rfl rfl
          refine W.eq (g2 := F0 m9 92 ls [.int (iI 1)]) rfl ?_
          exact ad_zreturn F G hR rfl (Nat.le_of_ble_eq_true rfl) (Nat.le_of_ble_eq_true rfl) rfl (Or.inl ⟨((n_3 : Int) + 1), az_5, gbg2_7, gle2_8, gam2_9, rfl, (psx_err hc_10 (fun q => psx_nok hc_10 q (fun r => by have := hc_13; omega) (fun r => by have := hc_17; omega)) (fun q r => by omega)), hpx1, rfl⟩) dX11_readPairs_92
        · replace G := G.perm (ws' := [(m0, mO M xth xrm xsv 0 az_5 xer 0 ((n_3 : Int) + 1) xlo xhi xwl xml xkl xfi xse xdn xon xtw xol xrw xgl xus xpr xmk xab), (M 6, aI (K 2) 100 gbf), (M 11, aI (K 0) 60 gbg2_7), (M 12, aI (K 0) 60 gle2_8), (M 13, aI (K 4) 60 gam2_9)]) [4, 0, 1, 2, 3] rfl rfl
          refine W.eq (g2 := F0 m9 92 ls [.int (iI 0)]) rfl ?_
          exfalso; omega

def rm_X11_writeForms : Room := { frames := 1, cells := 0, slots := 0, locals := 12 }
set_option maxHeartbeats 4000000 in
set_option maxRecDepth 100000 in
theorem c_X11_writeForms (l : Launch) (D : va_G) (K : Nat → ClassId) (z0 : Nat) (m0 : Nat) (M : Nat → Nat) (xth : Int) (xrm : Int) (xsv : Int) (xln : Int) (xat : Int) (xer : Int) (xwr : Int) (xwd : Int) (xlo : Int) (xhi : Int) (xwl : Int) (xml : Int) (xkl : Int) (xfi : Int) (xse : Int) (xdn : Int) (xon : Int) (xtw : Int) (xol : Int) (xrw : Int) (xgl : Int) (xus : Int) (xpr : Int) (xmk : Int) (xab : Int) (gbf : Nat → Int) (w : List Int) (gbg : Nat → Int) (gle : Nat → Int) (g : Nat → Int) (p : Int) (x : Int) (y : Int) (b1 : Int) (l1 : Int) (b2 : Int) (l2 : Int) (hT : Tx gbf w) (hC : Chs w) (hL : w.length ≤ 100) (hp : 0 ≤ p ∧ p ≤ 1224) (hx : 0 ≤ x ∧ x < 60) (hy : 0 ≤ y ∧ y < 60) (h1 : gbg x.toNat = b1 ∧ gle x.toNat = l1) (h2 : gbg y.toNat = b2 ∧ gle y.toNat = l2) (hb1 : 0 ≤ b1 ∧ 0 ≤ l1 ∧ b1 + l1 ≤ w.length ∧ l1 ≤ 6) (hb2 : 0 ≤ b2 ∧ 0 ≤ l2 ∧ b2 + l2 ≤ w.length ∧ l2 ≤ 12) : CT l D K z0 yX11_writeForms cX11_writeForms 5 none rm_X11_writeForms [.ref m0, .int (iI p), .int (iI x), .int (iI y)] [(m0, mO M xth xrm xsv xln xat xer xwr xwd xlo xhi xwl xml xkl xfi xse xdn xon xtw xol xrw xgl xus xpr xmk xab), (M 6, aI (K 2) 100 gbf), (M 11, aI (K 0) 60 gbg), (M 12, aI (K 0) 60 gle), (M 1, aI (K 0) 1247 g)] (fun v9 u9 => ∃ (g2 : Nat → Int), v9 = none ∧ (MForm g2 p (sl w b1 (b1 + l1)) (sl w b2 (b2 + l2))) ∧ (∀ j : Int, 0 ≤ j → j < p + 3 ∨ p + 23 ≤ j → g2 j.toNat = g j.toNat) ∧ u9 = [(m0, mO M xth xrm xsv xln xat xer xwr xwd xlo xhi xwl xml xkl xfi xse xdn xon xtw xol xrw xgl xus xpr xmk xab), (M 6, aI (K 2) 100 gbf), (M 11, aI (K 0) 60 gbg), (M 12, aI (K 0) 60 gle), (M 1, aI (K 0) 1247 g2)]) := by
  refine CT.start RX11 "writeForms" (by decide) rfl rfl (Nat.le_of_ble_eq_true rfl) ?_
  intro p9 e9 s9 m9 ag9 bl9 mt9 c9 A9 Q9 ls F G hR hl
  have hl : lv_has ls 5 [(0, .ref m0), (1, .int (iI p)), (2, .int (iI x)), (3, .int (iI y))] := hl
  have hlu : ((sl w b1 (b1 + l1)).length : Int) = l1 := by rw [sl_len (by omega) (by omega) (by omega)]; omega
  have hlv : ((sl w b2 (b2 + l2)).length : Int) = l2 := by rw [sl_len (by omega) (by omega) (by omega)]; omega
  refine lv_aload_n F.1 F.2.1 dX11_writeForms_0 rfl (lv_at hl 0 rfl) ?_
  refine ad_get F G fl_X11_9 0 rfl rfl dX11_writeForms_1 ?_
  refine lv_iload_n F.1 F.2.1 dX11_writeForms_4 rfl (lv_at hl 1 rfl) ?_
  refine ad_iconst F dX11_writeForms_5 ?_
  refine ad_iadd F dX11_writeForms_6 ?_
  refine lv_aload_n F.1 F.2.1 dX11_writeForms_7 rfl (lv_at hl 0 rfl) ?_
  refine ad_get F G fl_X11_32 0 rfl rfl dX11_writeForms_8 ?_
  refine lv_iload_n F.1 F.2.1 dX11_writeForms_11 rfl (lv_at hl 2 rfl) ?_
  refine ad_iald F G 3 rfl (w := l1) (by omega) h1.2 dX11_writeForms_12 ?_
  refine ad_iast F G 4 rfl (by omega) (ws' := [(m0, mO M xth xrm xsv xln xat xer xwr xwd xlo xhi xwl xml xkl xfi xse xdn xon xtw xol xrw xgl xus xpr xmk xab), (M 6, aI (K 2) 100 gbf), (M 11, aI (K 0) 60 gbg), (M 12, aI (K 0) 60 gle), (M 1, aI (K 0) 1247 (va_up g (p + 3).toNat l1))]) rfl dX11_writeForms_13 (fun H locs G => ?_)
  refine lv_aload_n F.1 F.2.1 dX11_writeForms_14 rfl (lv_at hl 0 rfl) ?_
  refine ad_get F G fl_X11_9 0 rfl rfl dX11_writeForms_15 ?_
  refine lv_iload_n F.1 F.2.1 dX11_writeForms_18 rfl (lv_at hl 1 rfl) ?_
  refine ad_iconst F dX11_writeForms_19 ?_
  refine ad_iadd F dX11_writeForms_20 ?_
  refine lv_aload_n F.1 F.2.1 dX11_writeForms_21 rfl (lv_at hl 0 rfl) ?_
  refine ad_get F G fl_X11_32 0 rfl rfl dX11_writeForms_22 ?_
  refine lv_iload_n F.1 F.2.1 dX11_writeForms_25 rfl (lv_at hl 3 rfl) ?_
  refine ad_iald F G 3 rfl (w := l2) (by omega) h2.2 dX11_writeForms_26 ?_
  refine ad_iast F G 4 rfl (by omega) (ws' := [(m0, mO M xth xrm xsv xln xat xer xwr xwd xlo xhi xwl xml xkl xfi xse xdn xon xtw xol xrw xgl xus xpr xmk xab), (M 6, aI (K 2) 100 gbf), (M 11, aI (K 0) 60 gbg), (M 12, aI (K 0) 60 gle), (M 1, aI (K 0) 1247 (va_up (va_up g (p + 3).toNat l1) (p + 4).toNat l2))]) rfl dX11_writeForms_27 (fun H locs G => ?_)
  refine ad_iconst F dX11_writeForms_28 ?_
  refine lv_istore (lv' := [(4, .int (iI 0)), (0, .ref m0), (1, .int (iI p)), (2, .int (iI x)), (3, .int (iI y))]) F.1 F.2.1 dX11_writeForms_29 hl (by decide) rfl (fun ls hl => ?_)
  have lp31 : ∀ (n31 : Nat) (k : Int) (gv : Nat → Int) (H : Heap) (locs : List Loc) (ls : Array Slot), (0 ≤ k ∧ k ≤ 6) → (WF g gv p (sl w b1 (b1 + l1)) (sl w b2 (b2 + l2)) k 0) → (6 - k) < (n31 : Int) → ad_G D A9 s9.heap H locs [(m0, mO M xth xrm xsv xln xat xer xwr xwd xlo xhi xwl xml xkl xfi xse xdn xon xtw xol xrw xgl xus xpr xmk xab), (M 6, aI (K 2) 100 gbf), (M 11, aI (K 0) 60 gbg), (M 12, aI (K 0) 60 gle), (M 1, aI (K 0) 1247 gv)] → lv_has ls 5 [(0, .ref m0), (1, .int (iI p)), (2, .int (iI x)), (3, .int (iI y)), (4, .int (iI k))] → W p9 l e9 rm_X11_writeForms s9 m9 ag9 bl9 mt9 c9 H locs 0 0 Q9 (F0 m9 31 ls []) := by
    intro n31
    induction n31 with
    | zero =>
      intro k gv H locs ls hk hF hm31
      exact absurd hm31 (by omega)
    | succ n31 ih31 =>
      intro k gv H locs ls hk hF hm31 G hl
      refine lv_iload F.1 F.2.1 dX11_writeForms_31 (lv_at hl 4 rfl) ?_
      refine ad_bipush F dX11_writeForms_33 (by decide) ?_
      refine ad_icmp_ge (tgt := 84) F (by omega) dX11_writeForms_35 (by decide) (fun cc_1 => ?_) (fun cc_1 => ?_)
      · refine ad_iconst F dX11_writeForms_84 ?_
        refine lv_istore (lv' := [(4, .int (iI 0)), (0, .ref m0), (1, .int (iI p)), (2, .int (iI x)), (3, .int (iI y))]) F.1 F.2.1 dX11_writeForms_85 hl (by decide) rfl (fun ls hl => ?_)
        have lp87 : ∀ (n87 : Nat) (k : Int) (gv : Nat → Int) (H : Heap) (locs : List Loc) (ls : Array Slot), (0 ≤ k ∧ k ≤ 12) → (WF g gv p (sl w b1 (b1 + l1)) (sl w b2 (b2 + l2)) 6 k) → (12 - k) < (n87 : Int) → ad_G D A9 s9.heap H locs [(m0, mO M xth xrm xsv xln xat xer xwr xwd xlo xhi xwl xml xkl xfi xse xdn xon xtw xol xrw xgl xus xpr xmk xab), (M 6, aI (K 2) 100 gbf), (M 11, aI (K 0) 60 gbg), (M 12, aI (K 0) 60 gle), (M 1, aI (K 0) 1247 gv)] → lv_has ls 5 [(0, .ref m0), (1, .int (iI p)), (2, .int (iI x)), (3, .int (iI y)), (4, .int (iI k))] → W p9 l e9 rm_X11_writeForms s9 m9 ag9 bl9 mt9 c9 H locs 0 0 Q9 (F0 m9 87 ls []) := by
          intro n87
          induction n87 with
          | zero =>
            intro k gv H locs ls hk hF hm87
            exact absurd hm87 (by omega)
          | succ n87 ih87 =>
            intro k gv H locs ls hk hF hm87 G hl
            refine lv_iload F.1 F.2.1 dX11_writeForms_87 (lv_at hl 4 rfl) ?_
            refine ad_bipush F dX11_writeForms_89 (by decide) ?_
            refine ad_icmp_ge (tgt := 143) F (by omega) dX11_writeForms_91 (by decide) (fun cc_2 => ?_) (fun cc_2 => ?_)
            · exact ad_vreturn F G hR rfl (Nat.le_of_ble_eq_true rfl) (Nat.le_of_ble_eq_true rfl) ⟨gv, rfl, (WF_M hF rfl (by omega)).1, (WF_M hF rfl (by omega)).2, rfl⟩ dX11_writeForms_143
            · refine lv_aload_n F.1 F.2.1 dX11_writeForms_94 rfl (lv_at hl 0 rfl) ?_
              refine ad_get F G fl_X11_9 0 rfl rfl dX11_writeForms_95 ?_
              refine lv_iload_n F.1 F.2.1 dX11_writeForms_98 rfl (lv_at hl 1 rfl) ?_
              refine ad_iconst F dX11_writeForms_99 ?_
              refine ad_iadd F dX11_writeForms_100 ?_
              refine ad_bipush F dX11_writeForms_101 (by decide) ?_
              refine ad_iadd F dX11_writeForms_103 ?_
              refine lv_iload F.1 F.2.1 dX11_writeForms_104 (lv_at hl 4 rfl) ?_
              refine ad_iadd F dX11_writeForms_106 ?_
              refine lv_iload F.1 F.2.1 dX11_writeForms_107 (lv_at hl 4 rfl) ?_
              refine lv_aload_n F.1 F.2.1 dX11_writeForms_109 rfl (lv_at hl 0 rfl) ?_
              refine ad_get F G fl_X11_32 0 rfl rfl dX11_writeForms_110 ?_
              refine lv_iload_n F.1 F.2.1 dX11_writeForms_113 rfl (lv_at hl 3 rfl) ?_
              refine ad_iald F G 3 rfl (w := l2) (by omega) h2.2 dX11_writeForms_114 ?_
              refine ad_icmp_ge (tgt := 135) F (by omega) dX11_writeForms_115 (by decide) (fun cc_3 => ?_) (fun cc_3 => ?_)
              · refine ad_iconst F dX11_writeForms_135 ?_
                refine ad_iast F G 4 rfl (by omega) (ws' := [(m0, mO M xth xrm xsv xln xat xer xwr xwd xlo xhi xwl xml xkl xfi xse xdn xon xtw xol xrw xgl xus xpr xmk xab), (M 6, aI (K 2) 100 gbf), (M 11, aI (K 0) 60 gbg), (M 12, aI (K 0) 60 gle), (M 1, aI (K 0) 1247 (va_up gv (((p + 5) + 6) + k).toNat 0))]) rfl dX11_writeForms_136 (fun H locs G => ?_)
                refine ad_iinc (lv' := [(4, .int (iI (k + 1))), (0, .ref m0), (1, .int (iI p)), (2, .int (iI x)), (3, .int (iI y))]) F dX11_writeForms_137 hl (k := 4) rfl (by decide) rfl (fun ls hl => ?_)
                refine lv_goto (tgt := 87) F.1 F.2.1 dX11_writeForms_140 (by decide) ?_
                exact ih87 (k + 1) (va_up gv (((p + 5) + 6) + k).toNat 0) _ _ _ (by omega) (WF_2 hF (by omega) (by omega) (by omega) (lat_out (Or.inr (by omega))).symm) (by omega) (G.perm (ws' := [(m0, mO M xth xrm xsv xln xat xer xwr xwd xlo xhi xwl xml xkl xfi xse xdn xon xtw xol xrw xgl xus xpr xmk xab), (M 6, aI (K 2) 100 gbf), (M 11, aI (K 0) 60 gbg), (M 12, aI (K 0) 60 gle), (M 1, aI (K 0) 1247 (va_up gv (((p + 5) + 6) + k).toNat 0))]) [0, 1, 2, 3, 4] rfl rfl) (lv_sub hl [1, 2, 3, 4, 0] rfl)
              · refine lv_aload_n F.1 F.2.1 dX11_writeForms_118 rfl (lv_at hl 0 rfl) ?_
                refine ad_get F G fl_X11_21 0 rfl rfl dX11_writeForms_119 ?_
                refine lv_aload_n F.1 F.2.1 dX11_writeForms_122 rfl (lv_at hl 0 rfl) ?_
                refine ad_get F G fl_X11_29 0 rfl rfl dX11_writeForms_123 ?_
                refine lv_iload_n F.1 F.2.1 dX11_writeForms_126 rfl (lv_at hl 3 rfl) ?_
                refine ad_iald F G 2 rfl (w := b2) (by omega) h2.1 dX11_writeForms_127 ?_
                refine lv_iload F.1 F.2.1 dX11_writeForms_128 (lv_at hl 4 rfl) ?_
                refine ad_iadd F dX11_writeForms_130 ?_
                refine ad_cald F G 1 rfl (w := lat (sl w b2 (b2 + l2)) k) (by omega) (by rw [Tx_at hT (by omega) (by omega), sl_at (by omega) (by omega) (by omega)]) dX11_writeForms_131 ?_
                refine lv_goto (tgt := 136) F.1 F.2.1 dX11_writeForms_132 (by decide) ?_
                refine ad_iast F G 4 rfl (by omega) (ws' := [(m0, mO M xth xrm xsv xln xat xer xwr xwd xlo xhi xwl xml xkl xfi xse xdn xon xtw xol xrw xgl xus xpr xmk xab), (M 6, aI (K 2) 100 gbf), (M 11, aI (K 0) 60 gbg), (M 12, aI (K 0) 60 gle), (M 1, aI (K 0) 1247 (va_up gv (((p + 5) + 6) + k).toNat (lat (sl w b2 (b2 + l2)) k)))]) rfl dX11_writeForms_136 (fun H locs G => ?_)
                refine ad_iinc (lv' := [(4, .int (iI (k + 1))), (0, .ref m0), (1, .int (iI p)), (2, .int (iI x)), (3, .int (iI y))]) F dX11_writeForms_137 hl (k := 4) rfl (by decide) rfl (fun ls hl => ?_)
                refine lv_goto (tgt := 87) F.1 F.2.1 dX11_writeForms_140 (by decide) ?_
                exact ih87 (k + 1) (va_up gv (((p + 5) + 6) + k).toNat (lat (sl w b2 (b2 + l2)) k)) _ _ _ (by omega) (WF_2 hF (by omega) (by omega) (by omega) rfl) (by omega) (G.perm (ws' := [(m0, mO M xth xrm xsv xln xat xer xwr xwd xlo xhi xwl xml xkl xfi xse xdn xon xtw xol xrw xgl xus xpr xmk xab), (M 6, aI (K 2) 100 gbf), (M 11, aI (K 0) 60 gbg), (M 12, aI (K 0) 60 gle), (M 1, aI (K 0) 1247 (va_up gv (((p + 5) + 6) + k).toNat (lat (sl w b2 (b2 + l2)) k)))]) [0, 1, 2, 3, 4] rfl rfl) (lv_sub hl [1, 2, 3, 4, 0] rfl)
        exact lp87 ((((12 - 0 : Int)) + 1).toNat) 0 gv _ _ _ (by omega) (by rw [show (6 : Int) = k by omega]; exact hF) (by omega) (G.perm (ws' := [(m0, mO M xth xrm xsv xln xat xer xwr xwd xlo xhi xwl xml xkl xfi xse xdn xon xtw xol xrw xgl xus xpr xmk xab), (M 6, aI (K 2) 100 gbf), (M 11, aI (K 0) 60 gbg), (M 12, aI (K 0) 60 gle), (M 1, aI (K 0) 1247 gv)]) [0, 1, 2, 3, 4] rfl rfl) (lv_sub hl [1, 2, 3, 4, 0] rfl)
      · refine lv_aload_n F.1 F.2.1 dX11_writeForms_38 rfl (lv_at hl 0 rfl) ?_
        refine ad_get F G fl_X11_9 0 rfl rfl dX11_writeForms_39 ?_
        refine lv_iload_n F.1 F.2.1 dX11_writeForms_42 rfl (lv_at hl 1 rfl) ?_
        refine ad_iconst F dX11_writeForms_43 ?_
        refine ad_iadd F dX11_writeForms_44 ?_
        refine lv_iload F.1 F.2.1 dX11_writeForms_45 (lv_at hl 4 rfl) ?_
        refine ad_iadd F dX11_writeForms_47 ?_
        refine lv_iload F.1 F.2.1 dX11_writeForms_48 (lv_at hl 4 rfl) ?_
        refine lv_aload_n F.1 F.2.1 dX11_writeForms_50 rfl (lv_at hl 0 rfl) ?_
        refine ad_get F G fl_X11_32 0 rfl rfl dX11_writeForms_51 ?_
        refine lv_iload_n F.1 F.2.1 dX11_writeForms_54 rfl (lv_at hl 2 rfl) ?_
        refine ad_iald F G 3 rfl (w := l1) (by omega) h1.2 dX11_writeForms_55 ?_
        refine ad_icmp_ge (tgt := 76) F (by omega) dX11_writeForms_56 (by decide) (fun cc_4 => ?_) (fun cc_4 => ?_)
        · refine ad_iconst F dX11_writeForms_76 ?_
          refine ad_iast F G 4 rfl (by omega) (ws' := [(m0, mO M xth xrm xsv xln xat xer xwr xwd xlo xhi xwl xml xkl xfi xse xdn xon xtw xol xrw xgl xus xpr xmk xab), (M 6, aI (K 2) 100 gbf), (M 11, aI (K 0) 60 gbg), (M 12, aI (K 0) 60 gle), (M 1, aI (K 0) 1247 (va_up gv ((p + 5) + k).toNat 0))]) rfl dX11_writeForms_77 (fun H locs G => ?_)
          refine ad_iinc (lv' := [(4, .int (iI (k + 1))), (0, .ref m0), (1, .int (iI p)), (2, .int (iI x)), (3, .int (iI y))]) F dX11_writeForms_78 hl (k := 4) rfl (by decide) rfl (fun ls hl => ?_)
          refine lv_goto (tgt := 31) F.1 F.2.1 dX11_writeForms_81 (by decide) ?_
          exact ih31 (k + 1) (va_up gv ((p + 5) + k).toNat 0) _ _ _ (by omega) (WF_1 hF (by omega) (by omega) (by omega) (lat_out (Or.inr (by omega))).symm) (by omega) (G.perm (ws' := [(m0, mO M xth xrm xsv xln xat xer xwr xwd xlo xhi xwl xml xkl xfi xse xdn xon xtw xol xrw xgl xus xpr xmk xab), (M 6, aI (K 2) 100 gbf), (M 11, aI (K 0) 60 gbg), (M 12, aI (K 0) 60 gle), (M 1, aI (K 0) 1247 (va_up gv ((p + 5) + k).toNat 0))]) [0, 1, 2, 3, 4] rfl rfl) (lv_sub hl [1, 2, 3, 4, 0] rfl)
        · refine lv_aload_n F.1 F.2.1 dX11_writeForms_59 rfl (lv_at hl 0 rfl) ?_
          refine ad_get F G fl_X11_21 0 rfl rfl dX11_writeForms_60 ?_
          refine lv_aload_n F.1 F.2.1 dX11_writeForms_63 rfl (lv_at hl 0 rfl) ?_
          refine ad_get F G fl_X11_29 0 rfl rfl dX11_writeForms_64 ?_
          refine lv_iload_n F.1 F.2.1 dX11_writeForms_67 rfl (lv_at hl 2 rfl) ?_
          refine ad_iald F G 2 rfl (w := b1) (by omega) h1.1 dX11_writeForms_68 ?_
          refine lv_iload F.1 F.2.1 dX11_writeForms_69 (lv_at hl 4 rfl) ?_
          refine ad_iadd F dX11_writeForms_71 ?_
          refine ad_cald F G 1 rfl (w := lat (sl w b1 (b1 + l1)) k) (by omega) (by rw [Tx_at hT (by omega) (by omega), sl_at (by omega) (by omega) (by omega)]) dX11_writeForms_72 ?_
          refine lv_goto (tgt := 77) F.1 F.2.1 dX11_writeForms_73 (by decide) ?_
          refine ad_iast F G 4 rfl (by omega) (ws' := [(m0, mO M xth xrm xsv xln xat xer xwr xwd xlo xhi xwl xml xkl xfi xse xdn xon xtw xol xrw xgl xus xpr xmk xab), (M 6, aI (K 2) 100 gbf), (M 11, aI (K 0) 60 gbg), (M 12, aI (K 0) 60 gle), (M 1, aI (K 0) 1247 (va_up gv ((p + 5) + k).toNat (lat (sl w b1 (b1 + l1)) k)))]) rfl dX11_writeForms_77 (fun H locs G => ?_)
          refine ad_iinc (lv' := [(4, .int (iI (k + 1))), (0, .ref m0), (1, .int (iI p)), (2, .int (iI x)), (3, .int (iI y))]) F dX11_writeForms_78 hl (k := 4) rfl (by decide) rfl (fun ls hl => ?_)
          refine lv_goto (tgt := 31) F.1 F.2.1 dX11_writeForms_81 (by decide) ?_
          exact ih31 (k + 1) (va_up gv ((p + 5) + k).toNat (lat (sl w b1 (b1 + l1)) k)) _ _ _ (by omega) (WF_1 hF (by omega) (by omega) (by omega) rfl) (by omega) (G.perm (ws' := [(m0, mO M xth xrm xsv xln xat xer xwr xwd xlo xhi xwl xml xkl xfi xse xdn xon xtw xol xrw xgl xus xpr xmk xab), (M 6, aI (K 2) 100 gbf), (M 11, aI (K 0) 60 gbg), (M 12, aI (K 0) 60 gle), (M 1, aI (K 0) 1247 (va_up gv ((p + 5) + k).toNat (lat (sl w b1 (b1 + l1)) k)))]) [0, 1, 2, 3, 4] rfl rfl) (lv_sub hl [1, 2, 3, 4, 0] rfl)
  exact lp31 ((((6 - 0 : Int)) + 1).toNat) 0 (va_up (va_up g (p + 3).toNat l1) (p + 4).toNat l2) _ _ _ (by omega) (WF_0 _ _ (by omega) hlu.symm hlv.symm) (by omega) (G.perm (ws' := [(m0, mO M xth xrm xsv xln xat xer xwr xwd xlo xhi xwl xml xkl xfi xse xdn xon xtw xol xrw xgl xus xpr xmk xab), (M 6, aI (K 2) 100 gbf), (M 11, aI (K 0) 60 gbg), (M 12, aI (K 0) 60 gle), (M 1, aI (K 0) 1247 (va_up (va_up g (p + 3).toNat l1) (p + 4).toNat l2))]) [0, 1, 2, 3, 4] rfl rfl) (lv_sub hl [1, 2, 3, 4, 0] rfl)
