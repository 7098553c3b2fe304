def rm_X1_init : Room := { frames := 1, cells := 0, slots := 0, locals := 20 }
set_option maxHeartbeats 4000000 in
set_option maxRecDepth 100000 in
theorem c_X1_init (l : Launch) (D : va_G) (K : Nat → ClassId) (z0 : Nat) (h9 : Nat) (dd : Int) (pv : Option Nat) (f1 : Int) (f2 : Int) (f3 : Int) (tx : Option Nat) : CT l D K z0 yX1_init cX1_init 7 none rm_X1_init [.ref h9, va_rf pv, .int (iI dd), .int (iI f1), .int (iI f2), .int (iI f3), va_rf tx] [(h9, .inr (1, [.null, .int (iI 0), .int (iI 0), .int (iI 0), .int (iI 0), .null]))] (fun v9 u9 => v9 = none ∧ u9 = [(h9, .inr (1, [va_rf pv, .int (iI dd), .int (iI f1), .int (iI f2), .int (iI f3), va_rf tx]))]) := by
  refine CT.start RX1 "<init>" (by decide) rfl rfl (by cases pv <;> cases tx <;> exact Nat.le_of_ble_eq_true rfl) ?_
  intro p9 e9 s9 m9 ag9 bl9 mt9 c9 A9 Q9 ls F G hR hl
  have hl : lv_has ls 7 [(0, .ref h9), (1, va_rf pv), (2, .int (iI dd)), (3, .int (iI f1)), (4, .int (iI f2)), (5, .int (iI f3)), (6, va_rf tx)] := by cases pv <;> cases tx <;> exact hl
  refine lv_aload_n F.1 F.2.1 dX1_init_0 rfl (lv_at hl 0 rfl) ?_
  refine ad_obji F oi_X1_3 hl.1 (Nat.le_of_ble_eq_true rfl) (Nat.le_of_ble_eq_true rfl) dX1_init_1 ?_
  refine lv_aload_n F.1 F.2.1 dX1_init_4 rfl (lv_at hl 0 rfl) ?_
  refine ad_aloadq_n F dX1_init_5 rfl (lv_at hl 1 rfl) ?_
  refine ad_putF F G fl_X1_9 rfl 0 rfl (ad_qN _).1 (ad_qN _).2 (Nat.le_of_ble_eq_true rfl) (ws' := [(h9, .inr (1, [va_rf pv, .int (iI 0), .int (iI 0), .int (iI 0), .int (iI 0), .null]))]) rfl dX1_init_6 (fun H locs G => ?_)
  refine lv_aload_n F.1 F.2.1 dX1_init_9 rfl (lv_at hl 0 rfl) ?_
  refine lv_iload_n F.1 F.2.1 dX1_init_10 rfl (lv_at hl 2 rfl) ?_
  refine ad_putF F G fl_X1_15 rfl 0 rfl rfl rfl (Nat.le_of_ble_eq_true rfl) (ws' := [(h9, .inr (1, [va_rf pv, .int (iI dd), .int (iI 0), .int (iI 0), .int (iI 0), .null]))]) rfl dX1_init_11 (fun H locs G => ?_)
  refine lv_aload_n F.1 F.2.1 dX1_init_14 rfl (lv_at hl 0 rfl) ?_
  refine lv_iload_n F.1 F.2.1 dX1_init_15 rfl (lv_at hl 3 rfl) ?_
  refine ad_putF F G fl_X1_19 rfl 0 rfl rfl rfl (Nat.le_of_ble_eq_true rfl) (ws' := [(h9, .inr (1, [va_rf pv, .int (iI dd), .int (iI f1), .int (iI 0), .int (iI 0), .null]))]) rfl dX1_init_16 (fun H locs G => ?_)
  refine lv_aload_n F.1 F.2.1 dX1_init_19 rfl (lv_at hl 0 rfl) ?_
  refine lv_iload F.1 F.2.1 dX1_init_20 (lv_at hl 4 rfl) ?_
  refine ad_putF F G fl_X1_22 rfl 0 rfl rfl rfl (Nat.le_of_ble_eq_true rfl) (ws' := [(h9, .inr (1, [va_rf pv, .int (iI dd), .int (iI f1), .int (iI f2), .int (iI 0), .null]))]) rfl dX1_init_22 (fun H locs G => ?_)
  refine lv_aload_n F.1 F.2.1 dX1_init_25 rfl (lv_at hl 0 rfl) ?_
  refine lv_iload F.1 F.2.1 dX1_init_26 (lv_at hl 5 rfl) ?_
  refine ad_putF F G fl_X1_25 rfl 0 rfl rfl rfl (Nat.le_of_ble_eq_true rfl) (ws' := [(h9, .inr (1, [va_rf pv, .int (iI dd), .int (iI f1), .int (iI f2), .int (iI f3), .null]))]) rfl dX1_init_28 (fun H locs G => ?_)
  refine lv_aload_n F.1 F.2.1 dX1_init_31 rfl (lv_at hl 0 rfl) ?_
  refine ad_aloadq F dX1_init_32 (lv_at hl 6 rfl) ?_
  refine ad_putF F G fl_X1_28 rfl 0 rfl (ad_qN _).1 (ad_qN _).2 (Nat.le_of_ble_eq_true rfl) (ws' := [(h9, .inr (1, [va_rf pv, .int (iI dd), .int (iI f1), .int (iI f2), .int (iI f3), va_rf tx]))]) rfl dX1_init_34 (fun H locs G => ?_)
  exact ad_vreturn F G hR rfl (Nat.le_of_ble_eq_true rfl) (Nat.le_of_ble_eq_true rfl) ⟨rfl, rfl⟩ dX1_init_37

def rm_X1_applyTo_0 : Room := { frames := 4, cells := 0, slots := 0, locals := 87 }
set_option maxHeartbeats 4000000 in
set_option maxRecDepth 100000 in
theorem c_X1_applyTo_0 (l : Launch) (D : va_G) (K : Nat → ClassId) (z0 : Nat) (h9 : Nat) (pv : Option Nat) (f1 : Int) (f2 : Int) (f3 : Int) (h0 : Nat) (ak : Nat) (ap : Nat) (ac : Nat) (ash : Nat) (alo : Nat) (apc : Nat) (aps : Nat) (apl : Nat) (lc : Option Nat) (gk : Nat → Int) (gp : Nat → Int) (gc : Nat → Int) (gs : Nat → Int64) (gl : Nat → Int64) (rs : List Rl) (np : Int) (md : Int) (th : Int) (nc : Int) (h1 : Nat) (a : Nat) (L : Nat) (g : Nat → Int) (w : List Int) (hB : BRep gk gp gc gs gl rs) (hW : RW rs) (hT : Tx g w) (hC : Chs w) (hL : w.length ≤ L ∧ L ≤ 65536) (he : errR w = -1) (hkk : 0 ≤ f1 ∧ f1 ≤ 2) (hpp : 0 ≤ f2 ∧ f2 ≤ 99) (hcc : 0 ≤ f3 ∧ f3 ≤ 4) : CT l D K z0 yX1_applyTo cX1_applyTo 2 none rm_X1_applyTo_0 [.ref h9, .ref h0] [(h9, .inr (1, [va_rf pv, .int (iI 0), .int (iI f1), .int (iI f2), .int (iI f3), .ref h1])), (h0, .inr (0, [.ref ak, .ref ap, .ref ac, .ref ash, .ref alo, .int (iI (rs.length : Int)), .ref apc, .ref aps, .ref apl, .int (iI np), .int (iI md), .int (iI th), va_rf lc, .int (iI nc)])), (ak, aI (K 0) 24 gk), (ap, aI (K 0) 24 gp), (ac, aI (K 0) 24 gc), (ash, aJ (K 1) 24 gs), (alo, aJ (K 1) 24 gl), (h1, .inr (7, [.ref a, .int (iI (w.length : Int))])), (a, aI (K 2) L g)] (fun v9 u9 => ∃ (gk2 : Nat → Int), ∃ (gp2 : Nat → Int), ∃ (gc2 : Nat → Int), ∃ (gs2 : Nat → Int64), ∃ (gl2 : Nat → Int64), ∃ (rs2 : List Rl), v9 = none ∧ (rs2 = insR rs (f1, f2, f3, shW w, loW w)) ∧ (BRep gk2 gp2 gc2 gs2 gl2 rs2) ∧ u9 = [(h9, .inr (1, [va_rf pv, .int (iI 0), .int (iI f1), .int (iI f2), .int (iI f3), .ref h1])), (h0, .inr (0, [.ref ak, .ref ap, .ref ac, .ref ash, .ref alo, .int (iI (rs2.length : Int)), .ref apc, .ref aps, .ref apl, .int (iI np), .int (iI md), .int (iI th), va_rf lc, .int (iI nc)])), (ak, aI (K 0) 24 gk2), (ap, aI (K 0) 24 gp2), (ac, aI (K 0) 24 gc2), (ash, aJ (K 1) 24 gs2), (alo, aJ (K 1) 24 gl2), (h1, .inr (7, [.ref a, .int (iI (w.length : Int))])), (a, aI (K 2) L g)]) := by
  refine CT.start RX1 "applyTo" (by decide) rfl rfl (Nat.le_of_ble_eq_true rfl) ?_
  intro p9 e9 s9 m9 ag9 bl9 mt9 c9 A9 Q9 ls F G hR hl
  have hl : lv_has ls 2 [(0, .ref h9), (1, .ref h0)] := hl
  refine lv_aload_n F.1 F.2.1 dX1_applyTo_0 rfl (lv_at hl 0 rfl) ?_
  refine ad_get F G fl_X1_15 0 rfl rfl dX1_applyTo_1 ?_
  refine ad_tabIn (v := 0) (tgt := 44) F dX1_applyTo_4 rfl (by decide) (by decide) (by decide) rfl (by decide) ?_
  refine lv_aload_n F.1 F.2.1 dX1_applyTo_44 rfl (lv_at hl 0 rfl) ?_
  refine ad_get F G fl_X1_28 0 rfl rfl dX1_applyTo_45 ?_
  refine lv_ifnull F.1 F.2.1 dX1_applyTo_48 ?_
  refine lv_aload_n F.1 F.2.1 dX1_applyTo_51 rfl (lv_at hl 1 rfl) ?_
  refine lv_aload_n F.1 F.2.1 dX1_applyTo_52 rfl (lv_at hl 0 rfl) ?_
  refine ad_get F G fl_X1_19 0 rfl rfl dX1_applyTo_53 ?_
  refine lv_aload_n F.1 F.2.1 dX1_applyTo_56 rfl (lv_at hl 0 rfl) ?_
  refine ad_get F G fl_X1_22 0 rfl rfl dX1_applyTo_57 ?_
  refine lv_aload_n F.1 F.2.1 dX1_applyTo_60 rfl (lv_at hl 0 rfl) ?_
  refine ad_get F G fl_X1_25 0 rfl rfl dX1_applyTo_61 ?_
  refine lv_aload_n F.1 F.2.1 dX1_applyTo_64 rfl (lv_at hl 0 rfl) ?_
  refine ad_get F G fl_X1_28 0 rfl rfl dX1_applyTo_65 ?_
  refine ad_callV (As := [.int (iI f1), .int (iI f2), .int (iI f3), .ref h1]) (rest := []) F G (c_X0_insertText l D K z0 h0 ak ap ac ash alo apc aps apl lc gk gp gc gs gl rs np md th nc h1 a L g w f1 f2 f3 hB hW hT hC hL he hkk hpp hcc) my_X0_insertText mv_X1_32 (wr := [(h9, .inr (1, [va_rf pv, .int (iI 0), .int (iI f1), .int (iI f2), .int (iI f3), .ref h1]))]) (isC := [1, 2, 3, 4, 5, 6, 7, 8]) (isR := [0]) ⟨rfl, rfl, rfl, rfl, by decide⟩ 0 0 rfl rfl rfl rfl ⟨Nat.le_of_ble_eq_true rfl, Nat.le_of_ble_eq_true rfl⟩ ⟨Nat.le_of_ble_eq_true rfl, Nat.le_of_ble_eq_true rfl⟩ (Nat.le_of_ble_eq_true rfl) hl.1 (cells9 := 0) (slots9 := 0) ⟨rfl, rfl⟩ dX1_applyTo_68 (fun v u H locs hw_1 G => ?_)
  obtain ⟨gk2_2, gp2_3, gc2_4, gs2_5, gl2_6, rs2_7, rfl, hc_8, hc_9, rfl⟩ := hw_1
  replace G := G.perm (ws' := [(h9, .inr (1, [va_rf pv, .int (iI 0), .int (iI f1), .int (iI f2), .int (iI f3), .ref h1])), (h0, .inr (0, [.ref ak, .ref ap, .ref ac, .ref ash, .ref alo, .int (iI (rs2_7.length : Int)), .ref apc, .ref aps, .ref apl, .int (iI np), .int (iI md), .int (iI th), va_rf lc, .int (iI nc)])), (ak, aI (K 0) 24 gk2_2), (ap, aI (K 0) 24 gp2_3), (ac, aI (K 0) 24 gc2_4), (ash, aJ (K 1) 24 gs2_5), (alo, aJ (K 1) 24 gl2_6), (h1, .inr (7, [.ref a, .int (iI (w.length : Int))])), (a, aI (K 2) L g)]) [0, 1, 2, 3, 4, 5, 6, 7, 8] rfl rfl
  refine W.eq (g2 := F0 m9 71 ls []) rfl ?_
  refine lv_goto (tgt := 152) F.1 F.2.1 dX1_applyTo_71 (by decide) ?_
  exact ad_vreturn F G hR rfl (Nat.le_of_ble_eq_true rfl) (Nat.le_of_ble_eq_true rfl) ⟨gk2_2, gp2_3, gc2_4, gs2_5, gl2_6, rs2_7, rfl, hc_8, hc_9, rfl⟩ dX1_applyTo_152

def rm_X1_applyTo_1 : Room := { frames := 2, cells := 0, slots := 0, locals := 34 }
set_option maxHeartbeats 4000000 in
set_option maxRecDepth 100000 in
theorem c_X1_applyTo_1 (l : Launch) (D : va_G) (K : Nat → ClassId) (z0 : Nat) (h9 : Nat) (pv : Option Nat) (f1 : Int) (f2 : Int) (f3 : Int) (tx : Option Nat) (h0 : Nat) (ak : Nat) (ap : Nat) (ac : Nat) (ash : Nat) (alo : Nat) (apc : Nat) (aps : Nat) (apl : Nat) (lc : Option Nat) (gk : Nat → Int) (gp : Nat → Int) (gc : Nat → Int) (gs : Nat → Int64) (gl : Nat → Int64) (rs : List Rl) (np : Int) (md : Int) (th : Int) (nc : Int) (hB : BRep gk gp gc gs gl rs) (hW : RW rs) (hz : 0 ≤ f1 ∧ f1 < rs.length) : CT l D K z0 yX1_applyTo cX1_applyTo 2 none rm_X1_applyTo_1 [.ref h9, .ref h0] [(h9, .inr (1, [va_rf pv, .int (iI 1), .int (iI f1), .int (iI f2), .int (iI f3), va_rf tx])), (h0, .inr (0, [.ref ak, .ref ap, .ref ac, .ref ash, .ref alo, .int (iI (rs.length : Int)), .ref apc, .ref aps, .ref apl, .int (iI np), .int (iI md), .int (iI th), va_rf lc, .int (iI nc)])), (ak, aI (K 0) 24 gk), (ap, aI (K 0) 24 gp), (ac, aI (K 0) 24 gc), (ash, aJ (K 1) 24 gs), (alo, aJ (K 1) 24 gl)] (fun v9 u9 => ∃ (gk2 : Nat → Int), ∃ (gp2 : Nat → Int), ∃ (gc2 : Nat → Int), ∃ (gs2 : Nat → Int64), ∃ (gl2 : Nat → Int64), ∃ (rs2 : List Rl), v9 = none ∧ (rs2 = rs.eraseIdx f1.toNat) ∧ (BRep gk2 gp2 gc2 gs2 gl2 rs2) ∧ u9 = [(h9, .inr (1, [va_rf pv, .int (iI 1), .int (iI f1), .int (iI f2), .int (iI f3), va_rf tx])), (h0, .inr (0, [.ref ak, .ref ap, .ref ac, .ref ash, .ref alo, .int (iI (rs2.length : Int)), .ref apc, .ref aps, .ref apl, .int (iI np), .int (iI md), .int (iI th), va_rf lc, .int (iI nc)])), (ak, aI (K 0) 24 gk2), (ap, aI (K 0) 24 gp2), (ac, aI (K 0) 24 gc2), (ash, aJ (K 1) 24 gs2), (alo, aJ (K 1) 24 gl2)]) := by
  refine CT.start RX1 "applyTo" (by decide) rfl rfl (Nat.le_of_ble_eq_true rfl) ?_
  intro p9 e9 s9 m9 ag9 bl9 mt9 c9 A9 Q9 ls F G hR hl
  have hl : lv_has ls 2 [(0, .ref h9), (1, .ref h0)] := hl
  refine lv_aload_n F.1 F.2.1 dX1_applyTo_0 rfl (lv_at hl 0 rfl) ?_
  refine ad_get F G fl_X1_15 0 rfl rfl dX1_applyTo_1 ?_
  refine ad_tabIn (v := 1) (tgt := 74) F dX1_applyTo_4 rfl (by decide) (by decide) (by decide) rfl (by decide) ?_
  refine lv_aload_n F.1 F.2.1 dX1_applyTo_74 rfl (lv_at hl 1 rfl) ?_
  refine lv_aload_n F.1 F.2.1 dX1_applyTo_75 rfl (lv_at hl 0 rfl) ?_
  refine ad_get F G fl_X1_19 0 rfl rfl dX1_applyTo_76 ?_
  refine ad_callV (As := [.int (iI f1)]) (rest := []) F G (c_X0_dropRule l D K z0 h0 ak ap ac ash alo apc aps apl lc gk gp gc gs gl rs np md th nc f1 hB hW hz) my_X0_dropRule mv_X1_38 (wr := [(h9, .inr (1, [va_rf pv, .int (iI 1), .int (iI f1), .int (iI f2), .int (iI f3), va_rf tx]))]) (isC := [1, 2, 3, 4, 5, 6]) (isR := [0]) ⟨rfl, rfl, rfl, rfl, by decide⟩ 0 0 rfl rfl rfl rfl ⟨Nat.le_of_ble_eq_true rfl, Nat.le_of_ble_eq_true rfl⟩ ⟨Nat.le_of_ble_eq_true rfl, Nat.le_of_ble_eq_true rfl⟩ (Nat.le_of_ble_eq_true rfl) hl.1 (cells9 := 0) (slots9 := 0) ⟨rfl, rfl⟩ dX1_applyTo_79 (fun v u H locs hw_1 G => ?_)
  obtain ⟨gk2_2, gp2_3, gc2_4, gs2_5, gl2_6, rs2_7, rfl, hc_8, hc_9, rfl⟩ := hw_1
  replace G := G.perm (ws' := [(h9, .inr (1, [va_rf pv, .int (iI 1), .int (iI f1), .int (iI f2), .int (iI f3), va_rf tx])), (h0, .inr (0, [.ref ak, .ref ap, .ref ac, .ref ash, .ref alo, .int (iI (rs2_7.length : Int)), .ref apc, .ref aps, .ref apl, .int (iI np), .int (iI md), .int (iI th), va_rf lc, .int (iI nc)])), (ak, aI (K 0) 24 gk2_2), (ap, aI (K 0) 24 gp2_3), (ac, aI (K 0) 24 gc2_4), (ash, aJ (K 1) 24 gs2_5), (alo, aJ (K 1) 24 gl2_6)]) [0, 1, 2, 3, 4, 5, 6] rfl rfl
  refine W.eq (g2 := F0 m9 82 ls []) rfl ?_
  refine lv_goto (tgt := 152) F.1 F.2.1 dX1_applyTo_82 (by decide) ?_
  exact ad_vreturn F G hR rfl (Nat.le_of_ble_eq_true rfl) (Nat.le_of_ble_eq_true rfl) ⟨gk2_2, gp2_3, gc2_4, gs2_5, gl2_6, rs2_7, rfl, hc_8, hc_9, rfl⟩ dX1_applyTo_152

def rm_X1_applyTo_2 : Room := { frames := 2, cells := 0, slots := 0, locals := 34 }
set_option maxHeartbeats 4000000 in
set_option maxRecDepth 100000 in
theorem c_X1_applyTo_2 (l : Launch) (D : va_G) (K : Nat → ClassId) (z0 : Nat) (h9 : Nat) (pv : Option Nat) (f1 : Int) (f2 : Int) (f3 : Int) (tx : Option Nat) (h0 : Nat) (ak : Nat) (ap : Nat) (ac : Nat) (ash : Nat) (alo : Nat) (apc : Nat) (aps : Nat) (apl : Nat) (lc : Option Nat) (gk : Nat → Int) (gp : Nat → Int) (gc : Nat → Int) (gs : Nat → Int64) (gl : Nat → Int64) (rs : List Rl) (np : Int) (md : Int) (th : Int) (nc : Int) (hB : BRep gk gp gc gs gl rs) (hW : RW rs) (hz : 0 ≤ f1 ∧ f1 < rs.length) : CT l D K z0 yX1_applyTo cX1_applyTo 2 none rm_X1_applyTo_2 [.ref h9, .ref h0] [(h9, .inr (1, [va_rf pv, .int (iI 2), .int (iI f1), .int (iI f2), .int (iI f3), va_rf tx])), (h0, .inr (0, [.ref ak, .ref ap, .ref ac, .ref ash, .ref alo, .int (iI (rs.length : Int)), .ref apc, .ref aps, .ref apl, .int (iI np), .int (iI md), .int (iI th), va_rf lc, .int (iI nc)])), (ap, aI (K 0) 24 gp)] (fun v9 u9 => ∃ (gp2 : Nat → Int), v9 = none ∧ (BRep gk gp2 gc gs gl (rsetp rs f1 f2)) ∧ u9 = [(h9, .inr (1, [va_rf pv, .int (iI 2), .int (iI f1), .int (iI f2), .int (iI f3), va_rf tx])), (h0, .inr (0, [.ref ak, .ref ap, .ref ac, .ref ash, .ref alo, .int (iI (rs.length : Int)), .ref apc, .ref aps, .ref apl, .int (iI np), .int (iI md), .int (iI th), va_rf lc, .int (iI nc)])), (ap, aI (K 0) 24 gp2)]) := by
  refine CT.start RX1 "applyTo" (by decide) rfl rfl (Nat.le_of_ble_eq_true rfl) ?_
  intro p9 e9 s9 m9 ag9 bl9 mt9 c9 A9 Q9 ls F G hR hl
  have hl : lv_has ls 2 [(0, .ref h9), (1, .ref h0)] := hl
  refine lv_aload_n F.1 F.2.1 dX1_applyTo_0 rfl (lv_at hl 0 rfl) ?_
  refine ad_get F G fl_X1_15 0 rfl rfl dX1_applyTo_1 ?_
  refine ad_tabIn (v := 2) (tgt := 85) F dX1_applyTo_4 rfl (by decide) (by decide) (by decide) rfl (by decide) ?_
  refine lv_aload_n F.1 F.2.1 dX1_applyTo_85 rfl (lv_at hl 1 rfl) ?_
  refine lv_aload_n F.1 F.2.1 dX1_applyTo_86 rfl (lv_at hl 0 rfl) ?_
  refine ad_get F G fl_X1_19 0 rfl rfl dX1_applyTo_87 ?_
  refine lv_aload_n F.1 F.2.1 dX1_applyTo_90 rfl (lv_at hl 0 rfl) ?_
  refine ad_get F G fl_X1_22 0 rfl rfl dX1_applyTo_91 ?_
  refine ad_callV (As := [.int (iI f1), .int (iI f2)]) (rest := []) F G (c_X0_changePriority l D K z0 h0 ak ap ac ash alo apc aps apl lc gk gp gc gs gl rs np md th nc f1 f2 hB hW hz) my_X0_changePriority mv_X1_42 (wr := [(h9, .inr (1, [va_rf pv, .int (iI 2), .int (iI f1), .int (iI f2), .int (iI f3), va_rf tx]))]) (isC := [1, 2]) (isR := [0]) ⟨rfl, rfl, rfl, rfl, by decide⟩ 0 0 rfl rfl rfl rfl ⟨Nat.le_of_ble_eq_true rfl, Nat.le_of_ble_eq_true rfl⟩ ⟨Nat.le_of_ble_eq_true rfl, Nat.le_of_ble_eq_true rfl⟩ (Nat.le_of_ble_eq_true rfl) hl.1 (cells9 := 0) (slots9 := 0) ⟨rfl, rfl⟩ dX1_applyTo_94 (fun v u H locs hw_1 G => ?_)
  obtain ⟨gp2_2, rfl, hc_3, rfl⟩ := hw_1
  replace G := G.perm (ws' := [(h9, .inr (1, [va_rf pv, .int (iI 2), .int (iI f1), .int (iI f2), .int (iI f3), va_rf tx])), (h0, .inr (0, [.ref ak, .ref ap, .ref ac, .ref ash, .ref alo, .int (iI (rs.length : Int)), .ref apc, .ref aps, .ref apl, .int (iI np), .int (iI md), .int (iI th), va_rf lc, .int (iI nc)])), (ap, aI (K 0) 24 gp2_2)]) [0, 1, 2] rfl rfl
  refine W.eq (g2 := F0 m9 97 ls []) rfl ?_
  refine lv_goto (tgt := 152) F.1 F.2.1 dX1_applyTo_97 (by decide) ?_
  exact ad_vreturn F G hR rfl (Nat.le_of_ble_eq_true rfl) (Nat.le_of_ble_eq_true rfl) ⟨gp2_2, rfl, hc_3, rfl⟩ dX1_applyTo_152

def rm_X1_applyTo_3 : Room := { frames := 2, cells := 0, slots := 0, locals := 34 }
set_option maxHeartbeats 4000000 in
set_option maxRecDepth 100000 in
theorem c_X1_applyTo_3 (l : Launch) (D : va_G) (K : Nat → ClassId) (z0 : Nat) (h9 : Nat) (pv : Option Nat) (f1 : Int) (f2 : Int) (f3 : Int) (tx : Option Nat) (h0 : Nat) (ak : Nat) (ap : Nat) (ac : Nat) (ash : Nat) (alo : Nat) (apc : Nat) (aps : Nat) (apl : Nat) (lc : Option Nat) (gk : Nat → Int) (gp : Nat → Int) (gc : Nat → Int) (gs : Nat → Int64) (gl : Nat → Int64) (rs : List Rl) (np : Int) (md : Int) (th : Int) (nc : Int) (hB : BRep gk gp gc gs gl rs) (hW : RW rs) (hz : 0 ≤ f1 ∧ f1 < rs.length) : CT l D K z0 yX1_applyTo cX1_applyTo 2 none rm_X1_applyTo_3 [.ref h9, .ref h0] [(h9, .inr (1, [va_rf pv, .int (iI 3), .int (iI f1), .int (iI f2), .int (iI f3), va_rf tx])), (h0, .inr (0, [.ref ak, .ref ap, .ref ac, .ref ash, .ref alo, .int (iI (rs.length : Int)), .ref apc, .ref aps, .ref apl, .int (iI np), .int (iI md), .int (iI th), va_rf lc, .int (iI nc)])), (ac, aI (K 0) 24 gc)] (fun v9 u9 => ∃ (gc2 : Nat → Int), v9 = none ∧ (BRep gk gp gc2 gs gl (rsetc rs f1 f2)) ∧ u9 = [(h9, .inr (1, [va_rf pv, .int (iI 3), .int (iI f1), .int (iI f2), .int (iI f3), va_rf tx])), (h0, .inr (0, [.ref ak, .ref ap, .ref ac, .ref ash, .ref alo, .int (iI (rs.length : Int)), .ref apc, .ref aps, .ref apl, .int (iI np), .int (iI md), .int (iI th), va_rf lc, .int (iI nc)])), (ac, aI (K 0) 24 gc2)]) := by
  refine CT.start RX1 "applyTo" (by decide) rfl rfl (Nat.le_of_ble_eq_true rfl) ?_
  intro p9 e9 s9 m9 ag9 bl9 mt9 c9 A9 Q9 ls F G hR hl
  have hl : lv_has ls 2 [(0, .ref h9), (1, .ref h0)] := hl
  refine lv_aload_n F.1 F.2.1 dX1_applyTo_0 rfl (lv_at hl 0 rfl) ?_
  refine ad_get F G fl_X1_15 0 rfl rfl dX1_applyTo_1 ?_
  refine ad_tabIn (v := 3) (tgt := 100) F dX1_applyTo_4 rfl (by decide) (by decide) (by decide) rfl (by decide) ?_
  refine lv_aload_n F.1 F.2.1 dX1_applyTo_100 rfl (lv_at hl 1 rfl) ?_
  refine lv_aload_n F.1 F.2.1 dX1_applyTo_101 rfl (lv_at hl 0 rfl) ?_
  refine ad_get F G fl_X1_19 0 rfl rfl dX1_applyTo_102 ?_
  refine lv_aload_n F.1 F.2.1 dX1_applyTo_105 rfl (lv_at hl 0 rfl) ?_
  refine ad_get F G fl_X1_22 0 rfl rfl dX1_applyTo_106 ?_
  refine ad_callV (As := [.int (iI f1), .int (iI f2)]) (rest := []) F G (c_X0_changeContext l D K z0 h0 ak ap ac ash alo apc aps apl lc gk gp gc gs gl rs np md th nc f1 f2 hB hW hz) my_X0_changeContext mv_X1_46 (wr := [(h9, .inr (1, [va_rf pv, .int (iI 3), .int (iI f1), .int (iI f2), .int (iI f3), va_rf tx]))]) (isC := [1, 2]) (isR := [0]) ⟨rfl, rfl, rfl, rfl, by decide⟩ 0 0 rfl rfl rfl rfl ⟨Nat.le_of_ble_eq_true rfl, Nat.le_of_ble_eq_true rfl⟩ ⟨Nat.le_of_ble_eq_true rfl, Nat.le_of_ble_eq_true rfl⟩ (Nat.le_of_ble_eq_true rfl) hl.1 (cells9 := 0) (slots9 := 0) ⟨rfl, rfl⟩ dX1_applyTo_109 (fun v u H locs hw_1 G => ?_)
  obtain ⟨gc2_2, rfl, hc_3, rfl⟩ := hw_1
  replace G := G.perm (ws' := [(h9, .inr (1, [va_rf pv, .int (iI 3), .int (iI f1), .int (iI f2), .int (iI f3), va_rf tx])), (h0, .inr (0, [.ref ak, .ref ap, .ref ac, .ref ash, .ref alo, .int (iI (rs.length : Int)), .ref apc, .ref aps, .ref apl, .int (iI np), .int (iI md), .int (iI th), va_rf lc, .int (iI nc)])), (ac, aI (K 0) 24 gc2_2)]) [0, 1, 2] rfl rfl
  refine W.eq (g2 := F0 m9 112 ls []) rfl ?_
  refine lv_goto (tgt := 152) F.1 F.2.1 dX1_applyTo_112 (by decide) ?_
  exact ad_vreturn F G hR rfl (Nat.le_of_ble_eq_true rfl) (Nat.le_of_ble_eq_true rfl) ⟨gc2_2, rfl, hc_3, rfl⟩ dX1_applyTo_152

def rm_X1_applyTo_4 : Room := { frames := 1, cells := 0, slots := 0, locals := 12 }
set_option maxHeartbeats 4000000 in
set_option maxRecDepth 100000 in
theorem c_X1_applyTo_4 (l : Launch) (D : va_G) (K : Nat → ClassId) (z0 : Nat) (h9 : Nat) (pv : Option Nat) (f1 : Int) (f2 : Int) (f3 : Int) (tx : Option Nat) (h0 : Nat) (ak : Nat) (ap : Nat) (ac : Nat) (ash : Nat) (alo : Nat) (apc : Nat) (aps : Nat) (apl : Nat) (lc : Option Nat) (n : Int) (np : Int) (md : Int) (th : Int) (nc : Int) : CT l D K z0 yX1_applyTo cX1_applyTo 2 none rm_X1_applyTo_4 [.ref h9, .ref h0] [(h9, .inr (1, [va_rf pv, .int (iI 4), .int (iI f1), .int (iI f2), .int (iI f3), va_rf tx])), (h0, .inr (0, [.ref ak, .ref ap, .ref ac, .ref ash, .ref alo, .int (iI n), .ref apc, .ref aps, .ref apl, .int (iI np), .int (iI md), .int (iI th), va_rf lc, .int (iI nc)]))] (fun v9 u9 => v9 = none ∧ u9 = [(h9, .inr (1, [va_rf pv, .int (iI 4), .int (iI f1), .int (iI f2), .int (iI f3), va_rf tx])), (h0, .inr (0, [.ref ak, .ref ap, .ref ac, .ref ash, .ref alo, .int (iI n), .ref apc, .ref aps, .ref apl, .int (iI np), .int (iI f1), .int (iI th), va_rf lc, .int (iI nc)]))]) := by
  refine CT.start RX1 "applyTo" (by decide) rfl rfl (Nat.le_of_ble_eq_true rfl) ?_
  intro p9 e9 s9 m9 ag9 bl9 mt9 c9 A9 Q9 ls F G hR hl
  have hl : lv_has ls 2 [(0, .ref h9), (1, .ref h0)] := hl
  refine lv_aload_n F.1 F.2.1 dX1_applyTo_0 rfl (lv_at hl 0 rfl) ?_
  refine ad_get F G fl_X1_15 0 rfl rfl dX1_applyTo_1 ?_
  refine ad_tabIn (v := 4) (tgt := 115) F dX1_applyTo_4 rfl (by decide) (by decide) (by decide) rfl (by decide) ?_
  refine lv_aload_n F.1 F.2.1 dX1_applyTo_115 rfl (lv_at hl 1 rfl) ?_
  refine lv_aload_n F.1 F.2.1 dX1_applyTo_116 rfl (lv_at hl 0 rfl) ?_
  refine ad_get F G fl_X1_19 0 rfl rfl dX1_applyTo_117 ?_
  refine ad_put F G fl_X1_49 1 rfl rfl rfl (Nat.le_of_ble_eq_true rfl) (ws' := [(h9, .inr (1, [va_rf pv, .int (iI 4), .int (iI f1), .int (iI f2), .int (iI f3), va_rf tx])), (h0, .inr (0, [.ref ak, .ref ap, .ref ac, .ref ash, .ref alo, .int (iI n), .ref apc, .ref aps, .ref apl, .int (iI np), .int (iI f1), .int (iI th), va_rf lc, .int (iI nc)]))]) rfl dX1_applyTo_120 (fun H locs G => ?_)
  refine lv_goto (tgt := 152) F.1 F.2.1 dX1_applyTo_123 (by decide) ?_
  exact ad_vreturn F G hR rfl (Nat.le_of_ble_eq_true rfl) (Nat.le_of_ble_eq_true rfl) ⟨rfl, rfl⟩ dX1_applyTo_152

def rm_X1_applyTo_5 : Room := { frames := 1, cells := 0, slots := 0, locals := 12 }
set_option maxHeartbeats 4000000 in
set_option maxRecDepth 100000 in
theorem c_X1_applyTo_5 (l : Launch) (D : va_G) (K : Nat → ClassId) (z0 : Nat) (h9 : Nat) (pv : Option Nat) (f1 : Int) (f2 : Int) (f3 : Int) (tx : Option Nat) (h0 : Nat) (ak : Nat) (ap : Nat) (ac : Nat) (ash : Nat) (alo : Nat) (apc : Nat) (aps : Nat) (apl : Nat) (lc : Option Nat) (n : Int) (np : Int) (md : Int) (th : Int) (nc : Int) : CT l D K z0 yX1_applyTo cX1_applyTo 2 none rm_X1_applyTo_5 [.ref h9, .ref h0] [(h9, .inr (1, [va_rf pv, .int (iI 5), .int (iI f1), .int (iI f2), .int (iI f3), va_rf tx])), (h0, .inr (0, [.ref ak, .ref ap, .ref ac, .ref ash, .ref alo, .int (iI n), .ref apc, .ref aps, .ref apl, .int (iI np), .int (iI md), .int (iI th), va_rf lc, .int (iI nc)]))] (fun v9 u9 => v9 = none ∧ u9 = [(h9, .inr (1, [va_rf pv, .int (iI 5), .int (iI f1), .int (iI f2), .int (iI f3), va_rf tx])), (h0, .inr (0, [.ref ak, .ref ap, .ref ac, .ref ash, .ref alo, .int (iI n), .ref apc, .ref aps, .ref apl, .int (iI np), .int (iI md), .int (iI f1), va_rf lc, .int (iI nc)]))]) := by
  refine CT.start RX1 "applyTo" (by decide) rfl rfl (Nat.le_of_ble_eq_true rfl) ?_
  intro p9 e9 s9 m9 ag9 bl9 mt9 c9 A9 Q9 ls F G hR hl
  have hl : lv_has ls 2 [(0, .ref h9), (1, .ref h0)] := hl
  refine lv_aload_n F.1 F.2.1 dX1_applyTo_0 rfl (lv_at hl 0 rfl) ?_
  refine ad_get F G fl_X1_15 0 rfl rfl dX1_applyTo_1 ?_
  refine ad_tabIn (v := 5) (tgt := 126) F dX1_applyTo_4 rfl (by decide) (by decide) (by decide) rfl (by decide) ?_
  refine lv_aload_n F.1 F.2.1 dX1_applyTo_126 rfl (lv_at hl 1 rfl) ?_
  refine lv_aload_n F.1 F.2.1 dX1_applyTo_127 rfl (lv_at hl 0 rfl) ?_
  refine ad_get F G fl_X1_19 0 rfl rfl dX1_applyTo_128 ?_
  refine ad_put F G fl_X1_52 1 rfl rfl rfl (Nat.le_of_ble_eq_true rfl) (ws' := [(h9, .inr (1, [va_rf pv, .int (iI 5), .int (iI f1), .int (iI f2), .int (iI f3), va_rf tx])), (h0, .inr (0, [.ref ak, .ref ap, .ref ac, .ref ash, .ref alo, .int (iI n), .ref apc, .ref aps, .ref apl, .int (iI np), .int (iI md), .int (iI f1), va_rf lc, .int (iI nc)]))]) rfl dX1_applyTo_131 (fun H locs G => ?_)
  refine lv_goto (tgt := 152) F.1 F.2.1 dX1_applyTo_134 (by decide) ?_
  exact ad_vreturn F G hR rfl (Nat.le_of_ble_eq_true rfl) (Nat.le_of_ble_eq_true rfl) ⟨rfl, rfl⟩ dX1_applyTo_152

def rm_X1_applyTo_6 : Room := { frames := 4, cells := 0, slots := 0, locals := 90 }
set_option maxHeartbeats 4000000 in
set_option maxRecDepth 100000 in
theorem c_X1_applyTo_6 (l : Launch) (D : va_G) (K : Nat → ClassId) (z0 : Nat) (h9 : Nat) (pv : Option Nat) (f1 : Int) (f2 : Int) (f3 : Int) (h0 : Nat) (ak : Nat) (ap : Nat) (ac : Nat) (ash : Nat) (alo : Nat) (apc : Nat) (aps : Nat) (apl : Nat) (lc : Option Nat) (gk : Nat → Int) (gp : Nat → Int) (gc : Nat → Int) (gs : Nat → Int64) (gl : Nat → Int64) (rs : List Rl) (gn : Nat → Int) (gq : Nat → Int64) (gr : Nat → Int64) (ps : List Pr) (md : Int) (th : Int) (nc : Int) (h1 : Nat) (a : Nat) (L : Nat) (g : Nat → Int) (w : List Int) (B : Int) (n : Nat) (hB : BRep gk gp gc gs gl rs) (hW : RW rs) (hP : PRep gn gq gr ps) (hV : PW ps B) (hT : Tx g w) (hC : Chs w) (hL : w.length ≤ L ∧ L ≤ 65536) (hr : RP w n) (ht : 1 ≤ th ∧ th ≤ 9) (hBB : 0 ≤ B ∧ B + 25 ≤ 1000000) : CT l D K z0 yX1_applyTo cX1_applyTo 2 none rm_X1_applyTo_6 [.ref h9, .ref h0] [(h9, .inr (1, [va_rf pv, .int (iI 6), .int (iI f1), .int (iI f2), .int (iI f3), .ref h1])), (h0, .inr (0, [.ref ak, .ref ap, .ref ac, .ref ash, .ref alo, .int (iI (rs.length : Int)), .ref apc, .ref aps, .ref apl, .int (iI (ps.length : Int)), .int (iI md), .int (iI th), va_rf lc, .int (iI nc)])), (ak, aI (K 0) 24 gk), (ap, aI (K 0) 24 gp), (ac, aI (K 0) 24 gc), (ash, aJ (K 1) 24 gs), (alo, aJ (K 1) 24 gl), (apc, aI (K 0) 30 gn), (aps, aJ (K 1) 30 gq), (apl, aJ (K 1) 30 gr), (h1, .inr (7, [.ref a, .int (iI (w.length : Int))])), (a, aI (K 2) L g)] (fun v9 u9 => ∃ (gk2 : Nat → Int), ∃ (gp2 : Nat → Int), ∃ (gc2 : Nat → Int), ∃ (gs2 : Nat → Int64), ∃ (gl2 : Nat → Int64), ∃ (rs2 : List Rl), ∃ (gn2 : Nat → Int), ∃ (gq2 : Nat → Int64), ∃ (gr2 : Nat → Int64), ∃ (ps2 : List Pr), v9 = none ∧ (rs2 = (lrnT rs ps th w n n).1) ∧ (ps2 = (lrnT rs ps th w n n).2) ∧ (BRep gk2 gp2 gc2 gs2 gl2 rs2) ∧ (PRep gn2 gq2 gr2 ps2) ∧ u9 = [(h9, .inr (1, [va_rf pv, .int (iI 6), .int (iI f1), .int (iI f2), .int (iI f3), .ref h1])), (h0, .inr (0, [.ref ak, .ref ap, .ref ac, .ref ash, .ref alo, .int (iI (rs2.length : Int)), .ref apc, .ref aps, .ref apl, .int (iI (ps2.length : Int)), .int (iI md), .int (iI th), va_rf lc, .int (iI nc)])), (ak, aI (K 0) 24 gk2), (ap, aI (K 0) 24 gp2), (ac, aI (K 0) 24 gc2), (ash, aJ (K 1) 24 gs2), (alo, aJ (K 1) 24 gl2), (apc, aI (K 0) 30 gn2), (aps, aJ (K 1) 30 gq2), (apl, aJ (K 1) 30 gr2), (h1, .inr (7, [.ref a, .int (iI (w.length : Int))])), (a, aI (K 2) L g)]) := by
  refine CT.start RX1 "applyTo" (by decide) rfl rfl (Nat.le_of_ble_eq_true rfl) ?_
  intro p9 e9 s9 m9 ag9 bl9 mt9 c9 A9 Q9 ls F G hR hl
  have hl : lv_has ls 2 [(0, .ref h9), (1, .ref h0)] := hl
  refine lv_aload_n F.1 F.2.1 dX1_applyTo_0 rfl (lv_at hl 0 rfl) ?_
  refine ad_get F G fl_X1_15 0 rfl rfl dX1_applyTo_1 ?_
  refine ad_tabOut (tgt := 137) F dX1_applyTo_4 (by decide) (by decide) (by decide) ?_
  refine lv_aload_n F.1 F.2.1 dX1_applyTo_137 rfl (lv_at hl 0 rfl) ?_
  refine ad_get F G fl_X1_28 0 rfl rfl dX1_applyTo_138 ?_
  refine lv_ifnull F.1 F.2.1 dX1_applyTo_141 ?_
  refine lv_aload_n F.1 F.2.1 dX1_applyTo_144 rfl (lv_at hl 1 rfl) ?_
  refine lv_aload_n F.1 F.2.1 dX1_applyTo_145 rfl (lv_at hl 0 rfl) ?_
  refine ad_get F G fl_X1_28 0 rfl rfl dX1_applyTo_146 ?_
  refine ad_callV (As := [.ref h1]) (rest := []) F G (c_X0_learnText l D K z0 h0 ak ap ac ash alo apc aps apl lc gk gp gc gs gl rs gn gq gr ps md th nc h1 a L g w B n hB hW hP hV hT hC hL hr ht hBB) my_X0_learnText mv_X1_55 (wr := [(h9, .inr (1, [va_rf pv, .int (iI 6), .int (iI f1), .int (iI f2), .int (iI f3), .ref h1]))]) (isC := [1, 2, 3, 4, 5, 6, 7, 8, 9, 10, 11]) (isR := [0]) ⟨rfl, rfl, rfl, rfl, by decide⟩ 0 0 rfl rfl rfl rfl ⟨Nat.le_of_ble_eq_true rfl, Nat.le_of_ble_eq_true rfl⟩ ⟨Nat.le_of_ble_eq_true rfl, Nat.le_of_ble_eq_true rfl⟩ (Nat.le_of_ble_eq_true rfl) hl.1 (cells9 := 0) (slots9 := 0) ⟨rfl, rfl⟩ dX1_applyTo_149 (fun v u H locs hw_1 G => ?_)
  obtain ⟨gk2_2, gp2_3, gc2_4, gs2_5, gl2_6, rs2_7, gn2_8, gq2_9, gr2_10, ps2_11, rfl, hc_12, hc_13, hc_14, hc_15, rfl⟩ := hw_1
  replace G := G.perm (ws' := [(h9, .inr (1, [va_rf pv, .int (iI 6), .int (iI f1), .int (iI f2), .int (iI f3), .ref h1])), (h0, .inr (0, [.ref ak, .ref ap, .ref ac, .ref ash, .ref alo, .int (iI (rs2_7.length : Int)), .ref apc, .ref aps, .ref apl, .int (iI (ps2_11.length : Int)), .int (iI md), .int (iI th), va_rf lc, .int (iI nc)])), (ak, aI (K 0) 24 gk2_2), (ap, aI (K 0) 24 gp2_3), (ac, aI (K 0) 24 gc2_4), (ash, aJ (K 1) 24 gs2_5), (alo, aJ (K 1) 24 gl2_6), (apc, aI (K 0) 30 gn2_8), (aps, aJ (K 1) 30 gq2_9), (apl, aJ (K 1) 30 gr2_10), (h1, .inr (7, [.ref a, .int (iI (w.length : Int))])), (a, aI (K 2) L g)]) [0, 1, 2, 3, 4, 5, 6, 7, 8, 9, 10, 11] rfl rfl
  refine W.eq (g2 := F0 m9 152 ls []) rfl ?_
  exact ad_vreturn F G hR rfl (Nat.le_of_ble_eq_true rfl) (Nat.le_of_ble_eq_true rfl) ⟨gk2_2, gp2_3, gc2_4, gs2_5, gl2_6, rs2_7, gn2_8, gq2_9, gr2_10, ps2_11, rfl, hc_12, hc_13, hc_14, hc_15, rfl⟩ dX1_applyTo_152
