def rm_X10_errorPosition : Room := { frames := 8, cells := 1, slots := 6, locals := 150 }
set_option maxHeartbeats 4000000 in
set_option maxRecDepth 100000 in
theorem c_X10_errorPosition (l : Launch) (hl0 : l.stackTraces = false) (D : va_G) (K : Nat → ClassId) (z0 : Nat) (d0 : Nat) (bfq : Nat) (gvq : Nat) (ckq : Nat) (tuq : Nat) (buq : Nat) (hb : Nat) (svq : Nat) (rbq : Nat) (roq : Nat) (hh : Nat) (lq : Nat) (zq : Nat) (yq : Nat) (le : Int) (hsn : Int) (hle : -2147483648 ≤ le ∧ le < 2147483648) : CX l D K z0 yX10_errorPosition cX10_errorPosition 1 (some .int) rm_X10_errorPosition [.ref d0] [(d0, .inr (10, [.ref bfq, .ref gvq, .ref ckq, .ref tuq, .ref buq, .ref hb, .ref svq, .ref rbq, .ref roq, .ref hh, .ref lq, .ref zq, .ref yq, .int (iI le), .int (iI hsn)]))] (fun v9 u9 => v9 = some (.int (iI le)) ∧ (0 ≤ le) ∧ u9 = [(d0, .inr (10, [.ref bfq, .ref gvq, .ref ckq, .ref tuq, .ref buq, .ref hb, .ref svq, .ref rbq, .ref roq, .ref hh, .ref lq, .ref zq, .ref yq, .int (iI le), .int (iI hsn)]))]) (fun E9 u9 => E9 = "java/util/NoSuchElementException" ∧ (le < 0) ∧ u9 = [(d0, .inr (10, [.ref bfq, .ref gvq, .ref ckq, .ref tuq, .ref buq, .ref hb, .ref svq, .ref rbq, .ref roq, .ref hh, .ref lq, .ref zq, .ref yq, .int (iI le), .int (iI hsn)]))]) := by
  refine CX.start RX10 "errorPosition" hl0 (by decide) rfl rfl (Nat.le_of_ble_eq_true rfl) ?_
  intro p9 e9 s9 m9 ag9 bl9 mt9 c9 A9 Q9 ls F G hR hX hl
  have hl : lv_has ls 1 [(0, .ref d0)] := hl
  refine lv_aload_n F.1 F.2.1 dX10_errorPosition_0 rfl (lv_at hl 0 rfl) ?_
  refine ad_get F G fl_X10_81 0 rfl rfl dX10_errorPosition_1 ?_
  refine ad_if_ge (tgt := 15) F (by omega) dX10_errorPosition_4 (by decide) (fun cc_1 => ?_) (fun cc_1 => ?_)
  · refine lv_aload_n F.1 F.2.1 dX10_errorPosition_15 rfl (lv_at hl 0 rfl) ?_
    refine ad_get F G fl_X10_81 0 rfl rfl dX10_errorPosition_16 ?_
    exact ad_ireturn F G hR rfl (Nat.le_of_ble_eq_true rfl) (Nat.le_of_ble_eq_true rfl) ⟨rfl, cc_1, rfl⟩ dX10_errorPosition_19
  · exact ad_throw F G hX xw_X10_193_195 hl.1 (Nat.le_of_ble_eq_true rfl) (Nat.le_of_ble_eq_true rfl) (Nat.le_of_ble_eq_true rfl) (Nat.le_of_ble_eq_true rfl) (Nat.le_of_ble_eq_true rfl) (Nat.le_of_ble_eq_true rfl) ⟨rfl, cc_1, rfl⟩ dX10_errorPosition_7 dX10_errorPosition_10 dX10_errorPosition_11 dX10_errorPosition_14

def rm_X10_output : Room := { frames := 9, cells := 2, slots := 12, locals := 170 }
set_option maxHeartbeats 4000000 in
set_option maxRecDepth 100000 in
theorem c_X10_output (l : Launch) (hl0 : l.stackTraces = false) (D : va_G) (K : Nat → ClassId) (z0 : Nat) (d0 : Nat) (bfq : Nat) (gvq : Nat) (ckq : Nat) (tuq : Nat) (buq : Nat) (hb : Nat) (svq : Nat) (rbq : Nat) (roq : Nat) (hh : Nat) (zq : Nat) (yq : Nat) (le : Int) (hsn : Int) (lq : Nat) (oq : Nat) (oa : Nat) (r1 : Nat) (r2 : Nat) (r3 : Nat) (r4 : Nat) (r5 : Nat) (r6 : Nat) (og : Nat → Int) (ow : List Int) (gz : Int) (us : Int) (pr : Int) (mc : Int) (ia : Int) (it : Int) (n : Int) (z : Int) (hit : it = 0 ∨ it = 1) (hTo : Tx og ow) (hCo : Chs ow) (hLo : ow.length ≤ 1200) (hz : -2147483648 ≤ z ∧ z < 2147483648) : CX l D K z0 yX10_output cX10_output 2 (some .char) rm_X10_output [.ref d0, .int (iI z)] [(d0, .inr (10, [.ref bfq, .ref gvq, .ref ckq, .ref tuq, .ref buq, .ref hb, .ref svq, .ref rbq, .ref roq, .ref hh, .ref lq, .ref zq, .ref yq, .int (iI le), .int (iI hsn)])), (lq, .inr (4, [.ref oq, .ref r1, .ref r2, .ref r3, .ref r4, .ref r5, .ref r6, .int (iI n), .int (iI gz), .int (iI us), .int (iI pr), .int (iI mc), .int (iI ia), .int (iI it)])), (oq, .inr (7, [.ref oa, .int (iI (ow.length : Int))])), (oa, aI (K 2) 1200 og)] (fun v9 u9 => v9 = some (.int (iI (lat ow z))) ∧ (it = 1) ∧ (0 ≤ z ∧ z < ow.length) ∧ u9 = [(d0, .inr (10, [.ref bfq, .ref gvq, .ref ckq, .ref tuq, .ref buq, .ref hb, .ref svq, .ref rbq, .ref roq, .ref hh, .ref lq, .ref zq, .ref yq, .int (iI le), .int (iI hsn)])), (lq, .inr (4, [.ref oq, .ref r1, .ref r2, .ref r3, .ref r4, .ref r5, .ref r6, .int (iI n), .int (iI gz), .int (iI us), .int (iI pr), .int (iI mc), .int (iI ia), .int (iI it)])), (oq, .inr (7, [.ref oa, .int (iI (ow.length : Int))])), (oa, aI (K 2) 1200 og)]) (fun E9 u9 => (E9 = "java/lang/IllegalStateException" ∧ (it = 0) ∧ u9 = [(d0, .inr (10, [.ref bfq, .ref gvq, .ref ckq, .ref tuq, .ref buq, .ref hb, .ref svq, .ref rbq, .ref roq, .ref hh, .ref lq, .ref zq, .ref yq, .int (iI le), .int (iI hsn)])), (lq, .inr (4, [.ref oq, .ref r1, .ref r2, .ref r3, .ref r4, .ref r5, .ref r6, .int (iI n), .int (iI gz), .int (iI us), .int (iI pr), .int (iI mc), .int (iI ia), .int (iI it)])), (oq, .inr (7, [.ref oa, .int (iI (ow.length : Int))])), (oa, aI (K 2) 1200 og)]) ∨ (E9 = "java/lang/IndexOutOfBoundsException" ∧ (it = 1) ∧ (¬ (0 ≤ z ∧ z < ow.length)) ∧ u9 = [(d0, .inr (10, [.ref bfq, .ref gvq, .ref ckq, .ref tuq, .ref buq, .ref hb, .ref svq, .ref rbq, .ref roq, .ref hh, .ref lq, .ref zq, .ref yq, .int (iI le), .int (iI hsn)])), (lq, .inr (4, [.ref oq, .ref r1, .ref r2, .ref r3, .ref r4, .ref r5, .ref r6, .int (iI n), .int (iI gz), .int (iI us), .int (iI pr), .int (iI mc), .int (iI ia), .int (iI it)])), (oq, .inr (7, [.ref oa, .int (iI (ow.length : Int))])), (oa, aI (K 2) 1200 og)])) := by
  refine CX.start RX10 "output" hl0 (by decide) rfl rfl (Nat.le_of_ble_eq_true rfl) ?_
  intro p9 e9 s9 m9 ag9 bl9 mt9 c9 A9 Q9 ls F G hR hX hl
  have hl : lv_has ls 2 [(0, .ref d0), (1, .int (iI z))] := hl
  refine lv_aload_n F.1 F.2.1 dX10_output_0 rfl (lv_at hl 0 rfl) ?_
  refine ad_callVX (As := []) (rest := []) F G (c_X10_requireResult l hX.1 D K z0 d0 bfq gvq ckq tuq buq hb svq rbq roq hh zq yq le hsn lq oq r1 r2 r3 r4 r5 r6 gz us pr mc ia it n hit) my_X10_requireResult mv_X10_257 (wr := [(oq, .inr (7, [.ref oa, .int (iI (ow.length : Int))])), (oa, aI (K 2) 1200 og)]) (isC := [0, 1]) (isR := [2, 3]) ⟨rfl, rfl, rfl, rfl, by decide⟩ 10 0 rfl rfl rfl rfl ⟨Nat.le_of_ble_eq_true rfl, Nat.le_of_ble_eq_true rfl⟩ ⟨Nat.le_of_ble_eq_true rfl, Nat.le_of_ble_eq_true rfl⟩ (Nat.le_of_ble_eq_true rfl) hl.1 (cells9 := 1) (slots9 := 6) ⟨rfl, rfl⟩ dX10_output_1 (fun E u H locs ce q hw_1 G hce hcv hcl => ?_) (fun v u H locs hw_1 G => ?_)
  · obtain ⟨rfl, hc_2, rfl⟩ := hw_1
    replace G := G.perm (ws' := [(d0, .inr (10, [.ref bfq, .ref gvq, .ref ckq, .ref tuq, .ref buq, .ref hb, .ref svq, .ref rbq, .ref roq, .ref hh, .ref lq, .ref zq, .ref yq, .int (iI le), .int (iI hsn)])), (lq, .inr (4, [.ref oq, .ref r1, .ref r2, .ref r3, .ref r4, .ref r5, .ref r6, .int (iI n), .int (iI gz), .int (iI us), .int (iI pr), .int (iI mc), .int (iI ia), .int (iI it)])), (oq, .inr (7, [.ref oa, .int (iI (ow.length : Int))])), (oa, aI (K 2) 1200 og)]) [2, 3, 0, 1] rfl rfl
    exact ad_out F G hX (Nat.le_of_ble_eq_true rfl) (Nat.le_of_ble_eq_true rfl) hce hcv hcl (Or.inl ⟨rfl, hc_2, rfl⟩)
  · obtain ⟨rfl, hc_3, rfl⟩ := hw_1
    replace G := G.perm (ws' := [(d0, .inr (10, [.ref bfq, .ref gvq, .ref ckq, .ref tuq, .ref buq, .ref hb, .ref svq, .ref rbq, .ref roq, .ref hh, .ref lq, .ref zq, .ref yq, .int (iI le), .int (iI hsn)])), (lq, .inr (4, [.ref oq, .ref r1, .ref r2, .ref r3, .ref r4, .ref r5, .ref r6, .int (iI n), .int (iI gz), .int (iI us), .int (iI pr), .int (iI mc), .int (iI ia), .int (iI it)])), (oq, .inr (7, [.ref oa, .int (iI (ow.length : Int))])), (oa, aI (K 2) 1200 og)]) [2, 3, 0, 1] rfl rfl
    refine W.eq (g2 := F0 m9 4 ls []) rfl ?_
    refine lv_iload_n F.1 F.2.1 dX10_output_4 rfl (lv_at hl 1 rfl) ?_
    refine ad_if_lt (tgt := 22) F (by omega) dX10_output_5 (by decide) (fun cc_4 => ?_) (fun cc_4 => ?_)
    · exact ad_throw F G hX xw_X10_118_120 hl.1 (Nat.le_of_ble_eq_true rfl) (Nat.le_of_ble_eq_true rfl) (Nat.le_of_ble_eq_true rfl) (Nat.le_of_ble_eq_true rfl) (Nat.le_of_ble_eq_true rfl) (Nat.le_of_ble_eq_true rfl) (Or.inr (⟨rfl, hc_3, (by omega), rfl⟩)) dX10_output_22 dX10_output_25 dX10_output_26 dX10_output_29
    · refine lv_iload_n F.1 F.2.1 dX10_output_8 rfl (lv_at hl 1 rfl) ?_
      refine lv_aload_n F.1 F.2.1 dX10_output_9 rfl (lv_at hl 0 rfl) ?_
      refine ad_get F G fl_X10_67 0 rfl rfl dX10_output_10 ?_
      refine ad_get F G fl_X10_260 1 rfl rfl dX10_output_13 ?_
      refine ad_callV (As := []) (rest := [.int (iI z)]) F G (c_X7_size l D K z0 oq oa (ow.length : Int) ) my_X7_size mv_X10_97 (wr := [(d0, .inr (10, [.ref bfq, .ref gvq, .ref ckq, .ref tuq, .ref buq, .ref hb, .ref svq, .ref rbq, .ref roq, .ref hh, .ref lq, .ref zq, .ref yq, .int (iI le), .int (iI hsn)])), (lq, .inr (4, [.ref oq, .ref r1, .ref r2, .ref r3, .ref r4, .ref r5, .ref r6, .int (iI n), .int (iI gz), .int (iI us), .int (iI pr), .int (iI mc), .int (iI ia), .int (iI it)])), (oa, aI (K 2) 1200 og)]) (isC := [2]) (isR := [0, 1, 3]) ⟨rfl, rfl, rfl, rfl, by decide⟩ 7 0 rfl rfl rfl rfl ⟨Nat.le_of_ble_eq_true rfl, Nat.le_of_ble_eq_true rfl⟩ ⟨Nat.le_of_ble_eq_true rfl, Nat.le_of_ble_eq_true rfl⟩ (Nat.le_of_ble_eq_true rfl) hl.1 (cells9 := 1) (slots9 := 6) ⟨rfl, rfl⟩ dX10_output_16 (fun v u H locs hw_5 G => ?_)
      obtain ⟨rfl, rfl⟩ := hw_5
      replace G := G.perm (ws' := [(d0, .inr (10, [.ref bfq, .ref gvq, .ref ckq, .ref tuq, .ref buq, .ref hb, .ref svq, .ref rbq, .ref roq, .ref hh, .ref lq, .ref zq, .ref yq, .int (iI le), .int (iI hsn)])), (lq, .inr (4, [.ref oq, .ref r1, .ref r2, .ref r3, .ref r4, .ref r5, .ref r6, .int (iI n), .int (iI gz), .int (iI us), .int (iI pr), .int (iI mc), .int (iI ia), .int (iI it)])), (oq, .inr (7, [.ref oa, .int (iI (ow.length : Int))])), (oa, aI (K 2) 1200 og)]) [0, 1, 3, 2] rfl rfl
      refine W.eq (g2 := F0 m9 19 ls [.int (iI (ow.length : Int)), .int (iI z)]) rfl ?_
      refine ad_icmp_lt (tgt := 30) F (by omega) dX10_output_19 (by decide) (fun cc_6 => ?_) (fun cc_6 => ?_)
      · refine lv_aload_n F.1 F.2.1 dX10_output_30 rfl (lv_at hl 0 rfl) ?_
        refine ad_get F G fl_X10_67 0 rfl rfl dX10_output_31 ?_
        refine ad_get F G fl_X10_260 1 rfl rfl dX10_output_34 ?_
        refine lv_iload_n F.1 F.2.1 dX10_output_37 rfl (lv_at hl 1 rfl) ?_
        refine ad_callV (As := [.int (iI z)]) (rest := []) F G (c_X7_at l D K z0 oq oa 1200 og ow z hTo hCo (by omega) hz) my_X7_at mv_X10_263 (wr := [(d0, .inr (10, [.ref bfq, .ref gvq, .ref ckq, .ref tuq, .ref buq, .ref hb, .ref svq, .ref rbq, .ref roq, .ref hh, .ref lq, .ref zq, .ref yq, .int (iI le), .int (iI hsn)])), (lq, .inr (4, [.ref oq, .ref r1, .ref r2, .ref r3, .ref r4, .ref r5, .ref r6, .int (iI n), .int (iI gz), .int (iI us), .int (iI pr), .int (iI mc), .int (iI ia), .int (iI it)]))]) (isC := [2, 3]) (isR := [0, 1]) ⟨rfl, rfl, rfl, rfl, by decide⟩ 7 0 rfl rfl rfl rfl ⟨Nat.le_of_ble_eq_true rfl, Nat.le_of_ble_eq_true rfl⟩ ⟨Nat.le_of_ble_eq_true rfl, Nat.le_of_ble_eq_true rfl⟩ (Nat.le_of_ble_eq_true rfl) hl.1 (cells9 := 1) (slots9 := 6) ⟨rfl, rfl⟩ dX10_output_38 (fun v u H locs hw_7 G => ?_)
        obtain ⟨rfl, rfl⟩ := hw_7
        replace G := G.perm (ws' := [(d0, .inr (10, [.ref bfq, .ref gvq, .ref ckq, .ref tuq, .ref buq, .ref hb, .ref svq, .ref rbq, .ref roq, .ref hh, .ref lq, .ref zq, .ref yq, .int (iI le), .int (iI hsn)])), (lq, .inr (4, [.ref oq, .ref r1, .ref r2, .ref r3, .ref r4, .ref r5, .ref r6, .int (iI n), .int (iI gz), .int (iI us), .int (iI pr), .int (iI mc), .int (iI ia), .int (iI it)])), (oq, .inr (7, [.ref oa, .int (iI (ow.length : Int))])), (oa, aI (K 2) 1200 og)]) [0, 1, 2, 3] rfl rfl
        refine W.eq (g2 := F0 m9 41 ls [.int (iI (lat ow z))]) rfl ?_
        exact ad_zreturn F G hR rfl (Nat.le_of_ble_eq_true rfl) (Nat.le_of_ble_eq_true rfl) (iI_charN (lat_ch hCo _)).1 ⟨rfl, hc_3, (by omega), rfl⟩ dX10_output_41
      · exact ad_throw F G hX xw_X10_118_120 hl.1 (Nat.le_of_ble_eq_true rfl) (Nat.le_of_ble_eq_true rfl) (Nat.le_of_ble_eq_true rfl) (Nat.le_of_ble_eq_true rfl) (Nat.le_of_ble_eq_true rfl) (Nat.le_of_ble_eq_true rfl) (Or.inr (⟨rfl, hc_3, (by omega), rfl⟩)) dX10_output_22 dX10_output_25 dX10_output_26 dX10_output_29

def rm_X10_takeBack : Room := { frames := 9, cells := 2, slots := 12, locals := 170 }
set_option maxHeartbeats 4000000 in
set_option maxRecDepth 100000 in
theorem c_X10_takeBack (l : Launch) (hl0 : l.stackTraces = false) (D : va_G) (K : Nat → ClassId) (z0 : Nat) (d0 : Nat) (bfq : Nat) (gvq : Nat) (ckq : Nat) (tuq : Nat) (buq : Nat) (hb : Nat) (svq : Nat) (rbq : Nat) (roq : Nat) (hh : Nat) (zq : Nat) (yq : Nat) (le : Int) (hsn : Int) (lq : Nat) (oq : Nat) (oa : Nat) (r1 : Nat) (r2 : Nat) (r3 : Nat) (r4 : Nat) (r5 : Nat) (r6 : Nat) (og : Nat → Int) (ow : List Int) (gz : Int) (us : Int) (pr : Int) (mc : Int) (ia : Int) (it : Int) (n : Int) (ba : Nat) (g : Nat → Int) (w : List Int) (hit : it = 0 ∨ it = 1) (hTo : Tx og ow) (hCo : Chs ow) (hLo : ow.length ≤ 1200) : CX l D K z0 yX10_takeBack cX10_takeBack 1 (some .int) rm_X10_takeBack [.ref d0] [(d0, .inr (10, [.ref bfq, .ref gvq, .ref ckq, .ref tuq, .ref buq, .ref hb, .ref svq, .ref rbq, .ref roq, .ref hh, .ref lq, .ref zq, .ref yq, .int (iI le), .int (iI hsn)])), (lq, .inr (4, [.ref oq, .ref r1, .ref r2, .ref r3, .ref r4, .ref r5, .ref r6, .int (iI n), .int (iI gz), .int (iI us), .int (iI pr), .int (iI mc), .int (iI ia), .int (iI it)])), (oq, .inr (7, [.ref oa, .int (iI (ow.length : Int))])), (oa, aI (K 2) 1200 og), (bfq, .inr (7, [.ref ba, .int (iI (w.length : Int))])), (ba, aI (K 2) 100 g)] (fun v9 u9 => ∃ (g2 : Nat → Int), v9 = some (.int (iI (ow.length : Int))) ∧ (it = 1) ∧ (ow.length ≤ 100) ∧ (Tx g2 ow) ∧ u9 = [(d0, .inr (10, [.ref bfq, .ref gvq, .ref ckq, .ref tuq, .ref buq, .ref hb, .ref svq, .ref rbq, .ref roq, .ref hh, .ref lq, .ref zq, .ref yq, .int (iI le), .int (iI hsn)])), (lq, .inr (4, [.ref oq, .ref r1, .ref r2, .ref r3, .ref r4, .ref r5, .ref r6, .int (iI n), .int (iI gz), .int (iI us), .int (iI pr), .int (iI mc), .int (iI ia), .int (iI it)])), (oq, .inr (7, [.ref oa, .int (iI (ow.length : Int))])), (oa, aI (K 2) 1200 og), (bfq, .inr (7, [.ref ba, .int (iI (ow.length : Int))])), (ba, aI (K 2) 100 g2)]) (fun E9 u9 => (E9 = "java/lang/IllegalStateException" ∧ (it = 0) ∧ u9 = [(d0, .inr (10, [.ref bfq, .ref gvq, .ref ckq, .ref tuq, .ref buq, .ref hb, .ref svq, .ref rbq, .ref roq, .ref hh, .ref lq, .ref zq, .ref yq, .int (iI le), .int (iI hsn)])), (lq, .inr (4, [.ref oq, .ref r1, .ref r2, .ref r3, .ref r4, .ref r5, .ref r6, .int (iI n), .int (iI gz), .int (iI us), .int (iI pr), .int (iI mc), .int (iI ia), .int (iI it)])), (oq, .inr (7, [.ref oa, .int (iI (ow.length : Int))])), (oa, aI (K 2) 1200 og), (bfq, .inr (7, [.ref ba, .int (iI (w.length : Int))])), (ba, aI (K 2) 100 g)]) ∨ (E9 = "java/lang/UnsupportedOperationException" ∧ (it = 1) ∧ (100 < ow.length) ∧ u9 = [(d0, .inr (10, [.ref bfq, .ref gvq, .ref ckq, .ref tuq, .ref buq, .ref hb, .ref svq, .ref rbq, .ref roq, .ref hh, .ref lq, .ref zq, .ref yq, .int (iI le), .int (iI hsn)])), (lq, .inr (4, [.ref oq, .ref r1, .ref r2, .ref r3, .ref r4, .ref r5, .ref r6, .int (iI n), .int (iI gz), .int (iI us), .int (iI pr), .int (iI mc), .int (iI ia), .int (iI it)])), (oq, .inr (7, [.ref oa, .int (iI (ow.length : Int))])), (oa, aI (K 2) 1200 og), (bfq, .inr (7, [.ref ba, .int (iI (w.length : Int))])), (ba, aI (K 2) 100 g)])) := by
  refine CX.start RX10 "takeBack" hl0 (by decide) rfl rfl (Nat.le_of_ble_eq_true rfl) ?_
  intro p9 e9 s9 m9 ag9 bl9 mt9 c9 A9 Q9 ls F G hR hX hl
  have hl : lv_has ls 1 [(0, .ref d0)] := hl
  refine lv_aload_n F.1 F.2.1 dX10_takeBack_0 rfl (lv_at hl 0 rfl) ?_
  refine ad_callVX (As := []) (rest := []) F G (c_X10_requireResult l hX.1 D K z0 d0 bfq gvq ckq tuq buq hb svq rbq roq hh zq yq le hsn lq oq r1 r2 r3 r4 r5 r6 gz us pr mc ia it n hit) my_X10_requireResult mv_X10_257 (wr := [(oq, .inr (7, [.ref oa, .int (iI (ow.length : Int))])), (oa, aI (K 2) 1200 og), (bfq, .inr (7, [.ref ba, .int (iI (w.length : Int))])), (ba, aI (K 2) 100 g)]) (isC := [0, 1]) (isR := [2, 3, 4, 5]) ⟨rfl, rfl, rfl, rfl, by decide⟩ 10 0 rfl rfl rfl rfl ⟨Nat.le_of_ble_eq_true rfl, Nat.le_of_ble_eq_true rfl⟩ ⟨Nat.le_of_ble_eq_true rfl, Nat.le_of_ble_eq_true rfl⟩ (Nat.le_of_ble_eq_true rfl) hl.1 (cells9 := 1) (slots9 := 6) ⟨rfl, rfl⟩ dX10_takeBack_1 (fun E u H locs ce q hw_1 G hce hcv hcl => ?_) (fun v u H locs hw_1 G => ?_)
  · obtain ⟨rfl, hc_2, rfl⟩ := hw_1
    replace G := G.perm (ws' := [(d0, .inr (10, [.ref bfq, .ref gvq, .ref ckq, .ref tuq, .ref buq, .ref hb, .ref svq, .ref rbq, .ref roq, .ref hh, .ref lq, .ref zq, .ref yq, .int (iI le), .int (iI hsn)])), (lq, .inr (4, [.ref oq, .ref r1, .ref r2, .ref r3, .ref r4, .ref r5, .ref r6, .int (iI n), .int (iI gz), .int (iI us), .int (iI pr), .int (iI mc), .int (iI ia), .int (iI it)])), (oq, .inr (7, [.ref oa, .int (iI (ow.length : Int))])), (oa, aI (K 2) 1200 og), (bfq, .inr (7, [.ref ba, .int (iI (w.length : Int))])), (ba, aI (K 2) 100 g)]) [4, 5, 0, 1, 2, 3] rfl rfl
    exact ad_out F G hX (Nat.le_of_ble_eq_true rfl) (Nat.le_of_ble_eq_true rfl) hce hcv hcl (Or.inl ⟨rfl, hc_2, rfl⟩)
  · obtain ⟨rfl, hc_3, rfl⟩ := hw_1
    replace G := G.perm (ws' := [(d0, .inr (10, [.ref bfq, .ref gvq, .ref ckq, .ref tuq, .ref buq, .ref hb, .ref svq, .ref rbq, .ref roq, .ref hh, .ref lq, .ref zq, .ref yq, .int (iI le), .int (iI hsn)])), (lq, .inr (4, [.ref oq, .ref r1, .ref r2, .ref r3, .ref r4, .ref r5, .ref r6, .int (iI n), .int (iI gz), .int (iI us), .int (iI pr), .int (iI mc), .int (iI ia), .int (iI it)])), (oq, .inr (7, [.ref oa, .int (iI (ow.length : Int))])), (oa, aI (K 2) 1200 og), (bfq, .inr (7, [.ref ba, .int (iI (w.length : Int))])), (ba, aI (K 2) 100 g)]) [4, 5, 0, 1, 2, 3] rfl rfl
    refine W.eq (g2 := F0 m9 4 ls []) rfl ?_
    refine lv_aload_n F.1 F.2.1 dX10_takeBack_4 rfl (lv_at hl 0 rfl) ?_
    refine ad_get F G fl_X10_67 0 rfl rfl dX10_takeBack_5 ?_
    refine ad_get F G fl_X10_260 1 rfl rfl dX10_takeBack_8 ?_
    refine ad_callV (As := []) (rest := []) F G (c_X7_size l D K z0 oq oa (ow.length : Int) ) my_X7_size mv_X10_97 (wr := [(d0, .inr (10, [.ref bfq, .ref gvq, .ref ckq, .ref tuq, .ref buq, .ref hb, .ref svq, .ref rbq, .ref roq, .ref hh, .ref lq, .ref zq, .ref yq, .int (iI le), .int (iI hsn)])), (lq, .inr (4, [.ref oq, .ref r1, .ref r2, .ref r3, .ref r4, .ref r5, .ref r6, .int (iI n), .int (iI gz), .int (iI us), .int (iI pr), .int (iI mc), .int (iI ia), .int (iI it)])), (oa, aI (K 2) 1200 og), (bfq, .inr (7, [.ref ba, .int (iI (w.length : Int))])), (ba, aI (K 2) 100 g)]) (isC := [2]) (isR := [0, 1, 3, 4, 5]) ⟨rfl, rfl, rfl, rfl, by decide⟩ 7 0 rfl rfl rfl rfl ⟨Nat.le_of_ble_eq_true rfl, Nat.le_of_ble_eq_true rfl⟩ ⟨Nat.le_of_ble_eq_true rfl, Nat.le_of_ble_eq_true rfl⟩ (Nat.le_of_ble_eq_true rfl) hl.1 (cells9 := 1) (slots9 := 6) ⟨rfl, rfl⟩ dX10_takeBack_11 (fun v u H locs hw_4 G => ?_)
    obtain ⟨rfl, rfl⟩ := hw_4
    replace G := G.perm (ws' := [(d0, .inr (10, [.ref bfq, .ref gvq, .ref ckq, .ref tuq, .ref buq, .ref hb, .ref svq, .ref rbq, .ref roq, .ref hh, .ref lq, .ref zq, .ref yq, .int (iI le), .int (iI hsn)])), (lq, .inr (4, [.ref oq, .ref r1, .ref r2, .ref r3, .ref r4, .ref r5, .ref r6, .int (iI n), .int (iI gz), .int (iI us), .int (iI pr), .int (iI mc), .int (iI ia), .int (iI it)])), (oq, .inr (7, [.ref oa, .int (iI (ow.length : Int))])), (oa, aI (K 2) 1200 og), (bfq, .inr (7, [.ref ba, .int (iI (w.length : Int))])), (ba, aI (K 2) 100 g)]) [0, 1, 5, 2, 3, 4] rfl rfl
    refine W.eq (g2 := F0 m9 14 ls [.int (iI (ow.length : Int))]) rfl ?_
    refine ad_bipush F dX10_takeBack_14 (by decide) ?_
    refine ad_icmp_le (tgt := 27) F (by omega) dX10_takeBack_16 (by decide) (fun cc_5 => ?_) (fun cc_5 => ?_)
    · refine lv_aload_n F.1 F.2.1 dX10_takeBack_27 rfl (lv_at hl 0 rfl) ?_
      refine ad_get F G fl_X10_14 0 rfl rfl dX10_takeBack_28 ?_
      refine ad_callV (As := []) (rest := []) F G (c_X7_empty l D K z0 bfq ba (w.length : Int) ) my_X7_empty mv_X10_125 (wr := [(d0, .inr (10, [.ref bfq, .ref gvq, .ref ckq, .ref tuq, .ref buq, .ref hb, .ref svq, .ref rbq, .ref roq, .ref hh, .ref lq, .ref zq, .ref yq, .int (iI le), .int (iI hsn)])), (lq, .inr (4, [.ref oq, .ref r1, .ref r2, .ref r3, .ref r4, .ref r5, .ref r6, .int (iI n), .int (iI gz), .int (iI us), .int (iI pr), .int (iI mc), .int (iI ia), .int (iI it)])), (oq, .inr (7, [.ref oa, .int (iI (ow.length : Int))])), (oa, aI (K 2) 1200 og), (ba, aI (K 2) 100 g)]) (isC := [4]) (isR := [0, 1, 2, 3, 5]) ⟨rfl, rfl, rfl, rfl, by decide⟩ 7 0 rfl rfl rfl rfl ⟨Nat.le_of_ble_eq_true rfl, Nat.le_of_ble_eq_true rfl⟩ ⟨Nat.le_of_ble_eq_true rfl, Nat.le_of_ble_eq_true rfl⟩ (Nat.le_of_ble_eq_true rfl) hl.1 (cells9 := 1) (slots9 := 6) ⟨rfl, rfl⟩ dX10_takeBack_31 (fun v u H locs hw_6 G => ?_)
      obtain ⟨rfl, rfl⟩ := hw_6
      replace G := G.perm (ws' := [(d0, .inr (10, [.ref bfq, .ref gvq, .ref ckq, .ref tuq, .ref buq, .ref hb, .ref svq, .ref rbq, .ref roq, .ref hh, .ref lq, .ref zq, .ref yq, .int (iI le), .int (iI hsn)])), (lq, .inr (4, [.ref oq, .ref r1, .ref r2, .ref r3, .ref r4, .ref r5, .ref r6, .int (iI n), .int (iI gz), .int (iI us), .int (iI pr), .int (iI mc), .int (iI ia), .int (iI it)])), (oq, .inr (7, [.ref oa, .int (iI (ow.length : Int))])), (oa, aI (K 2) 1200 og), (bfq, .inr (7, [.ref ba, .int (iI 0)])), (ba, aI (K 2) 100 g)]) [0, 1, 2, 3, 5, 4] rfl rfl
      refine W.eq (g2 := F0 m9 34 ls []) rfl ?_
      refine lv_aload_n F.1 F.2.1 dX10_takeBack_34 rfl (lv_at hl 0 rfl) ?_
      refine ad_get F G fl_X10_14 0 rfl rfl dX10_takeBack_35 ?_
      refine lv_aload_n F.1 F.2.1 dX10_takeBack_38 rfl (lv_at hl 0 rfl) ?_
      refine ad_get F G fl_X10_67 0 rfl rfl dX10_takeBack_39 ?_
      refine ad_get F G fl_X10_260 1 rfl rfl dX10_takeBack_42 ?_
      refine ad_iconst F dX10_takeBack_45 ?_
      refine lv_aload_n F.1 F.2.1 dX10_takeBack_46 rfl (lv_at hl 0 rfl) ?_
      refine ad_get F G fl_X10_67 0 rfl rfl dX10_takeBack_47 ?_
      refine ad_get F G fl_X10_260 1 rfl rfl dX10_takeBack_50 ?_
      refine ad_callV (As := []) (rest := [.int (iI 0), .ref oq, .ref bfq]) F G (c_X7_size l D K z0 oq oa (ow.length : Int) ) my_X7_size mv_X10_97 (wr := [(d0, .inr (10, [.ref bfq, .ref gvq, .ref ckq, .ref tuq, .ref buq, .ref hb, .ref svq, .ref rbq, .ref roq, .ref hh, .ref lq, .ref zq, .ref yq, .int (iI le), .int (iI hsn)])), (lq, .inr (4, [.ref oq, .ref r1, .ref r2, .ref r3, .ref r4, .ref r5, .ref r6, .int (iI n), .int (iI gz), .int (iI us), .int (iI pr), .int (iI mc), .int (iI ia), .int (iI it)])), (oa, aI (K 2) 1200 og), (bfq, .inr (7, [.ref ba, .int (iI 0)])), (ba, aI (K 2) 100 g)]) (isC := [2]) (isR := [0, 1, 3, 4, 5]) ⟨rfl, rfl, rfl, rfl, by decide⟩ 7 0 rfl rfl rfl rfl ⟨Nat.le_of_ble_eq_true rfl, Nat.le_of_ble_eq_true rfl⟩ ⟨Nat.le_of_ble_eq_true rfl, Nat.le_of_ble_eq_true rfl⟩ (Nat.le_of_ble_eq_true rfl) hl.1 (cells9 := 1) (slots9 := 6) ⟨rfl, rfl⟩ dX10_takeBack_53 (fun v u H locs hw_7 G => ?_)
      obtain ⟨rfl, rfl⟩ := hw_7
      replace G := G.perm (ws' := [(d0, .inr (10, [.ref bfq, .ref gvq, .ref ckq, .ref tuq, .ref buq, .ref hb, .ref svq, .ref rbq, .ref roq, .ref hh, .ref lq, .ref zq, .ref yq, .int (iI le), .int (iI hsn)])), (lq, .inr (4, [.ref oq, .ref r1, .ref r2, .ref r3, .ref r4, .ref r5, .ref r6, .int (iI n), .int (iI gz), .int (iI us), .int (iI pr), .int (iI mc), .int (iI ia), .int (iI it)])), (oq, .inr (7, [.ref oa, .int (iI (ow.length : Int))])), (oa, aI (K 2) 1200 og), (bfq, .inr (7, [.ref ba, .int (iI 0)])), (ba, aI (K 2) 100 g)]) [0, 1, 5, 2, 3, 4] rfl rfl
      refine W.eq (g2 := F0 m9 56 ls [.int (iI (ow.length : Int)), .int (iI 0), .ref oq, .ref bfq]) rfl ?_
      refine ad_callV (As := [.ref oq, .int (iI 0), .int (iI (ow.length : Int))]) (rest := []) F G (c_X7_addPart l D K z0 bfq ba 100 g ([] : List Int) oq oa 1200 og ow 0 (ow.length : Int) Tx_nil hTo hCo (by omega) (by omega) (by simp only [List.length_nil]; omega)) my_X7_addPart mv_X10_267 (wr := [(d0, .inr (10, [.ref bfq, .ref gvq, .ref ckq, .ref tuq, .ref buq, .ref hb, .ref svq, .ref rbq, .ref roq, .ref hh, .ref lq, .ref zq, .ref yq, .int (iI le), .int (iI hsn)])), (lq, .inr (4, [.ref oq, .ref r1, .ref r2, .ref r3, .ref r4, .ref r5, .ref r6, .int (iI n), .int (iI gz), .int (iI us), .int (iI pr), .int (iI mc), .int (iI ia), .int (iI it)]))]) (isC := [4, 5, 2, 3]) (isR := [0, 1]) ⟨rfl, rfl, rfl, rfl, by decide⟩ 7 0 rfl rfl rfl rfl ⟨Nat.le_of_ble_eq_true rfl, Nat.le_of_ble_eq_true rfl⟩ ⟨Nat.le_of_ble_eq_true rfl, Nat.le_of_ble_eq_true rfl⟩ (Nat.le_of_ble_eq_true rfl) hl.1 (cells9 := 1) (slots9 := 6) ⟨rfl, rfl⟩ dX10_takeBack_56 (fun v u H locs hw_8 G => ?_)
      obtain ⟨g2_9, w2_10, rfl, hc_11, hc_12, rfl⟩ := hw_8
      replace G := G.perm (ws' := [(d0, .inr (10, [.ref bfq, .ref gvq, .ref ckq, .ref tuq, .ref buq, .ref hb, .ref svq, .ref rbq, .ref roq, .ref hh, .ref lq, .ref zq, .ref yq, .int (iI le), .int (iI hsn)])), (lq, .inr (4, [.ref oq, .ref r1, .ref r2, .ref r3, .ref r4, .ref r5, .ref r6, .int (iI n), .int (iI gz), .int (iI us), .int (iI pr), .int (iI mc), .int (iI ia), .int (iI it)])), (oq, .inr (7, [.ref oa, .int (iI (ow.length : Int))])), (oa, aI (K 2) 1200 og), (bfq, .inr (7, [.ref ba, .int (iI (w2_10.length : Int))])), (ba, aI (K 2) 100 g2_9)]) [0, 1, 4, 5, 2, 3] rfl rfl
      refine W.eq (g2 := F0 m9 59 ls []) rfl ?_
      rw [List.nil_append, sl_all] at hc_11
      rw [hc_11] at G hc_12
      refine lv_aload_n F.1 F.2.1 dX10_takeBack_59 rfl (lv_at hl 0 rfl) ?_
      refine ad_get F G fl_X10_14 0 rfl rfl dX10_takeBack_60 ?_
      refine ad_callV (As := []) (rest := []) F G (c_X7_size l D K z0 bfq ba (ow.length : Int) ) my_X7_size mv_X10_97 (wr := [(d0, .inr (10, [.ref bfq, .ref gvq, .ref ckq, .ref tuq, .ref buq, .ref hb, .ref svq, .ref rbq, .ref roq, .ref hh, .ref lq, .ref zq, .ref yq, .int (iI le), .int (iI hsn)])), (lq, .inr (4, [.ref oq, .ref r1, .ref r2, .ref r3, .ref r4, .ref r5, .ref r6, .int (iI n), .int (iI gz), .int (iI us), .int (iI pr), .int (iI mc), .int (iI ia), .int (iI it)])), (oq, .inr (7, [.ref oa, .int (iI (ow.length : Int))])), (oa, aI (K 2) 1200 og), (ba, aI (K 2) 100 g2_9)]) (isC := [4]) (isR := [0, 1, 2, 3, 5]) ⟨rfl, rfl, rfl, rfl, by decide⟩ 7 0 rfl rfl rfl rfl ⟨Nat.le_of_ble_eq_true rfl, Nat.le_of_ble_eq_true rfl⟩ ⟨Nat.le_of_ble_eq_true rfl, Nat.le_of_ble_eq_true rfl⟩ (Nat.le_of_ble_eq_true rfl) hl.1 (cells9 := 1) (slots9 := 6) ⟨rfl, rfl⟩ dX10_takeBack_63 (fun v u H locs hw_13 G => ?_)
      obtain ⟨rfl, rfl⟩ := hw_13
      replace G := G.perm (ws' := [(d0, .inr (10, [.ref bfq, .ref gvq, .ref ckq, .ref tuq, .ref buq, .ref hb, .ref svq, .ref rbq, .ref roq, .ref hh, .ref lq, .ref zq, .ref yq, .int (iI le), .int (iI hsn)])), (lq, .inr (4, [.ref oq, .ref r1, .ref r2, .ref r3, .ref r4, .ref r5, .ref r6, .int (iI n), .int (iI gz), .int (iI us), .int (iI pr), .int (iI mc), .int (iI ia), .int (iI it)])), (oq, .inr (7, [.ref oa, .int (iI (ow.length : Int))])), (oa, aI (K 2) 1200 og), (bfq, .inr (7, [.ref ba, .int (iI (ow.length : Int))])), (ba, aI (K 2) 100 g2_9)]) [0, 1, 2, 3, 5, 4] rfl rfl
      refine W.eq (g2 := F0 m9 66 ls [.int (iI (ow.length : Int))]) rfl ?_
      exact ad_ireturn F G hR rfl (Nat.le_of_ble_eq_true rfl) (Nat.le_of_ble_eq_true rfl) ⟨g2_9, rfl, hc_3, (by omega), hc_12, rfl⟩ dX10_takeBack_66
    · exact ad_throw F G hX xw_X10_101_103 hl.1 (Nat.le_of_ble_eq_true rfl) (Nat.le_of_ble_eq_true rfl) (Nat.le_of_ble_eq_true rfl) (Nat.le_of_ble_eq_true rfl) (Nat.le_of_ble_eq_true rfl) (Nat.le_of_ble_eq_true rfl) (Or.inr (⟨rfl, hc_3, (by omega), rfl⟩)) dX10_takeBack_19 dX10_takeBack_22 dX10_takeBack_23 dX10_takeBack_26

def rm_X10_word : Room := { frames := 9, cells := 2, slots := 12, locals := 170 }
set_option maxHeartbeats 4000000 in
set_option maxRecDepth 100000 in
theorem c_X10_word (l : Launch) (hl0 : l.stackTraces = false) (D : va_G) (K : Nat → ClassId) (z0 : Nat) (d0 : Nat) (bfq : Nat) (gvq : Nat) (ckq : Nat) (tuq : Nat) (buq : Nat) (hb : Nat) (svq : Nat) (rbq : Nat) (roq : Nat) (hh : Nat) (zq : Nat) (yq : Nat) (le : Int) (hsn : Int) (lq : Nat) (oq : Nat) (r1 : Nat) (r2 : Nat) (r3 : Nat) (r4 : Nat) (r5 : Nat) (r6 : Nat) (gd : Nat → Int) (gm : Nat → Int) (ge : Nat → Int) (gv : Nat → Int) (gn : Nat → Int) (gt : Nat → Int) (qs : List Wq) (gz : Int) (us : Int) (pr : Int) (mc : Int) (ia : Int) (it : Int) (z : Int) (w : Int) (hit : it = 0 ∨ it = 1) (hQ : QRep gd gm ge gv gn gt qs) (hql : qs.length ≤ 50) (hz : -2147483648 ≤ z ∧ z < 2147483648) (hw : -2147483648 ≤ w ∧ w < 2147483648) : CX l D K z0 yX10_word cX10_word 3 (some .int) rm_X10_word [.ref d0, .int (iI z), .int (iI w)] [(d0, .inr (10, [.ref bfq, .ref gvq, .ref ckq, .ref tuq, .ref buq, .ref hb, .ref svq, .ref rbq, .ref roq, .ref hh, .ref lq, .ref zq, .ref yq, .int (iI le), .int (iI hsn)])), (lq, .inr (4, [.ref oq, .ref r1, .ref r2, .ref r3, .ref r4, .ref r5, .ref r6, .int (iI (qs.length : Int)), .int (iI gz), .int (iI us), .int (iI pr), .int (iI mc), .int (iI ia), .int (iI it)])), (r1, aI (K 0) 50 gd), (r2, aI (K 0) 50 gm), (r3, aI (K 0) 50 ge), (r4, aI (K 0) 50 gv), (r5, aI (K 0) 50 gn), (r6, aI (K 0) 50 gt)] (fun v9 u9 => v9 = some (.int (iI (quA (qget qs z) w))) ∧ (it = 1) ∧ (0 ≤ z ∧ z < qs.length) ∧ (0 ≤ w ∧ w ≤ 5) ∧ u9 = [(d0, .inr (10, [.ref bfq, .ref gvq, .ref ckq, .ref tuq, .ref buq, .ref hb, .ref svq, .ref rbq, .ref roq, .ref hh, .ref lq, .ref zq, .ref yq, .int (iI le), .int (iI hsn)])), (lq, .inr (4, [.ref oq, .ref r1, .ref r2, .ref r3, .ref r4, .ref r5, .ref r6, .int (iI (qs.length : Int)), .int (iI gz), .int (iI us), .int (iI pr), .int (iI mc), .int (iI ia), .int (iI it)])), (r1, aI (K 0) 50 gd), (r2, aI (K 0) 50 gm), (r3, aI (K 0) 50 ge), (r4, aI (K 0) 50 gv), (r5, aI (K 0) 50 gn), (r6, aI (K 0) 50 gt)]) (fun E9 u9 => (E9 = "java/lang/IllegalStateException" ∧ (it = 0) ∧ u9 = [(d0, .inr (10, [.ref bfq, .ref gvq, .ref ckq, .ref tuq, .ref buq, .ref hb, .ref svq, .ref rbq, .ref roq, .ref hh, .ref lq, .ref zq, .ref yq, .int (iI le), .int (iI hsn)])), (lq, .inr (4, [.ref oq, .ref r1, .ref r2, .ref r3, .ref r4, .ref r5, .ref r6, .int (iI (qs.length : Int)), .int (iI gz), .int (iI us), .int (iI pr), .int (iI mc), .int (iI ia), .int (iI it)])), (r1, aI (K 0) 50 gd), (r2, aI (K 0) 50 gm), (r3, aI (K 0) 50 ge), (r4, aI (K 0) 50 gv), (r5, aI (K 0) 50 gn), (r6, aI (K 0) 50 gt)]) ∨ (E9 = "java/lang/IndexOutOfBoundsException" ∧ (it = 1) ∧ (¬ (0 ≤ z ∧ z < qs.length)) ∧ u9 = [(d0, .inr (10, [.ref bfq, .ref gvq, .ref ckq, .ref tuq, .ref buq, .ref hb, .ref svq, .ref rbq, .ref roq, .ref hh, .ref lq, .ref zq, .ref yq, .int (iI le), .int (iI hsn)])), (lq, .inr (4, [.ref oq, .ref r1, .ref r2, .ref r3, .ref r4, .ref r5, .ref r6, .int (iI (qs.length : Int)), .int (iI gz), .int (iI us), .int (iI pr), .int (iI mc), .int (iI ia), .int (iI it)])), (r1, aI (K 0) 50 gd), (r2, aI (K 0) 50 gm), (r3, aI (K 0) 50 ge), (r4, aI (K 0) 50 gv), (r5, aI (K 0) 50 gn), (r6, aI (K 0) 50 gt)]) ∨ (E9 = "java/lang/IllegalArgumentException" ∧ (it = 1) ∧ (0 ≤ z ∧ z < qs.length) ∧ (¬ (0 ≤ w ∧ w ≤ 5)) ∧ u9 = [(d0, .inr (10, [.ref bfq, .ref gvq, .ref ckq, .ref tuq, .ref buq, .ref hb, .ref svq, .ref rbq, .ref roq, .ref hh, .ref lq, .ref zq, .ref yq, .int (iI le), .int (iI hsn)])), (lq, .inr (4, [.ref oq, .ref r1, .ref r2, .ref r3, .ref r4, .ref r5, .ref r6, .int (iI (qs.length : Int)), .int (iI gz), .int (iI us), .int (iI pr), .int (iI mc), .int (iI ia), .int (iI it)])), (r1, aI (K 0) 50 gd), (r2, aI (K 0) 50 gm), (r3, aI (K 0) 50 ge), (r4, aI (K 0) 50 gv), (r5, aI (K 0) 50 gn), (r6, aI (K 0) 50 gt)])) := by
  refine CX.start RX10 "word" hl0 (by decide) rfl rfl (Nat.le_of_ble_eq_true rfl) ?_
  intro p9 e9 s9 m9 ag9 bl9 mt9 c9 A9 Q9 ls F G hR hX hl
  have hl : lv_has ls 3 [(0, .ref d0), (1, .int (iI z)), (2, .int (iI w))] := hl
  refine lv_aload_n F.1 F.2.1 dX10_word_0 rfl (lv_at hl 0 rfl) ?_
  refine ad_callVX (As := []) (rest := []) F G (c_X10_requireResult l hX.1 D K z0 d0 bfq gvq ckq tuq buq hb svq rbq roq hh zq yq le hsn lq oq r1 r2 r3 r4 r5 r6 gz us pr mc ia it (qs.length : Int) hit) my_X10_requireResult mv_X10_257 (wr := [(r1, aI (K 0) 50 gd), (r2, aI (K 0) 50 gm), (r3, aI (K 0) 50 ge), (r4, aI (K 0) 50 gv), (r5, aI (K 0) 50 gn), (r6, aI (K 0) 50 gt)]) (isC := [0, 1]) (isR := [2, 3, 4, 5, 6, 7]) ⟨rfl, rfl, rfl, rfl, by decide⟩ 10 0 rfl rfl rfl rfl ⟨Nat.le_of_ble_eq_true rfl, Nat.le_of_ble_eq_true rfl⟩ ⟨Nat.le_of_ble_eq_true rfl, Nat.le_of_ble_eq_true rfl⟩ (Nat.le_of_ble_eq_true rfl) hl.1 (cells9 := 1) (slots9 := 6) ⟨rfl, rfl⟩ dX10_word_1 (fun E u H locs ce q hw_1 G hce hcv hcl => ?_) (fun v u H locs hw_1 G => ?_)
  · obtain ⟨rfl, hc_2, rfl⟩ := hw_1
    replace G := G.perm (ws' := [(d0, .inr (10, [.ref bfq, .ref gvq, .ref ckq, .ref tuq, .ref buq, .ref hb, .ref svq, .ref rbq, .ref roq, .ref hh, .ref lq, .ref zq, .ref yq, .int (iI le), .int (iI hsn)])), (lq, .inr (4, [.ref oq, .ref r1, .ref r2, .ref r3, .ref r4, .ref r5, .ref r6, .int (iI (qs.length : Int)), .int (iI gz), .int (iI us), .int (iI pr), .int (iI mc), .int (iI ia), .int (iI it)])), (r1, aI (K 0) 50 gd), (r2, aI (K 0) 50 gm), (r3, aI (K 0) 50 ge), (r4, aI (K 0) 50 gv), (r5, aI (K 0) 50 gn), (r6, aI (K 0) 50 gt)]) [6, 7, 0, 1, 2, 3, 4, 5] rfl rfl
    exact ad_out F G hX (Nat.le_of_ble_eq_true rfl) (Nat.le_of_ble_eq_true rfl) hce hcv hcl (Or.inl ⟨rfl, hc_2, rfl⟩)
  · obtain ⟨rfl, hc_3, rfl⟩ := hw_1
    replace G := G.perm (ws' := [(d0, .inr (10, [.ref bfq, .ref gvq, .ref ckq, .ref tuq, .ref buq, .ref hb, .ref svq, .ref rbq, .ref roq, .ref hh, .ref lq, .ref zq, .ref yq, .int (iI le), .int (iI hsn)])), (lq, .inr (4, [.ref oq, .ref r1, .ref r2, .ref r3, .ref r4, .ref r5, .ref r6, .int (iI (qs.length : Int)), .int (iI gz), .int (iI us), .int (iI pr), .int (iI mc), .int (iI ia), .int (iI it)])), (r1, aI (K 0) 50 gd), (r2, aI (K 0) 50 gm), (r3, aI (K 0) 50 ge), (r4, aI (K 0) 50 gv), (r5, aI (K 0) 50 gn), (r6, aI (K 0) 50 gt)]) [6, 7, 0, 1, 2, 3, 4, 5] rfl rfl
    refine W.eq (g2 := F0 m9 4 ls []) rfl ?_
    refine lv_iload_n F.1 F.2.1 dX10_word_4 rfl (lv_at hl 1 rfl) ?_
    refine ad_if_lt (tgt := 19) F (by omega) dX10_word_5 (by decide) (fun cc_4 => ?_) (fun cc_4 => ?_)
    · exact ad_throw F G hX xw_X10_118_120 hl.1 (Nat.le_of_ble_eq_true rfl) (Nat.le_of_ble_eq_true rfl) (Nat.le_of_ble_eq_true rfl) (Nat.le_of_ble_eq_true rfl) (Nat.le_of_ble_eq_true rfl) (Nat.le_of_ble_eq_true rfl) (Or.inr (Or.inl ⟨rfl, hc_3, (by omega), rfl⟩)) dX10_word_19 dX10_word_22 dX10_word_23 dX10_word_26
    · refine lv_iload_n F.1 F.2.1 dX10_word_8 rfl (lv_at hl 1 rfl) ?_
      refine lv_aload_n F.1 F.2.1 dX10_word_9 rfl (lv_at hl 0 rfl) ?_
      refine ad_get F G fl_X10_67 0 rfl rfl dX10_word_10 ?_
      refine ad_get F G fl_X10_271 1 rfl rfl dX10_word_13 ?_
      refine ad_icmp_lt (tgt := 27) F (by omega) dX10_word_16 (by decide) (fun cc_5 => ?_) (fun cc_5 => ?_)
      · refine lv_iload_n F.1 F.2.1 dX10_word_27 rfl (lv_at hl 2 rfl) ?_
        rcases (show (w < 0 ∨ 5 < w) ∨ w = 0 ∨ w = 1 ∨ w = 2 ∨ w = 3 ∨ w = 4 ∨ w = 5 by omega) with cs_6 | cs_6 | cs_6 | cs_6 | cs_6 | cs_6 | cs_6
        · refine ad_tabOut (tgt := 128) F dX10_word_28 (by omega) cs_6 (by decide) ?_
          exact ad_throw F G hX xw_X10_94_96 hl.1 (Nat.le_of_ble_eq_true rfl) (Nat.le_of_ble_eq_true rfl) (Nat.le_of_ble_eq_true rfl) (Nat.le_of_ble_eq_true rfl) (Nat.le_of_ble_eq_true rfl) (Nat.le_of_ble_eq_true rfl) (Or.inr (Or.inr (⟨rfl, hc_3, (by omega), (by omega), rfl⟩))) dX10_word_128 dX10_word_131 dX10_word_132 dX10_word_135
        · refine ad_tabIn (v := 0) (tgt := 68) F dX10_word_28 cs_6 (by decide) (by decide) (by decide) rfl (by decide) ?_
          refine lv_aload_n F.1 F.2.1 dX10_word_68 rfl (lv_at hl 0 rfl) ?_
          refine ad_get F G fl_X10_67 0 rfl rfl dX10_word_69 ?_
          refine ad_get F G fl_X10_274 1 rfl rfl dX10_word_72 ?_
          refine lv_iload_n F.1 F.2.1 dX10_word_75 rfl (lv_at hl 1 rfl) ?_
          refine ad_iald F G 2 rfl (w := (qget qs z).1) (by omega) (QRep_at hQ (by omega) (by omega)).1 dX10_word_76 ?_
          exact ad_ireturn F G hR rfl (Nat.le_of_ble_eq_true rfl) (Nat.le_of_ble_eq_true rfl) ⟨(ad_eqi (by rw [cs_6]; rfl)), hc_3, (by omega), (by omega), rfl⟩ dX10_word_77
        · refine ad_tabIn (v := 1) (tgt := 78) F dX10_word_28 cs_6 (by decide) (by decide) (by decide) rfl (by decide) ?_
          refine lv_aload_n F.1 F.2.1 dX10_word_78 rfl (lv_at hl 0 rfl) ?_
          refine ad_get F G fl_X10_67 0 rfl rfl dX10_word_79 ?_
          refine ad_get F G fl_X10_277 1 rfl rfl dX10_word_82 ?_
          refine lv_iload_n F.1 F.2.1 dX10_word_85 rfl (lv_at hl 1 rfl) ?_
          refine ad_iald F G 3 rfl (w := (qget qs z).2.1) (by omega) (QRep_at hQ (by omega) (by omega)).2.1 dX10_word_86 ?_
          exact ad_ireturn F G hR rfl (Nat.le_of_ble_eq_true rfl) (Nat.le_of_ble_eq_true rfl) ⟨(ad_eqi (by rw [cs_6]; rfl)), hc_3, (by omega), (by omega), rfl⟩ dX10_word_87
        · refine ad_tabIn (v := 2) (tgt := 88) F dX10_word_28 cs_6 (by decide) (by decide) (by decide) rfl (by decide) ?_
          refine lv_aload_n F.1 F.2.1 dX10_word_88 rfl (lv_at hl 0 rfl) ?_
          refine ad_get F G fl_X10_67 0 rfl rfl dX10_word_89 ?_
          refine ad_get F G fl_X10_280 1 rfl rfl dX10_word_92 ?_
          refine lv_iload_n F.1 F.2.1 dX10_word_95 rfl (lv_at hl 1 rfl) ?_
          refine ad_iald F G 4 rfl (w := (qget qs z).2.2.1) (by omega) (QRep_at hQ (by omega) (by omega)).2.2.1 dX10_word_96 ?_
          exact ad_ireturn F G hR rfl (Nat.le_of_ble_eq_true rfl) (Nat.le_of_ble_eq_true rfl) ⟨(ad_eqi (by rw [cs_6]; rfl)), hc_3, (by omega), (by omega), rfl⟩ dX10_word_97
        · refine ad_tabIn (v := 3) (tgt := 98) F dX10_word_28 cs_6 (by decide) (by decide) (by decide) rfl (by decide) ?_
          refine lv_aload_n F.1 F.2.1 dX10_word_98 rfl (lv_at hl 0 rfl) ?_
          refine ad_get F G fl_X10_67 0 rfl rfl dX10_word_99 ?_
          refine ad_get F G fl_X10_283 1 rfl rfl dX10_word_102 ?_
          refine lv_iload_n F.1 F.2.1 dX10_word_105 rfl (lv_at hl 1 rfl) ?_
          refine ad_iald F G 5 rfl (w := (qget qs z).2.2.2.1) (by omega) (QRep_at hQ (by omega) (by omega)).2.2.2.1 dX10_word_106 ?_
          exact ad_ireturn F G hR rfl (Nat.le_of_ble_eq_true rfl) (Nat.le_of_ble_eq_true rfl) ⟨(ad_eqi (by rw [cs_6]; rfl)), hc_3, (by omega), (by omega), rfl⟩ dX10_word_107
        · refine ad_tabIn (v := 4) (tgt := 108) F dX10_word_28 cs_6 (by decide) (by decide) (by decide) rfl (by decide) ?_
          refine lv_aload_n F.1 F.2.1 dX10_word_108 rfl (lv_at hl 0 rfl) ?_
          refine ad_get F G fl_X10_67 0 rfl rfl dX10_word_109 ?_
          refine ad_get F G fl_X10_286 1 rfl rfl dX10_word_112 ?_
          refine lv_iload_n F.1 F.2.1 dX10_word_115 rfl (lv_at hl 1 rfl) ?_
          refine ad_iald F G 6 rfl (w := (qget qs z).2.2.2.2.1) (by omega) (QRep_at hQ (by omega) (by omega)).2.2.2.2.1 dX10_word_116 ?_
          exact ad_ireturn F G hR rfl (Nat.le_of_ble_eq_true rfl) (Nat.le_of_ble_eq_true rfl) ⟨(ad_eqi (by rw [cs_6]; rfl)), hc_3, (by omega), (by omega), rfl⟩ dX10_word_117
        · refine ad_tabIn (v := 5) (tgt := 118) F dX10_word_28 cs_6 (by decide) (by decide) (by decide) rfl (by decide) ?_
          refine lv_aload_n F.1 F.2.1 dX10_word_118 rfl (lv_at hl 0 rfl) ?_
          refine ad_get F G fl_X10_67 0 rfl rfl dX10_word_119 ?_
          refine ad_get F G fl_X10_289 1 rfl rfl dX10_word_122 ?_
          refine lv_iload_n F.1 F.2.1 dX10_word_125 rfl (lv_at hl 1 rfl) ?_
          refine ad_iald F G 7 rfl (w := (qget qs z).2.2.2.2.2) (by omega) (QRep_at hQ (by omega) (by omega)).2.2.2.2.2 dX10_word_126 ?_
          exact ad_ireturn F G hR rfl (Nat.le_of_ble_eq_true rfl) (Nat.le_of_ble_eq_true rfl) ⟨(ad_eqi (by rw [cs_6]; rfl)), hc_3, (by omega), (by omega), rfl⟩ dX10_word_127
      · exact ad_throw F G hX xw_X10_118_120 hl.1 (Nat.le_of_ble_eq_true rfl) (Nat.le_of_ble_eq_true rfl) (Nat.le_of_ble_eq_true rfl) (Nat.le_of_ble_eq_true rfl) (Nat.le_of_ble_eq_true rfl) (Nat.le_of_ble_eq_true rfl) (Or.inr (Or.inl ⟨rfl, hc_3, (by omega), rfl⟩)) dX10_word_19 dX10_word_22 dX10_word_23 dX10_word_26

def rm_X10_result : Room := { frames := 9, cells := 2, slots := 12, locals := 170 }
set_option maxHeartbeats 4000000 in
set_option maxRecDepth 100000 in
theorem c_X10_result (l : Launch) (hl0 : l.stackTraces = false) (D : va_G) (K : Nat → ClassId) (z0 : Nat) (d0 : Nat) (bfq : Nat) (gvq : Nat) (ckq : Nat) (tuq : Nat) (buq : Nat) (hb : Nat) (svq : Nat) (rbq : Nat) (roq : Nat) (hh : Nat) (zq : Nat) (yq : Nat) (le : Int) (hsn : Int) (lq : Nat) (oq : Nat) (oa : Nat) (r1 : Nat) (r2 : Nat) (r3 : Nat) (r4 : Nat) (r5 : Nat) (r6 : Nat) (gz : Int) (us : Int) (pr : Int) (mc : Int) (ia : Int) (it : Int) (n : Int) (ol : Int) (w : Int) (hit : it = 0 ∨ it = 1) (hia : ia = 0 ∨ ia = 1) (hw : -2147483648 ≤ w ∧ w < 2147483648) : CX l D K z0 yX10_result cX10_result 2 (some .int) rm_X10_result [.ref d0, .int (iI w)] [(d0, .inr (10, [.ref bfq, .ref gvq, .ref ckq, .ref tuq, .ref buq, .ref hb, .ref svq, .ref rbq, .ref roq, .ref hh, .ref lq, .ref zq, .ref yq, .int (iI le), .int (iI hsn)])), (lq, .inr (4, [.ref oq, .ref r1, .ref r2, .ref r3, .ref r4, .ref r5, .ref r6, .int (iI n), .int (iI gz), .int (iI us), .int (iI pr), .int (iI mc), .int (iI ia), .int (iI it)])), (oq, .inr (7, [.ref oa, .int (iI ol)]))] (fun v9 u9 => v9 = some (.int (iI (reA n ol gz us mc ia w))) ∧ (it = 1) ∧ (0 ≤ w ∧ w ≤ 5) ∧ u9 = [(d0, .inr (10, [.ref bfq, .ref gvq, .ref ckq, .ref tuq, .ref buq, .ref hb, .ref svq, .ref rbq, .ref roq, .ref hh, .ref lq, .ref zq, .ref yq, .int (iI le), .int (iI hsn)])), (lq, .inr (4, [.ref oq, .ref r1, .ref r2, .ref r3, .ref r4, .ref r5, .ref r6, .int (iI n), .int (iI gz), .int (iI us), .int (iI pr), .int (iI mc), .int (iI ia), .int (iI it)])), (oq, .inr (7, [.ref oa, .int (iI ol)]))]) (fun E9 u9 => (E9 = "java/lang/IllegalStateException" ∧ (it = 0) ∧ u9 = [(d0, .inr (10, [.ref bfq, .ref gvq, .ref ckq, .ref tuq, .ref buq, .ref hb, .ref svq, .ref rbq, .ref roq, .ref hh, .ref lq, .ref zq, .ref yq, .int (iI le), .int (iI hsn)])), (lq, .inr (4, [.ref oq, .ref r1, .ref r2, .ref r3, .ref r4, .ref r5, .ref r6, .int (iI n), .int (iI gz), .int (iI us), .int (iI pr), .int (iI mc), .int (iI ia), .int (iI it)])), (oq, .inr (7, [.ref oa, .int (iI ol)]))]) ∨ (E9 = "java/lang/IllegalArgumentException" ∧ (it = 1) ∧ (¬ (0 ≤ w ∧ w ≤ 5)) ∧ u9 = [(d0, .inr (10, [.ref bfq, .ref gvq, .ref ckq, .ref tuq, .ref buq, .ref hb, .ref svq, .ref rbq, .ref roq, .ref hh, .ref lq, .ref zq, .ref yq, .int (iI le), .int (iI hsn)])), (lq, .inr (4, [.ref oq, .ref r1, .ref r2, .ref r3, .ref r4, .ref r5, .ref r6, .int (iI n), .int (iI gz), .int (iI us), .int (iI pr), .int (iI mc), .int (iI ia), .int (iI it)])), (oq, .inr (7, [.ref oa, .int (iI ol)]))])) := by
  refine CX.start RX10 "result" hl0 (by decide) rfl rfl (Nat.le_of_ble_eq_true rfl) ?_
  intro p9 e9 s9 m9 ag9 bl9 mt9 c9 A9 Q9 ls F G hR hX hl
  have hl : lv_has ls 2 [(0, .ref d0), (1, .int (iI w))] := hl
  refine lv_aload_n F.1 F.2.1 dX10_result_0 rfl (lv_at hl 0 rfl) ?_
  refine ad_callVX (As := []) (rest := []) F G (c_X10_requireResult l hX.1 D K z0 d0 bfq gvq ckq tuq buq hb svq rbq roq hh zq yq le hsn lq oq r1 r2 r3 r4 r5 r6 gz us pr mc ia it n hit) my_X10_requireResult mv_X10_257 (wr := [(oq, .inr (7, [.ref oa, .int (iI ol)]))]) (isC := [0, 1]) (isR := [2]) ⟨rfl, rfl, rfl, rfl, by decide⟩ 10 0 rfl rfl rfl rfl ⟨Nat.le_of_ble_eq_true rfl, Nat.le_of_ble_eq_true rfl⟩ ⟨Nat.le_of_ble_eq_true rfl, Nat.le_of_ble_eq_true rfl⟩ (Nat.le_of_ble_eq_true rfl) hl.1 (cells9 := 1) (slots9 := 6) ⟨rfl, rfl⟩ dX10_result_1 (fun E u H locs ce q hw_1 G hce hcv hcl => ?_) (fun v u H locs hw_1 G => ?_)
  · obtain ⟨rfl, hc_2, rfl⟩ := hw_1
    replace G := G.perm (ws' := [(d0, .inr (10, [.ref bfq, .ref gvq, .ref ckq, .ref tuq, .ref buq, .ref hb, .ref svq, .ref rbq, .ref roq, .ref hh, .ref lq, .ref zq, .ref yq, .int (iI le), .int (iI hsn)])), (lq, .inr (4, [.ref oq, .ref r1, .ref r2, .ref r3, .ref r4, .ref r5, .ref r6, .int (iI n), .int (iI gz), .int (iI us), .int (iI pr), .int (iI mc), .int (iI ia), .int (iI it)])), (oq, .inr (7, [.ref oa, .int (iI ol)]))]) [1, 2, 0] rfl rfl
    exact ad_out F G hX (Nat.le_of_ble_eq_true rfl) (Nat.le_of_ble_eq_true rfl) hce hcv hcl (Or.inl ⟨rfl, hc_2, rfl⟩)
  · obtain ⟨rfl, hc_3, rfl⟩ := hw_1
    replace G := G.perm (ws' := [(d0, .inr (10, [.ref bfq, .ref gvq, .ref ckq, .ref tuq, .ref buq, .ref hb, .ref svq, .ref rbq, .ref roq, .ref hh, .ref lq, .ref zq, .ref yq, .int (iI le), .int (iI hsn)])), (lq, .inr (4, [.ref oq, .ref r1, .ref r2, .ref r3, .ref r4, .ref r5, .ref r6, .int (iI n), .int (iI gz), .int (iI us), .int (iI pr), .int (iI mc), .int (iI ia), .int (iI it)])), (oq, .inr (7, [.ref oa, .int (iI ol)]))]) [1, 2, 0] rfl rfl
    refine W.eq (g2 := F0 m9 4 ls []) rfl ?_
    refine lv_iload_n F.1 F.2.1 dX10_result_4 rfl (lv_at hl 1 rfl) ?_
    rcases (show (w < 0 ∨ 5 < w) ∨ w = 0 ∨ w = 1 ∨ w = 2 ∨ w = 3 ∨ w = 4 ∨ w = 5 by omega) with cs_4 | cs_4 | cs_4 | cs_4 | cs_4 | cs_4 | cs_4
    · refine ad_tabOut (tgt := 103) F dX10_result_5 (by omega) cs_4 (by decide) ?_
      exact ad_throw F G hX xw_X10_94_96 hl.1 (Nat.le_of_ble_eq_true rfl) (Nat.le_of_ble_eq_true rfl) (Nat.le_of_ble_eq_true rfl) (Nat.le_of_ble_eq_true rfl) (Nat.le_of_ble_eq_true rfl) (Nat.le_of_ble_eq_true rfl) (Or.inr (⟨rfl, hc_3, (by omega), rfl⟩)) dX10_result_103 dX10_result_106 dX10_result_107 dX10_result_110
    · refine ad_tabIn (v := 0) (tgt := 44) F dX10_result_5 cs_4 (by decide) (by decide) (by decide) rfl (by decide) ?_
      refine lv_aload_n F.1 F.2.1 dX10_result_44 rfl (lv_at hl 0 rfl) ?_
      refine ad_get F G fl_X10_67 0 rfl rfl dX10_result_45 ?_
      refine ad_get F G fl_X10_271 1 rfl rfl dX10_result_48 ?_
      exact ad_ireturn F G hR rfl (Nat.le_of_ble_eq_true rfl) (Nat.le_of_ble_eq_true rfl) ⟨(ad_eqi (by rw [cs_4]; rfl)), hc_3, (by omega), rfl⟩ dX10_result_51
    · refine ad_tabIn (v := 1) (tgt := 52) F dX10_result_5 cs_4 (by decide) (by decide) (by decide) rfl (by decide) ?_
      refine lv_aload_n F.1 F.2.1 dX10_result_52 rfl (lv_at hl 0 rfl) ?_
      refine ad_get F G fl_X10_67 0 rfl rfl dX10_result_53 ?_
      refine ad_get F G fl_X10_260 1 rfl rfl dX10_result_56 ?_
      refine ad_callV (As := []) (rest := []) F G (c_X7_size l D K z0 oq oa ol ) my_X7_size mv_X10_97 (wr := [(d0, .inr (10, [.ref bfq, .ref gvq, .ref ckq, .ref tuq, .ref buq, .ref hb, .ref svq, .ref rbq, .ref roq, .ref hh, .ref lq, .ref zq, .ref yq, .int (iI le), .int (iI hsn)])), (lq, .inr (4, [.ref oq, .ref r1, .ref r2, .ref r3, .ref r4, .ref r5, .ref r6, .int (iI n), .int (iI gz), .int (iI us), .int (iI pr), .int (iI mc), .int (iI ia), .int (iI it)]))]) (isC := [2]) (isR := [0, 1]) ⟨rfl, rfl, rfl, rfl, by decide⟩ 7 0 rfl rfl rfl rfl ⟨Nat.le_of_ble_eq_true rfl, Nat.le_of_ble_eq_true rfl⟩ ⟨Nat.le_of_ble_eq_true rfl, Nat.le_of_ble_eq_true rfl⟩ (Nat.le_of_ble_eq_true rfl) hl.1 (cells9 := 1) (slots9 := 6) ⟨rfl, rfl⟩ dX10_result_59 (fun v u H locs hw_5 G => ?_)
      obtain ⟨rfl, rfl⟩ := hw_5
      replace G := G.perm (ws' := [(d0, .inr (10, [.ref bfq, .ref gvq, .ref ckq, .ref tuq, .ref buq, .ref hb, .ref svq, .ref rbq, .ref roq, .ref hh, .ref lq, .ref zq, .ref yq, .int (iI le), .int (iI hsn)])), (lq, .inr (4, [.ref oq, .ref r1, .ref r2, .ref r3, .ref r4, .ref r5, .ref r6, .int (iI n), .int (iI gz), .int (iI us), .int (iI pr), .int (iI mc), .int (iI ia), .int (iI it)])), (oq, .inr (7, [.ref oa, .int (iI ol)]))]) [0, 1, 2] rfl rfl
      refine W.eq (g2 := F0 m9 62 ls [.int (iI ol)]) rfl ?_
      exact ad_ireturn F G hR rfl (Nat.le_of_ble_eq_true rfl) (Nat.le_of_ble_eq_true rfl) ⟨(ad_eqi (by rw [cs_4]; rfl)), hc_3, (by omega), rfl⟩ dX10_result_62
    · refine ad_tabIn (v := 2) (tgt := 63) F dX10_result_5 cs_4 (by decide) (by decide) (by decide) rfl (by decide) ?_
      refine lv_aload_n F.1 F.2.1 dX10_result_63 rfl (lv_at hl 0 rfl) ?_
      refine ad_get F G fl_X10_67 0 rfl rfl dX10_result_64 ?_
      refine ad_get F G fl_X10_292 1 rfl rfl dX10_result_67 ?_
      exact ad_ireturn F G hR rfl (Nat.le_of_ble_eq_true rfl) (Nat.le_of_ble_eq_true rfl) ⟨(ad_eqi (by rw [cs_4]; rfl)), hc_3, (by omega), rfl⟩ dX10_result_70
    · refine ad_tabIn (v := 3) (tgt := 71) F dX10_result_5 cs_4 (by decide) (by decide) (by decide) rfl (by decide) ?_
      refine lv_aload_n F.1 F.2.1 dX10_result_71 rfl (lv_at hl 0 rfl) ?_
      refine ad_get F G fl_X10_67 0 rfl rfl dX10_result_72 ?_
      refine ad_get F G fl_X10_295 1 rfl rfl dX10_result_75 ?_
      exact ad_ireturn F G hR rfl (Nat.le_of_ble_eq_true rfl) (Nat.le_of_ble_eq_true rfl) ⟨(ad_eqi (by rw [cs_4]; rfl)), hc_3, (by omega), rfl⟩ dX10_result_78
    · refine ad_tabIn (v := 4) (tgt := 79) F dX10_result_5 cs_4 (by decide) (by decide) (by decide) rfl (by decide) ?_
      refine lv_aload_n F.1 F.2.1 dX10_result_79 rfl (lv_at hl 0 rfl) ?_
      refine ad_get F G fl_X10_67 0 rfl rfl dX10_result_80 ?_
      refine ad_get F G fl_X10_298 1 rfl rfl dX10_result_83 ?_
      exact ad_ireturn F G hR rfl (Nat.le_of_ble_eq_true rfl) (Nat.le_of_ble_eq_true rfl) ⟨(ad_eqi (by rw [cs_4]; rfl)), hc_3, (by omega), rfl⟩ dX10_result_86
    · refine ad_tabIn (v := 5) (tgt := 87) F dX10_result_5 cs_4 (by decide) (by decide) (by decide) rfl (by decide) ?_
      refine lv_aload_n F.1 F.2.1 dX10_result_87 rfl (lv_at hl 0 rfl) ?_
      refine ad_get F G fl_X10_67 0 rfl rfl dX10_result_88 ?_
      refine ad_get F G fl_X10_301 1 rfl rfl dX10_result_91 ?_
      refine ad_if_eq (tgt := 101) F (by omega) dX10_result_94 (by decide) (fun cc_6 => ?_) (fun cc_6 => ?_)
      · refine ad_iconst F dX10_result_101 ?_
        exact ad_ireturn F G hR rfl (Nat.le_of_ble_eq_true rfl) (Nat.le_of_ble_eq_true rfl) ⟨(ad_eqi (by rw [cs_4]; show _ = ia; omega)), hc_3, (by omega), rfl⟩ dX10_result_102
      · refine ad_iconst F dX10_result_97 ?_
        refine lv_goto (tgt := 102) F.1 F.2.1 dX10_result_98 (by decide) ?_
        exact ad_ireturn F G hR rfl (Nat.le_of_ble_eq_true rfl) (Nat.le_of_ble_eq_true rfl) ⟨(ad_eqi (by rw [cs_4]; show _ = ia; omega)), hc_3, (by omega), rfl⟩ dX10_result_102

def rm_X10_meanPriority : Room := { frames := 9, cells := 2, slots := 12, locals := 170 }
set_option maxHeartbeats 4000000 in
set_option maxRecDepth 100000 in
theorem c_X10_meanPriority (l : Launch) (hl0 : l.stackTraces = false) (D : va_G) (K : Nat → ClassId) (z0 : Nat) (d0 : Nat) (bfq : Nat) (gvq : Nat) (ckq : Nat) (tuq : Nat) (buq : Nat) (hb : Nat) (svq : Nat) (rbq : Nat) (roq : Nat) (hh : Nat) (zq : Nat) (yq : Nat) (le : Int) (hsn : Int) (lq : Nat) (oq : Nat) (r1 : Nat) (r2 : Nat) (r3 : Nat) (r4 : Nat) (r5 : Nat) (r6 : Nat) (gz : Int) (us : Int) (pr : Int) (mc : Int) (ia : Int) (it : Int) (n : Int) (hit : it = 0 ∨ it = 1) (hus : 0 ≤ us ∧ us ≤ 100 ∧ 0 ≤ pr ∧ pr ≤ 9900) : CX l D K z0 yX10_meanPriority cX10_meanPriority 1 (some .float) rm_X10_meanPriority [.ref d0] [(d0, .inr (10, [.ref bfq, .ref gvq, .ref ckq, .ref tuq, .ref buq, .ref hb, .ref svq, .ref rbq, .ref roq, .ref hh, .ref lq, .ref zq, .ref yq, .int (iI le), .int (iI hsn)])), (lq, .inr (4, [.ref oq, .ref r1, .ref r2, .ref r3, .ref r4, .ref r5, .ref r6, .int (iI n), .int (iI gz), .int (iI us), .int (iI pr), .int (iI mc), .int (iI ia), .int (iI it)]))] (fun v9 u9 => v9 = some (.float (shr pr us)) ∧ (it = 1) ∧ (0 < us) ∧ u9 = [(d0, .inr (10, [.ref bfq, .ref gvq, .ref ckq, .ref tuq, .ref buq, .ref hb, .ref svq, .ref rbq, .ref roq, .ref hh, .ref lq, .ref zq, .ref yq, .int (iI le), .int (iI hsn)])), (lq, .inr (4, [.ref oq, .ref r1, .ref r2, .ref r3, .ref r4, .ref r5, .ref r6, .int (iI n), .int (iI gz), .int (iI us), .int (iI pr), .int (iI mc), .int (iI ia), .int (iI it)]))]) (fun E9 u9 => (E9 = "java/lang/IllegalStateException" ∧ (it = 0) ∧ u9 = [(d0, .inr (10, [.ref bfq, .ref gvq, .ref ckq, .ref tuq, .ref buq, .ref hb, .ref svq, .ref rbq, .ref roq, .ref hh, .ref lq, .ref zq, .ref yq, .int (iI le), .int (iI hsn)])), (lq, .inr (4, [.ref oq, .ref r1, .ref r2, .ref r3, .ref r4, .ref r5, .ref r6, .int (iI n), .int (iI gz), .int (iI us), .int (iI pr), .int (iI mc), .int (iI ia), .int (iI it)]))]) ∨ (E9 = "java/lang/ArithmeticException" ∧ (it = 1) ∧ (us = 0) ∧ u9 = [(d0, .inr (10, [.ref bfq, .ref gvq, .ref ckq, .ref tuq, .ref buq, .ref hb, .ref svq, .ref rbq, .ref roq, .ref hh, .ref lq, .ref zq, .ref yq, .int (iI le), .int (iI hsn)])), (lq, .inr (4, [.ref oq, .ref r1, .ref r2, .ref r3, .ref r4, .ref r5, .ref r6, .int (iI n), .int (iI gz), .int (iI us), .int (iI pr), .int (iI mc), .int (iI ia), .int (iI it)]))])) := by
  refine CX.start RX10 "meanPriority" hl0 (by decide) rfl rfl (Nat.le_of_ble_eq_true rfl) ?_
  intro p9 e9 s9 m9 ag9 bl9 mt9 c9 A9 Q9 ls F G hR hX hl
  have hl : lv_has ls 1 [(0, .ref d0)] := hl
  refine lv_aload_n F.1 F.2.1 dX10_meanPriority_0 rfl (lv_at hl 0 rfl) ?_
  refine ad_callVX (As := []) (rest := []) F G (c_X10_requireResult l hX.1 D K z0 d0 bfq gvq ckq tuq buq hb svq rbq roq hh zq yq le hsn lq oq r1 r2 r3 r4 r5 r6 gz us pr mc ia it n hit) my_X10_requireResult mv_X10_257 (wr := []) (isC := [0, 1]) (isR := []) ⟨rfl, rfl, rfl, rfl, by decide⟩ 10 0 rfl rfl rfl rfl ⟨Nat.le_of_ble_eq_true rfl, Nat.le_of_ble_eq_true rfl⟩ ⟨Nat.le_of_ble_eq_true rfl, Nat.le_of_ble_eq_true rfl⟩ (Nat.le_of_ble_eq_true rfl) hl.1 (cells9 := 1) (slots9 := 6) ⟨rfl, rfl⟩ dX10_meanPriority_1 (fun E u H locs ce q hw_1 G hce hcv hcl => ?_) (fun v u H locs hw_1 G => ?_)
  · obtain ⟨rfl, hc_2, rfl⟩ := hw_1
    replace G := G.perm (ws' := [(d0, .inr (10, [.ref bfq, .ref gvq, .ref ckq, .ref tuq, .ref buq, .ref hb, .ref svq, .ref rbq, .ref roq, .ref hh, .ref lq, .ref zq, .ref yq, .int (iI le), .int (iI hsn)])), (lq, .inr (4, [.ref oq, .ref r1, .ref r2, .ref r3, .ref r4, .ref r5, .ref r6, .int (iI n), .int (iI gz), .int (iI us), .int (iI pr), .int (iI mc), .int (iI ia), .int (iI it)]))]) [0, 1] rfl rfl
    exact ad_out F G hX (Nat.le_of_ble_eq_true rfl) (Nat.le_of_ble_eq_true rfl) hce hcv hcl (Or.inl ⟨rfl, hc_2, rfl⟩)
  · obtain ⟨rfl, hc_3, rfl⟩ := hw_1
    replace G := G.perm (ws' := [(d0, .inr (10, [.ref bfq, .ref gvq, .ref ckq, .ref tuq, .ref buq, .ref hb, .ref svq, .ref rbq, .ref roq, .ref hh, .ref lq, .ref zq, .ref yq, .int (iI le), .int (iI hsn)])), (lq, .inr (4, [.ref oq, .ref r1, .ref r2, .ref r3, .ref r4, .ref r5, .ref r6, .int (iI n), .int (iI gz), .int (iI us), .int (iI pr), .int (iI mc), .int (iI ia), .int (iI it)]))]) [0, 1] rfl rfl
    refine W.eq (g2 := F0 m9 4 ls []) rfl ?_
    refine lv_aload_n F.1 F.2.1 dX10_meanPriority_4 rfl (lv_at hl 0 rfl) ?_
    refine ad_get F G fl_X10_67 0 rfl rfl dX10_meanPriority_5 ?_
    refine ad_get F G fl_X10_295 1 rfl rfl dX10_meanPriority_8 ?_
    refine ad_if_gt (tgt := 22) F (by omega) dX10_meanPriority_11 (by decide) (fun cc_4 => ?_) (fun cc_4 => ?_)
    · refine lv_aload_n F.1 F.2.1 dX10_meanPriority_22 rfl (lv_at hl 0 rfl) ?_
      refine ad_get F G fl_X10_67 0 rfl rfl dX10_meanPriority_23 ?_
      refine ad_get F G fl_X10_317 1 rfl rfl dX10_meanPriority_26 ?_
      refine lv_i2f F.1 F.2.1 dX10_meanPriority_29 ?_
      refine lv_aload_n F.1 F.2.1 dX10_meanPriority_30 rfl (lv_at hl 0 rfl) ?_
      refine ad_get F G fl_X10_67 0 rfl rfl dX10_meanPriority_31 ?_
      refine ad_get F G fl_X10_295 1 rfl rfl dX10_meanPriority_34 ?_
      refine lv_i2f F.1 F.2.1 dX10_meanPriority_37 ?_
      refine lv_fdiv F.1 F.2.1 dX10_meanPriority_38 (fdiv_ok (i2f_fin (by omega)) (i2f_nz (by omega))) ?_
      exact ad_freturn F G hR rfl (Nat.le_of_ble_eq_true rfl) (Nat.le_of_ble_eq_true rfl) ⟨rfl, hc_3, cc_4, rfl⟩ dX10_meanPriority_39
    · exact ad_throw F G hX xw_X10_314_316 hl.1 (Nat.le_of_ble_eq_true rfl) (Nat.le_of_ble_eq_true rfl) (Nat.le_of_ble_eq_true rfl) (Nat.le_of_ble_eq_true rfl) (Nat.le_of_ble_eq_true rfl) (Nat.le_of_ble_eq_true rfl) (Or.inr (⟨rfl, hc_3, (by omega), rfl⟩)) dX10_meanPriority_14 dX10_meanPriority_17 dX10_meanPriority_18 dX10_meanPriority_21

def rm_X10_share : Room := { frames := 9, cells := 1, slots := 6, locals := 170 }
set_option maxHeartbeats 4000000 in
set_option maxRecDepth 100000 in
theorem c_X10_share (l : Launch) (hl0 : l.stackTraces = false) (D : va_G) (K : Nat → ClassId) (z0 : Nat) (d0 : Nat) (bfq : Nat) (gvq : Nat) (ckq : Nat) (tuq : Nat) (buq : Nat) (hb : Nat) (svq : Nat) (rbq : Nat) (roq : Nat) (hh : Nat) (zq : Nat) (yq : Nat) (le : Int) (hsn : Int) (lq : Nat) (oq : Nat) (oa : Nat) (r1 : Nat) (r2 : Nat) (r3 : Nat) (r4 : Nat) (r5 : Nat) (r6 : Nat) (gz : Int) (us : Int) (pr : Int) (mc : Int) (ia : Int) (it : Int) (n : Int) (ol : Int) (hit : it = 0 ∨ it = 1) (hol : it = 1 → (0 ≤ ol ∧ ol ≤ 1200 ∧ 1 ≤ gz ∧ gz ≤ 100)) : CX l D K z0 yX10_share cX10_share 5 (some .double) rm_X10_share [.ref d0] [(d0, .inr (10, [.ref bfq, .ref gvq, .ref ckq, .ref tuq, .ref buq, .ref hb, .ref svq, .ref rbq, .ref roq, .ref hh, .ref lq, .ref zq, .ref yq, .int (iI le), .int (iI hsn)])), (lq, .inr (4, [.ref oq, .ref r1, .ref r2, .ref r3, .ref r4, .ref r5, .ref r6, .int (iI n), .int (iI gz), .int (iI us), .int (iI pr), .int (iI mc), .int (iI ia), .int (iI it)])), (oq, .inr (7, [.ref oa, .int (iI ol)]))] (fun v9 u9 => v9 = some (.double (shD ol gz)) ∧ (it = 1) ∧ u9 = [(d0, .inr (10, [.ref bfq, .ref gvq, .ref ckq, .ref tuq, .ref buq, .ref hb, .ref svq, .ref rbq, .ref roq, .ref hh, .ref lq, .ref zq, .ref yq, .int (iI le), .int (iI hsn)])), (lq, .inr (4, [.ref oq, .ref r1, .ref r2, .ref r3, .ref r4, .ref r5, .ref r6, .int (iI n), .int (iI gz), .int (iI us), .int (iI pr), .int (iI mc), .int (iI ia), .int (iI it)])), (oq, .inr (7, [.ref oa, .int (iI ol)]))]) (fun E9 u9 => E9 = "java/lang/IllegalStateException" ∧ (it = 0) ∧ u9 = [(d0, .inr (10, [.ref bfq, .ref gvq, .ref ckq, .ref tuq, .ref buq, .ref hb, .ref svq, .ref rbq, .ref roq, .ref hh, .ref lq, .ref zq, .ref yq, .int (iI le), .int (iI hsn)])), (lq, .inr (4, [.ref oq, .ref r1, .ref r2, .ref r3, .ref r4, .ref r5, .ref r6, .int (iI n), .int (iI gz), .int (iI us), .int (iI pr), .int (iI mc), .int (iI ia), .int (iI it)])), (oq, .inr (7, [.ref oa, .int (iI ol)]))]) := by
  refine CX.start RX10 "share" hl0 (by decide) rfl rfl (Nat.le_of_ble_eq_true rfl) ?_
  intro p9 e9 s9 m9 ag9 bl9 mt9 c9 A9 Q9 ls F G hR hX hl
  have hl : lv_has ls 5 [(0, .ref d0)] := hl
  refine lv_aload_n F.1 F.2.1 dX10_share_0 rfl (lv_at hl 0 rfl) ?_
  refine ad_callVX (As := []) (rest := []) F G (c_X10_requireResult l hX.1 D K z0 d0 bfq gvq ckq tuq buq hb svq rbq roq hh zq yq le hsn lq oq r1 r2 r3 r4 r5 r6 gz us pr mc ia it n hit) my_X10_requireResult mv_X10_257 (wr := [(oq, .inr (7, [.ref oa, .int (iI ol)]))]) (isC := [0, 1]) (isR := [2]) ⟨rfl, rfl, rfl, rfl, by decide⟩ 10 0 rfl rfl rfl rfl ⟨Nat.le_of_ble_eq_true rfl, Nat.le_of_ble_eq_true rfl⟩ ⟨Nat.le_of_ble_eq_true rfl, Nat.le_of_ble_eq_true rfl⟩ (Nat.le_of_ble_eq_true rfl) hl.1 (cells9 := 1) (slots9 := 6) ⟨rfl, rfl⟩ dX10_share_1 (fun E u H locs ce q hw_1 G hce hcv hcl => ?_) (fun v u H locs hw_1 G => ?_)
  · obtain ⟨rfl, hc_2, rfl⟩ := hw_1
    replace G := G.perm (ws' := [(d0, .inr (10, [.ref bfq, .ref gvq, .ref ckq, .ref tuq, .ref buq, .ref hb, .ref svq, .ref rbq, .ref roq, .ref hh, .ref lq, .ref zq, .ref yq, .int (iI le), .int (iI hsn)])), (lq, .inr (4, [.ref oq, .ref r1, .ref r2, .ref r3, .ref r4, .ref r5, .ref r6, .int (iI n), .int (iI gz), .int (iI us), .int (iI pr), .int (iI mc), .int (iI ia), .int (iI it)])), (oq, .inr (7, [.ref oa, .int (iI ol)]))]) [1, 2, 0] rfl rfl
    exact ad_out F G hX (Nat.le_of_ble_eq_true rfl) (Nat.le_of_ble_eq_true rfl) hce hcv hcl ⟨rfl, hc_2, rfl⟩
  · obtain ⟨rfl, hc_3, rfl⟩ := hw_1
    replace G := G.perm (ws' := [(d0, .inr (10, [.ref bfq, .ref gvq, .ref ckq, .ref tuq, .ref buq, .ref hb, .ref svq, .ref rbq, .ref roq, .ref hh, .ref lq, .ref zq, .ref yq, .int (iI le), .int (iI hsn)])), (lq, .inr (4, [.ref oq, .ref r1, .ref r2, .ref r3, .ref r4, .ref r5, .ref r6, .int (iI n), .int (iI gz), .int (iI us), .int (iI pr), .int (iI mc), .int (iI ia), .int (iI it)])), (oq, .inr (7, [.ref oa, .int (iI ol)]))]) [1, 2, 0] rfl rfl
    refine W.eq (g2 := F0 m9 4 ls []) rfl ?_
    refine lv_aload_n F.1 F.2.1 dX10_share_4 rfl (lv_at hl 0 rfl) ?_
    refine ad_get F G fl_X10_67 0 rfl rfl dX10_share_5 ?_
    refine ad_get F G fl_X10_260 1 rfl rfl dX10_share_8 ?_
    refine ad_callV (As := []) (rest := []) F G (c_X7_size l D K z0 oq oa ol ) my_X7_size mv_X10_97 (wr := [(d0, .inr (10, [.ref bfq, .ref gvq, .ref ckq, .ref tuq, .ref buq, .ref hb, .ref svq, .ref rbq, .ref roq, .ref hh, .ref lq, .ref zq, .ref yq, .int (iI le), .int (iI hsn)])), (lq, .inr (4, [.ref oq, .ref r1, .ref r2, .ref r3, .ref r4, .ref r5, .ref r6, .int (iI n), .int (iI gz), .int (iI us), .int (iI pr), .int (iI mc), .int (iI ia), .int (iI it)]))]) (isC := [2]) (isR := [0, 1]) ⟨rfl, rfl, rfl, rfl, by decide⟩ 7 0 rfl rfl rfl rfl ⟨Nat.le_of_ble_eq_true rfl, Nat.le_of_ble_eq_true rfl⟩ ⟨Nat.le_of_ble_eq_true rfl, Nat.le_of_ble_eq_true rfl⟩ (Nat.le_of_ble_eq_true rfl) hl.1 (cells9 := 1) (slots9 := 6) ⟨rfl, rfl⟩ dX10_share_11 (fun v u H locs hw_4 G => ?_)
    obtain ⟨rfl, rfl⟩ := hw_4
    replace G := G.perm (ws' := [(d0, .inr (10, [.ref bfq, .ref gvq, .ref ckq, .ref tuq, .ref buq, .ref hb, .ref svq, .ref rbq, .ref roq, .ref hh, .ref lq, .ref zq, .ref yq, .int (iI le), .int (iI hsn)])), (lq, .inr (4, [.ref oq, .ref r1, .ref r2, .ref r3, .ref r4, .ref r5, .ref r6, .int (iI n), .int (iI gz), .int (iI us), .int (iI pr), .int (iI mc), .int (iI ia), .int (iI it)])), (oq, .inr (7, [.ref oa, .int (iI ol)]))]) [0, 1, 2] rfl rfl
    refine W.eq (g2 := F0 m9 14 ls [.int (iI ol)]) rfl ?_
    refine lv_i2d F.1 F.2.1 dX10_share_14 ?_
    refine lv_dstore_n (lv' := [(1, .double (FP.i2d (iI ol))), (0, .ref d0)]) F.1 F.2.1 dX10_share_15 rfl hl (by decide) rfl (fun ls hl => ?_)
    refine lv_aload_n F.1 F.2.1 dX10_share_16 rfl (lv_at hl 1 rfl) ?_
    refine ad_get F G fl_X10_67 0 rfl rfl dX10_share_17 ?_
    refine ad_get F G fl_X10_292 1 rfl rfl dX10_share_20 ?_
    refine lv_i2d F.1 F.2.1 dX10_share_23 ?_
    refine lv_dstore_n (lv' := [(3, .double (FP.i2d (iI gz))), (1, .double (FP.i2d (iI ol))), (0, .ref d0)]) F.1 F.2.1 dX10_share_24 rfl hl (by decide) rfl (fun ls hl => ?_)
    refine lv_dload_n F.1 F.2.1 dX10_share_25 rfl (lv_at hl 0 rfl) ?_
    refine lv_dconst0 F.1 F.2.1 dX10_share_26 ?_
    refine lv_dcmp F.1 F.2.1 dX10_share_27 ?_
    refine ad_top32 (y := 1) (dcmp_pos (by omega)) ?_
    refine ad_if_le (tgt := 37) F (by decide) dX10_share_28 (by decide) (fun cc_5 => absurd cc_5 (by decide)) (fun _ => ?_)
    refine lv_dload_n F.1 F.2.1 dX10_share_31 rfl (lv_at hl 1 rfl) ?_
    refine lv_dload_n F.1 F.2.1 dX10_share_32 rfl (lv_at hl 0 rfl) ?_
    refine lv_ddiv F.1 F.2.1 dX10_share_33 (ddiv_ok (i2d_fin (by omega)) (i2d_nz (by omega))) ?_
    refine lv_goto (tgt := 38) F.1 F.2.1 dX10_share_34 (by decide) ?_
    exact ad_dreturn F G hR rfl (Nat.le_of_ble_eq_true rfl) (Nat.le_of_ble_eq_true rfl) ⟨rfl, hc_3, rfl⟩ dX10_share_38
