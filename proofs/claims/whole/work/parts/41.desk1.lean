def rm_X10_requireRule : Room := { frames := 8, cells := 1, slots := 6, locals := 150 }
set_option maxHeartbeats 4000000 in
set_option maxRecDepth 100000 in
theorem c_X10_requireRule (l : Launch) (hl0 : l.stackTraces = false) (D : va_G) (K : Nat → ClassId) (z0 : Nat) (d0 : Nat) (bfq : Nat) (gvq : Nat) (ckq : Nat) (tuq : Nat) (buq : Nat) (hb : Nat) (svq : Nat) (rbq : Nat) (roq : Nat) (hh : Nat) (lq : Nat) (zq : Nat) (yq : Nat) (le : Int) (hsn : Int) (ak : Nat) (ap : Nat) (ac : Nat) (ash : Nat) (alo : Nat) (apc : Nat) (aps : Nat) (apl : Nat) (lc : Option Nat) (n : Int) (np : Int) (md : Int) (th : Int) (nc : Int) (z : Int) (hz : -2147483648 ≤ z ∧ z < 2147483648) (hn : 0 ≤ n ∧ n ≤ 24) : CX l D K z0 yX10_requireRule cX10_requireRule 2 none rm_X10_requireRule [.ref d0, .int (iI z)] [(d0, .inr (10, [.ref bfq, .ref gvq, .ref ckq, .ref tuq, .ref buq, .ref hb, .ref svq, .ref rbq, .ref roq, .ref hh, .ref lq, .ref zq, .ref yq, .int (iI le), .int (iI hsn)])), (hb, .inr (0, [.ref ak, .ref ap, .ref ac, .ref ash, .ref alo, .int (iI n), .ref apc, .ref aps, .ref apl, .int (iI np), .int (iI md), .int (iI th), va_rf lc, .int (iI nc)]))] (fun v9 u9 => v9 = none ∧ (0 ≤ z ∧ z < n) ∧ u9 = [(d0, .inr (10, [.ref bfq, .ref gvq, .ref ckq, .ref tuq, .ref buq, .ref hb, .ref svq, .ref rbq, .ref roq, .ref hh, .ref lq, .ref zq, .ref yq, .int (iI le), .int (iI hsn)])), (hb, .inr (0, [.ref ak, .ref ap, .ref ac, .ref ash, .ref alo, .int (iI n), .ref apc, .ref aps, .ref apl, .int (iI np), .int (iI md), .int (iI th), va_rf lc, .int (iI nc)]))]) (fun E9 u9 => E9 = "java/lang/IndexOutOfBoundsException" ∧ (¬ (0 ≤ z ∧ z < n)) ∧ u9 = [(d0, .inr (10, [.ref bfq, .ref gvq, .ref ckq, .ref tuq, .ref buq, .ref hb, .ref svq, .ref rbq, .ref roq, .ref hh, .ref lq, .ref zq, .ref yq, .int (iI le), .int (iI hsn)])), (hb, .inr (0, [.ref ak, .ref ap, .ref ac, .ref ash, .ref alo, .int (iI n), .ref apc, .ref aps, .ref apl, .int (iI np), .int (iI md), .int (iI th), va_rf lc, .int (iI nc)]))]) := by
  refine CX.start RX10 "requireRule" hl0 (by decide) rfl rfl (Nat.le_of_ble_eq_true rfl) ?_
  intro p9 e9 s9 m9 ag9 bl9 mt9 c9 A9 Q9 ls F G hR hX hl
  have hl : lv_has ls 2 [(0, .ref d0), (1, .int (iI z))] := hl
  refine lv_iload_n F.1 F.2.1 dX10_requireRule_0 rfl (lv_at hl 1 rfl) ?_
  refine ad_if_lt (tgt := 15) F (by omega) dX10_requireRule_1 (by decide) (fun cc_1 => ?_) (fun cc_1 => ?_)
  · exact ad_throw F G hX xw_X10_118_120 hl.1 (Nat.le_of_ble_eq_true rfl) (Nat.le_of_ble_eq_true rfl) (Nat.le_of_ble_eq_true rfl) (Nat.le_of_ble_eq_true rfl) (Nat.le_of_ble_eq_true rfl) (Nat.le_of_ble_eq_true rfl) ⟨rfl, (by omega), rfl⟩ dX10_requireRule_15 dX10_requireRule_18 dX10_requireRule_19 dX10_requireRule_22
  · refine lv_iload_n F.1 F.2.1 dX10_requireRule_4 rfl (lv_at hl 1 rfl) ?_
    refine lv_aload_n F.1 F.2.1 dX10_requireRule_5 rfl (lv_at hl 0 rfl) ?_
    refine ad_get F G fl_X10_41 0 rfl rfl dX10_requireRule_6 ?_
    refine ad_get F G fl_X10_85 1 rfl rfl dX10_requireRule_9 ?_
    refine ad_icmp_lt (tgt := 23) F (by omega) dX10_requireRule_12 (by decide) (fun cc_2 => ?_) (fun cc_2 => ?_)
    · exact ad_vreturn F G hR rfl (Nat.le_of_ble_eq_true rfl) (Nat.le_of_ble_eq_true rfl) ⟨rfl, (by omega), rfl⟩ dX10_requireRule_23
    · exact ad_throw F G hX xw_X10_118_120 hl.1 (Nat.le_of_ble_eq_true rfl) (Nat.le_of_ble_eq_true rfl) (Nat.le_of_ble_eq_true rfl) (Nat.le_of_ble_eq_true rfl) (Nat.le_of_ble_eq_true rfl) (Nat.le_of_ble_eq_true rfl) ⟨rfl, (by omega), rfl⟩ dX10_requireRule_15 dX10_requireRule_18 dX10_requireRule_19 dX10_requireRule_22

def rm_X10_requireArgument : Room := { frames := 8, cells := 1, slots := 6, locals := 150 }
set_option maxHeartbeats 4000000 in
set_option maxRecDepth 100000 in
theorem c_X10_requireArgument (l : Launch) (hl0 : l.stackTraces = false) (D : va_G) (K : Nat → ClassId) (z0 : Nat) (b : Int) (hb : b = 0 ∨ b = 1) : CX l D K z0 yX10_requireArgument cX10_requireArgument 1 none rm_X10_requireArgument [.int (iI b)] [] (fun v9 u9 => v9 = none ∧ (b = 1) ∧ u9 = []) (fun E9 u9 => E9 = "java/lang/IllegalArgumentException" ∧ (b = 0) ∧ u9 = []) := by
  refine CX.start RX10 "requireArgument" hl0 (by decide) rfl rfl (Nat.le_of_ble_eq_true rfl) ?_
  intro p9 e9 s9 m9 ag9 bl9 mt9 c9 A9 Q9 ls F G hR hX hl
  have hl : lv_has ls 1 [(0, .int (iI b))] := hl
  refine lv_iload_n F.1 F.2.1 dX10_requireArgument_0 rfl (lv_at hl 0 rfl) ?_
  refine ad_if_ne (tgt := 12) F (by omega) dX10_requireArgument_1 (by decide) (fun cc_1 => ?_) (fun cc_1 => ?_)
  · exact ad_vreturn F G hR rfl (Nat.le_of_ble_eq_true rfl) (Nat.le_of_ble_eq_true rfl) ⟨rfl, (by omega), rfl⟩ dX10_requireArgument_12
  · exact ad_throw F G hX xw_X10_94_96 hl.1 (Nat.le_of_ble_eq_true rfl) (Nat.le_of_ble_eq_true rfl) (Nat.le_of_ble_eq_true rfl) (Nat.le_of_ble_eq_true rfl) (Nat.le_of_ble_eq_true rfl) (Nat.le_of_ble_eq_true rfl) ⟨rfl, cc_1, rfl⟩ dX10_requireArgument_4 dX10_requireArgument_7 dX10_requireArgument_8 dX10_requireArgument_11

def rm_X10_requireRight : Room := { frames := 8, cells := 1, slots := 6, locals := 150 }
set_option maxHeartbeats 4000000 in
set_option maxRecDepth 100000 in
theorem c_X10_requireRight (l : Launch) (hl0 : l.stackTraces = false) (D : va_G) (K : Nat → ClassId) (z0 : Nat) (d0 : Nat) (bfq : Nat) (gvq : Nat) (ckq : Nat) (tuq : Nat) (buq : Nat) (hb : Nat) (svq : Nat) (rbq : Nat) (roq : Nat) (hh : Nat) (lq : Nat) (zq : Nat) (yq : Nat) (le : Int) (hsn : Int) (e : Int) (he : -2147483648 ≤ e ∧ e < 2147483648) : CX l D K z0 yX10_requireRight cX10_requireRight 2 none rm_X10_requireRight [.ref d0, .int (iI e)] [(d0, .inr (10, [.ref bfq, .ref gvq, .ref ckq, .ref tuq, .ref buq, .ref hb, .ref svq, .ref rbq, .ref roq, .ref hh, .ref lq, .ref zq, .ref yq, .int (iI le), .int (iI hsn)]))] (fun v9 u9 => v9 = none ∧ (e < 0) ∧ u9 = [(d0, .inr (10, [.ref bfq, .ref gvq, .ref ckq, .ref tuq, .ref buq, .ref hb, .ref svq, .ref rbq, .ref roq, .ref hh, .ref lq, .ref zq, .ref yq, .int (iI le), .int (iI hsn)]))]) (fun E9 u9 => E9 = "java/lang/IllegalArgumentException" ∧ (0 ≤ e) ∧ u9 = [(d0, .inr (10, [.ref bfq, .ref gvq, .ref ckq, .ref tuq, .ref buq, .ref hb, .ref svq, .ref rbq, .ref roq, .ref hh, .ref lq, .ref zq, .ref yq, .int (iI e), .int (iI hsn)]))]) := by
  refine CX.start RX10 "requireRight" hl0 (by decide) rfl rfl (Nat.le_of_ble_eq_true rfl) ?_
  intro p9 e9 s9 m9 ag9 bl9 mt9 c9 A9 Q9 ls F G hR hX hl
  have hl : lv_has ls 2 [(0, .ref d0), (1, .int (iI e))] := hl
  refine lv_iload_n F.1 F.2.1 dX10_requireRight_0 rfl (lv_at hl 1 rfl) ?_
  refine ad_if_lt (tgt := 17) F (by omega) dX10_requireRight_1 (by decide) (fun cc_1 => ?_) (fun cc_1 => ?_)
  · exact ad_vreturn F G hR rfl (Nat.le_of_ble_eq_true rfl) (Nat.le_of_ble_eq_true rfl) ⟨rfl, cc_1, rfl⟩ dX10_requireRight_17
  · refine lv_aload_n F.1 F.2.1 dX10_requireRight_4 rfl (lv_at hl 0 rfl) ?_
    refine lv_iload_n F.1 F.2.1 dX10_requireRight_5 rfl (lv_at hl 1 rfl) ?_
    refine ad_put F G fl_X10_81 0 rfl rfl rfl (Nat.le_of_ble_eq_true rfl) (ws' := [(d0, .inr (10, [.ref bfq, .ref gvq, .ref ckq, .ref tuq, .ref buq, .ref hb, .ref svq, .ref rbq, .ref roq, .ref hh, .ref lq, .ref zq, .ref yq, .int (iI e), .int (iI hsn)]))]) rfl dX10_requireRight_6 (fun H locs G => ?_)
    exact ad_throw F G hX xw_X10_94_96 hl.1 (Nat.le_of_ble_eq_true rfl) (Nat.le_of_ble_eq_true rfl) (Nat.le_of_ble_eq_true rfl) (Nat.le_of_ble_eq_true rfl) (Nat.le_of_ble_eq_true rfl) (Nat.le_of_ble_eq_true rfl) ⟨rfl, cc_1, rfl⟩ dX10_requireRight_9 dX10_requireRight_12 dX10_requireRight_13 dX10_requireRight_16

def rm_X10_requireResult : Room := { frames := 8, cells := 1, slots := 6, locals := 150 }
set_option maxHeartbeats 4000000 in
set_option maxRecDepth 100000 in
theorem c_X10_requireResult (l : Launch) (hl0 : l.stackTraces = false) (D : va_G) (K : Nat → ClassId) (z0 : Nat) (d0 : Nat) (bfq : Nat) (gvq : Nat) (ckq : Nat) (tuq : Nat) (buq : Nat) (hb : Nat) (svq : Nat) (rbq : Nat) (roq : Nat) (hh : Nat) (zq : Nat) (yq : Nat) (le : Int) (hsn : Int) (lq : Nat) (oq : Nat) (r1 : Nat) (r2 : Nat) (r3 : Nat) (r4 : Nat) (r5 : Nat) (r6 : Nat) (gz : Int) (us : Int) (pr : Int) (mc : Int) (ia : Int) (it : Int) (n : Int) (hit : it = 0 ∨ it = 1) : CX l D K z0 yX10_requireResult cX10_requireResult 1 none rm_X10_requireResult [.ref d0] [(d0, .inr (10, [.ref bfq, .ref gvq, .ref ckq, .ref tuq, .ref buq, .ref hb, .ref svq, .ref rbq, .ref roq, .ref hh, .ref lq, .ref zq, .ref yq, .int (iI le), .int (iI hsn)])), (lq, .inr (4, [.ref oq, .ref r1, .ref r2, .ref r3, .ref r4, .ref r5, .ref r6, .int (iI n), .int (iI gz), .int (iI us), .int (iI pr), .int (iI mc), .int (iI ia), .int (iI it)]))] (fun v9 u9 => v9 = none ∧ (it = 1) ∧ u9 = [(d0, .inr (10, [.ref bfq, .ref gvq, .ref ckq, .ref tuq, .ref buq, .ref hb, .ref svq, .ref rbq, .ref roq, .ref hh, .ref lq, .ref zq, .ref yq, .int (iI le), .int (iI hsn)])), (lq, .inr (4, [.ref oq, .ref r1, .ref r2, .ref r3, .ref r4, .ref r5, .ref r6, .int (iI n), .int (iI gz), .int (iI us), .int (iI pr), .int (iI mc), .int (iI ia), .int (iI it)]))]) (fun E9 u9 => E9 = "java/lang/IllegalStateException" ∧ (it = 0) ∧ u9 = [(d0, .inr (10, [.ref bfq, .ref gvq, .ref ckq, .ref tuq, .ref buq, .ref hb, .ref svq, .ref rbq, .ref roq, .ref hh, .ref lq, .ref zq, .ref yq, .int (iI le), .int (iI hsn)])), (lq, .inr (4, [.ref oq, .ref r1, .ref r2, .ref r3, .ref r4, .ref r5, .ref r6, .int (iI n), .int (iI gz), .int (iI us), .int (iI pr), .int (iI mc), .int (iI ia), .int (iI it)]))]) := by
  refine CX.start RX10 "requireResult" hl0 (by decide) rfl rfl (Nat.le_of_ble_eq_true rfl) ?_
  intro p9 e9 s9 m9 ag9 bl9 mt9 c9 A9 Q9 ls F G hR hX hl
  have hl : lv_has ls 1 [(0, .ref d0)] := hl
  refine lv_aload_n F.1 F.2.1 dX10_requireResult_0 rfl (lv_at hl 0 rfl) ?_
  refine ad_get F G fl_X10_67 0 rfl rfl dX10_requireResult_1 ?_
  refine ad_get F G fl_X10_370 1 rfl rfl dX10_requireResult_4 ?_
  refine ad_if_ne (tgt := 18) F (by omega) dX10_requireResult_7 (by decide) (fun cc_1 => ?_) (fun cc_1 => ?_)
  · exact ad_vreturn F G hR rfl (Nat.le_of_ble_eq_true rfl) (Nat.le_of_ble_eq_true rfl) ⟨rfl, (by omega), rfl⟩ dX10_requireResult_18
  · exact ad_throw F G hX xw_X10_135_137 hl.1 (Nat.le_of_ble_eq_true rfl) (Nat.le_of_ble_eq_true rfl) (Nat.le_of_ble_eq_true rfl) (Nat.le_of_ble_eq_true rfl) (Nat.le_of_ble_eq_true rfl) (Nat.le_of_ble_eq_true rfl) ⟨rfl, cc_1, rfl⟩ dX10_requireResult_10 dX10_requireResult_13 dX10_requireResult_14 dX10_requireResult_17

def rm_X10_requireRow : Room := { frames := 8, cells := 1, slots := 6, locals := 150 }
set_option maxHeartbeats 4000000 in
set_option maxRecDepth 100000 in
theorem c_X10_requireRow (l : Launch) (hl0 : l.stackTraces = false) (D : va_G) (K : Nat → ClassId) (z0 : Nat) (r : Int) (hr : -2147483648 ≤ r ∧ r < 2147483648) : CX l D K z0 yX10_requireRow cX10_requireRow 1 none rm_X10_requireRow [.int (iI r)] [] (fun v9 u9 => v9 = none ∧ (r = 0 ∨ r = 1) ∧ u9 = []) (fun E9 u9 => E9 = "java/lang/IndexOutOfBoundsException" ∧ (¬ (r = 0 ∨ r = 1)) ∧ u9 = []) := by
  refine CX.start RX10 "requireRow" hl0 (by decide) rfl rfl (Nat.le_of_ble_eq_true rfl) ?_
  intro p9 e9 s9 m9 ag9 bl9 mt9 c9 A9 Q9 ls F G hR hX hl
  have hl : lv_has ls 1 [(0, .int (iI r))] := hl
  refine lv_iload_n F.1 F.2.1 dX10_requireRow_0 rfl (lv_at hl 0 rfl) ?_
  refine ad_if_eq (tgt := 17) F (by omega) dX10_requireRow_1 (by decide) (fun cc_1 => ?_) (fun cc_1 => ?_)
  · exact ad_vreturn F G hR rfl (Nat.le_of_ble_eq_true rfl) (Nat.le_of_ble_eq_true rfl) ⟨rfl, (by omega), rfl⟩ dX10_requireRow_17
  · refine lv_iload_n F.1 F.2.1 dX10_requireRow_4 rfl (lv_at hl 0 rfl) ?_
    refine ad_iconst F dX10_requireRow_5 ?_
    refine ad_icmp_eq (tgt := 17) F (by omega) dX10_requireRow_6 (by decide) (fun cc_2 => ?_) (fun cc_2 => ?_)
    · exact ad_vreturn F G hR rfl (Nat.le_of_ble_eq_true rfl) (Nat.le_of_ble_eq_true rfl) ⟨rfl, (by omega), rfl⟩ dX10_requireRow_17
    · exact ad_throw F G hX xw_X10_118_120 hl.1 (Nat.le_of_ble_eq_true rfl) (Nat.le_of_ble_eq_true rfl) (Nat.le_of_ble_eq_true rfl) (Nat.le_of_ble_eq_true rfl) (Nat.le_of_ble_eq_true rfl) (Nat.le_of_ble_eq_true rfl) ⟨rfl, (by omega), rfl⟩ dX10_requireRow_9 dX10_requireRow_12 dX10_requireRow_13 dX10_requireRow_16

def rm_X10_isKind : Room := { frames := 1, cells := 0, slots := 0, locals := 12 }
set_option maxHeartbeats 4000000 in
set_option maxRecDepth 100000 in
theorem c_X10_isKind (l : Launch) (D : va_G) (K : Nat → ClassId) (z0 : Nat) (k : Int) (hk : -2147483648 ≤ k ∧ k < 2147483648) : CT l D K z0 yX10_isKind cX10_isKind 1 (some .boolean) rm_X10_isKind [.int (iI k)] [] (fun v9 u9 => (v9 = some (.int (iI 1)) ∧ (0 ≤ k ∧ k ≤ 2) ∧ u9 = []) ∨ (v9 = some (.int (iI 0)) ∧ (¬ (0 ≤ k ∧ k ≤ 2)) ∧ u9 = [])) := by
  refine CT.start RX10 "isKind" (by decide) rfl rfl (Nat.le_of_ble_eq_true rfl) ?_
  intro p9 e9 s9 m9 ag9 bl9 mt9 c9 A9 Q9 ls F G hR hl
  have hl : lv_has ls 1 [(0, .int (iI k))] := hl
  refine lv_iload_n F.1 F.2.1 dX10_isKind_0 rfl (lv_at hl 0 rfl) ?_
  refine ad_if_lt (tgt := 13) F (by omega) dX10_isKind_1 (by decide) (fun cc_1 => ?_) (fun cc_1 => ?_)
  · refine ad_iconst F dX10_isKind_13 ?_
    exact ad_zreturn F G hR rfl (Nat.le_of_ble_eq_true rfl) (Nat.le_of_ble_eq_true rfl) rfl (Or.inr (⟨rfl, (by omega), rfl⟩)) dX10_isKind_14
  · refine lv_iload_n F.1 F.2.1 dX10_isKind_4 rfl (lv_at hl 0 rfl) ?_
    refine ad_iconst F dX10_isKind_5 ?_
    refine ad_icmp_gt (tgt := 13) F (by omega) dX10_isKind_6 (by decide) (fun cc_2 => ?_) (fun cc_2 => ?_)
    · refine ad_iconst F dX10_isKind_13 ?_
      exact ad_zreturn F G hR rfl (Nat.le_of_ble_eq_true rfl) (Nat.le_of_ble_eq_true rfl) rfl (Or.inr (⟨rfl, (by omega), rfl⟩)) dX10_isKind_14
    · refine ad_iconst F dX10_isKind_9 ?_
      refine lv_goto (tgt := 14) F.1 F.2.1 dX10_isKind_10 (by decide) ?_
      exact ad_zreturn F G hR rfl (Nat.le_of_ble_eq_true rfl) (Nat.le_of_ble_eq_true rfl) rfl (Or.inl ⟨rfl, (by omega), rfl⟩) dX10_isKind_14

def rm_X10_isPriority : Room := { frames := 1, cells := 0, slots := 0, locals := 12 }
set_option maxHeartbeats 4000000 in
set_option maxRecDepth 100000 in
theorem c_X10_isPriority (l : Launch) (D : va_G) (K : Nat → ClassId) (z0 : Nat) (k : Int) (hk : -2147483648 ≤ k ∧ k < 2147483648) : CT l D K z0 yX10_isPriority cX10_isPriority 1 (some .boolean) rm_X10_isPriority [.int (iI k)] [] (fun v9 u9 => (v9 = some (.int (iI 1)) ∧ (0 ≤ k ∧ k ≤ 99) ∧ u9 = []) ∨ (v9 = some (.int (iI 0)) ∧ (¬ (0 ≤ k ∧ k ≤ 99)) ∧ u9 = [])) := by
  refine CT.start RX10 "isPriority" (by decide) rfl rfl (Nat.le_of_ble_eq_true rfl) ?_
  intro p9 e9 s9 m9 ag9 bl9 mt9 c9 A9 Q9 ls F G hR hl
  have hl : lv_has ls 1 [(0, .int (iI k))] := hl
  refine lv_iload_n F.1 F.2.1 dX10_isPriority_0 rfl (lv_at hl 0 rfl) ?_
  refine ad_if_lt (tgt := 14) F (by omega) dX10_isPriority_1 (by decide) (fun cc_1 => ?_) (fun cc_1 => ?_)
  · refine ad_iconst F dX10_isPriority_14 ?_
    exact ad_zreturn F G hR rfl (Nat.le_of_ble_eq_true rfl) (Nat.le_of_ble_eq_true rfl) rfl (Or.inr (⟨rfl, (by omega), rfl⟩)) dX10_isPriority_15
  · refine lv_iload_n F.1 F.2.1 dX10_isPriority_4 rfl (lv_at hl 0 rfl) ?_
    refine ad_bipush F dX10_isPriority_5 (by decide) ?_
    refine ad_icmp_gt (tgt := 14) F (by omega) dX10_isPriority_7 (by decide) (fun cc_2 => ?_) (fun cc_2 => ?_)
    · refine ad_iconst F dX10_isPriority_14 ?_
      exact ad_zreturn F G hR rfl (Nat.le_of_ble_eq_true rfl) (Nat.le_of_ble_eq_true rfl) rfl (Or.inr (⟨rfl, (by omega), rfl⟩)) dX10_isPriority_15
    · refine ad_iconst F dX10_isPriority_10 ?_
      refine lv_goto (tgt := 15) F.1 F.2.1 dX10_isPriority_11 (by decide) ?_
      exact ad_zreturn F G hR rfl (Nat.le_of_ble_eq_true rfl) (Nat.le_of_ble_eq_true rfl) rfl (Or.inl ⟨rfl, (by omega), rfl⟩) dX10_isPriority_15

def rm_X10_isContext : Room := { frames := 1, cells := 0, slots := 0, locals := 12 }
set_option maxHeartbeats 4000000 in
set_option maxRecDepth 100000 in
theorem c_X10_isContext (l : Launch) (D : va_G) (K : Nat → ClassId) (z0 : Nat) (k : Int) (hk : -2147483648 ≤ k ∧ k < 2147483648) : CT l D K z0 yX10_isContext cX10_isContext 1 (some .boolean) rm_X10_isContext [.int (iI k)] [] (fun v9 u9 => (v9 = some (.int (iI 1)) ∧ (0 ≤ k ∧ k ≤ 4) ∧ u9 = []) ∨ (v9 = some (.int (iI 0)) ∧ (¬ (0 ≤ k ∧ k ≤ 4)) ∧ u9 = [])) := by
  refine CT.start RX10 "isContext" (by decide) rfl rfl (Nat.le_of_ble_eq_true rfl) ?_
  intro p9 e9 s9 m9 ag9 bl9 mt9 c9 A9 Q9 ls F G hR hl
  have hl : lv_has ls 1 [(0, .int (iI k))] := hl
  refine lv_iload_n F.1 F.2.1 dX10_isContext_0 rfl (lv_at hl 0 rfl) ?_
  refine ad_if_lt (tgt := 16) F (by omega) dX10_isContext_1 (by decide) (fun cc_1 => ?_) (fun cc_1 => ?_)
  · refine ad_iconst F dX10_isContext_16 ?_
    exact ad_zreturn F G hR rfl (Nat.le_of_ble_eq_true rfl) (Nat.le_of_ble_eq_true rfl) rfl (Or.inr (⟨rfl, (by omega), rfl⟩)) dX10_isContext_17
  · refine lv_iload_n F.1 F.2.1 dX10_isContext_4 rfl (lv_at hl 0 rfl) ?_
    refine ad_places F G (ad_mt (List.mem_of_getElem? (i := 620) (by decide +kernel)) (by decide +kernel)) dX10_isContext_5 (fun t_2 hT_3 => ?_)
    refine ad_tlen F G hT_3 dX10_isContext_8 ?_
    refine ad_icmp_ge (tgt := 16) F (by omega) dX10_isContext_9 (by decide) (fun cc_4 => ?_) (fun cc_4 => ?_)
    · refine ad_iconst F dX10_isContext_16 ?_
      exact ad_zreturn F G hR rfl (Nat.le_of_ble_eq_true rfl) (Nat.le_of_ble_eq_true rfl) rfl (Or.inr (⟨rfl, (by omega), rfl⟩)) dX10_isContext_17
    · refine ad_iconst F dX10_isContext_12 ?_
      refine lv_goto (tgt := 17) F.1 F.2.1 dX10_isContext_13 (by decide) ?_
      exact ad_zreturn F G hR rfl (Nat.le_of_ble_eq_true rfl) (Nat.le_of_ble_eq_true rfl) rfl (Or.inl ⟨rfl, (by omega), rfl⟩) dX10_isContext_17

def rm_X10_clear : Room := { frames := 2, cells := 0, slots := 0, locals := 32 }
set_option maxHeartbeats 4000000 in
set_option maxRecDepth 100000 in
theorem c_X10_clear (l : Launch) (D : va_G) (K : Nat → ClassId) (z0 : Nat) (d0 : Nat) (bfq : Nat) (gvq : Nat) (ckq : Nat) (tuq : Nat) (buq : Nat) (hb : Nat) (svq : Nat) (rbq : Nat) (roq : Nat) (hh : Nat) (lq : Nat) (zq : Nat) (yq : Nat) (le : Int) (hsn : Int) (ak : Nat) (ap : Nat) (ac : Nat) (ash : Nat) (alo : Nat) (apc : Nat) (aps : Nat) (apl : Nat) (lc : Option Nat) (n : Int) (np : Int) (md : Int) (th : Int) (nc : Int) (ar : Nat) (sz : Int) : CT l D K z0 yX10_clear cX10_clear 2 (some .int) rm_X10_clear [.ref d0] [(d0, .inr (10, [.ref bfq, .ref gvq, .ref ckq, .ref tuq, .ref buq, .ref hb, .ref svq, .ref rbq, .ref roq, .ref hh, .ref lq, .ref zq, .ref yq, .int (iI le), .int (iI hsn)])), (hb, .inr (0, [.ref ak, .ref ap, .ref ac, .ref ash, .ref alo, .int (iI n), .ref apc, .ref aps, .ref apl, .int (iI np), .int (iI md), .int (iI th), va_rf lc, .int (iI nc)])), (hh, .inr (3, [.ref ar, .int (iI sz)]))] (fun v9 u9 => v9 = some (.int (iI n)) ∧ u9 = [(d0, .inr (10, [.ref bfq, .ref gvq, .ref ckq, .ref tuq, .ref buq, .ref hb, .ref svq, .ref rbq, .ref roq, .ref hh, .ref lq, .ref zq, .ref yq, .int (iI le), .int (iI hsn)])), (hb, .inr (0, [.ref ak, .ref ap, .ref ac, .ref ash, .ref alo, .int (iI 0), .ref apc, .ref aps, .ref apl, .int (iI 0), .int (iI 1), .int (iI 2), va_rf none, .int (iI 0)])), (hh, .inr (3, [.ref ar, .int (iI 0)]))]) := by
  refine CT.start RX10 "clear" (by decide) rfl rfl (Nat.le_of_ble_eq_true rfl) ?_
  intro p9 e9 s9 m9 ag9 bl9 mt9 c9 A9 Q9 ls F G hR hl
  have hl : lv_has ls 2 [(0, .ref d0)] := hl
  refine lv_aload_n F.1 F.2.1 dX10_clear_0 rfl (lv_at hl 0 rfl) ?_
  refine ad_get F G fl_X10_41 0 rfl rfl dX10_clear_1 ?_
  refine ad_get F G fl_X10_85 1 rfl rfl dX10_clear_4 ?_
  refine lv_istore_n (lv' := [(1, .int (iI n)), (0, .ref d0)]) F.1 F.2.1 dX10_clear_7 rfl hl (by decide) rfl (fun ls hl => ?_)
  refine lv_aload_n F.1 F.2.1 dX10_clear_8 rfl (lv_at hl 1 rfl) ?_
  refine ad_get F G fl_X10_41 0 rfl rfl dX10_clear_9 ?_
  refine ad_callV (As := []) (rest := []) F G (c_X0_startAgain l D K z0 hb ak ap ac ash alo apc aps apl lc n np md th nc ) my_X0_startAgain mv_X10_88 (wr := [(d0, .inr (10, [.ref bfq, .ref gvq, .ref ckq, .ref tuq, .ref buq, .ref hb, .ref svq, .ref rbq, .ref roq, .ref hh, .ref lq, .ref zq, .ref yq, .int (iI le), .int (iI hsn)])), (hh, .inr (3, [.ref ar, .int (iI sz)]))]) (isC := [1]) (isR := [0, 2]) ⟨rfl, rfl, rfl, rfl, by decide⟩ 0 0 rfl rfl rfl rfl ⟨Nat.le_of_ble_eq_true rfl, Nat.le_of_ble_eq_true rfl⟩ ⟨Nat.le_of_ble_eq_true rfl, Nat.le_of_ble_eq_true rfl⟩ (Nat.le_of_ble_eq_true rfl) hl.1 (cells9 := 0) (slots9 := 0) ⟨rfl, rfl⟩ dX10_clear_12 (fun v u H locs hw_1 G => ?_)
  obtain ⟨rfl, rfl⟩ := hw_1
  replace G := G.perm (ws' := [(d0, .inr (10, [.ref bfq, .ref gvq, .ref ckq, .ref tuq, .ref buq, .ref hb, .ref svq, .ref rbq, .ref roq, .ref hh, .ref lq, .ref zq, .ref yq, .int (iI le), .int (iI hsn)])), (hb, .inr (0, [.ref ak, .ref ap, .ref ac, .ref ash, .ref alo, .int (iI 0), .ref apc, .ref aps, .ref apl, .int (iI 0), .int (iI 1), .int (iI 2), .null, .int (iI 0)])), (hh, .inr (3, [.ref ar, .int (iI sz)]))]) [0, 2, 1] rfl rfl
  refine W.eq (g2 := F0 m9 15 ls []) rfl ?_
  refine lv_aload_n F.1 F.2.1 dX10_clear_15 rfl (lv_at hl 1 rfl) ?_
  refine ad_get F G fl_X10_60 0 rfl rfl dX10_clear_16 ?_
  refine ad_callV (As := []) (rest := []) F G (c_X3_forget l D K z0 hh ar sz ) my_X3_forget mv_X10_91 (wr := [(d0, .inr (10, [.ref bfq, .ref gvq, .ref ckq, .ref tuq, .ref buq, .ref hb, .ref svq, .ref rbq, .ref roq, .ref hh, .ref lq, .ref zq, .ref yq, .int (iI le), .int (iI hsn)])), (hb, .inr (0, [.ref ak, .ref ap, .ref ac, .ref ash, .ref alo, .int (iI 0), .ref apc, .ref aps, .ref apl, .int (iI 0), .int (iI 1), .int (iI 2), .null, .int (iI 0)]))]) (isC := [2]) (isR := [0, 1]) ⟨rfl, rfl, rfl, rfl, by decide⟩ 3 0 rfl rfl rfl rfl ⟨Nat.le_of_ble_eq_true rfl, Nat.le_of_ble_eq_true rfl⟩ ⟨Nat.le_of_ble_eq_true rfl, Nat.le_of_ble_eq_true rfl⟩ (Nat.le_of_ble_eq_true rfl) hl.1 (cells9 := 0) (slots9 := 0) ⟨rfl, rfl⟩ dX10_clear_19 (fun v u H locs hw_2 G => ?_)
  obtain ⟨rfl, rfl⟩ := hw_2
  replace G := G.perm (ws' := [(d0, .inr (10, [.ref bfq, .ref gvq, .ref ckq, .ref tuq, .ref buq, .ref hb, .ref svq, .ref rbq, .ref roq, .ref hh, .ref lq, .ref zq, .ref yq, .int (iI le), .int (iI hsn)])), (hb, .inr (0, [.ref ak, .ref ap, .ref ac, .ref ash, .ref alo, .int (iI 0), .ref apc, .ref aps, .ref apl, .int (iI 0), .int (iI 1), .int (iI 2), .null, .int (iI 0)])), (hh, .inr (3, [.ref ar, .int (iI 0)]))]) [0, 1, 2] rfl rfl
  refine W.eq (g2 := F0 m9 22 ls []) rfl ?_
  refine lv_iload_n F.1 F.2.1 dX10_clear_22 rfl (lv_at hl 0 rfl) ?_
  exact ad_ireturn F G hR rfl (Nat.le_of_ble_eq_true rfl) (Nat.le_of_ble_eq_true rfl) ⟨rfl, rfl⟩ dX10_clear_23

def rm_X10_append : Room := { frames := 8, cells := 1, slots := 6, locals := 150 }
set_option maxHeartbeats 4000000 in
set_option maxRecDepth 100000 in
theorem c_X10_append (l : Launch) (hl0 : l.stackTraces = false) (D : va_G) (K : Nat → ClassId) (z0 : Nat) (d0 : Nat) (bfq : Nat) (gvq : Nat) (ckq : Nat) (tuq : Nat) (buq : Nat) (hb : Nat) (svq : Nat) (rbq : Nat) (roq : Nat) (hh : Nat) (lq : Nat) (zq : Nat) (yq : Nat) (le : Int) (hsn : Int) (ba : Nat) (g : Nat → Int) (w : List Int) (x : Int) (hT : Tx g w) (hC : Chs w) (hL : w.length ≤ 100) (hx : 0 ≤ x ∧ x < 65536) : CX l D K z0 yX10_append cX10_append 2 (some .int) rm_X10_append [.ref d0, .int (iI x)] [(d0, .inr (10, [.ref bfq, .ref gvq, .ref ckq, .ref tuq, .ref buq, .ref hb, .ref svq, .ref rbq, .ref roq, .ref hh, .ref lq, .ref zq, .ref yq, .int (iI le), .int (iI hsn)])), (bfq, .inr (7, [.ref ba, .int (iI (w.length : Int))])), (ba, aI (K 2) 100 g)] (fun v9 u9 => ∃ (g2 : Nat → Int), v9 = some (.int (iI ((w ++ [x]).length : Int))) ∧ (32 ≤ x ∧ x ≤ 126 ∧ w.length < 100) ∧ (Tx g2 (w ++ [x])) ∧ u9 = [(d0, .inr (10, [.ref bfq, .ref gvq, .ref ckq, .ref tuq, .ref buq, .ref hb, .ref svq, .ref rbq, .ref roq, .ref hh, .ref lq, .ref zq, .ref yq, .int (iI le), .int (iI hsn)])), (bfq, .inr (7, [.ref ba, .int (iI ((w ++ [x]).length : Int))])), (ba, aI (K 2) 100 g2)]) (fun E9 u9 => (E9 = "java/lang/IllegalArgumentException" ∧ (¬ (32 ≤ x ∧ x ≤ 126)) ∧ u9 = [(d0, .inr (10, [.ref bfq, .ref gvq, .ref ckq, .ref tuq, .ref buq, .ref hb, .ref svq, .ref rbq, .ref roq, .ref hh, .ref lq, .ref zq, .ref yq, .int (iI le), .int (iI hsn)])), (bfq, .inr (7, [.ref ba, .int (iI (w.length : Int))])), (ba, aI (K 2) 100 g)]) ∨ (E9 = "java/lang/UnsupportedOperationException" ∧ ((32 ≤ x ∧ x ≤ 126) ∧ w.length = 100) ∧ u9 = [(d0, .inr (10, [.ref bfq, .ref gvq, .ref ckq, .ref tuq, .ref buq, .ref hb, .ref svq, .ref rbq, .ref roq, .ref hh, .ref lq, .ref zq, .ref yq, .int (iI le), .int (iI hsn)])), (bfq, .inr (7, [.ref ba, .int (iI (w.length : Int))])), (ba, aI (K 2) 100 g)])) := by
  refine CX.start RX10 "append" hl0 (by decide) rfl rfl (Nat.le_of_ble_eq_true rfl) ?_
  intro p9 e9 s9 m9 ag9 bl9 mt9 c9 A9 Q9 ls F G hR hX hl
  have hl : lv_has ls 2 [(0, .ref d0), (1, .int (iI x))] := hl
  refine lv_iload_n F.1 F.2.1 dX10_append_0 rfl (lv_at hl 1 rfl) ?_
  refine ad_bipush F dX10_append_1 (by decide) ?_
  refine ad_icmp_lt (tgt := 12) F (by omega) dX10_append_3 (by decide) (fun cc_1 => ?_) (fun cc_1 => ?_)
  · exact ad_throw F G hX xw_X10_94_96 hl.1 (Nat.le_of_ble_eq_true rfl) (Nat.le_of_ble_eq_true rfl) (Nat.le_of_ble_eq_true rfl) (Nat.le_of_ble_eq_true rfl) (Nat.le_of_ble_eq_true rfl) (Nat.le_of_ble_eq_true rfl) (Or.inl ⟨rfl, (by omega), rfl⟩) dX10_append_12 dX10_append_15 dX10_append_16 dX10_append_19
  · refine lv_iload_n F.1 F.2.1 dX10_append_6 rfl (lv_at hl 1 rfl) ?_
    refine ad_bipush F dX10_append_7 (by decide) ?_
    refine ad_icmp_le (tgt := 20) F (by omega) dX10_append_9 (by decide) (fun cc_2 => ?_) (fun cc_2 => ?_)
    · refine lv_aload_n F.1 F.2.1 dX10_append_20 rfl (lv_at hl 0 rfl) ?_
      refine ad_get F G fl_X10_14 0 rfl rfl dX10_append_21 ?_
      refine ad_callV (As := []) (rest := []) F G (c_X7_size l D K z0 bfq ba (w.length : Int) ) my_X7_size mv_X10_97 (wr := [(d0, .inr (10, [.ref bfq, .ref gvq, .ref ckq, .ref tuq, .ref buq, .ref hb, .ref svq, .ref rbq, .ref roq, .ref hh, .ref lq, .ref zq, .ref yq, .int (iI le), .int (iI hsn)])), (ba, aI (K 2) 100 g)]) (isC := [1]) (isR := [0, 2]) ⟨rfl, rfl, rfl, rfl, by decide⟩ 7 0 rfl rfl rfl rfl ⟨Nat.le_of_ble_eq_true rfl, Nat.le_of_ble_eq_true rfl⟩ ⟨Nat.le_of_ble_eq_true rfl, Nat.le_of_ble_eq_true rfl⟩ (Nat.le_of_ble_eq_true rfl) hl.1 (cells9 := 0) (slots9 := 0) ⟨rfl, rfl⟩ dX10_append_24 (fun v u H locs hw_3 G => ?_)
      obtain ⟨rfl, rfl⟩ := hw_3
      replace G := G.perm (ws' := [(d0, .inr (10, [.ref bfq, .ref gvq, .ref ckq, .ref tuq, .ref buq, .ref hb, .ref svq, .ref rbq, .ref roq, .ref hh, .ref lq, .ref zq, .ref yq, .int (iI le), .int (iI hsn)])), (bfq, .inr (7, [.ref ba, .int (iI (w.length : Int))])), (ba, aI (K 2) 100 g)]) [0, 2, 1] rfl rfl
      refine W.eq (g2 := F0 m9 27 ls [.int (iI (w.length : Int))]) rfl ?_
      refine ad_bipush F dX10_append_27 (by decide) ?_
      refine ad_icmp_lt (tgt := 40) F (by omega) dX10_append_29 (by decide) (fun cc_4 => ?_) (fun cc_4 => ?_)
      · refine lv_aload_n F.1 F.2.1 dX10_append_40 rfl (lv_at hl 0 rfl) ?_
        refine ad_get F G fl_X10_14 0 rfl rfl dX10_append_41 ?_
        refine lv_iload_n F.1 F.2.1 dX10_append_44 rfl (lv_at hl 1 rfl) ?_
        refine ad_callV (As := [.int (iI x)]) (rest := []) F G (c_X7_add l D K z0 bfq ba 100 g w x hT (by omega) hx) my_X7_add mv_X10_104 (wr := [(d0, .inr (10, [.ref bfq, .ref gvq, .ref ckq, .ref tuq, .ref buq, .ref hb, .ref svq, .ref rbq, .ref roq, .ref hh, .ref lq, .ref zq, .ref yq, .int (iI le), .int (iI hsn)]))]) (isC := [1, 2]) (isR := [0]) ⟨rfl, rfl, rfl, rfl, by decide⟩ 7 0 rfl rfl rfl rfl ⟨Nat.le_of_ble_eq_true rfl, Nat.le_of_ble_eq_true rfl⟩ ⟨Nat.le_of_ble_eq_true rfl, Nat.le_of_ble_eq_true rfl⟩ (Nat.le_of_ble_eq_true rfl) hl.1 (cells9 := 0) (slots9 := 0) ⟨rfl, rfl⟩ dX10_append_45 (fun v u H locs hw_5 G => ?_)
        obtain ⟨g2_6, w2_7, rfl, hc_8, hc_9, rfl⟩ := hw_5
        replace G := G.perm (ws' := [(d0, .inr (10, [.ref bfq, .ref gvq, .ref ckq, .ref tuq, .ref buq, .ref hb, .ref svq, .ref rbq, .ref roq, .ref hh, .ref lq, .ref zq, .ref yq, .int (iI le), .int (iI hsn)])), (bfq, .inr (7, [.ref ba, .int (iI (w2_7.length : Int))])), (ba, aI (K 2) 100 g2_6)]) [0, 1, 2] rfl rfl
        refine W.eq (g2 := F0 m9 48 ls []) rfl ?_
        subst hc_8
        refine lv_aload_n F.1 F.2.1 dX10_append_48 rfl (lv_at hl 0 rfl) ?_
        refine ad_get F G fl_X10_14 0 rfl rfl dX10_append_49 ?_
        refine ad_callV (As := []) (rest := []) F G (c_X7_size l D K z0 bfq ba ((w ++ [x]).length : Int) ) my_X7_size mv_X10_97 (wr := [(d0, .inr (10, [.ref bfq, .ref gvq, .ref ckq, .ref tuq, .ref buq, .ref hb, .ref svq, .ref rbq, .ref roq, .ref hh, .ref lq, .ref zq, .ref yq, .int (iI le), .int (iI hsn)])), (ba, aI (K 2) 100 g2_6)]) (isC := [1]) (isR := [0, 2]) ⟨rfl, rfl, rfl, rfl, by decide⟩ 7 0 rfl rfl rfl rfl ⟨Nat.le_of_ble_eq_true rfl, Nat.le_of_ble_eq_true rfl⟩ ⟨Nat.le_of_ble_eq_true rfl, Nat.le_of_ble_eq_true rfl⟩ (Nat.le_of_ble_eq_true rfl) hl.1 (cells9 := 0) (slots9 := 0) ⟨rfl, rfl⟩ dX10_append_52 (fun v u H locs hw_10 G => ?_)
        obtain ⟨rfl, rfl⟩ := hw_10
        replace G := G.perm (ws' := [(d0, .inr (10, [.ref bfq, .ref gvq, .ref ckq, .ref tuq, .ref buq, .ref hb, .ref svq, .ref rbq, .ref roq, .ref hh, .ref lq, .ref zq, .ref yq, .int (iI le), .int (iI hsn)])), (bfq, .inr (7, [.ref ba, .int (iI ((w ++ [x]).length : Int))])), (ba, aI (K 2) 100 g2_6)]) [0, 2, 1] rfl rfl
        refine W.eq (g2 := F0 m9 55 ls [.int (iI ((w ++ [x]).length : Int))]) rfl ?_
        exact ad_ireturn F G hR rfl (Nat.le_of_ble_eq_true rfl) (Nat.le_of_ble_eq_true rfl) ⟨g2_6, rfl, (by omega), hc_9, rfl⟩ dX10_append_55
      · exact ad_throw F G hX xw_X10_101_103 hl.1 (Nat.le_of_ble_eq_true rfl) (Nat.le_of_ble_eq_true rfl) (Nat.le_of_ble_eq_true rfl) (Nat.le_of_ble_eq_true rfl) (Nat.le_of_ble_eq_true rfl) (Nat.le_of_ble_eq_true rfl) (Or.inr (⟨rfl, (by omega), rfl⟩)) dX10_append_32 dX10_append_35 dX10_append_36 dX10_append_39
    · exact ad_throw F G hX xw_X10_94_96 hl.1 (Nat.le_of_ble_eq_true rfl) (Nat.le_of_ble_eq_true rfl) (Nat.le_of_ble_eq_true rfl) (Nat.le_of_ble_eq_true rfl) (Nat.le_of_ble_eq_true rfl) (Nat.le_of_ble_eq_true rfl) (Or.inl ⟨rfl, (by omega), rfl⟩) dX10_append_12 dX10_append_15 dX10_append_16 dX10_append_19

def rm_X10_rule : Room := { frames := 9, cells := 2, slots := 12, locals := 171 }
set_option maxHeartbeats 4000000 in
set_option maxRecDepth 100000 in
theorem c_X10_rule (l : Launch) (hl0 : l.stackTraces = false) (D : va_G) (K : Nat → ClassId) (z0 : Nat) (d0 : Nat) (bfq : Nat) (gvq : Nat) (ckq : Nat) (tuq : Nat) (buq : Nat) (hb : Nat) (svq : Nat) (rbq : Nat) (roq : Nat) (hh : Nat) (lq : Nat) (zq : Nat) (yq : Nat) (le : Int) (hsn : Int) (ak : Nat) (ap : Nat) (ac : Nat) (ash : Nat) (alo : Nat) (apc : Nat) (aps : Nat) (apl : Nat) (lc : Option Nat) (gk : Nat → Int) (gp : Nat → Int) (gc : Nat → Int) (gs : Nat → Int64) (gl : Nat → Int64) (rs : List Rl) (np : Int) (md : Int) (th : Int) (nc : Int) (z : Int) (w : Int) (hB : BRep gk gp gc gs gl rs) (hW : RW rs) (hz : -2147483648 ≤ z ∧ z < 2147483648) (hw : -2147483648 ≤ w ∧ w < 2147483648) : CX l D K z0 yX10_rule cX10_rule 3 (some .int) rm_X10_rule [.ref d0, .int (iI z), .int (iI w)] [(d0, .inr (10, [.ref bfq, .ref gvq, .ref ckq, .ref tuq, .ref buq, .ref hb, .ref svq, .ref rbq, .ref roq, .ref hh, .ref lq, .ref zq, .ref yq, .int (iI le), .int (iI hsn)])), (hb, .inr (0, [.ref ak, .ref ap, .ref ac, .ref ash, .ref alo, .int (iI (rs.length : Int)), .ref apc, .ref aps, .ref apl, .int (iI np), .int (iI md), .int (iI th), va_rf lc, .int (iI nc)])), (ak, aI (K 0) 24 gk), (ap, aI (K 0) 24 gp), (ac, aI (K 0) 24 gc), (ash, aJ (K 1) 24 gs), (alo, aJ (K 1) 24 gl)] (fun v9 u9 => v9 = some (.int (iI (ruA rs z w))) ∧ (0 ≤ z ∧ z < rs.length) ∧ (0 ≤ w ∧ w ≤ 5) ∧ u9 = [(d0, .inr (10, [.ref bfq, .ref gvq, .ref ckq, .ref tuq, .ref buq, .ref hb, .ref svq, .ref rbq, .ref roq, .ref hh, .ref lq, .ref zq, .ref yq, .int (iI le), .int (iI hsn)])), (hb, .inr (0, [.ref ak, .ref ap, .ref ac, .ref ash, .ref alo, .int (iI (rs.length : Int)), .ref apc, .ref aps, .ref apl, .int (iI np), .int (iI md), .int (iI th), va_rf lc, .int (iI nc)])), (ak, aI (K 0) 24 gk), (ap, aI (K 0) 24 gp), (ac, aI (K 0) 24 gc), (ash, aJ (K 1) 24 gs), (alo, aJ (K 1) 24 gl)]) (fun E9 u9 => (E9 = "java/lang/IndexOutOfBoundsException" ∧ (¬ (0 ≤ z ∧ z < rs.length)) ∧ u9 = [(d0, .inr (10, [.ref bfq, .ref gvq, .ref ckq, .ref tuq, .ref buq, .ref hb, .ref svq, .ref rbq, .ref roq, .ref hh, .ref lq, .ref zq, .ref yq, .int (iI le), .int (iI hsn)])), (hb, .inr (0, [.ref ak, .ref ap, .ref ac, .ref ash, .ref alo, .int (iI (rs.length : Int)), .ref apc, .ref aps, .ref apl, .int (iI np), .int (iI md), .int (iI th), va_rf lc, .int (iI nc)])), (ak, aI (K 0) 24 gk), (ap, aI (K 0) 24 gp), (ac, aI (K 0) 24 gc), (ash, aJ (K 1) 24 gs), (alo, aJ (K 1) 24 gl)]) ∨ (E9 = "java/lang/IllegalArgumentException" ∧ (0 ≤ z ∧ z < rs.length) ∧ (¬ (0 ≤ w ∧ w ≤ 5)) ∧ u9 = [(d0, .inr (10, [.ref bfq, .ref gvq, .ref ckq, .ref tuq, .ref buq, .ref hb, .ref svq, .ref rbq, .ref roq, .ref hh, .ref lq, .ref zq, .ref yq, .int (iI le), .int (iI hsn)])), (hb, .inr (0, [.ref ak, .ref ap, .ref ac, .ref ash, .ref alo, .int (iI (rs.length : Int)), .ref apc, .ref aps, .ref apl, .int (iI np), .int (iI md), .int (iI th), va_rf lc, .int (iI nc)])), (ak, aI (K 0) 24 gk), (ap, aI (K 0) 24 gp), (ac, aI (K 0) 24 gc), (ash, aJ (K 1) 24 gs), (alo, aJ (K 1) 24 gl)])) := by
  refine CX.start RX10 "rule" hl0 (by decide) rfl rfl (Nat.le_of_ble_eq_true rfl) ?_
  intro p9 e9 s9 m9 ag9 bl9 mt9 c9 A9 Q9 ls F G hR hX hl
  have hl : lv_has ls 3 [(0, .ref d0), (1, .int (iI z)), (2, .int (iI w))] := hl
  have hn := hW.1
  refine lv_aload_n F.1 F.2.1 dX10_rule_0 rfl (lv_at hl 0 rfl) ?_
  refine lv_iload_n F.1 F.2.1 dX10_rule_1 rfl (lv_at hl 1 rfl) ?_
  refine ad_callVX (As := [.int (iI z)]) (rest := []) F G (c_X10_requireRule l hX.1 D K z0 d0 bfq gvq ckq tuq buq hb svq rbq roq hh lq zq yq le hsn ak ap ac ash alo apc aps apl lc (rs.length : Int) np md th nc z hz (by omega)) my_X10_requireRule mv_X10_149 (wr := [(ak, aI (K 0) 24 gk), (ap, aI (K 0) 24 gp), (ac, aI (K 0) 24 gc), (ash, aJ (K 1) 24 gs), (alo, aJ (K 1) 24 gl)]) (isC := [0, 1]) (isR := [2, 3, 4, 5, 6]) ⟨rfl, rfl, rfl, rfl, by decide⟩ 10 0 rfl rfl rfl rfl ⟨Nat.le_of_ble_eq_true rfl, Nat.le_of_ble_eq_true rfl⟩ ⟨Nat.le_of_ble_eq_true rfl, Nat.le_of_ble_eq_true rfl⟩ (Nat.le_of_ble_eq_true rfl) hl.1 (cells9 := 1) (slots9 := 6) ⟨rfl, rfl⟩ dX10_rule_2 (fun E u H locs ce q hw_1 G hce hcv hcl => ?_) (fun v u H locs hw_1 G => ?_)
  · obtain ⟨rfl, hc_2, rfl⟩ := hw_1
    replace G := G.perm (ws' := [(d0, .inr (10, [.ref bfq, .ref gvq, .ref ckq, .ref tuq, .ref buq, .ref hb, .ref svq, .ref rbq, .ref roq, .ref hh, .ref lq, .ref zq, .ref yq, .int (iI le), .int (iI hsn)])), (hb, .inr (0, [.ref ak, .ref ap, .ref ac, .ref ash, .ref alo, .int (iI (rs.length : Int)), .ref apc, .ref aps, .ref apl, .int (iI np), .int (iI md), .int (iI th), va_rf lc, .int (iI nc)])), (ak, aI (K 0) 24 gk), (ap, aI (K 0) 24 gp), (ac, aI (K 0) 24 gc), (ash, aJ (K 1) 24 gs), (alo, aJ (K 1) 24 gl)]) [5, 6, 0, 1, 2, 3, 4] rfl rfl
    exact ad_out F G hX (Nat.le_of_ble_eq_true rfl) (Nat.le_of_ble_eq_true rfl) hce hcv hcl (Or.inl ⟨rfl, (by omega), rfl⟩)
  · obtain ⟨rfl, hc_3, rfl⟩ := hw_1
    replace G := G.perm (ws' := [(d0, .inr (10, [.ref bfq, .ref gvq, .ref ckq, .ref tuq, .ref buq, .ref hb, .ref svq, .ref rbq, .ref roq, .ref hh, .ref lq, .ref zq, .ref yq, .int (iI le), .int (iI hsn)])), (hb, .inr (0, [.ref ak, .ref ap, .ref ac, .ref ash, .ref alo, .int (iI (rs.length : Int)), .ref apc, .ref aps, .ref apl, .int (iI np), .int (iI md), .int (iI th), va_rf lc, .int (iI nc)])), (ak, aI (K 0) 24 gk), (ap, aI (K 0) 24 gp), (ac, aI (K 0) 24 gc), (ash, aJ (K 1) 24 gs), (alo, aJ (K 1) 24 gl)]) [5, 6, 0, 1, 2, 3, 4] rfl rfl
    refine W.eq (g2 := F0 m9 5 ls []) rfl ?_
    refine lv_iload_n F.1 F.2.1 dX10_rule_5 rfl (lv_at hl 2 rfl) ?_
    rcases (show (w < 0 ∨ 5 < w) ∨ w = 0 ∨ w = 1 ∨ w = 2 ∨ w = 3 ∨ w = 4 ∨ w = 5 by omega) with cs_4 | cs_4 | cs_4 | cs_4 | cs_4 | cs_4 | cs_4
    · refine ad_tabOut (tgt := 109) F dX10_rule_6 (by omega) cs_4 (by decide) ?_
      exact ad_throw F G hX xw_X10_94_96 hl.1 (Nat.le_of_ble_eq_true rfl) (Nat.le_of_ble_eq_true rfl) (Nat.le_of_ble_eq_true rfl) (Nat.le_of_ble_eq_true rfl) (Nat.le_of_ble_eq_true rfl) (Nat.le_of_ble_eq_true rfl) (Or.inr (⟨rfl, (by omega), (by omega), rfl⟩)) dX10_rule_109 dX10_rule_112 dX10_rule_113 dX10_rule_116
    · refine ad_tabIn (v := 0) (tgt := 44) F dX10_rule_6 cs_4 (by decide) (by decide) (by decide) rfl (by decide) ?_
      refine lv_aload_n F.1 F.2.1 dX10_rule_44 rfl (lv_at hl 0 rfl) ?_
      refine ad_get F G fl_X10_41 0 rfl rfl dX10_rule_45 ?_
      refine ad_get F G fl_X10_169 1 rfl rfl dX10_rule_48 ?_
      refine lv_iload_n F.1 F.2.1 dX10_rule_51 rfl (lv_at hl 1 rfl) ?_
      refine ad_iald F G 2 rfl (w := (rget rs z).1) (by omega) (hB z (by omega) (by omega)).1 dX10_rule_52 ?_
      exact ad_ireturn F G hR rfl (Nat.le_of_ble_eq_true rfl) (Nat.le_of_ble_eq_true rfl) ⟨(ad_eqi (by rw [cs_4]; rfl)), (by omega), (by omega), rfl⟩ dX10_rule_53
    · refine ad_tabIn (v := 1) (tgt := 54) F dX10_rule_6 cs_4 (by decide) (by decide) (by decide) rfl (by decide) ?_
      refine lv_aload_n F.1 F.2.1 dX10_rule_54 rfl (lv_at hl 0 rfl) ?_
      refine ad_get F G fl_X10_41 0 rfl rfl dX10_rule_55 ?_
      refine ad_get F G fl_X10_156 1 rfl rfl dX10_rule_58 ?_
      refine lv_iload_n F.1 F.2.1 dX10_rule_61 rfl (lv_at hl 1 rfl) ?_
      refine ad_iald F G 3 rfl (w := (rget rs z).2.1) (by omega) (hB z (by omega) (by omega)).2.1 dX10_rule_62 ?_
      exact ad_ireturn F G hR rfl (Nat.le_of_ble_eq_true rfl) (Nat.le_of_ble_eq_true rfl) ⟨(ad_eqi (by rw [cs_4]; rfl)), (by omega), (by omega), rfl⟩ dX10_rule_63
    · refine ad_tabIn (v := 2) (tgt := 64) F dX10_rule_6 cs_4 (by decide) (by decide) (by decide) rfl (by decide) ?_
      refine lv_aload_n F.1 F.2.1 dX10_rule_64 rfl (lv_at hl 0 rfl) ?_
      refine ad_get F G fl_X10_41 0 rfl rfl dX10_rule_65 ?_
      refine ad_get F G fl_X10_160 1 rfl rfl dX10_rule_68 ?_
      refine lv_iload_n F.1 F.2.1 dX10_rule_71 rfl (lv_at hl 1 rfl) ?_
      refine ad_iald F G 4 rfl (w := (rget rs z).2.2.1) (by omega) (hB z (by omega) (by omega)).2.2.1 dX10_rule_72 ?_
      exact ad_ireturn F G hR rfl (Nat.le_of_ble_eq_true rfl) (Nat.le_of_ble_eq_true rfl) ⟨(ad_eqi (by rw [cs_4]; rfl)), (by omega), (by omega), rfl⟩ dX10_rule_73
    · refine ad_tabIn (v := 3) (tgt := 74) F dX10_rule_6 cs_4 (by decide) (by decide) (by decide) rfl (by decide) ?_
      refine lv_aload_n F.1 F.2.1 dX10_rule_74 rfl (lv_at hl 0 rfl) ?_
      refine ad_get F G fl_X10_41 0 rfl rfl dX10_rule_75 ?_
      refine ad_get F G fl_X10_172 1 rfl rfl dX10_rule_78 ?_
      refine lv_iload_n F.1 F.2.1 dX10_rule_81 rfl (lv_at hl 1 rfl) ?_
      refine ad_lald F G 5 rfl (w := enc (rget rs z).2.2.2.1) (by omega) (hB z (by omega) (by omega)).2.2.2.1 dX10_rule_82 ?_
      refine ad_callS (As := [.long (enc (rget rs z).2.2.2.1)]) (rest := []) F G (c_X2_lengthOf l D K z0 ((rget rs z).2.2.2.1) ((hW.at (by omega) (by omega)).2.2.2.1)) my_X2_lengthOf ms_X10_176 (wr := [(d0, .inr (10, [.ref bfq, .ref gvq, .ref ckq, .ref tuq, .ref buq, .ref hb, .ref svq, .ref rbq, .ref roq, .ref hh, .ref lq, .ref zq, .ref yq, .int (iI le), .int (iI hsn)])), (hb, .inr (0, [.ref ak, .ref ap, .ref ac, .ref ash, .ref alo, .int (iI (rs.length : Int)), .ref apc, .ref aps, .ref apl, .int (iI np), .int (iI md), .int (iI th), va_rf lc, .int (iI nc)])), (ak, aI (K 0) 24 gk), (ap, aI (K 0) 24 gp), (ac, aI (K 0) 24 gc), (ash, aJ (K 1) 24 gs), (alo, aJ (K 1) 24 gl)]) (isC := []) (isR := [0, 1, 2, 3, 4, 5, 6]) ⟨rfl, rfl, rfl, rfl, by decide⟩ rfl rfl ⟨Nat.le_of_ble_eq_true rfl, Nat.le_of_ble_eq_true rfl⟩ ⟨Nat.le_of_ble_eq_true rfl, Nat.le_of_ble_eq_true rfl⟩ (Nat.le_of_ble_eq_true rfl) hl.1 (cells9 := 1) (slots9 := 6) ⟨rfl, rfl⟩ dX10_rule_83 (fun v u H locs hw_5 G => ?_)
      obtain ⟨rfl, rfl⟩ := hw_5
      replace G := G.perm (ws' := [(d0, .inr (10, [.ref bfq, .ref gvq, .ref ckq, .ref tuq, .ref buq, .ref hb, .ref svq, .ref rbq, .ref roq, .ref hh, .ref lq, .ref zq, .ref yq, .int (iI le), .int (iI hsn)])), (hb, .inr (0, [.ref ak, .ref ap, .ref ac, .ref ash, .ref alo, .int (iI (rs.length : Int)), .ref apc, .ref aps, .ref apl, .int (iI np), .int (iI md), .int (iI th), va_rf lc, .int (iI nc)])), (ak, aI (K 0) 24 gk), (ap, aI (K 0) 24 gp), (ac, aI (K 0) 24 gc), (ash, aJ (K 1) 24 gs), (alo, aJ (K 1) 24 gl)]) [0, 1, 2, 3, 4, 5, 6] rfl rfl
      refine W.eq (g2 := F0 m9 86 ls [.int (iI (((rget rs z).2.2.2.1).length : Int))]) rfl ?_
      exact ad_ireturn F G hR rfl (Nat.le_of_ble_eq_true rfl) (Nat.le_of_ble_eq_true rfl) ⟨(ad_eqi (by rw [cs_4]; rfl)), (by omega), (by omega), rfl⟩ dX10_rule_86
    · refine ad_tabIn (v := 4) (tgt := 87) F dX10_rule_6 cs_4 (by decide) (by decide) (by decide) rfl (by decide) ?_
      refine lv_aload_n F.1 F.2.1 dX10_rule_87 rfl (lv_at hl 0 rfl) ?_
      refine ad_get F G fl_X10_41 0 rfl rfl dX10_rule_88 ?_
      refine ad_get F G fl_X10_182 1 rfl rfl dX10_rule_91 ?_
      refine lv_iload_n F.1 F.2.1 dX10_rule_94 rfl (lv_at hl 1 rfl) ?_
      refine ad_lald F G 6 rfl (w := enc (rget rs z).2.2.2.2) (by omega) (hB z (by omega) (by omega)).2.2.2.2 dX10_rule_95 ?_
      refine ad_callS (As := [.long (enc (rget rs z).2.2.2.2)]) (rest := []) F G (c_X2_lengthOf l D K z0 ((rget rs z).2.2.2.2) ((hW.at (by omega) (by omega)).2.2.2.2.1)) my_X2_lengthOf ms_X10_176 (wr := [(d0, .inr (10, [.ref bfq, .ref gvq, .ref ckq, .ref tuq, .ref buq, .ref hb, .ref svq, .ref rbq, .ref roq, .ref hh, .ref lq, .ref zq, .ref yq, .int (iI le), .int (iI hsn)])), (hb, .inr (0, [.ref ak, .ref ap, .ref ac, .ref ash, .ref alo, .int (iI (rs.length : Int)), .ref apc, .ref aps, .ref apl, .int (iI np), .int (iI md), .int (iI th), va_rf lc, .int (iI nc)])), (ak, aI (K 0) 24 gk), (ap, aI (K 0) 24 gp), (ac, aI (K 0) 24 gc), (ash, aJ (K 1) 24 gs), (alo, aJ (K 1) 24 gl)]) (isC := []) (isR := [0, 1, 2, 3, 4, 5, 6]) ⟨rfl, rfl, rfl, rfl, by decide⟩ rfl rfl ⟨Nat.le_of_ble_eq_true rfl, Nat.le_of_ble_eq_true rfl⟩ ⟨Nat.le_of_ble_eq_true rfl, Nat.le_of_ble_eq_true rfl⟩ (Nat.le_of_ble_eq_true rfl) hl.1 (cells9 := 1) (slots9 := 6) ⟨rfl, rfl⟩ dX10_rule_96 (fun v u H locs hw_6 G => ?_)
      obtain ⟨rfl, rfl⟩ := hw_6
      replace G := G.perm (ws' := [(d0, .inr (10, [.ref bfq, .ref gvq, .ref ckq, .ref tuq, .ref buq, .ref hb, .ref svq, .ref rbq, .ref roq, .ref hh, .ref lq, .ref zq, .ref yq, .int (iI le), .int (iI hsn)])), (hb, .inr (0, [.ref ak, .ref ap, .ref ac, .ref ash, .ref alo, .int (iI (rs.length : Int)), .ref apc, .ref aps, .ref apl, .int (iI np), .int (iI md), .int (iI th), va_rf lc, .int (iI nc)])), (ak, aI (K 0) 24 gk), (ap, aI (K 0) 24 gp), (ac, aI (K 0) 24 gc), (ash, aJ (K 1) 24 gs), (alo, aJ (K 1) 24 gl)]) [0, 1, 2, 3, 4, 5, 6] rfl rfl
      refine W.eq (g2 := F0 m9 99 ls [.int (iI (((rget rs z).2.2.2.2).length : Int))]) rfl ?_
      exact ad_ireturn F G hR rfl (Nat.le_of_ble_eq_true rfl) (Nat.le_of_ble_eq_true rfl) ⟨(ad_eqi (by rw [cs_4]; rfl)), (by omega), (by omega), rfl⟩ dX10_rule_99
    · refine ad_tabIn (v := 5) (tgt := 100) F dX10_rule_6 cs_4 (by decide) (by decide) (by decide) rfl (by decide) ?_
      refine lv_aload_n F.1 F.2.1 dX10_rule_100 rfl (lv_at hl 0 rfl) ?_
      refine ad_get F G fl_X10_41 0 rfl rfl dX10_rule_101 ?_
      refine lv_iload_n F.1 F.2.1 dX10_rule_104 rfl (lv_at hl 1 rfl) ?_
      refine ad_callV (As := [.int (iI z)]) (rest := []) F G (c_X0_betterRules l D K z0 hb ak ap ac ash alo apc aps apl lc gk gp gc gs gl rs np md th nc z hB hW (by omega)) my_X0_betterRules mv_X10_185 (wr := [(d0, .inr (10, [.ref bfq, .ref gvq, .ref ckq, .ref tuq, .ref buq, .ref hb, .ref svq, .ref rbq, .ref roq, .ref hh, .ref lq, .ref zq, .ref yq, .int (iI le), .int (iI hsn)])), (ak, aI (K 0) 24 gk), (ac, aI (K 0) 24 gc)]) (isC := [1, 3, 5, 6]) (isR := [0, 2, 4]) ⟨rfl, rfl, rfl, rfl, by decide⟩ 0 0 rfl rfl rfl rfl ⟨Nat.le_of_ble_eq_true rfl, Nat.le_of_ble_eq_true rfl⟩ ⟨Nat.le_of_ble_eq_true rfl, Nat.le_of_ble_eq_true rfl⟩ (Nat.le_of_ble_eq_true rfl) hl.1 (cells9 := 1) (slots9 := 6) ⟨rfl, rfl⟩ dX10_rule_105 (fun v u H locs hw_7 G => ?_)
      obtain ⟨rfl, rfl⟩ := hw_7
      replace G := G.perm (ws' := [(d0, .inr (10, [.ref bfq, .ref gvq, .ref ckq, .ref tuq, .ref buq, .ref hb, .ref svq, .ref rbq, .ref roq, .ref hh, .ref lq, .ref zq, .ref yq, .int (iI le), .int (iI hsn)])), (hb, .inr (0, [.ref ak, .ref ap, .ref ac, .ref ash, .ref alo, .int (iI (rs.length : Int)), .ref apc, .ref aps, .ref apl, .int (iI np), .int (iI md), .int (iI th), va_rf lc, .int (iI nc)])), (ak, aI (K 0) 24 gk), (ap, aI (K 0) 24 gp), (ac, aI (K 0) 24 gc), (ash, aJ (K 1) 24 gs), (alo, aJ (K 1) 24 gl)]) [0, 3, 1, 4, 2, 5, 6] rfl rfl
      refine W.eq (g2 := F0 m9 108 ls [.int (iI (cntb (fun o => btb rs o z) rs.length))]) rfl ?_
      exact ad_ireturn F G hR rfl (Nat.le_of_ble_eq_true rfl) (Nat.le_of_ble_eq_true rfl) ⟨(ad_eqi (by rw [cs_4]; rfl)), (by omega), (by omega), rfl⟩ dX10_rule_108

def rm_X10_letter : Room := { frames := 9, cells := 2, slots := 12, locals := 171 }
set_option maxHeartbeats 4000000 in
set_option maxRecDepth 100000 in
theorem c_X10_letter (l : Launch) (hl0 : l.stackTraces = false) (D : va_G) (K : Nat → ClassId) (z0 : Nat) (d0 : Nat) (bfq : Nat) (gvq : Nat) (ckq : Nat) (tuq : Nat) (buq : Nat) (hb : Nat) (svq : Nat) (rbq : Nat) (roq : Nat) (hh : Nat) (lq : Nat) (zq : Nat) (yq : Nat) (le : Int) (hsn : Int) (ak : Nat) (ap : Nat) (ac : Nat) (ash : Nat) (alo : Nat) (apc : Nat) (aps : Nat) (apl : Nat) (lc : Option Nat) (gk : Nat → Int) (gp : Nat → Int) (gc : Nat → Int) (gs : Nat → Int64) (gl : Nat → Int64) (rs : List Rl) (np : Int) (md : Int) (th : Int) (nc : Int) (z : Int) (b : Int) (k : Int) (hB : BRep gk gp gc gs gl rs) (hW : RW rs) (hz : -2147483648 ≤ z ∧ z < 2147483648) (hbb : b = 0 ∨ b = 1) (hk : -2147483648 ≤ k ∧ k < 2147483648) : CX l D K z0 yX10_letter cX10_letter 6 (some .char) rm_X10_letter [.ref d0, .int (iI z), .int (iI b), .int (iI k)] [(d0, .inr (10, [.ref bfq, .ref gvq, .ref ckq, .ref tuq, .ref buq, .ref hb, .ref svq, .ref rbq, .ref roq, .ref hh, .ref lq, .ref zq, .ref yq, .int (iI le), .int (iI hsn)])), (hb, .inr (0, [.ref ak, .ref ap, .ref ac, .ref ash, .ref alo, .int (iI (rs.length : Int)), .ref apc, .ref aps, .ref apl, .int (iI np), .int (iI md), .int (iI th), va_rf lc, .int (iI nc)])), (ash, aJ (K 1) 24 gs), (alo, aJ (K 1) 24 gl)] (fun v9 u9 => v9 = some (.int (iI (lat (fmo (rget rs z) b) k))) ∧ (0 ≤ z ∧ z < rs.length) ∧ (0 ≤ k ∧ k < (fmo (rget rs z) b).length) ∧ u9 = [(d0, .inr (10, [.ref bfq, .ref gvq, .ref ckq, .ref tuq, .ref buq, .ref hb, .ref svq, .ref rbq, .ref roq, .ref hh, .ref lq, .ref zq, .ref yq, .int (iI le), .int (iI hsn)])), (hb, .inr (0, [.ref ak, .ref ap, .ref ac, .ref ash, .ref alo, .int (iI (rs.length : Int)), .ref apc, .ref aps, .ref apl, .int (iI np), .int (iI md), .int (iI th), va_rf lc, .int (iI nc)])), (ash, aJ (K 1) 24 gs), (alo, aJ (K 1) 24 gl)]) (fun E9 u9 => (E9 = "java/lang/IndexOutOfBoundsException" ∧ (¬ (0 ≤ z ∧ z < rs.length)) ∧ u9 = [(d0, .inr (10, [.ref bfq, .ref gvq, .ref ckq, .ref tuq, .ref buq, .ref hb, .ref svq, .ref rbq, .ref roq, .ref hh, .ref lq, .ref zq, .ref yq, .int (iI le), .int (iI hsn)])), (hb, .inr (0, [.ref ak, .ref ap, .ref ac, .ref ash, .ref alo, .int (iI (rs.length : Int)), .ref apc, .ref aps, .ref apl, .int (iI np), .int (iI md), .int (iI th), va_rf lc, .int (iI nc)])), (ash, aJ (K 1) 24 gs), (alo, aJ (K 1) 24 gl)]) ∨ (E9 = "java/util/NoSuchElementException" ∧ (0 ≤ z ∧ z < rs.length) ∧ (¬ (0 ≤ k ∧ k < (fmo (rget rs z) b).length)) ∧ u9 = [(d0, .inr (10, [.ref bfq, .ref gvq, .ref ckq, .ref tuq, .ref buq, .ref hb, .ref svq, .ref rbq, .ref roq, .ref hh, .ref lq, .ref zq, .ref yq, .int (iI le), .int (iI hsn)])), (hb, .inr (0, [.ref ak, .ref ap, .ref ac, .ref ash, .ref alo, .int (iI (rs.length : Int)), .ref apc, .ref aps, .ref apl, .int (iI np), .int (iI md), .int (iI th), va_rf lc, .int (iI nc)])), (ash, aJ (K 1) 24 gs), (alo, aJ (K 1) 24 gl)])) := by
  refine CX.start RX10 "letter" hl0 (by decide) rfl rfl (Nat.le_of_ble_eq_true rfl) ?_
  intro p9 e9 s9 m9 ag9 bl9 mt9 c9 A9 Q9 ls F G hR hX hl
  have hl : lv_has ls 6 [(0, .ref d0), (1, .int (iI z)), (2, .int (iI b)), (3, .int (iI k))] := hl
  have hn := hW.1
  have hfl := (fmo_Fw hW z b).1
  refine lv_aload_n F.1 F.2.1 dX10_letter_0 rfl (lv_at hl 0 rfl) ?_
  refine lv_iload_n F.1 F.2.1 dX10_letter_1 rfl (lv_at hl 1 rfl) ?_
  refine ad_callVX (As := [.int (iI z)]) (rest := []) F G (c_X10_requireRule l hX.1 D K z0 d0 bfq gvq ckq tuq buq hb svq rbq roq hh lq zq yq le hsn ak ap ac ash alo apc aps apl lc (rs.length : Int) np md th nc z hz (by omega)) my_X10_requireRule mv_X10_149 (wr := [(ash, aJ (K 1) 24 gs), (alo, aJ (K 1) 24 gl)]) (isC := [0, 1]) (isR := [2, 3]) ⟨rfl, rfl, rfl, rfl, by decide⟩ 10 0 rfl rfl rfl rfl ⟨Nat.le_of_ble_eq_true rfl, Nat.le_of_ble_eq_true rfl⟩ ⟨Nat.le_of_ble_eq_true rfl, Nat.le_of_ble_eq_true rfl⟩ (Nat.le_of_ble_eq_true rfl) hl.1 (cells9 := 1) (slots9 := 6) ⟨rfl, rfl⟩ dX10_letter_2 (fun E u H locs ce q hw_1 G hce hcv hcl => ?_) (fun v u H locs hw_1 G => ?_)
  · obtain ⟨rfl, hc_2, rfl⟩ := hw_1
    replace G := G.perm (ws' := [(d0, .inr (10, [.ref bfq, .ref gvq, .ref ckq, .ref tuq, .ref buq, .ref hb, .ref svq, .ref rbq, .ref roq, .ref hh, .ref lq, .ref zq, .ref yq, .int (iI le), .int (iI hsn)])), (hb, .inr (0, [.ref ak, .ref ap, .ref ac, .ref ash, .ref alo, .int (iI (rs.length : Int)), .ref apc, .ref aps, .ref apl, .int (iI np), .int (iI md), .int (iI th), va_rf lc, .int (iI nc)])), (ash, aJ (K 1) 24 gs), (alo, aJ (K 1) 24 gl)]) [2, 3, 0, 1] rfl rfl
    exact ad_out F G hX (Nat.le_of_ble_eq_true rfl) (Nat.le_of_ble_eq_true rfl) hce hcv hcl (Or.inl ⟨rfl, (by omega), rfl⟩)
  · obtain ⟨rfl, hc_3, rfl⟩ := hw_1
    replace G := G.perm (ws' := [(d0, .inr (10, [.ref bfq, .ref gvq, .ref ckq, .ref tuq, .ref buq, .ref hb, .ref svq, .ref rbq, .ref roq, .ref hh, .ref lq, .ref zq, .ref yq, .int (iI le), .int (iI hsn)])), (hb, .inr (0, [.ref ak, .ref ap, .ref ac, .ref ash, .ref alo, .int (iI (rs.length : Int)), .ref apc, .ref aps, .ref apl, .int (iI np), .int (iI md), .int (iI th), va_rf lc, .int (iI nc)])), (ash, aJ (K 1) 24 gs), (alo, aJ (K 1) 24 gl)]) [2, 3, 0, 1] rfl rfl
    refine W.eq (g2 := F0 m9 5 ls []) rfl ?_
    refine lv_aload_n F.1 F.2.1 dX10_letter_5 rfl (lv_at hl 0 rfl) ?_
    refine ad_get F G fl_X10_41 0 rfl rfl dX10_letter_6 ?_
    refine lv_iload_n F.1 F.2.1 dX10_letter_9 rfl (lv_at hl 1 rfl) ?_
    refine lv_iload_n F.1 F.2.1 dX10_letter_10 rfl (lv_at hl 2 rfl) ?_
    refine ad_callV (As := [.int (iI z), .int (iI b)]) (rest := []) F G (c_X0_formOf l D K z0 hb ak ap ac ash alo apc aps apl lc gk gp gc gs gl rs np md th nc z b hB hW hz hbb) my_X0_formOf mv_X10_189 (wr := [(d0, .inr (10, [.ref bfq, .ref gvq, .ref ckq, .ref tuq, .ref buq, .ref hb, .ref svq, .ref rbq, .ref roq, .ref hh, .ref lq, .ref zq, .ref yq, .int (iI le), .int (iI hsn)]))]) (isC := [1, 2, 3]) (isR := [0]) ⟨rfl, rfl, rfl, rfl, by decide⟩ 0 0 rfl rfl rfl rfl ⟨Nat.le_of_ble_eq_true rfl, Nat.le_of_ble_eq_true rfl⟩ ⟨Nat.le_of_ble_eq_true rfl, Nat.le_of_ble_eq_true rfl⟩ (Nat.le_of_ble_eq_true rfl) hl.1 (cells9 := 1) (slots9 := 6) ⟨rfl, rfl⟩ dX10_letter_11 (fun v u H locs hw_4 G => ?_)
    obtain ⟨rfl, rfl⟩ := hw_4
    replace G := G.perm (ws' := [(d0, .inr (10, [.ref bfq, .ref gvq, .ref ckq, .ref tuq, .ref buq, .ref hb, .ref svq, .ref rbq, .ref roq, .ref hh, .ref lq, .ref zq, .ref yq, .int (iI le), .int (iI hsn)])), (hb, .inr (0, [.ref ak, .ref ap, .ref ac, .ref ash, .ref alo, .int (iI (rs.length : Int)), .ref apc, .ref aps, .ref apl, .int (iI np), .int (iI md), .int (iI th), va_rf lc, .int (iI nc)])), (ash, aJ (K 1) 24 gs), (alo, aJ (K 1) 24 gl)]) [0, 1, 2, 3] rfl rfl
    refine W.eq (g2 := F0 m9 14 ls [.long (enc (fmo (rget rs z) b))]) rfl ?_
    refine lv_lstore (lv' := [(4, .long (enc (fmo (rget rs z) b))), (0, .ref d0), (1, .int (iI z)), (2, .int (iI b)), (3, .int (iI k))]) F.1 F.2.1 dX10_letter_14 hl (by decide) rfl (fun ls hl => ?_)
    refine lv_iload_n F.1 F.2.1 dX10_letter_16 rfl (lv_at hl 4 rfl) ?_
    refine ad_if_lt (tgt := 29) F (by omega) dX10_letter_17 (by decide) (fun cc_5 => ?_) (fun cc_5 => ?_)
    · exact ad_throw F G hX xw_X10_193_195 hl.1 (Nat.le_of_ble_eq_true rfl) (Nat.le_of_ble_eq_true rfl) (Nat.le_of_ble_eq_true rfl) (Nat.le_of_ble_eq_true rfl) (Nat.le_of_ble_eq_true rfl) (Nat.le_of_ble_eq_true rfl) (Or.inr (⟨rfl, (by omega), (by omega), rfl⟩)) dX10_letter_29 dX10_letter_32 dX10_letter_33 dX10_letter_36
    · refine lv_iload_n F.1 F.2.1 dX10_letter_20 rfl (lv_at hl 4 rfl) ?_
      refine lv_lload F.1 F.2.1 dX10_letter_21 (lv_at hl 0 rfl) ?_
      refine ad_callS (As := [.long (enc (fmo (rget rs z) b))]) (rest := [.int (iI k)]) F G (c_X2_lengthOf l D K z0 (fmo (rget rs z) b) (fmo_Fw hW _ _)) my_X2_lengthOf ms_X10_176 (wr := [(d0, .inr (10, [.ref bfq, .ref gvq, .ref ckq, .ref tuq, .ref buq, .ref hb, .ref svq, .ref rbq, .ref roq, .ref hh, .ref lq, .ref zq, .ref yq, .int (iI le), .int (iI hsn)])), (hb, .inr (0, [.ref ak, .ref ap, .ref ac, .ref ash, .ref alo, .int (iI (rs.length : Int)), .ref apc, .ref aps, .ref apl, .int (iI np), .int (iI md), .int (iI th), va_rf lc, .int (iI nc)])), (ash, aJ (K 1) 24 gs), (alo, aJ (K 1) 24 gl)]) (isC := []) (isR := [0, 1, 2, 3]) ⟨rfl, rfl, rfl, rfl, by decide⟩ rfl rfl ⟨Nat.le_of_ble_eq_true rfl, Nat.le_of_ble_eq_true rfl⟩ ⟨Nat.le_of_ble_eq_true rfl, Nat.le_of_ble_eq_true rfl⟩ (Nat.le_of_ble_eq_true rfl) hl.1 (cells9 := 1) (slots9 := 6) ⟨rfl, rfl⟩ dX10_letter_23 (fun v u H locs hw_6 G => ?_)
      obtain ⟨rfl, rfl⟩ := hw_6
      replace G := G.perm (ws' := [(d0, .inr (10, [.ref bfq, .ref gvq, .ref ckq, .ref tuq, .ref buq, .ref hb, .ref svq, .ref rbq, .ref roq, .ref hh, .ref lq, .ref zq, .ref yq, .int (iI le), .int (iI hsn)])), (hb, .inr (0, [.ref ak, .ref ap, .ref ac, .ref ash, .ref alo, .int (iI (rs.length : Int)), .ref apc, .ref aps, .ref apl, .int (iI np), .int (iI md), .int (iI th), va_rf lc, .int (iI nc)])), (ash, aJ (K 1) 24 gs), (alo, aJ (K 1) 24 gl)]) [0, 1, 2, 3] rfl rfl
      refine W.eq (g2 := F0 m9 26 ls [.int (iI ((fmo (rget rs z) b).length : Int)), .int (iI k)]) rfl ?_
      refine ad_icmp_lt (tgt := 37) F (by omega) dX10_letter_26 (by decide) (fun cc_7 => ?_) (fun cc_7 => ?_)
      · refine lv_lload F.1 F.2.1 dX10_letter_37 (lv_at hl 0 rfl) ?_
        refine lv_iload_n F.1 F.2.1 dX10_letter_39 rfl (lv_at hl 4 rfl) ?_
        refine ad_callS (As := [.long (enc (fmo (rget rs z) b)), .int (iI k)]) (rest := []) F G (c_X2_letterAt l D K z0 (fmo (rget rs z) b) k (fmo_Fw hW _ _) (by omega)) my_X2_letterAt ms_X10_196 (wr := [(d0, .inr (10, [.ref bfq, .ref gvq, .ref ckq, .ref tuq, .ref buq, .ref hb, .ref svq, .ref rbq, .ref roq, .ref hh, .ref lq, .ref zq, .ref yq, .int (iI le), .int (iI hsn)])), (hb, .inr (0, [.ref ak, .ref ap, .ref ac, .ref ash, .ref alo, .int (iI (rs.length : Int)), .ref apc, .ref aps, .ref apl, .int (iI np), .int (iI md), .int (iI th), va_rf lc, .int (iI nc)])), (ash, aJ (K 1) 24 gs), (alo, aJ (K 1) 24 gl)]) (isC := []) (isR := [0, 1, 2, 3]) ⟨rfl, rfl, rfl, rfl, by decide⟩ rfl rfl ⟨Nat.le_of_ble_eq_true rfl, Nat.le_of_ble_eq_true rfl⟩ ⟨Nat.le_of_ble_eq_true rfl, Nat.le_of_ble_eq_true rfl⟩ (Nat.le_of_ble_eq_true rfl) hl.1 (cells9 := 1) (slots9 := 6) ⟨rfl, rfl⟩ dX10_letter_40 (fun v u H locs hw_8 G => ?_)
        obtain ⟨rfl, rfl⟩ := hw_8
        replace G := G.perm (ws' := [(d0, .inr (10, [.ref bfq, .ref gvq, .ref ckq, .ref tuq, .ref buq, .ref hb, .ref svq, .ref rbq, .ref roq, .ref hh, .ref lq, .ref zq, .ref yq, .int (iI le), .int (iI hsn)])), (hb, .inr (0, [.ref ak, .ref ap, .ref ac, .ref ash, .ref alo, .int (iI (rs.length : Int)), .ref apc, .ref aps, .ref apl, .int (iI np), .int (iI md), .int (iI th), va_rf lc, .int (iI nc)])), (ash, aJ (K 1) 24 gs), (alo, aJ (K 1) 24 gl)]) [0, 1, 2, 3] rfl rfl
        refine W.eq (g2 := F0 m9 43 ls [.int (iI (lat (fmo (rget rs z) b) k))]) rfl ?_
        exact ad_zreturn F G hR rfl (Nat.le_of_ble_eq_true rfl) (Nat.le_of_ble_eq_true rfl) (iI_charN (by have := lat_let (fmo_Fw hW z b) (k := k) (by omega) (by omega); omega)).1 ⟨rfl, (by omega), (by omega), rfl⟩ dX10_letter_43
      · exact ad_throw F G hX xw_X10_193_195 hl.1 (Nat.le_of_ble_eq_true rfl) (Nat.le_of_ble_eq_true rfl) (Nat.le_of_ble_eq_true rfl) (Nat.le_of_ble_eq_true rfl) (Nat.le_of_ble_eq_true rfl) (Nat.le_of_ble_eq_true rfl) (Or.inr (⟨rfl, (by omega), (by omega), rfl⟩)) dX10_letter_29 dX10_letter_32 dX10_letter_33 dX10_letter_36

def rm_X10_count : Room := { frames := 8, cells := 1, slots := 6, locals := 150 }
set_option maxHeartbeats 4000000 in
set_option maxRecDepth 100000 in
theorem c_X10_count (l : Launch) (hl0 : l.stackTraces = false) (D : va_G) (K : Nat → ClassId) (z0 : Nat) (d0 : Nat) (bfq : Nat) (gvq : Nat) (ckq : Nat) (tuq : Nat) (buq : Nat) (hb : Nat) (svq : Nat) (rbq : Nat) (roq : Nat) (hh : Nat) (lq : Nat) (zq : Nat) (yq : Nat) (le : Int) (hsn : Int) (ak : Nat) (ap : Nat) (ac : Nat) (ash : Nat) (alo : Nat) (apc : Nat) (aps : Nat) (apl : Nat) (lc : Option Nat) (gk : Nat → Int) (gp : Nat → Int) (gc : Nat → Int) (gs : Nat → Int64) (gl : Nat → Int64) (rs : List Rl) (np : Int) (md : Int) (th : Int) (nc : Int) (ba : Nat) (bl : Int) (ar : Nat) (sz : Int) (w : Int) (ps : List Pr) (hB : BRep gk gp gc gs gl rs) (hW : RW rs) (hw : -2147483648 ≤ w ∧ w < 2147483648) : CX l D K z0 yX10_count cX10_count 2 (some .int) rm_X10_count [.ref d0, .int (iI w)] [(d0, .inr (10, [.ref bfq, .ref gvq, .ref ckq, .ref tuq, .ref buq, .ref hb, .ref svq, .ref rbq, .ref roq, .ref hh, .ref lq, .ref zq, .ref yq, .int (iI le), .int (iI hsn)])), (hb, .inr (0, [.ref ak, .ref ap, .ref ac, .ref ash, .ref alo, .int (iI (rs.length : Int)), .ref apc, .ref aps, .ref apl, .int (iI (ps.length : Int)), .int (iI md), .int (iI th), va_rf lc, .int (iI nc)])), (ak, aI (K 0) 24 gk), (ac, aI (K 0) 24 gc), (ash, aJ (K 1) 24 gs), (alo, aJ (K 1) 24 gl), (bfq, .inr (7, [.ref ba, .int (iI bl)])), (hh, .inr (3, [.ref ar, .int (iI sz)]))] (fun v9 u9 => v9 = some (.int (iI (cnA rs ps md th bl sz nc w))) ∧ (0 ≤ w ∧ w ≤ 7) ∧ u9 = [(d0, .inr (10, [.ref bfq, .ref gvq, .ref ckq, .ref tuq, .ref buq, .ref hb, .ref svq, .ref rbq, .ref roq, .ref hh, .ref lq, .ref zq, .ref yq, .int (iI le), .int (iI hsn)])), (hb, .inr (0, [.ref ak, .ref ap, .ref ac, .ref ash, .ref alo, .int (iI (rs.length : Int)), .ref apc, .ref aps, .ref apl, .int (iI (ps.length : Int)), .int (iI md), .int (iI th), va_rf lc, .int (iI nc)])), (ak, aI (K 0) 24 gk), (ac, aI (K 0) 24 gc), (ash, aJ (K 1) 24 gs), (alo, aJ (K 1) 24 gl), (bfq, .inr (7, [.ref ba, .int (iI bl)])), (hh, .inr (3, [.ref ar, .int (iI sz)]))]) (fun E9 u9 => E9 = "java/lang/IllegalArgumentException" ∧ (¬ (0 ≤ w ∧ w ≤ 7)) ∧ u9 = [(d0, .inr (10, [.ref bfq, .ref gvq, .ref ckq, .ref tuq, .ref buq, .ref hb, .ref svq, .ref rbq, .ref roq, .ref hh, .ref lq, .ref zq, .ref yq, .int (iI le), .int (iI hsn)])), (hb, .inr (0, [.ref ak, .ref ap, .ref ac, .ref ash, .ref alo, .int (iI (rs.length : Int)), .ref apc, .ref aps, .ref apl, .int (iI (ps.length : Int)), .int (iI md), .int (iI th), va_rf lc, .int (iI nc)])), (ak, aI (K 0) 24 gk), (ac, aI (K 0) 24 gc), (ash, aJ (K 1) 24 gs), (alo, aJ (K 1) 24 gl), (bfq, .inr (7, [.ref ba, .int (iI bl)])), (hh, .inr (3, [.ref ar, .int (iI sz)]))]) := by
  refine CX.start RX10 "count" hl0 (by decide) rfl rfl (Nat.le_of_ble_eq_true rfl) ?_
  intro p9 e9 s9 m9 ag9 bl9 mt9 c9 A9 Q9 ls F G hR hX hl
  have hl : lv_has ls 2 [(0, .ref d0), (1, .int (iI w))] := hl
  have hn := hW.1
  refine lv_iload_n F.1 F.2.1 dX10_count_0 rfl (lv_at hl 1 rfl) ?_
  rcases (show (w < 0 ∨ 7 < w) ∨ w = 0 ∨ w = 1 ∨ w = 2 ∨ w = 3 ∨ w = 4 ∨ w = 5 ∨ w = 6 ∨ w = 7 by omega) with cs_1 | cs_1 | cs_1 | cs_1 | cs_1 | cs_1 | cs_1 | cs_1 | cs_1
  · refine ad_tabOut (tgt := 112) F dX10_count_1 (by omega) cs_1 (by decide) ?_
    exact ad_throw F G hX xw_X10_94_96 hl.1 (Nat.le_of_ble_eq_true rfl) (Nat.le_of_ble_eq_true rfl) (Nat.le_of_ble_eq_true rfl) (Nat.le_of_ble_eq_true rfl) (Nat.le_of_ble_eq_true rfl) (Nat.le_of_ble_eq_true rfl) ⟨rfl, (by omega), rfl⟩ dX10_count_112 dX10_count_115 dX10_count_116 dX10_count_119
  · refine ad_tabIn (v := 0) (tgt := 48) F dX10_count_1 cs_1 (by decide) (by decide) (by decide) rfl (by decide) ?_
    refine lv_aload_n F.1 F.2.1 dX10_count_48 rfl (lv_at hl 0 rfl) ?_
    refine ad_get F G fl_X10_41 0 rfl rfl dX10_count_49 ?_
    refine ad_get F G fl_X10_85 1 rfl rfl dX10_count_52 ?_
    exact ad_ireturn F G hR rfl (Nat.le_of_ble_eq_true rfl) (Nat.le_of_ble_eq_true rfl) ⟨(ad_eqi (by rw [cs_1]; rfl)), (by omega), rfl⟩ dX10_count_55
  · refine ad_tabIn (v := 1) (tgt := 56) F dX10_count_1 cs_1 (by decide) (by decide) (by decide) rfl (by decide) ?_
    refine lv_aload_n F.1 F.2.1 dX10_count_56 rfl (lv_at hl 0 rfl) ?_
    refine ad_get F G fl_X10_41 0 rfl rfl dX10_count_57 ?_
    refine ad_get F G fl_X10_200 1 rfl rfl dX10_count_60 ?_
    exact ad_ireturn F G hR rfl (Nat.le_of_ble_eq_true rfl) (Nat.le_of_ble_eq_true rfl) ⟨(ad_eqi (by rw [cs_1]; rfl)), (by omega), rfl⟩ dX10_count_63
  · refine ad_tabIn (v := 2) (tgt := 64) F dX10_count_1 cs_1 (by decide) (by decide) (by decide) rfl (by decide) ?_
    refine lv_aload_n F.1 F.2.1 dX10_count_64 rfl (lv_at hl 0 rfl) ?_
    refine ad_get F G fl_X10_41 0 rfl rfl dX10_count_65 ?_
    refine ad_get F G fl_X10_163 1 rfl rfl dX10_count_68 ?_
    exact ad_ireturn F G hR rfl (Nat.le_of_ble_eq_true rfl) (Nat.le_of_ble_eq_true rfl) ⟨(ad_eqi (by rw [cs_1]; rfl)), (by omega), rfl⟩ dX10_count_71
  · refine ad_tabIn (v := 3) (tgt := 72) F dX10_count_1 cs_1 (by decide) (by decide) (by decide) rfl (by decide) ?_
    refine lv_aload_n F.1 F.2.1 dX10_count_72 rfl (lv_at hl 0 rfl) ?_
    refine ad_get F G fl_X10_41 0 rfl rfl dX10_count_73 ?_
    refine ad_get F G fl_X10_166 1 rfl rfl dX10_count_76 ?_
    exact ad_ireturn F G hR rfl (Nat.le_of_ble_eq_true rfl) (Nat.le_of_ble_eq_true rfl) ⟨(ad_eqi (by rw [cs_1]; rfl)), (by omega), rfl⟩ dX10_count_79
  · refine ad_tabIn (v := 4) (tgt := 80) F dX10_count_1 cs_1 (by decide) (by decide) (by decide) rfl (by decide) ?_
    refine lv_aload_n F.1 F.2.1 dX10_count_80 rfl (lv_at hl 0 rfl) ?_
    refine ad_get F G fl_X10_41 0 rfl rfl dX10_count_81 ?_
    refine ad_callV (As := []) (rest := []) F G (c_X0_collisions l D K z0 hb ak ap ac ash alo apc aps apl lc gk gp gc gs gl rs (ps.length : Int) md th nc hB hW) my_X0_collisions mv_X10_203 (wr := [(d0, .inr (10, [.ref bfq, .ref gvq, .ref ckq, .ref tuq, .ref buq, .ref hb, .ref svq, .ref rbq, .ref roq, .ref hh, .ref lq, .ref zq, .ref yq, .int (iI le), .int (iI hsn)])), (bfq, .inr (7, [.ref ba, .int (iI bl)])), (hh, .inr (3, [.ref ar, .int (iI sz)]))]) (isC := [1, 2, 3, 4, 5]) (isR := [0, 6, 7]) ⟨rfl, rfl, rfl, rfl, by decide⟩ 0 0 rfl rfl rfl rfl ⟨Nat.le_of_ble_eq_true rfl, Nat.le_of_ble_eq_true rfl⟩ ⟨Nat.le_of_ble_eq_true rfl, Nat.le_of_ble_eq_true rfl⟩ (Nat.le_of_ble_eq_true rfl) hl.1 (cells9 := 0) (slots9 := 0) ⟨rfl, rfl⟩ dX10_count_84 (fun v u H locs hw_2 G => ?_)
    obtain ⟨rfl, rfl⟩ := hw_2
    replace G := G.perm (ws' := [(d0, .inr (10, [.ref bfq, .ref gvq, .ref ckq, .ref tuq, .ref buq, .ref hb, .ref svq, .ref rbq, .ref roq, .ref hh, .ref lq, .ref zq, .ref yq, .int (iI le), .int (iI hsn)])), (hb, .inr (0, [.ref ak, .ref ap, .ref ac, .ref ash, .ref alo, .int (iI (rs.length : Int)), .ref apc, .ref aps, .ref apl, .int (iI (ps.length : Int)), .int (iI md), .int (iI th), va_rf lc, .int (iI nc)])), (ak, aI (K 0) 24 gk), (ac, aI (K 0) 24 gc), (ash, aJ (K 1) 24 gs), (alo, aJ (K 1) 24 gl), (bfq, .inr (7, [.ref ba, .int (iI bl)])), (hh, .inr (3, [.ref ar, .int (iI sz)]))]) [0, 3, 4, 5, 6, 7, 1, 2] rfl rfl
    refine W.eq (g2 := F0 m9 87 ls [.int (iI ((colO rs rs.length).length : Int))]) rfl ?_
    exact ad_ireturn F G hR rfl (Nat.le_of_ble_eq_true rfl) (Nat.le_of_ble_eq_true rfl) ⟨(ad_eqi (by rw [cs_1]; rfl)), (by omega), rfl⟩ dX10_count_87
  · refine ad_tabIn (v := 5) (tgt := 88) F dX10_count_1 cs_1 (by decide) (by decide) (by decide) rfl (by decide) ?_
    refine lv_aload_n F.1 F.2.1 dX10_count_88 rfl (lv_at hl 0 rfl) ?_
    refine ad_get F G fl_X10_14 0 rfl rfl dX10_count_89 ?_
    refine ad_callV (As := []) (rest := []) F G (c_X7_size l D K z0 bfq ba bl ) my_X7_size mv_X10_97 (wr := [(d0, .inr (10, [.ref bfq, .ref gvq, .ref ckq, .ref tuq, .ref buq, .ref hb, .ref svq, .ref rbq, .ref roq, .ref hh, .ref lq, .ref zq, .ref yq, .int (iI le), .int (iI hsn)])), (hb, .inr (0, [.ref ak, .ref ap, .ref ac, .ref ash, .ref alo, .int (iI (rs.length : Int)), .ref apc, .ref aps, .ref apl, .int (iI (ps.length : Int)), .int (iI md), .int (iI th), va_rf lc, .int (iI nc)])), (ak, aI (K 0) 24 gk), (ac, aI (K 0) 24 gc), (ash, aJ (K 1) 24 gs), (alo, aJ (K 1) 24 gl), (hh, .inr (3, [.ref ar, .int (iI sz)]))]) (isC := [6]) (isR := [0, 1, 2, 3, 4, 5, 7]) ⟨rfl, rfl, rfl, rfl, by decide⟩ 7 0 rfl rfl rfl rfl ⟨Nat.le_of_ble_eq_true rfl, Nat.le_of_ble_eq_true rfl⟩ ⟨Nat.le_of_ble_eq_true rfl, Nat.le_of_ble_eq_true rfl⟩ (Nat.le_of_ble_eq_true rfl) hl.1 (cells9 := 0) (slots9 := 0) ⟨rfl, rfl⟩ dX10_count_92 (fun v u H locs hw_3 G => ?_)
    obtain ⟨rfl, rfl⟩ := hw_3
    replace G := G.perm (ws' := [(d0, .inr (10, [.ref bfq, .ref gvq, .ref ckq, .ref tuq, .ref buq, .ref hb, .ref svq, .ref rbq, .ref roq, .ref hh, .ref lq, .ref zq, .ref yq, .int (iI le), .int (iI hsn)])), (hb, .inr (0, [.ref ak, .ref ap, .ref ac, .ref ash, .ref alo, .int (iI (rs.length : Int)), .ref apc, .ref aps, .ref apl, .int (iI (ps.length : Int)), .int (iI md), .int (iI th), va_rf lc, .int (iI nc)])), (ak, aI (K 0) 24 gk), (ac, aI (K 0) 24 gc), (ash, aJ (K 1) 24 gs), (alo, aJ (K 1) 24 gl), (bfq, .inr (7, [.ref ba, .int (iI bl)])), (hh, .inr (3, [.ref ar, .int (iI sz)]))]) [0, 1, 2, 3, 4, 5, 7, 6] rfl rfl
    refine W.eq (g2 := F0 m9 95 ls [.int (iI bl)]) rfl ?_
    exact ad_ireturn F G hR rfl (Nat.le_of_ble_eq_true rfl) (Nat.le_of_ble_eq_true rfl) ⟨(ad_eqi (by rw [cs_1]; rfl)), (by omega), rfl⟩ dX10_count_95
  · refine ad_tabIn (v := 6) (tgt := 96) F dX10_count_1 cs_1 (by decide) (by decide) (by decide) rfl (by decide) ?_
    refine lv_aload_n F.1 F.2.1 dX10_count_96 rfl (lv_at hl 0 rfl) ?_
    refine ad_get F G fl_X10_60 0 rfl rfl dX10_count_97 ?_
    refine ad_get F G fl_X10_206 7 rfl rfl dX10_count_100 ?_
    exact ad_ireturn F G hR rfl (Nat.le_of_ble_eq_true rfl) (Nat.le_of_ble_eq_true rfl) ⟨(ad_eqi (by rw [cs_1]; rfl)), (by omega), rfl⟩ dX10_count_103
  · refine ad_tabIn (v := 7) (tgt := 104) F dX10_count_1 cs_1 (by decide) (by decide) (by decide) rfl (by decide) ?_
    refine lv_aload_n F.1 F.2.1 dX10_count_104 rfl (lv_at hl 0 rfl) ?_
    refine ad_get F G fl_X10_41 0 rfl rfl dX10_count_105 ?_
    refine ad_get F G fl_X10_208 1 rfl rfl dX10_count_108 ?_
    exact ad_ireturn F G hR rfl (Nat.le_of_ble_eq_true rfl) (Nat.le_of_ble_eq_true rfl) ⟨(ad_eqi (by rw [cs_1]; rfl)), (by omega), rfl⟩ dX10_count_111

def rm_X10_collision : Room := { frames := 8, cells := 1, slots := 6, locals := 150 }
set_option maxHeartbeats 4000000 in
set_option maxRecDepth 100000 in
theorem c_X10_collision (l : Launch) (hl0 : l.stackTraces = false) (D : va_G) (K : Nat → ClassId) (z0 : Nat) (d0 : Nat) (bfq : Nat) (gvq : Nat) (ckq : Nat) (tuq : Nat) (buq : Nat) (hb : Nat) (svq : Nat) (rbq : Nat) (roq : Nat) (hh : Nat) (lq : Nat) (zq : Nat) (yq : Nat) (le : Int) (hsn : Int) (ak : Nat) (ap : Nat) (ac : Nat) (ash : Nat) (alo : Nat) (apc : Nat) (aps : Nat) (apl : Nat) (lc : Option Nat) (gk : Nat → Int) (gp : Nat → Int) (gc : Nat → Int) (gs : Nat → Int64) (gl : Nat → Int64) (rs : List Rl) (np : Int) (md : Int) (th : Int) (nc : Int) (z : Int) (b : Int) (hB : BRep gk gp gc gs gl rs) (hW : RW rs) (hz : -2147483648 ≤ z ∧ z < 2147483648) (hbb : b = 0 ∨ b = 1) : CX l D K z0 yX10_collision cX10_collision 4 (some .int) rm_X10_collision [.ref d0, .int (iI z), .int (iI b)] [(d0, .inr (10, [.ref bfq, .ref gvq, .ref ckq, .ref tuq, .ref buq, .ref hb, .ref svq, .ref rbq, .ref roq, .ref hh, .ref lq, .ref zq, .ref yq, .int (iI le), .int (iI hsn)])), (hb, .inr (0, [.ref ak, .ref ap, .ref ac, .ref ash, .ref alo, .int (iI (rs.length : Int)), .ref apc, .ref aps, .ref apl, .int (iI np), .int (iI md), .int (iI th), va_rf lc, .int (iI nc)])), (ak, aI (K 0) 24 gk), (ac, aI (K 0) 24 gc), (ash, aJ (K 1) 24 gs), (alo, aJ (K 1) 24 gl)] (fun v9 u9 => ∃ (r : Int), v9 = some (.int (iI r)) ∧ (∃ x y : Int, 0 ≤ z ∧ (colO rs rs.length)[z.toNat]? = some (x, y) ∧ r = (if b = 1 then y else x)) ∧ u9 = [(d0, .inr (10, [.ref bfq, .ref gvq, .ref ckq, .ref tuq, .ref buq, .ref hb, .ref svq, .ref rbq, .ref roq, .ref hh, .ref lq, .ref zq, .ref yq, .int (iI le), .int (iI hsn)])), (hb, .inr (0, [.ref ak, .ref ap, .ref ac, .ref ash, .ref alo, .int (iI (rs.length : Int)), .ref apc, .ref aps, .ref apl, .int (iI np), .int (iI md), .int (iI th), va_rf lc, .int (iI nc)])), (ak, aI (K 0) 24 gk), (ac, aI (K 0) 24 gc), (ash, aJ (K 1) 24 gs), (alo, aJ (K 1) 24 gl)]) (fun E9 u9 => E9 = "java/util/NoSuchElementException" ∧ (z < 0 ∨ ((colO rs rs.length).length : Int) ≤ z) ∧ u9 = [(d0, .inr (10, [.ref bfq, .ref gvq, .ref ckq, .ref tuq, .ref buq, .ref hb, .ref svq, .ref rbq, .ref roq, .ref hh, .ref lq, .ref zq, .ref yq, .int (iI le), .int (iI hsn)])), (hb, .inr (0, [.ref ak, .ref ap, .ref ac, .ref ash, .ref alo, .int (iI (rs.length : Int)), .ref apc, .ref aps, .ref apl, .int (iI np), .int (iI md), .int (iI th), va_rf lc, .int (iI nc)])), (ak, aI (K 0) 24 gk), (ac, aI (K 0) 24 gc), (ash, aJ (K 1) 24 gs), (alo, aJ (K 1) 24 gl)]) := by
  refine CX.start RX10 "collision" hl0 (by decide) rfl rfl (Nat.le_of_ble_eq_true rfl) ?_
  intro p9 e9 s9 m9 ag9 bl9 mt9 c9 A9 Q9 ls F G hR hX hl
  have hl : lv_has ls 4 [(0, .ref d0), (1, .int (iI z)), (2, .int (iI b))] := hl
  have hn := hW.1
  refine lv_aload_n F.1 F.2.1 dX10_collision_0 rfl (lv_at hl 0 rfl) ?_
  refine ad_get F G fl_X10_41 0 rfl rfl dX10_collision_1 ?_
  refine lv_iload_n F.1 F.2.1 dX10_collision_4 rfl (lv_at hl 1 rfl) ?_
  refine lv_iload_n F.1 F.2.1 dX10_collision_5 rfl (lv_at hl 2 rfl) ?_
  refine ad_callV (As := [.int (iI z), .int (iI b)]) (rest := []) F G (c_X0_collidingRule l D K z0 hb ak ap ac ash alo apc aps apl lc gk gp gc gs gl rs np md th nc z b hB hW hz hbb) my_X0_collidingRule mv_X10_211 (wr := [(d0, .inr (10, [.ref bfq, .ref gvq, .ref ckq, .ref tuq, .ref buq, .ref hb, .ref svq, .ref rbq, .ref roq, .ref hh, .ref lq, .ref zq, .ref yq, .int (iI le), .int (iI hsn)]))]) (isC := [1, 2, 3, 4, 5]) (isR := [0]) ⟨rfl, rfl, rfl, rfl, by decide⟩ 0 0 rfl rfl rfl rfl ⟨Nat.le_of_ble_eq_true rfl, Nat.le_of_ble_eq_true rfl⟩ ⟨Nat.le_of_ble_eq_true rfl, Nat.le_of_ble_eq_true rfl⟩ (Nat.le_of_ble_eq_true rfl) hl.1 (cells9 := 0) (slots9 := 0) ⟨rfl, rfl⟩ dX10_collision_6 (fun v u H locs hw_1 G => ?_)
  obtain ⟨r_2, rfl, hc_3, rfl⟩ := hw_1
  replace G := G.perm (ws' := [(d0, .inr (10, [.ref bfq, .ref gvq, .ref ckq, .ref tuq, .ref buq, .ref hb, .ref svq, .ref rbq, .ref roq, .ref hh, .ref lq, .ref zq, .ref yq, .int (iI le), .int (iI hsn)])), (hb, .inr (0, [.ref ak, .ref ap, .ref ac, .ref ash, .ref alo, .int (iI (rs.length : Int)), .ref apc, .ref aps, .ref apl, .int (iI np), .int (iI md), .int (iI th), va_rf lc, .int (iI nc)])), (ak, aI (K 0) 24 gk), (ac, aI (K 0) 24 gc), (ash, aJ (K 1) 24 gs), (alo, aJ (K 1) 24 gl)]) [0, 1, 2, 3, 4, 5] rfl rfl
  refine W.eq (g2 := F0 m9 9 ls [.int (iI r_2)]) rfl ?_
  have hrb : -1 ≤ r_2 ∧ r_2 < 2147483648 := by
    rcases hc_3 with ⟨x, y, a1, a2, a3, a4⟩ | ⟨a1, -⟩
    · have hm := colO_in _ (List.mem_of_getElem? a2)
      have := hW.1
      split at a3 <;> omega
    · omega
  refine lv_istore_n (lv' := [(3, .int (iI r_2)), (0, .ref d0), (1, .int (iI z)), (2, .int (iI b))]) F.1 F.2.1 dX10_collision_9 rfl hl (by decide) rfl (fun ls hl => ?_)
  refine lv_iload_n F.1 F.2.1 dX10_collision_10 rfl (lv_at hl 0 rfl) ?_
  refine ad_if_ge (tgt := 22) F (by omega) dX10_collision_11 (by decide) (fun cc_4 => ?_) (fun cc_4 => ?_)
  · refine lv_iload_n F.1 F.2.1 dX10_collision_22 rfl (lv_at hl 0 rfl) ?_
    exact ad_ireturn F G hR rfl (Nat.le_of_ble_eq_true rfl) (Nat.le_of_ble_eq_true rfl) ⟨r_2, rfl, (by rcases hc_3 with ⟨x, y, a1, a2, a3, a4⟩ | ⟨a1, a2⟩; exact ⟨x, y, a1, a2, a3⟩; omega), rfl⟩ dX10_collision_23
  · exact ad_throw F G hX xw_X10_193_195 hl.1 (Nat.le_of_ble_eq_true rfl) (Nat.le_of_ble_eq_true rfl) (Nat.le_of_ble_eq_true rfl) (Nat.le_of_ble_eq_true rfl) (Nat.le_of_ble_eq_true rfl) (Nat.le_of_ble_eq_true rfl) ⟨rfl, (by rcases hc_3 with ⟨x, y, a1, a2, a3, a4⟩ | ⟨a1, a2⟩; omega; exact a2), rfl⟩ dX10_collision_14 dX10_collision_17 dX10_collision_18 dX10_collision_21
