def isV (x : Int) : Prop := x = 97 ∨ x = 101 ∨ x = 105 ∨ x = 111 ∨ x = 117
def rm_X10_isLetter : Room := { frames := 1, cells := 0, slots := 0, locals := 12 }
set_option maxHeartbeats 4000000 in
set_option maxRecDepth 100000 in
theorem c_X10_isLetter (l : Launch) (D : va_G) (K : Nat → ClassId) (z0 : Nat) (x : Int) (hx : 0 ≤ x ∧ x < 65536) : CT l D K z0 yX10_isLetter cX10_isLetter 1 (some .boolean) rm_X10_isLetter [.int (iI x)] [] (fun v9 u9 => (v9 = some (.int (iI 1)) ∧ (97 ≤ x ∧ x ≤ 122) ∧ u9 = []) ∨ (v9 = some (.int (iI 0)) ∧ (¬ (97 ≤ x ∧ x ≤ 122)) ∧ u9 = [])) := by
  refine CT.start RX10 "isLetter" (by decide) rfl rfl (Nat.le_of_ble_eq_true rfl) ?_
  intro p9 e9 s9 m9 ag9 bl9 mt9 c9 A9 Q9 ls F G hR hl
  have hl : lv_has ls 1 [(0, .int (iI x))] := hl
  refine lv_iload_n F.1 F.2.1 dX10_isLetter_0 rfl (lv_at hl 0 rfl) ?_
  refine ad_bipush F dX10_isLetter_1 (by decide) ?_
  refine ad_icmp_lt (tgt := 16) F (by omega) dX10_isLetter_3 (by decide) (fun cc_1 => ?_) (fun cc_1 => ?_)
  · refine ad_iconst F dX10_isLetter_16 ?_
    exact ad_zreturn F G hR rfl (Nat.le_of_ble_eq_true rfl) (Nat.le_of_ble_eq_true rfl) rfl (Or.inr (⟨rfl, (by omega), rfl⟩)) dX10_isLetter_17
  · refine lv_iload_n F.1 F.2.1 dX10_isLetter_6 rfl (lv_at hl 0 rfl) ?_
    refine ad_bipush F dX10_isLetter_7 (by decide) ?_
    refine ad_icmp_gt (tgt := 16) F (by omega) dX10_isLetter_9 (by decide) (fun cc_2 => ?_) (fun cc_2 => ?_)
    · refine ad_iconst F dX10_isLetter_16 ?_
      exact ad_zreturn F G hR rfl (Nat.le_of_ble_eq_true rfl) (Nat.le_of_ble_eq_true rfl) rfl (Or.inr (⟨rfl, (by omega), rfl⟩)) dX10_isLetter_17
    · refine ad_iconst F dX10_isLetter_12 ?_
      refine lv_goto (tgt := 17) F.1 F.2.1 dX10_isLetter_13 (by decide) ?_
      exact ad_zreturn F G hR rfl (Nat.le_of_ble_eq_true rfl) (Nat.le_of_ble_eq_true rfl) rfl (Or.inl ⟨rfl, (by omega), rfl⟩) dX10_isLetter_17

def rm_X10_isVowel : Room := { frames := 1, cells := 0, slots := 0, locals := 12 }
set_option maxHeartbeats 4000000 in
set_option maxRecDepth 100000 in
theorem c_X10_isVowel (l : Launch) (D : va_G) (K : Nat → ClassId) (z0 : Nat) (x : Int) (hx : 0 ≤ x ∧ x < 65536) : CT l D K z0 yX10_isVowel cX10_isVowel 1 (some .boolean) rm_X10_isVowel [.int (iI x)] [] (fun v9 u9 => (v9 = some (.int (iI 1)) ∧ (isV x) ∧ u9 = []) ∨ (v9 = some (.int (iI 0)) ∧ (¬ isV x) ∧ u9 = [])) := by
  refine CT.start RX10 "isVowel" (by decide) rfl rfl (Nat.le_of_ble_eq_true rfl) ?_
  intro p9 e9 s9 m9 ag9 bl9 mt9 c9 A9 Q9 ls F G hR hl
  have hl : lv_has ls 1 [(0, .int (iI x))] := hl
  refine lv_iload_n F.1 F.2.1 dX10_isVowel_0 rfl (lv_at hl 0 rfl) ?_
  refine ad_bipush F dX10_isVowel_1 (by decide) ?_
  refine ad_icmp_eq (tgt := 30) F (by omega) dX10_isVowel_3 (by decide) (fun cc_1 => ?_) (fun cc_1 => ?_)
  · refine ad_iconst F dX10_isVowel_30 ?_
    refine lv_goto (tgt := 35) F.1 F.2.1 dX10_isVowel_31 (by decide) ?_
    exact ad_zreturn F G hR rfl (Nat.le_of_ble_eq_true rfl) (Nat.le_of_ble_eq_true rfl) rfl (Or.inl ⟨rfl, (by unfold isV; omega), rfl⟩) dX10_isVowel_35
  · refine lv_iload_n F.1 F.2.1 dX10_isVowel_6 rfl (lv_at hl 0 rfl) ?_
    refine ad_bipush F dX10_isVowel_7 (by decide) ?_
    refine ad_icmp_eq (tgt := 30) F (by omega) dX10_isVowel_9 (by decide) (fun cc_2 => ?_) (fun cc_2 => ?_)
    · refine ad_iconst F dX10_isVowel_30 ?_
      refine lv_goto (tgt := 35) F.1 F.2.1 dX10_isVowel_31 (by decide) ?_
      exact ad_zreturn F G hR rfl (Nat.le_of_ble_eq_true rfl) (Nat.le_of_ble_eq_true rfl) rfl (Or.inl ⟨rfl, (by unfold isV; omega), rfl⟩) dX10_isVowel_35
    · refine lv_iload_n F.1 F.2.1 dX10_isVowel_12 rfl (lv_at hl 0 rfl) ?_
      refine ad_bipush F dX10_isVowel_13 (by decide) ?_
      refine ad_icmp_eq (tgt := 30) F (by omega) dX10_isVowel_15 (by decide) (fun cc_3 => ?_) (fun cc_3 => ?_)
      · refine ad_iconst F dX10_isVowel_30 ?_
        refine lv_goto (tgt := 35) F.1 F.2.1 dX10_isVowel_31 (by decide) ?_
        exact ad_zreturn F G hR rfl (Nat.le_of_ble_eq_true rfl) (Nat.le_of_ble_eq_true rfl) rfl (Or.inl ⟨rfl, (by unfold isV; omega), rfl⟩) dX10_isVowel_35
      · refine lv_iload_n F.1 F.2.1 dX10_isVowel_18 rfl (lv_at hl 0 rfl) ?_
        refine ad_bipush F dX10_isVowel_19 (by decide) ?_
        refine ad_icmp_eq (tgt := 30) F (by omega) dX10_isVowel_21 (by decide) (fun cc_4 => ?_) (fun cc_4 => ?_)
        · refine ad_iconst F dX10_isVowel_30 ?_
          refine lv_goto (tgt := 35) F.1 F.2.1 dX10_isVowel_31 (by decide) ?_
          exact ad_zreturn F G hR rfl (Nat.le_of_ble_eq_true rfl) (Nat.le_of_ble_eq_true rfl) rfl (Or.inl ⟨rfl, (by unfold isV; omega), rfl⟩) dX10_isVowel_35
        · refine lv_iload_n F.1 F.2.1 dX10_isVowel_24 rfl (lv_at hl 0 rfl) ?_
          refine ad_bipush F dX10_isVowel_25 (by decide) ?_
          refine ad_icmp_ne (tgt := 34) F (by omega) dX10_isVowel_27 (by decide) (fun cc_5 => ?_) (fun cc_5 => ?_)
          · refine ad_iconst F dX10_isVowel_34 ?_
            exact ad_zreturn F G hR rfl (Nat.le_of_ble_eq_true rfl) (Nat.le_of_ble_eq_true rfl) rfl (Or.inr (⟨rfl, (by unfold isV; omega), rfl⟩)) dX10_isVowel_35
          · refine ad_iconst F dX10_isVowel_30 ?_
            refine lv_goto (tgt := 35) F.1 F.2.1 dX10_isVowel_31 (by decide) ?_
            exact ad_zreturn F G hR rfl (Nat.le_of_ble_eq_true rfl) (Nat.le_of_ble_eq_true rfl) rfl (Or.inl ⟨rfl, (by unfold isV; omega), rfl⟩) dX10_isVowel_35

def rm_X2_lengthOf : Room := { frames := 1, cells := 0, slots := 0, locals := 12 }
set_option maxHeartbeats 4000000 in
set_option maxRecDepth 100000 in
theorem c_X2_lengthOf (l : Launch) (D : va_G) (K : Nat → ClassId) (z0 : Nat) (w : List Int) (hw : Fw w) : CT l D K z0 yX2_lengthOf cX2_lengthOf 2 (some .int) rm_X2_lengthOf [.long (enc w)] [] (fun v9 u9 => v9 = some (.int (iI (w.length : Int))) ∧ u9 = []) := by
  refine CT.start RX2 "lengthOf" (by decide) rfl rfl (Nat.le_of_ble_eq_true rfl) ?_
  intro p9 e9 s9 m9 ag9 bl9 mt9 c9 A9 Q9 ls F G hR hl
  have hl : lv_has ls 2 [(0, .long (enc w))] := hl
  refine lv_lload_n F.1 F.2.1 dX2_lengthOf_0 rfl (lv_at hl 0 rfl) ?_
  refine ad_bipush F dX2_lengthOf_1 (by decide) ?_
  refine lv_lushr F.1 F.2.1 dX2_lengthOf_3 rfl ?_
  refine lv_l2i (v := iI (w.length : Int)) F.1 F.2.1 dX2_lengthOf_4 (enc_len hw) ?_
  exact ad_ireturn F G hR rfl (Nat.le_of_ble_eq_true rfl) (Nat.le_of_ble_eq_true rfl) ⟨rfl, rfl⟩ dX2_lengthOf_5

def rm_X2_letterAt : Room := { frames := 1, cells := 0, slots := 0, locals := 12 }
set_option maxHeartbeats 4000000 in
set_option maxRecDepth 100000 in
theorem c_X2_letterAt (l : Launch) (D : va_G) (K : Nat → ClassId) (z0 : Nat) (w : List Int) (k : Int) (hw : Fw w) (hk : 0 ≤ k ∧ k < w.length) : CT l D K z0 yX2_letterAt cX2_letterAt 3 (some .char) rm_X2_letterAt [.long (enc w), .int (iI k)] [] (fun v9 u9 => v9 = some (.int (iI (lat w k))) ∧ u9 = []) := by
  refine CT.start RX2 "letterAt" (by decide) rfl rfl (Nat.le_of_ble_eq_true rfl) ?_
  intro p9 e9 s9 m9 ag9 bl9 mt9 c9 A9 Q9 ls F G hR hl
  have hl : lv_has ls 3 [(0, .long (enc w)), (2, .int (iI k))] := hl
  refine ad_bipush F dX2_letterAt_0 (by decide) ?_
  refine lv_lload_n F.1 F.2.1 dX2_letterAt_2 rfl (lv_at hl 0 rfl) ?_
  refine ad_iconst F dX2_letterAt_3 ?_
  refine lv_iload_n F.1 F.2.1 dX2_letterAt_4 rfl (lv_at hl 1 rfl) ?_
  refine ad_imul F dX2_letterAt_5 ?_
  refine lv_lushr F.1 F.2.1 dX2_letterAt_6 rfl ?_
  refine lv_ldc2 (v := 31) F.1 F.2.1 F.2.2.2.2.1 (F.in (ad_mt (List.mem_of_getElem? (i := 817) (by decide +kernel)) (by decide +kernel))) dX2_letterAt_7 ?_
  refine lv_land F.1 F.2.1 dX2_letterAt_10 ?_
  refine lv_l2i (v := iI (lat w k - 97)) F.1 F.2.1 dX2_letterAt_11 (enc_let hw hk.1 hk.2) ?_
  refine ad_iadd F dX2_letterAt_12 ?_
  refine ad_topi (y := lat w k) (by omega) ?_
  refine lv_i2c (v := iI (lat w k)) F.1 F.2.1 dX2_letterAt_13 (iI_i2c (by have := lat_let hw hk.1 hk.2; omega)) ?_
  exact ad_zreturn F G hR rfl (Nat.le_of_ble_eq_true rfl) (Nat.le_of_ble_eq_true rfl) (iI_charN (by have := lat_let hw hk.1 hk.2; omega)).1 ⟨rfl, rfl⟩ dX2_letterAt_14

def rm_X7_size : Room := { frames := 1, cells := 0, slots := 0, locals := 12 }
set_option maxHeartbeats 4000000 in
set_option maxRecDepth 100000 in
theorem c_X7_size (l : Launch) (D : va_G) (K : Nat → ClassId) (z0 : Nat) (h0 : Nat) (a : Nat) (n : Int) : CT l D K z0 yX7_size cX7_size 1 (some .int) rm_X7_size [.ref h0] [(h0, .inr (7, [.ref a, .int (iI n)]))] (fun v9 u9 => v9 = some (.int (iI n)) ∧ u9 = [(h0, .inr (7, [.ref a, .int (iI n)]))]) := by
  refine CT.start RX7 "size" (by decide) rfl rfl (Nat.le_of_ble_eq_true rfl) ?_
  intro p9 e9 s9 m9 ag9 bl9 mt9 c9 A9 Q9 ls F G hR hl
  have hl : lv_has ls 1 [(0, .ref h0)] := hl
  refine lv_aload_n F.1 F.2.1 dX7_size_0 rfl (lv_at hl 0 rfl) ?_
  refine ad_get F G fl_X7_13 0 rfl rfl dX7_size_1 ?_
  exact ad_ireturn F G hR rfl (Nat.le_of_ble_eq_true rfl) (Nat.le_of_ble_eq_true rfl) ⟨rfl, rfl⟩ dX7_size_4

def rm_X7_empty : Room := { frames := 1, cells := 0, slots := 0, locals := 12 }
set_option maxHeartbeats 4000000 in
set_option maxRecDepth 100000 in
theorem c_X7_empty (l : Launch) (D : va_G) (K : Nat → ClassId) (z0 : Nat) (h0 : Nat) (a : Nat) (n : Int) : CT l D K z0 yX7_empty cX7_empty 1 none rm_X7_empty [.ref h0] [(h0, .inr (7, [.ref a, .int (iI n)]))] (fun v9 u9 => v9 = none ∧ u9 = [(h0, .inr (7, [.ref a, .int (iI 0)]))]) := by
  refine CT.start RX7 "empty" (by decide) rfl rfl (Nat.le_of_ble_eq_true rfl) ?_
  intro p9 e9 s9 m9 ag9 bl9 mt9 c9 A9 Q9 ls F G hR hl
  have hl : lv_has ls 1 [(0, .ref h0)] := hl
  refine lv_aload_n F.1 F.2.1 dX7_empty_0 rfl (lv_at hl 0 rfl) ?_
  refine ad_iconst F dX7_empty_1 ?_
  refine ad_put F G fl_X7_13 0 rfl rfl rfl (Nat.le_of_ble_eq_true rfl) (ws' := [(h0, .inr (7, [.ref a, .int (iI 0)]))]) rfl dX7_empty_2 (fun H locs G => ?_)
  exact ad_vreturn F G hR rfl (Nat.le_of_ble_eq_true rfl) (Nat.le_of_ble_eq_true rfl) ⟨rfl, rfl⟩ dX7_empty_5

def rm_X7_init : Room := { frames := 1, cells := 1, slots := 1200, locals := 20 }
set_option maxHeartbeats 4000000 in
set_option maxRecDepth 100000 in
theorem c_X7_init (l : Launch) (D : va_G) (K : Nat → ClassId) (z0 : Nat) (h0 : Nat) (n : Nat) (hn : n ≤ 1200) : CT l D K z0 yX7_init cX7_init 2 none rm_X7_init [.ref h0, .int (iI (n : Int))] [(h0, .inr (7, [.null, .int (iI 0)]))] (fun v9 u9 => ∃ (a1 : Nat), v9 = none ∧ u9 = [(h0, .inr (7, [.ref a1, .int (iI 0)])), (a1, aI (K 2) n (fun _ => 0))]) := by
  refine CT.start RX7 "<init>" (by decide) rfl rfl (Nat.le_of_ble_eq_true rfl) ?_
  intro p9 e9 s9 m9 ag9 bl9 mt9 c9 A9 Q9 ls F G hR hl
  have hl : lv_has ls 2 [(0, .ref h0), (1, .int (iI (n : Int)))] := hl
  refine lv_aload_n F.1 F.2.1 dX7_init_0 rfl (lv_at hl 0 rfl) ?_
  refine ad_obji F oi_X7_1 hl.1 (Nat.le_of_ble_eq_true rfl) (Nat.le_of_ble_eq_true rfl) dX7_init_1 ?_
  refine lv_aload_n F.1 F.2.1 dX7_init_4 rfl (lv_at hl 0 rfl) ?_
  refine lv_iload_n F.1 F.2.1 dX7_init_5 rfl (lv_at hl 1 rfl) ?_
  refine ad_if_le (tgt := 13) F (by omega) dX7_init_6 (by decide) (fun cc_1 => ?_) (fun cc_1 => ?_)
  · refine ad_iconst F dX7_init_13 ?_
    refine ad_newa F G (ty := .char) rfl ac_char (t0 := 2) (cA := K 2) rfl (fun _ h => by cases h) (n := n) (a0 := aI0 n (fun _ => 0)) (fun _ => rfl) (by omega) (by show n * 2 ≤ _; omega) (Nat.le_of_ble_eq_true rfl) (by show 0 + n ≤ 1200; omega) dX7_init_14 (fun q_2 H G => ?_)
    replace G := G.eq (ws' := [(h0, .inr (7, [.null, .int (iI 0)])), (q_2, aI (K 2) n (fun _ => 0))]) rfl
    refine W.widen (k := 1) (n := 1200) (by omega) (by omega) ?_
    refine ad_putF F G fl_X7_7 rfl 0 rfl rfl rfl (Nat.le_of_ble_eq_true rfl) (ws' := [(h0, .inr (7, [.ref q_2, .int (iI 0)])), (q_2, aI (K 2) n (fun _ => 0))]) rfl dX7_init_16 (fun H locs G => ?_)
    exact ad_vreturn F G hR rfl (Nat.le_of_ble_eq_true rfl) (Nat.le_of_ble_eq_true rfl) ⟨q_2, rfl, rfl⟩ dX7_init_19
  · refine lv_iload_n F.1 F.2.1 dX7_init_9 rfl (lv_at hl 1 rfl) ?_
    refine lv_goto (tgt := 14) F.1 F.2.1 dX7_init_10 (by decide) ?_
    refine ad_newa F G (ty := .char) rfl ac_char (t0 := 2) (cA := K 2) rfl (fun _ h => by cases h) (n := n) (a0 := aI0 n (fun _ => 0)) (fun _ => rfl) (by omega) (by show n * 2 ≤ _; omega) (Nat.le_of_ble_eq_true rfl) (by show 0 + n ≤ 1200; omega) dX7_init_14 (fun q_3 H G => ?_)
    replace G := G.eq (ws' := [(h0, .inr (7, [.null, .int (iI 0)])), (q_3, aI (K 2) n (fun _ => 0))]) rfl
    refine W.widen (k := 1) (n := 1200) (by omega) (by omega) ?_
    refine ad_putF F G fl_X7_7 rfl 0 rfl rfl rfl (Nat.le_of_ble_eq_true rfl) (ws' := [(h0, .inr (7, [.ref q_3, .int (iI 0)])), (q_3, aI (K 2) n (fun _ => 0))]) rfl dX7_init_16 (fun H locs G => ?_)
    exact ad_vreturn F G hR rfl (Nat.le_of_ble_eq_true rfl) (Nat.le_of_ble_eq_true rfl) ⟨q_3, rfl, rfl⟩ dX7_init_19

def rm_X7_at : Room := { frames := 1, cells := 0, slots := 0, locals := 12 }
set_option maxHeartbeats 4000000 in
set_option maxRecDepth 100000 in
theorem c_X7_at (l : Launch) (D : va_G) (K : Nat → ClassId) (z0 : Nat) (h0 : Nat) (a : Nat) (L : Nat) (g : Nat → Int) (w : List Int) (z : Int) (hT : Tx g w) (hC : Chs w) (hL : w.length ≤ L ∧ L ≤ 65536) (hz : -2147483648 ≤ z ∧ z < 2147483648) : CT l D K z0 yX7_at cX7_at 2 (some .char) rm_X7_at [.ref h0, .int (iI z)] [(h0, .inr (7, [.ref a, .int (iI (w.length : Int))])), (a, aI (K 2) L g)] (fun v9 u9 => v9 = some (.int (iI (lat w z))) ∧ u9 = [(h0, .inr (7, [.ref a, .int (iI (w.length : Int))])), (a, aI (K 2) L g)]) := by
  refine CT.start RX7 "at" (by decide) rfl rfl (Nat.le_of_ble_eq_true rfl) ?_
  intro p9 e9 s9 m9 ag9 bl9 mt9 c9 A9 Q9 ls F G hR hl
  have hl : lv_has ls 2 [(0, .ref h0), (1, .int (iI z))] := hl
  refine lv_iload_n F.1 F.2.1 dX7_at_0 rfl (lv_at hl 1 rfl) ?_
  refine ad_if_lt (tgt := 21) F (by omega) dX7_at_1 (by decide) (fun cc_1 => ?_) (fun cc_1 => ?_)
  · refine ad_iconst F dX7_at_21 ?_
    exact ad_zreturn F G hR rfl (Nat.le_of_ble_eq_true rfl) (Nat.le_of_ble_eq_true rfl) (iI_charN (by first | omega | exact lat_ch hC _)).1 ⟨(ad_eqi (lat_out (by omega)).symm), rfl⟩ dX7_at_22
  · refine lv_iload_n F.1 F.2.1 dX7_at_4 rfl (lv_at hl 1 rfl) ?_
    refine lv_aload_n F.1 F.2.1 dX7_at_5 rfl (lv_at hl 0 rfl) ?_
    refine ad_get F G fl_X7_13 0 rfl rfl dX7_at_6 ?_
    refine ad_icmp_ge (tgt := 21) F (by omega) dX7_at_9 (by decide) (fun cc_2 => ?_) (fun cc_2 => ?_)
    · refine ad_iconst F dX7_at_21 ?_
      exact ad_zreturn F G hR rfl (Nat.le_of_ble_eq_true rfl) (Nat.le_of_ble_eq_true rfl) (iI_charN (by first | omega | exact lat_ch hC _)).1 ⟨(ad_eqi (lat_out (by omega)).symm), rfl⟩ dX7_at_22
    · refine lv_aload_n F.1 F.2.1 dX7_at_12 rfl (lv_at hl 0 rfl) ?_
      refine ad_get F G fl_X7_7 0 rfl rfl dX7_at_13 ?_
      refine lv_iload_n F.1 F.2.1 dX7_at_16 rfl (lv_at hl 1 rfl) ?_
      refine ad_cald F G 1 rfl (w := lat w z) (by omega) (Tx_at hT (by omega) (by omega)) dX7_at_17 ?_
      refine lv_goto (tgt := 22) F.1 F.2.1 dX7_at_18 (by decide) ?_
      exact ad_zreturn F G hR rfl (Nat.le_of_ble_eq_true rfl) (Nat.le_of_ble_eq_true rfl) (iI_charN (by first | omega | exact lat_ch hC _)).1 ⟨rfl, rfl⟩ dX7_at_22

def rm_X7_add : Room := { frames := 1, cells := 0, slots := 0, locals := 12 }
set_option maxHeartbeats 4000000 in
set_option maxRecDepth 100000 in
theorem c_X7_add (l : Launch) (D : va_G) (K : Nat → ClassId) (z0 : Nat) (h0 : Nat) (a : Nat) (L : Nat) (g : Nat → Int) (w : List Int) (x : Int) (hT : Tx g w) (hL : w.length < L ∧ L ≤ 65536) (hx : 0 ≤ x ∧ x < 65536) : CT l D K z0 yX7_add cX7_add 2 none rm_X7_add [.ref h0, .int (iI x)] [(h0, .inr (7, [.ref a, .int (iI (w.length : Int))])), (a, aI (K 2) L g)] (fun v9 u9 => ∃ (g2 : Nat → Int), ∃ (w2 : List Int), v9 = none ∧ (w2 = w ++ [x]) ∧ (Tx g2 w2) ∧ u9 = [(h0, .inr (7, [.ref a, .int (iI (w2.length : Int))])), (a, aI (K 2) L g2)]) := by
  refine CT.start RX7 "add" (by decide) rfl rfl (Nat.le_of_ble_eq_true rfl) ?_
  intro p9 e9 s9 m9 ag9 bl9 mt9 c9 A9 Q9 ls F G hR hl
  have hl : lv_has ls 2 [(0, .ref h0), (1, .int (iI x))] := hl
  refine lv_aload_n F.1 F.2.1 dX7_add_0 rfl (lv_at hl 0 rfl) ?_
  refine ad_get F G fl_X7_13 0 rfl rfl dX7_add_1 ?_
  refine lv_aload_n F.1 F.2.1 dX7_add_4 rfl (lv_at hl 0 rfl) ?_
  refine ad_get F G fl_X7_7 0 rfl rfl dX7_add_5 ?_
  refine ad_alen F G 1 2 rfl rfl (n := L) rfl dX7_add_8 ?_
  refine ad_icmp_ge (tgt := 32) F (by omega) dX7_add_9 (by decide) (fun cc_1 => ?_) (fun cc_1 => ?_)
  · exact absurd cc_1 (by omega)
  · refine lv_aload_n F.1 F.2.1 dX7_add_12 rfl (lv_at hl 0 rfl) ?_
    refine ad_get F G fl_X7_7 0 rfl rfl dX7_add_13 ?_
    refine lv_aload_n F.1 F.2.1 dX7_add_16 rfl (lv_at hl 0 rfl) ?_
    refine ad_get F G fl_X7_13 0 rfl rfl dX7_add_17 ?_
    refine lv_iload_n F.1 F.2.1 dX7_add_20 rfl (lv_at hl 1 rfl) ?_
    refine ad_cast F G 1 rfl (by omega) (by omega) (ws' := [(h0, .inr (7, [.ref a, .int (iI (w.length : Int))])), (a, aI (K 2) L (va_up g (w.length : Int).toNat x))]) rfl dX7_add_21 (fun H locs G => ?_)
    refine lv_aload_n F.1 F.2.1 dX7_add_22 rfl (lv_at hl 0 rfl) ?_
    refine lv_dup F.1 F.2.1 dX7_add_23 rfl ?_
    refine ad_get F G fl_X7_13 0 rfl rfl dX7_add_24 ?_
    refine ad_iconst F dX7_add_27 ?_
    refine ad_iadd F dX7_add_28 ?_
    refine ad_topi (y := ((w ++ [x]).length : Int)) (by simp) ?_
    refine ad_put F G fl_X7_13 0 rfl rfl rfl (Nat.le_of_ble_eq_true rfl) (ws' := [(h0, .inr (7, [.ref a, .int (iI ((w ++ [x]).length : Int))])), (a, aI (K 2) L (va_up g (w.length : Int).toNat x))]) rfl dX7_add_29 (fun H locs G => ?_)
    exact ad_vreturn F G hR rfl (Nat.le_of_ble_eq_true rfl) (Nat.le_of_ble_eq_true rfl) ⟨va_up g (w.length : Int).toNat x, w ++ [x], rfl, rfl, (Tx_push hT x), rfl⟩ dX7_add_32

def rm_X7_addPart : Room := { frames := 2, cells := 0, slots := 0, locals := 33 }
set_option maxHeartbeats 4000000 in
set_option maxRecDepth 100000 in
theorem c_X7_addPart (l : Launch) (D : va_G) (K : Nat → ClassId) (z0 : Nat) (h0 : Nat) (a : Nat) (L : Nat) (g : Nat → Int) (w : List Int) (h1 : Nat) (b : Nat) (M : Nat) (gf : Nat → Int) (wf : List Int) (s0 : Int) (e0 : Int) (hT : Tx g w) (hTf : Tx gf wf) (hC : Chs wf) (hM : wf.length ≤ M ∧ M ≤ 65536) (hs : 0 ≤ s0 ∧ s0 ≤ e0 ∧ e0 ≤ wf.length) (hL : w.length + (e0 - s0) ≤ L ∧ L ≤ 65536) : CT l D K z0 yX7_addPart cX7_addPart 5 none rm_X7_addPart [.ref h0, .ref h1, .int (iI s0), .int (iI e0)] [(h0, .inr (7, [.ref a, .int (iI (w.length : Int))])), (a, aI (K 2) L g), (h1, .inr (7, [.ref b, .int (iI (wf.length : Int))])), (b, aI (K 2) M gf)] (fun v9 u9 => ∃ (g2 : Nat → Int), ∃ (w2 : List Int), v9 = none ∧ (w2 = w ++ sl wf s0 e0) ∧ (Tx g2 w2) ∧ u9 = [(h0, .inr (7, [.ref a, .int (iI (w2.length : Int))])), (a, aI (K 2) L g2), (h1, .inr (7, [.ref b, .int (iI (wf.length : Int))])), (b, aI (K 2) M gf)]) := by
  refine CT.start RX7 "addPart" (by decide) rfl rfl (Nat.le_of_ble_eq_true rfl) ?_
  intro p9 e9 s9 m9 ag9 bl9 mt9 c9 A9 Q9 ls F G hR hl
  have hl : lv_has ls 5 [(0, .ref h0), (1, .ref h1), (2, .int (iI s0)), (3, .int (iI e0))] := hl
  refine lv_iload_n F.1 F.2.1 dX7_addPart_0 rfl (lv_at hl 2 rfl) ?_
  refine lv_istore (lv' := [(4, .int (iI s0)), (0, .ref h0), (1, .ref h1), (2, .int (iI s0)), (3, .int (iI e0))]) F.1 F.2.1 dX7_addPart_1 hl (by decide) rfl (fun ls hl => ?_)
  have lp3 : ∀ (n3 : Nat) (i : Int) (g1 : Nat → Int) (w1 : List Int) (H : Heap) (locs : List Loc) (ls : Array Slot), (s0 ≤ i ∧ i ≤ e0) → (w1 = w ++ sl wf s0 i) → (Tx g1 w1) → (e0 - i) < (n3 : Int) → ad_G D A9 s9.heap H locs [(h0, .inr (7, [.ref a, .int (iI (w1.length : Int))])), (a, aI (K 2) L g1), (h1, .inr (7, [.ref b, .int (iI (wf.length : Int))])), (b, aI (K 2) M gf)] → lv_has ls 5 [(0, .ref h0), (1, .ref h1), (2, .int (iI s0)), (3, .int (iI e0)), (4, .int (iI i))] → W p9 l e9 rm_X7_addPart s9 m9 ag9 bl9 mt9 c9 H locs 0 0 Q9 (F0 m9 3 ls []) := by
    intro n3
    induction n3 with
    | zero =>
      intro i g1 w1 H locs ls hi e1 t1 hm3
      exact absurd hm3 (by omega)
    | succ n3 ih3 =>
      intro i g1 w1 H locs ls hi e1 t1 hm3 G hl
      have hl1 : (w1.length : Int) = w.length + (i - s0) := by rw [e1, List.length_append, Int.natCast_add, sl_len (by omega) (by omega) (by omega)]
      refine lv_iload F.1 F.2.1 dX7_addPart_3 (lv_at hl 4 rfl) ?_
      refine lv_iload_n F.1 F.2.1 dX7_addPart_5 rfl (lv_at hl 3 rfl) ?_
      refine ad_icmp_ge (tgt := 25) F (by omega) dX7_addPart_6 (by decide) (fun cc_1 => ?_) (fun cc_1 => ?_)
      · exact ad_vreturn F G hR rfl (Nat.le_of_ble_eq_true rfl) (Nat.le_of_ble_eq_true rfl) ⟨g1, w1, rfl, (by rw [e1, show i = e0 by omega]), t1, rfl⟩ dX7_addPart_25
      · refine lv_aload_n F.1 F.2.1 dX7_addPart_9 rfl (lv_at hl 0 rfl) ?_
        refine lv_aload_n F.1 F.2.1 dX7_addPart_10 rfl (lv_at hl 1 rfl) ?_
        refine lv_iload F.1 F.2.1 dX7_addPart_11 (lv_at hl 4 rfl) ?_
        refine ad_callV (As := [.int (iI i)]) (rest := [.ref h0]) F G (c_X7_at l D K z0 h1 b M gf wf i hTf hC hM (by omega)) my_X7_at mv_X7_17 (wr := [(h0, .inr (7, [.ref a, .int (iI (w1.length : Int))])), (a, aI (K 2) L g1)]) (isC := [2, 3]) (isR := [0, 1]) ⟨rfl, rfl, rfl, rfl, by decide⟩ 7 0 rfl rfl rfl rfl ⟨Nat.le_of_ble_eq_true rfl, Nat.le_of_ble_eq_true rfl⟩ ⟨Nat.le_of_ble_eq_true rfl, Nat.le_of_ble_eq_true rfl⟩ (Nat.le_of_ble_eq_true rfl) hl.1 (cells9 := 0) (slots9 := 0) ⟨rfl, rfl⟩ dX7_addPart_13 (fun v u H locs hw_2 G => ?_)
        obtain ⟨rfl, rfl⟩ := hw_2
        replace G := G.perm (ws' := [(h0, .inr (7, [.ref a, .int (iI (w1.length : Int))])), (a, aI (K 2) L g1), (h1, .inr (7, [.ref b, .int (iI (wf.length : Int))])), (b, aI (K 2) M gf)]) [0, 1, 2, 3] rfl rfl
        refine W.eq (g2 := F0 m9 16 ls [.int (iI (lat wf i)), .ref h0]) rfl ?_
        refine ad_callV (As := [.int (iI (lat wf i))]) (rest := []) F G (c_X7_add l D K z0 h0 a L g1 w1 (lat wf i) t1 (by omega) (lat_ch hC _)) my_X7_add mv_X7_21 (wr := [(h1, .inr (7, [.ref b, .int (iI (wf.length : Int))])), (b, aI (K 2) M gf)]) (isC := [0, 1]) (isR := [2, 3]) ⟨rfl, rfl, rfl, rfl, by decide⟩ 7 0 rfl rfl rfl rfl ⟨Nat.le_of_ble_eq_true rfl, Nat.le_of_ble_eq_true rfl⟩ ⟨Nat.le_of_ble_eq_true rfl, Nat.le_of_ble_eq_true rfl⟩ (Nat.le_of_ble_eq_true rfl) hl.1 (cells9 := 0) (slots9 := 0) ⟨rfl, rfl⟩ dX7_addPart_16 (fun v u H locs hw_3 G => ?_)
        obtain ⟨g2_4, w2_5, rfl, hc_6, hc_7, rfl⟩ := hw_3
        replace G := G.perm (ws' := [(h0, .inr (7, [.ref a, .int (iI (w2_5.length : Int))])), (a, aI (K 2) L g2_4), (h1, .inr (7, [.ref b, .int (iI (wf.length : Int))])), (b, aI (K 2) M gf)]) [2, 3, 0, 1] rfl rfl
        refine W.eq (g2 := F0 m9 19 ls []) rfl ?_
        refine ad_iinc (lv' := [(4, .int (iI (i + 1))), (0, .ref h0), (1, .ref h1), (2, .int (iI s0)), (3, .int (iI e0))]) F dX7_addPart_19 hl (k := 4) rfl (by decide) rfl (fun ls hl => ?_)
        refine lv_goto (tgt := 3) F.1 F.2.1 dX7_addPart_22 (by decide) ?_
        exact ih3 (i + 1) g2_4 w2_5 _ _ _ (by omega) (by rw [hc_6, e1, List.append_assoc, ← sl_succ (by omega) (by omega) (by omega)]) hc_7 (by omega) (G.perm (ws' := [(h0, .inr (7, [.ref a, .int (iI (w2_5.length : Int))])), (a, aI (K 2) L g2_4), (h1, .inr (7, [.ref b, .int (iI (wf.length : Int))])), (b, aI (K 2) M gf)]) [0, 1, 2, 3] rfl rfl) (lv_sub hl [1, 2, 3, 4, 0] rfl)
  exact lp3 ((((e0 - s0 : Int)) + 1).toNat) s0 g w _ _ _ (by omega) (by rw [sl_self, List.append_nil]) hT (by omega) (G.perm (ws' := [(h0, .inr (7, [.ref a, .int (iI (w.length : Int))])), (a, aI (K 2) L g), (h1, .inr (7, [.ref b, .int (iI (wf.length : Int))])), (b, aI (K 2) M gf)]) [0, 1, 2, 3] rfl rfl) (lv_sub hl [1, 2, 3, 4, 0] rfl)

def rm_X7_addForm : Room := { frames := 2, cells := 0, slots := 0, locals := 34 }
set_option maxHeartbeats 4000000 in
set_option maxRecDepth 100000 in
theorem c_X7_addForm (l : Launch) (D : va_G) (K : Nat → ClassId) (z0 : Nat) (h0 : Nat) (a : Nat) (L : Nat) (g : Nat → Int) (w : List Int) (f : List Int) (hT : Tx g w) (hf : Fw f) (hL : w.length + f.length ≤ L ∧ L ≤ 65536) : CT l D K z0 yX7_addForm cX7_addForm 5 none rm_X7_addForm [.ref h0, .long (enc f)] [(h0, .inr (7, [.ref a, .int (iI (w.length : Int))])), (a, aI (K 2) L g)] (fun v9 u9 => ∃ (g2 : Nat → Int), ∃ (w2 : List Int), v9 = none ∧ (w2 = w ++ f) ∧ (Tx g2 w2) ∧ u9 = [(h0, .inr (7, [.ref a, .int (iI (w2.length : Int))])), (a, aI (K 2) L g2)]) := by
  refine CT.start RX7 "addForm" (by decide) rfl rfl (Nat.le_of_ble_eq_true rfl) ?_
  intro p9 e9 s9 m9 ag9 bl9 mt9 c9 A9 Q9 ls F G hR hl
  have hl : lv_has ls 5 [(0, .ref h0), (1, .long (enc f))] := hl
  refine lv_lload_n F.1 F.2.1 dX7_addForm_0 rfl (lv_at hl 1 rfl) ?_
  refine ad_callS (As := [.long (enc f)]) (rest := []) F G (c_X2_lengthOf l D K z0 f hf) my_X2_lengthOf ms_X7_25 (wr := [(h0, .inr (7, [.ref a, .int (iI (w.length : Int))])), (a, aI (K 2) L g)]) (isC := []) (isR := [0, 1]) ⟨rfl, rfl, rfl, rfl, by decide⟩ rfl rfl ⟨Nat.le_of_ble_eq_true rfl, Nat.le_of_ble_eq_true rfl⟩ ⟨Nat.le_of_ble_eq_true rfl, Nat.le_of_ble_eq_true rfl⟩ (Nat.le_of_ble_eq_true rfl) hl.1 (cells9 := 0) (slots9 := 0) ⟨rfl, rfl⟩ dX7_addForm_1 (fun v u H locs hw_1 G => ?_)
  obtain ⟨rfl, rfl⟩ := hw_1
  replace G := G.perm (ws' := [(h0, .inr (7, [.ref a, .int (iI (w.length : Int))])), (a, aI (K 2) L g)]) [0, 1] rfl rfl
  refine W.eq (g2 := F0 m9 4 ls [.int (iI (f.length : Int))]) rfl ?_
  refine lv_istore_n (lv' := [(3, .int (iI (f.length : Int))), (0, .ref h0), (1, .long (enc f))]) F.1 F.2.1 dX7_addForm_4 rfl hl (by decide) rfl (fun ls hl => ?_)
  refine ad_iconst F dX7_addForm_5 ?_
  refine lv_istore (lv' := [(4, .int (iI 0)), (3, .int (iI (f.length : Int))), (0, .ref h0), (1, .long (enc f))]) F.1 F.2.1 dX7_addForm_6 hl (by decide) rfl (fun ls hl => ?_)
  have lp8 : ∀ (n8 : Nat) (i : Int) (g1 : Nat → Int) (w1 : List Int) (H : Heap) (locs : List Loc) (ls : Array Slot), (0 ≤ i ∧ i ≤ f.length) → (w1 = w ++ sl f 0 i) → (Tx g1 w1) → (f.length - i) < (n8 : Int) → ad_G D A9 s9.heap H locs [(h0, .inr (7, [.ref a, .int (iI (w1.length : Int))])), (a, aI (K 2) L g1)] → lv_has ls 5 [(0, .ref h0), (1, .long (enc f)), (3, .int (iI (f.length : Int))), (4, .int (iI i))] → W p9 l e9 rm_X7_addForm s9 m9 ag9 bl9 mt9 c9 H locs 0 0 Q9 (F0 m9 8 ls []) := by
    intro n8
    induction n8 with
    | zero =>
      intro i g1 w1 H locs ls hi e1 t1 hm8
      exact absurd hm8 (by omega)
    | succ n8 ih8 =>
      intro i g1 w1 H locs ls hi e1 t1 hm8 G hl
      have hl1 : (w1.length : Int) = w.length + i := by rw [e1, List.length_append, Int.natCast_add, sl_len (by omega) (by omega) (by omega)]; omega
      refine lv_iload F.1 F.2.1 dX7_addForm_8 (lv_at hl 3 rfl) ?_
      refine lv_iload_n F.1 F.2.1 dX7_addForm_10 rfl (lv_at hl 2 rfl) ?_
      refine ad_icmp_ge (tgt := 30) F (by have := hf.1; omega) dX7_addForm_11 (by decide) (fun cc_2 => ?_) (fun cc_2 => ?_)
      · exact ad_vreturn F G hR rfl (Nat.le_of_ble_eq_true rfl) (Nat.le_of_ble_eq_true rfl) ⟨g1, w1, rfl, (by rw [e1, show i = f.length by omega, sl_all]), t1, rfl⟩ dX7_addForm_30
      · refine lv_aload_n F.1 F.2.1 dX7_addForm_14 rfl (lv_at hl 0 rfl) ?_
        refine lv_lload_n F.1 F.2.1 dX7_addForm_15 rfl (lv_at hl 1 rfl) ?_
        refine lv_iload F.1 F.2.1 dX7_addForm_16 (lv_at hl 3 rfl) ?_
        refine ad_callS (As := [.long (enc f), .int (iI i)]) (rest := [.ref h0]) F G (c_X2_letterAt l D K z0 f i hf (by omega)) my_X2_letterAt ms_X7_31 (wr := [(h0, .inr (7, [.ref a, .int (iI (w1.length : Int))])), (a, aI (K 2) L g1)]) (isC := []) (isR := [0, 1]) ⟨rfl, rfl, rfl, rfl, by decide⟩ rfl rfl ⟨Nat.le_of_ble_eq_true rfl, Nat.le_of_ble_eq_true rfl⟩ ⟨Nat.le_of_ble_eq_true rfl, Nat.le_of_ble_eq_true rfl⟩ (Nat.le_of_ble_eq_true rfl) hl.1 (cells9 := 0) (slots9 := 0) ⟨rfl, rfl⟩ dX7_addForm_18 (fun v u H locs hw_3 G => ?_)
        obtain ⟨rfl, rfl⟩ := hw_3
        replace G := G.perm (ws' := [(h0, .inr (7, [.ref a, .int (iI (w1.length : Int))])), (a, aI (K 2) L g1)]) [0, 1] rfl rfl
        refine W.eq (g2 := F0 m9 21 ls [.int (iI (lat f i)), .ref h0]) rfl ?_
        refine ad_callV (As := [.int (iI (lat f i))]) (rest := []) F G (c_X7_add l D K z0 h0 a L g1 w1 (lat f i) t1 (by omega) (by have := lat_let hf hi.1 (k := i) (by omega); omega)) my_X7_add mv_X7_21 (wr := []) (isC := [0, 1]) (isR := []) ⟨rfl, rfl, rfl, rfl, by decide⟩ 7 0 rfl rfl rfl rfl ⟨Nat.le_of_ble_eq_true rfl, Nat.le_of_ble_eq_true rfl⟩ ⟨Nat.le_of_ble_eq_true rfl, Nat.le_of_ble_eq_true rfl⟩ (Nat.le_of_ble_eq_true rfl) hl.1 (cells9 := 0) (slots9 := 0) ⟨rfl, rfl⟩ dX7_addForm_21 (fun v u H locs hw_4 G => ?_)
        obtain ⟨g2_5, w2_6, rfl, hc_7, hc_8, rfl⟩ := hw_4
        replace G := G.perm (ws' := [(h0, .inr (7, [.ref a, .int (iI (w2_6.length : Int))])), (a, aI (K 2) L g2_5)]) [0, 1] rfl rfl
        refine W.eq (g2 := F0 m9 24 ls []) rfl ?_
        refine ad_iinc (lv' := [(4, .int (iI (i + 1))), (0, .ref h0), (1, .long (enc f)), (3, .int (iI (f.length : Int)))]) F dX7_addForm_24 hl (k := 3) rfl (by decide) rfl (fun ls hl => ?_)
        refine lv_goto (tgt := 8) F.1 F.2.1 dX7_addForm_27 (by decide) ?_
        exact ih8 (i + 1) g2_5 w2_6 _ _ _ (by omega) (by rw [hc_7, e1, List.append_assoc, ← sl_succ (by omega) (by omega) (by omega)]) hc_8 (by omega) (G.perm (ws' := [(h0, .inr (7, [.ref a, .int (iI (w2_6.length : Int))])), (a, aI (K 2) L g2_5)]) [0, 1] rfl rfl) (lv_sub hl [1, 2, 3, 0] rfl)
  exact lp8 ((((f.length - 0 : Int)) + 1).toNat) 0 g w _ _ _ (by omega) (by rw [sl_self, List.append_nil]) hT (by omega) (G.perm (ws' := [(h0, .inr (7, [.ref a, .int (iI (w.length : Int))])), (a, aI (K 2) L g)]) [0, 1] rfl rfl) (lv_sub hl [2, 3, 1, 0] rfl)

def rm_X7_copy : Room := { frames := 3, cells := 2, slots := 1202, locals := 57 }
set_option maxHeartbeats 4000000 in
set_option maxRecDepth 100000 in
theorem c_X7_copy (l : Launch) (D : va_G) (K : Nat → ClassId) (z0 : Nat) (h0 : Nat) (a : Nat) (L : Nat) (g : Nat → Int) (w : List Int) (hT : Tx g w) (hC : Chs w) (hL : w.length ≤ L ∧ L ≤ 65536) (h12 : w.length ≤ 1200) : CT l D K z0 yX7_copy cX7_copy 2 (some (.object "AbbreviationDesk$Text")) rm_X7_copy [.ref h0] [(h0, .inr (7, [.ref a, .int (iI (w.length : Int))])), (a, aI (K 2) L g)] (fun v9 u9 => ∃ (q1 : Nat), ∃ (a1 : Nat), ∃ (g2 : Nat → Int), v9 = some (.ref q1) ∧ (Tx g2 w) ∧ u9 = [(h0, .inr (7, [.ref a, .int (iI (w.length : Int))])), (a, aI (K 2) L g), (q1, .inr (7, [.ref a1, .int (iI (w.length : Int))])), (a1, aI (K 2) w.length g2)]) := by
  refine CT.start RX7 "copy" (by decide) rfl rfl (Nat.le_of_ble_eq_true rfl) ?_
  intro p9 e9 s9 m9 ag9 bl9 mt9 c9 A9 Q9 ls F G hR hl
  have hl : lv_has ls 2 [(0, .ref h0)] := hl
  refine ad_new F G nw_X7_8 (fs := [.null, .int (iI 0)]) (by decide) (Nat.le_of_ble_eq_true rfl) (Nat.le_of_ble_eq_true rfl) dX7_copy_0 (fun q_1 H G => ?_)
  replace G := G.eq (ws' := [(h0, .inr (7, [.ref a, .int (iI (w.length : Int))])), (a, aI (K 2) L g), (q_1, .inr (7, [.null, .int (iI 0)]))]) rfl
  refine ad_wid (k := 1) (n := 2) rfl rfl ?_
  refine lv_dup F.1 F.2.1 dX7_copy_3 rfl ?_
  refine lv_aload_n F.1 F.2.1 dX7_copy_4 rfl (lv_at hl 0 rfl) ?_
  refine ad_get F G fl_X7_13 0 rfl rfl dX7_copy_5 ?_
  refine ad_callI (As := [.int (iI (w.length : Int))]) (rest := [.ref q_1]) F G (c_X7_init l D K z0 q_1 w.length h12) my_X7_init mi_X7_35 (wr := [(h0, .inr (7, [.ref a, .int (iI (w.length : Int))])), (a, aI (K 2) L g)]) (isC := [2]) (isR := [0, 1]) ⟨rfl, rfl, rfl, rfl, by decide⟩ rfl rfl ⟨Nat.le_of_ble_eq_true rfl, Nat.le_of_ble_eq_true rfl⟩ ⟨Nat.le_of_ble_eq_true rfl, Nat.le_of_ble_eq_true rfl⟩ (Nat.le_of_ble_eq_true rfl) hl.1 (cells9 := 2) (slots9 := 1202) ⟨rfl, rfl⟩ dX7_copy_8 (fun v u H locs hw_2 G => ?_)
  obtain ⟨a1_3, rfl, rfl⟩ := hw_2
  replace G := G.perm (ws' := [(h0, .inr (7, [.ref a, .int (iI (w.length : Int))])), (a, aI (K 2) L g), (q_1, .inr (7, [.ref a1_3, .int (iI 0)])), (a1_3, aI (K 2) w.length (fun _ => 0))]) [0, 1, 2, 3] rfl rfl
  refine W.eq (g2 := F0 m9 11 ls [.ref q_1]) rfl ?_
  refine lv_astore_n (lv' := [(1, .ref q_1), (0, .ref h0)]) F.1 F.2.1 dX7_copy_11 rfl hl (by decide) rfl (fun ls hl => ?_)
  refine lv_aload_n F.1 F.2.1 dX7_copy_12 rfl (lv_at hl 0 rfl) ?_
  refine lv_aload_n F.1 F.2.1 dX7_copy_13 rfl (lv_at hl 1 rfl) ?_
  refine ad_iconst F dX7_copy_14 ?_
  refine lv_aload_n F.1 F.2.1 dX7_copy_15 rfl (lv_at hl 1 rfl) ?_
  refine ad_get F G fl_X7_13 0 rfl rfl dX7_copy_16 ?_
  refine ad_callV (As := [.ref h0, .int (iI 0), .int (iI (w.length : Int))]) (rest := []) F G (c_X7_addPart l D K z0 q_1 a1_3 w.length (fun _ => 0) ([] : List Int) h0 a L g w 0 (w.length : Int) Tx_nil hT hC hL (by omega) (by simp; omega)) my_X7_addPart mv_X7_38 (wr := []) (isC := [2, 3, 0, 1]) (isR := []) ⟨rfl, rfl, rfl, rfl, by decide⟩ 7 0 rfl rfl rfl rfl ⟨Nat.le_of_ble_eq_true rfl, Nat.le_of_ble_eq_true rfl⟩ ⟨Nat.le_of_ble_eq_true rfl, Nat.le_of_ble_eq_true rfl⟩ (Nat.le_of_ble_eq_true rfl) hl.1 (cells9 := 2) (slots9 := 1202) ⟨rfl, rfl⟩ dX7_copy_19 (fun v u H locs hw_4 G => ?_)
  obtain ⟨g2_5, w2_6, rfl, hc_7, hc_8, rfl⟩ := hw_4
  replace G := G.perm (ws' := [(h0, .inr (7, [.ref a, .int (iI (w.length : Int))])), (a, aI (K 2) L g), (q_1, .inr (7, [.ref a1_3, .int (iI (w2_6.length : Int))])), (a1_3, aI (K 2) w.length g2_5)]) [2, 3, 0, 1] rfl rfl
  refine W.eq (g2 := F0 m9 22 ls []) rfl ?_
  rw [List.nil_append, sl_all] at hc_7
  rw [hc_7] at G hc_8
  refine lv_aload_n F.1 F.2.1 dX7_copy_22 rfl (lv_at hl 0 rfl) ?_
  exact ad_areturn F G hR rfl (Nat.le_of_ble_eq_true rfl) (Nat.le_of_ble_eq_true rfl) ⟨q_1, a1_3, g2_5, rfl, hc_8, rfl⟩ dX7_copy_23

def rm_X7_sameAs : Room := { frames := 2, cells := 0, slots := 0, locals := 33 }
set_option maxHeartbeats 4000000 in
set_option maxRecDepth 100000 in
theorem c_X7_sameAs (l : Launch) (D : va_G) (K : Nat → ClassId) (z0 : Nat) (h0 : Nat) (a : Nat) (L : Nat) (g : Nat → Int) (w : List Int) (h1 : Nat) (b : Nat) (M : Nat) (gf : Nat → Int) (wf : List Int) (hT : Tx g w) (hCw : Chs w) (hL : w.length ≤ L ∧ L ≤ 65536) (hTf : Tx gf wf) (hC : Chs wf) (hM : wf.length ≤ M ∧ M ≤ 65536) : CT l D K z0 yX7_sameAs cX7_sameAs 3 (some .boolean) rm_X7_sameAs [.ref h0, .ref h1] [(h0, .inr (7, [.ref a, .int (iI (w.length : Int))])), (a, aI (K 2) L g), (h1, .inr (7, [.ref b, .int (iI (wf.length : Int))])), (b, aI (K 2) M gf)] (fun v9 u9 => (v9 = some (.int (iI 1)) ∧ (w = wf) ∧ u9 = [(h0, .inr (7, [.ref a, .int (iI (w.length : Int))])), (a, aI (K 2) L g), (h1, .inr (7, [.ref b, .int (iI (wf.length : Int))])), (b, aI (K 2) M gf)]) ∨ (v9 = some (.int (iI 0)) ∧ (w ≠ wf) ∧ u9 = [(h0, .inr (7, [.ref a, .int (iI (w.length : Int))])), (a, aI (K 2) L g), (h1, .inr (7, [.ref b, .int (iI (wf.length : Int))])), (b, aI (K 2) M gf)])) := by
  refine CT.start RX7 "sameAs" (by decide) rfl rfl (Nat.le_of_ble_eq_true rfl) ?_
  intro p9 e9 s9 m9 ag9 bl9 mt9 c9 A9 Q9 ls F G hR hl
  have hl : lv_has ls 3 [(0, .ref h0), (1, .ref h1)] := hl
  refine lv_aload_n F.1 F.2.1 dX7_sameAs_0 rfl (lv_at hl 0 rfl) ?_
  refine ad_get F G fl_X7_13 0 rfl rfl dX7_sameAs_1 ?_
  refine lv_aload_n F.1 F.2.1 dX7_sameAs_4 rfl (lv_at hl 1 rfl) ?_
  refine ad_get F G fl_X7_13 2 rfl rfl dX7_sameAs_5 ?_
  refine ad_icmp_eq (tgt := 13) F (by omega) dX7_sameAs_8 (by decide) (fun cc_1 => ?_) (fun cc_1 => ?_)
  · refine ad_iconst F dX7_sameAs_13 ?_
    refine lv_istore_n (lv' := [(2, .int (iI 0)), (0, .ref h0), (1, .ref h1)]) F.1 F.2.1 dX7_sameAs_14 rfl hl (by decide) rfl (fun ls hl => ?_)
    have lp15 : ∀ (n15 : Nat) (i : Int) (H : Heap) (locs : List Loc) (ls : Array Slot), (0 ≤ i ∧ i ≤ w.length) → (∀ j : Int, 0 ≤ j → j < i → lat w j = lat wf j) → (w.length - i) < (n15 : Int) → ad_G D A9 s9.heap H locs [(h0, .inr (7, [.ref a, .int (iI (w.length : Int))])), (a, aI (K 2) L g), (h1, .inr (7, [.ref b, .int (iI (wf.length : Int))])), (b, aI (K 2) M gf)] → lv_has ls 3 [(0, .ref h0), (1, .ref h1), (2, .int (iI i))] → W p9 l e9 rm_X7_sameAs s9 m9 ag9 bl9 mt9 c9 H locs 0 0 Q9 (F0 m9 15 ls []) := by
      intro n15
      induction n15 with
      | zero =>
        intro i H locs ls hi ha hm15
        exact absurd hm15 (by omega)
      | succ n15 ih15 =>
        intro i H locs ls hi ha hm15 G hl
        refine lv_iload_n F.1 F.2.1 dX7_sameAs_15 rfl (lv_at hl 2 rfl) ?_
        refine lv_aload_n F.1 F.2.1 dX7_sameAs_16 rfl (lv_at hl 0 rfl) ?_
        refine ad_get F G fl_X7_13 0 rfl rfl dX7_sameAs_17 ?_
        refine ad_icmp_ge (tgt := 44) F (by omega) dX7_sameAs_20 (by decide) (fun cc_2 => ?_) (fun cc_2 => ?_)
        · refine ad_iconst F dX7_sameAs_44 ?_
          exact ad_zreturn F G hR rfl (Nat.le_of_ble_eq_true rfl) (Nat.le_of_ble_eq_true rfl) rfl (Or.inl ⟨rfl, (lat_ext (by omega) (fun j h1 h2 => ha j h1 (by omega))), rfl⟩) dX7_sameAs_45
        · refine lv_aload_n F.1 F.2.1 dX7_sameAs_23 rfl (lv_at hl 0 rfl) ?_
          refine lv_iload_n F.1 F.2.1 dX7_sameAs_24 rfl (lv_at hl 2 rfl) ?_
          refine ad_callV (As := [.int (iI i)]) (rest := []) F G (c_X7_at l D K z0 h0 a L g w i hT hCw hL (by omega)) my_X7_at mv_X7_17 (wr := [(h1, .inr (7, [.ref b, .int (iI (wf.length : Int))])), (b, aI (K 2) M gf)]) (isC := [0, 1]) (isR := [2, 3]) ⟨rfl, rfl, rfl, rfl, by decide⟩ 7 0 rfl rfl rfl rfl ⟨Nat.le_of_ble_eq_true rfl, Nat.le_of_ble_eq_true rfl⟩ ⟨Nat.le_of_ble_eq_true rfl, Nat.le_of_ble_eq_true rfl⟩ (Nat.le_of_ble_eq_true rfl) hl.1 (cells9 := 0) (slots9 := 0) ⟨rfl, rfl⟩ dX7_sameAs_25 (fun v u H locs hw_3 G => ?_)
          obtain ⟨rfl, rfl⟩ := hw_3
          replace G := G.perm (ws' := [(h0, .inr (7, [.ref a, .int (iI (w.length : Int))])), (a, aI (K 2) L g), (h1, .inr (7, [.ref b, .int (iI (wf.length : Int))])), (b, aI (K 2) M gf)]) [2, 3, 0, 1] rfl rfl
          refine W.eq (g2 := F0 m9 28 ls [.int (iI (lat w i))]) rfl ?_
          refine lv_aload_n F.1 F.2.1 dX7_sameAs_28 rfl (lv_at hl 1 rfl) ?_
          refine lv_iload_n F.1 F.2.1 dX7_sameAs_29 rfl (lv_at hl 2 rfl) ?_
          refine ad_callV (As := [.int (iI i)]) (rest := [.int (iI (lat w i))]) F G (c_X7_at l D K z0 h1 b M gf wf i hTf hC hM (by omega)) my_X7_at mv_X7_17 (wr := [(h0, .inr (7, [.ref a, .int (iI (w.length : Int))])), (a, aI (K 2) L g)]) (isC := [2, 3]) (isR := [0, 1]) ⟨rfl, rfl, rfl, rfl, by decide⟩ 7 0 rfl rfl rfl rfl ⟨Nat.le_of_ble_eq_true rfl, Nat.le_of_ble_eq_true rfl⟩ ⟨Nat.le_of_ble_eq_true rfl, Nat.le_of_ble_eq_true rfl⟩ (Nat.le_of_ble_eq_true rfl) hl.1 (cells9 := 0) (slots9 := 0) ⟨rfl, rfl⟩ dX7_sameAs_30 (fun v u H locs hw_4 G => ?_)
          obtain ⟨rfl, rfl⟩ := hw_4
          replace G := G.perm (ws' := [(h0, .inr (7, [.ref a, .int (iI (w.length : Int))])), (a, aI (K 2) L g), (h1, .inr (7, [.ref b, .int (iI (wf.length : Int))])), (b, aI (K 2) M gf)]) [0, 1, 2, 3] rfl rfl
          refine W.eq (g2 := F0 m9 33 ls [.int (iI (lat wf i)), .int (iI (lat w i))]) rfl ?_
          refine ad_icmp_eq (tgt := 38) F (by have := lat_ch hCw i; have := lat_ch hC i; omega) dX7_sameAs_33 (by decide) (fun cc_5 => ?_) (fun cc_5 => ?_)
          · refine ad_iinc (lv' := [(2, .int (iI (i + 1))), (0, .ref h0), (1, .ref h1)]) F dX7_sameAs_38 hl (k := 2) rfl (by decide) rfl (fun ls hl => ?_)
            refine lv_goto (tgt := 15) F.1 F.2.1 dX7_sameAs_41 (by decide) ?_
            exact ih15 (i + 1) _ _ _ (by omega) (fun j h1 h2 => (show j = i ∨ j < i by omega).elim (fun h => by rw [h]; exact cc_5) (fun h => ha j h1 h)) (by omega) (G.perm (ws' := [(h0, .inr (7, [.ref a, .int (iI (w.length : Int))])), (a, aI (K 2) L g), (h1, .inr (7, [.ref b, .int (iI (wf.length : Int))])), (b, aI (K 2) M gf)]) [0, 1, 2, 3] rfl rfl) (lv_sub hl [1, 2, 0] rfl)
          · refine ad_iconst F dX7_sameAs_36 ?_
            exact ad_zreturn F G hR rfl (Nat.le_of_ble_eq_true rfl) (Nat.le_of_ble_eq_true rfl) rfl (Or.inr (⟨rfl, (fun e => cc_5 (by rw [e])), rfl⟩)) dX7_sameAs_37
    exact lp15 ((((w.length - 0 : Int)) + 1).toNat) 0 _ _ _ (by omega) (fun j h1 h2 => by omega) (by omega) (G.perm (ws' := [(h0, .inr (7, [.ref a, .int (iI (w.length : Int))])), (a, aI (K 2) L g), (h1, .inr (7, [.ref b, .int (iI (wf.length : Int))])), (b, aI (K 2) M gf)]) [0, 1, 2, 3] rfl rfl) (lv_sub hl [1, 2, 0] rfl)
  · refine ad_iconst F dX7_sameAs_11 ?_
    exact ad_zreturn F G hR rfl (Nat.le_of_ble_eq_true rfl) (Nat.le_of_ble_eq_true rfl) rfl (Or.inr (⟨rfl, (fun e => absurd (congrArg (fun x : List Int => (x.length : Int)) e) cc_1), rfl⟩)) dX7_sameAs_12

def rm_X7_lettersEnd : Room := { frames := 2, cells := 0, slots := 0, locals := 33 }
set_option maxHeartbeats 4000000 in
set_option maxRecDepth 100000 in
theorem c_X7_lettersEnd (l : Launch) (D : va_G) (K : Nat → ClassId) (z0 : Nat) (h0 : Nat) (a : Nat) (L : Nat) (g : Nat → Int) (w : List Int) (z : Int) (hT : Tx g w) (hC : Chs w) (hL : w.length ≤ L ∧ L ≤ 65536) (hz : 0 ≤ z ∧ z ≤ w.length) : CT l D K z0 yX7_lettersEnd cX7_lettersEnd 3 (some .int) rm_X7_lettersEnd [.ref h0, .int (iI z)] [(h0, .inr (7, [.ref a, .int (iI (w.length : Int))])), (a, aI (K 2) L g)] (fun v9 u9 => ∃ (r : Int), v9 = some (.int (iI r)) ∧ (z ≤ r ∧ r ≤ w.length) ∧ (∀ j : Int, z ≤ j → j < r → isL (lat w j)) ∧ (r < w.length → ¬ isL (lat w r)) ∧ u9 = [(h0, .inr (7, [.ref a, .int (iI (w.length : Int))])), (a, aI (K 2) L g)]) := by
  refine CT.start RX7 "lettersEnd" (by decide) rfl rfl (Nat.le_of_ble_eq_true rfl) ?_
  intro p9 e9 s9 m9 ag9 bl9 mt9 c9 A9 Q9 ls F G hR hl
  have hl : lv_has ls 3 [(0, .ref h0), (1, .int (iI z))] := hl
  refine lv_iload_n F.1 F.2.1 dX7_lettersEnd_0 rfl (lv_at hl 1 rfl) ?_
  refine lv_istore_n (lv' := [(2, .int (iI z)), (0, .ref h0), (1, .int (iI z))]) F.1 F.2.1 dX7_lettersEnd_1 rfl hl (by decide) rfl (fun ls hl => ?_)
  have lp2 : ∀ (n2 : Nat) (i : Int) (H : Heap) (locs : List Loc) (ls : Array Slot), (z ≤ i ∧ i ≤ w.length) → (∀ j : Int, z ≤ j → j < i → isL (lat w j)) → (w.length - i) < (n2 : Int) → ad_G D A9 s9.heap H locs [(h0, .inr (7, [.ref a, .int (iI (w.length : Int))])), (a, aI (K 2) L g)] → lv_has ls 3 [(0, .ref h0), (1, .int (iI z)), (2, .int (iI i))] → W p9 l e9 rm_X7_lettersEnd s9 m9 ag9 bl9 mt9 c9 H locs 0 0 Q9 (F0 m9 2 ls []) := by
    intro n2
    induction n2 with
    | zero =>
      intro i H locs ls hi ha hm2
      exact absurd hm2 (by omega)
    | succ n2 ih2 =>
      intro i H locs ls hi ha hm2 G hl
      refine lv_iload_n F.1 F.2.1 dX7_lettersEnd_2 rfl (lv_at hl 2 rfl) ?_
      refine lv_aload_n F.1 F.2.1 dX7_lettersEnd_3 rfl (lv_at hl 0 rfl) ?_
      refine ad_get F G fl_X7_13 0 rfl rfl dX7_lettersEnd_4 ?_
      refine ad_icmp_ge (tgt := 27) F (by omega) dX7_lettersEnd_7 (by decide) (fun cc_1 => ?_) (fun cc_1 => ?_)
      · refine lv_iload_n F.1 F.2.1 dX7_lettersEnd_27 rfl (lv_at hl 2 rfl) ?_
        exact ad_ireturn F G hR rfl (Nat.le_of_ble_eq_true rfl) (Nat.le_of_ble_eq_true rfl) ⟨i, rfl, hi, ha, (fun h => by omega), rfl⟩ dX7_lettersEnd_28
      · refine lv_aload_n F.1 F.2.1 dX7_lettersEnd_10 rfl (lv_at hl 0 rfl) ?_
        refine lv_iload_n F.1 F.2.1 dX7_lettersEnd_11 rfl (lv_at hl 2 rfl) ?_
        refine ad_callV (As := [.int (iI i)]) (rest := []) F G (c_X7_at l D K z0 h0 a L g w i hT hC hL (by omega)) my_X7_at mv_X7_17 (wr := []) (isC := [0, 1]) (isR := []) ⟨rfl, rfl, rfl, rfl, by decide⟩ 7 0 rfl rfl rfl rfl ⟨Nat.le_of_ble_eq_true rfl, Nat.le_of_ble_eq_true rfl⟩ ⟨Nat.le_of_ble_eq_true rfl, Nat.le_of_ble_eq_true rfl⟩ (Nat.le_of_ble_eq_true rfl) hl.1 (cells9 := 0) (slots9 := 0) ⟨rfl, rfl⟩ dX7_lettersEnd_12 (fun v u H locs hw_2 G => ?_)
        obtain ⟨rfl, rfl⟩ := hw_2
        replace G := G.perm (ws' := [(h0, .inr (7, [.ref a, .int (iI (w.length : Int))])), (a, aI (K 2) L g)]) [0, 1] rfl rfl
        refine W.eq (g2 := F0 m9 15 ls [.int (iI (lat w i))]) rfl ?_
        refine ad_callSN (As := [.int (iI (lat w i))]) (rest := []) F G (c_X10_isLetter l D K z0 (lat w i) (lat_ch hC _)) my_X10_isLetter ms_X7_42 (wr := [(h0, .inr (7, [.ref a, .int (iI (w.length : Int))])), (a, aI (K 2) L g)]) (isC := []) (isR := [0, 1]) ⟨rfl, rfl, rfl, rfl, by decide⟩ rfl rfl ⟨Nat.le_of_ble_eq_true rfl, Nat.le_of_ble_eq_true rfl⟩ ⟨Nat.le_of_ble_eq_true rfl, Nat.le_of_ble_eq_true rfl⟩ (Nat.le_of_ble_eq_true rfl) hl.1 (cells9 := 0) (slots9 := 0) ⟨rfl, rfl⟩ dX7_lettersEnd_15 (fun v u H locs hw_3 G => ?_)
        rcases hw_3 with ⟨rfl, hc_4, rfl⟩ | ⟨rfl, hc_5, rfl⟩
        · replace G := G.perm (ws' := [(h0, .inr (7, [.ref a, .int (iI (w.length : Int))])), (a, aI (K 2) L g)]) [0, 1] rfl rfl
          refine W.eq (g2 := F0 m9 18 ls [.int (iI 1)]) rfl ?_
          refine ad_if_eq (tgt := 27) F (by decide) dX7_lettersEnd_18 (by decide) (fun cc_6 => absurd cc_6 (by decide)) (fun _ => ?_)
          refine ad_iinc (lv' := [(2, .int (iI (i + 1))), (0, .ref h0), (1, .int (iI z))]) F dX7_lettersEnd_21 hl (k := 2) rfl (by decide) rfl (fun ls hl => ?_)
          refine lv_goto (tgt := 2) F.1 F.2.1 dX7_lettersEnd_24 (by decide) ?_
          exact ih2 (i + 1) _ _ _ (by omega) (fun j h1 h2 => (show j = i ∨ j < i by omega).elim (fun h => by rw [h]; exact hc_4) (fun h => ha j h1 h)) (by omega) (G.perm (ws' := [(h0, .inr (7, [.ref a, .int (iI (w.length : Int))])), (a, aI (K 2) L g)]) [0, 1] rfl rfl) (lv_sub hl [1, 2, 0] rfl)
        · replace G := G.perm (ws' := [(h0, .inr (7, [.ref a, .int (iI (w.length : Int))])), (a, aI (K 2) L g)]) [0, 1] rfl rfl
          refine W.eq (g2 := F0 m9 18 ls [.int (iI 0)]) rfl ?_
          refine ad_if_eq (tgt := 27) F (by decide) dX7_lettersEnd_18 (by decide) (fun _ => ?_) (fun cc_7 => absurd cc_7 (by decide))
          refine lv_iload_n F.1 F.2.1 dX7_lettersEnd_27 rfl (lv_at hl 2 rfl) ?_
          exact ad_ireturn F G hR rfl (Nat.le_of_ble_eq_true rfl) (Nat.le_of_ble_eq_true rfl) ⟨i, rfl, hi, ha, (fun _ => hc_5), rfl⟩ dX7_lettersEnd_28
  exact lp2 ((((w.length - z : Int)) + 1).toNat) z _ _ _ (by omega) (fun j h1 h2 => by omega) (by omega) (G.perm (ws' := [(h0, .inr (7, [.ref a, .int (iI (w.length : Int))])), (a, aI (K 2) L g)]) [0, 1] rfl rfl) (lv_sub hl [1, 2, 0] rfl)
