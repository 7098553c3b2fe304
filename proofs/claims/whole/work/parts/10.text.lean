def isV (x : Int) : Prop := x = 97 ∨ x = 101 ∨ x = 105 ∨ x = 111 ∨ x = 117
def rm_X10_isLetter : Room := { frames := 1, cells := 0, slots := 0, locals := 12 }
set_option maxHeartbeats 4000000 in
set_option maxRecDepth 100000 in
theorem c_X10_isLetter (l : Launch) (D : va_G) (K : Nat → ClassId) (z0 : Nat) (x : Int) (hx : 0 ≤ x ∧ x < 65536) : CT l D K z0 yX10_isLetter cX10_isLetter 1 (some .boolean) rm_X10_isLetter [.int (iI x)] [] (fun v u => (v = some (.int (iI 1)) ∧ (97 ≤ x ∧ x ≤ 122) ∧ u = []) ∨ (v = some (.int (iI 0)) ∧ (¬ (97 ≤ x ∧ x ≤ 122)) ∧ u = [])) := by
  refine CT.start RX10 "isLetter" (by decide) rfl rfl (Nat.le_of_ble_eq_true rfl) ?_
  intro p e s m args below meth c A Q ls F G hR hl
  have hl : lv_has ls 1 [(0, .int (iI x))] := hl
  refine lv_iload_n F.1 F.2.1 dX10_isLetter_0 rfl (lv_at hl 0 rfl) ?_
  refine ad_bipush F dX10_isLetter_1 (by decide) ?_
  refine ad_icmp_lt (tgt := 16) F (by omega) dX10_isLetter_3 (by decide) (fun cc_1 => ?_) (fun cc_1 => ?_)
  · refine ad_iconst F dX10_isLetter_16 ?_
    exact ad_zreturn F G hR rfl (Nat.le_of_ble_eq_true rfl) (Nat.le_of_ble_eq_true rfl) rfl (Or.inr (⟨rfl, (by omega), rfl⟩)) dX10_isLetter_17
  · refine lv_iload_n F.1 F.2.1 dX10_isLetter_6 rfl (lv_at hl 0 rfl) ?_
    refine ad_bipush F dX10_isLetter_7 (by decide) ?_
    refine ad_icmp_gt (tgt := 16) F (by omega) dX10_isLetter_9 (by decide) (fun cc_2 => ?_) (fun cc_2 => ?_)
    · refine ad_iconst F dX10_isLetter_16 ?_
      exact ad_zreturn F G hR rfl (Nat.le_of_ble_eq_true rfl) (Nat.le_of_ble_eq_true rfl) rfl (Or.inr (⟨rfl, (by omega), rfl⟩)) dX10_isLetter_17
    · refine ad_iconst F dX10_isLetter_12 ?_
      refine lv_goto (tgt := 17) F.1 F.2.1 dX10_isLetter_13 (by decide) ?_
      exact ad_zreturn F G hR rfl (Nat.le_of_ble_eq_true rfl) (Nat.le_of_ble_eq_true rfl) rfl (Or.inl ⟨rfl, (by omega), rfl⟩) dX10_isLetter_17

def rm_X10_isVowel : Room := { frames := 1, cells := 0, slots := 0, locals := 12 }
set_option maxHeartbeats 4000000 in
set_option maxRecDepth 100000 in
theorem c_X10_isVowel (l : Launch) (D : va_G) (K : Nat → ClassId) (z0 : Nat) (x : Int) (hx : 0 ≤ x ∧ x < 65536) : CT l D K z0 yX10_isVowel cX10_isVowel 1 (some .boolean) rm_X10_isVowel [.int (iI x)] [] (fun v u => (v = some (.int (iI 1)) ∧ (isV x) ∧ u = []) ∨ (v = some (.int (iI 0)) ∧ (¬ isV x) ∧ u = [])) := by
  refine CT.start RX10 "isVowel" (by decide) rfl rfl (Nat.le_of_ble_eq_true rfl) ?_
  intro p e s m args below meth c A Q ls F G hR hl
  have hl : lv_has ls 1 [(0, .int (iI x))] := hl
  refine lv_iload_n F.1 F.2.1 dX10_isVowel_0 rfl (lv_at hl 0 rfl) ?_
  refine ad_bipush F dX10_isVowel_1 (by decide) ?_
  refine ad_icmp_eq (tgt := 30) F (by omega) dX10_isVowel_3 (by decide) (fun cc_1 => ?_) (fun cc_1 => ?_)
  · refine ad_iconst F dX10_isVowel_30 ?_
    refine lv_goto (tgt := 35) F.1 F.2.1 dX10_isVowel_31 (by decide) ?_
    exact ad_zreturn F G hR rfl (Nat.le_of_ble_eq_true rfl) (Nat.le_of_ble_eq_true rfl) rfl (Or.inl ⟨rfl, (by unfold isV; omega), rfl⟩) dX10_isVowel_35
  · refine lv_iload_n F.1 F.2.1 dX10_isVowel_6 rfl (lv_at hl 0 rfl) ?_
    refine ad_bipush F dX10_isVowel_7 (by decide) ?_
    refine ad_icmp_eq (tgt := 30) F (by omega) dX10_isVowel_9 (by decide) (fun cc_2 => ?_) (fun cc_2 => ?_)
    · refine ad_iconst F dX10_isVowel_30 ?_
      refine lv_goto (tgt := 35) F.1 F.2.1 dX10_isVowel_31 (by decide) ?_
      exact ad_zreturn F G hR rfl (Nat.le_of_ble_eq_true rfl) (Nat.le_of_ble_eq_true rfl) rfl (Or.inl ⟨rfl, (by unfold isV; omega), rfl⟩) dX10_isVowel_35
    · refine lv_iload_n F.1 F.2.1 dX10_isVowel_12 rfl (lv_at hl 0 rfl) ?_
      refine ad_bipush F dX10_isVowel_13 (by decide) ?_
      refine ad_icmp_eq (tgt := 30) F (by omega) dX10_isVowel_15 (by decide) (fun cc_3 => ?_) (fun cc_3 => ?_)
      · refine ad_iconst F dX10_isVowel_30 ?_
        refine lv_goto (tgt := 35) F.1 F.2.1 dX10_isVowel_31 (by decide) ?_
        exact ad_zreturn F G hR rfl (Nat.le_of_ble_eq_true rfl) (Nat.le_of_ble_eq_true rfl) rfl (Or.inl ⟨rfl, (by unfold isV; omega), rfl⟩) dX10_isVowel_35
      · refine lv_iload_n F.1 F.2.1 dX10_isVowel_18 rfl (lv_at hl 0 rfl) ?_
        refine ad_bipush F dX10_isVowel_19 (by decide) ?_
        refine ad_icmp_eq (tgt := 30) F (by omega) dX10_isVowel_21 (by decide) (fun cc_4 => ?_) (fun cc_4 => ?_)
        · refine ad_iconst F dX10_isVowel_30 ?_
          refine lv_goto (tgt := 35) F.1 F.2.1 dX10_isVowel_31 (by decide) ?_
          exact ad_zreturn F G hR rfl (Nat.le_of_ble_eq_true rfl) (Nat.le_of_ble_eq_true rfl) rfl (Or.inl ⟨rfl, (by unfold isV; omega), rfl⟩) dX10_isVowel_35
        · refine lv_iload_n F.1 F.2.1 dX10_isVowel_24 rfl (lv_at hl 0 rfl) ?_
          refine ad_bipush F dX10_isVowel_25 (by decide) ?_
          refine ad_icmp_ne (tgt := 34) F (by omega) dX10_isVowel_27 (by decide) (fun cc_5 => ?_) (fun cc_5 => ?_)
          · refine ad_iconst F dX10_isVowel_34 ?_
            exact ad_zreturn F G hR rfl (Nat.le_of_ble_eq_true rfl) (Nat.le_of_ble_eq_true rfl) rfl (Or.inr (⟨rfl, (by unfold isV; omega), rfl⟩)) dX10_isVowel_35
          · refine ad_iconst F dX10_isVowel_30 ?_
            refine lv_goto (tgt := 35) F.1 F.2.1 dX10_isVowel_31 (by decide) ?_
            exact ad_zreturn F G hR rfl (Nat.le_of_ble_eq_true rfl) (Nat.le_of_ble_eq_true rfl) rfl (Or.inl ⟨rfl, (by unfold isV; omega), rfl⟩) dX10_isVowel_35

def rm_X2_lengthOf : Room := { frames := 1, cells := 0, slots := 0, locals := 12 }
set_option maxHeartbeats 4000000 in
set_option maxRecDepth 100000 in
theorem c_X2_lengthOf (l : Launch) (D : va_G) (K : Nat → ClassId) (z0 : Nat) (w : List Int) (hw : Fw w) : CT l D K z0 yX2_lengthOf cX2_lengthOf 2 (some .int) rm_X2_lengthOf [.long (enc w)] [] (fun v u => v = some (.int (iI (w.length : Int))) ∧ u = []) := by
  refine CT.start RX2 "lengthOf" (by decide) rfl rfl (Nat.le_of_ble_eq_true rfl) ?_
  intro p e s m args below meth c A Q ls F G hR hl
  have hl : lv_has ls 2 [(0, .long (enc w))] := hl
  refine lv_lload_n F.1 F.2.1 dX2_lengthOf_0 rfl (lv_at hl 0 rfl) ?_
  refine ad_bipush F dX2_lengthOf_1 (by decide) ?_
  refine lv_lushr F.1 F.2.1 dX2_lengthOf_3 rfl ?_
  refine lv_l2i (v := iI (w.length : Int)) F.1 F.2.1 dX2_lengthOf_4 (enc_len hw) ?_
  exact ad_ireturn F G hR rfl (Nat.le_of_ble_eq_true rfl) (Nat.le_of_ble_eq_true rfl) ⟨rfl, rfl⟩ dX2_lengthOf_5

def rm_X2_letterAt : Room := { frames := 1, cells := 0, slots := 0, locals := 12 }
set_option maxHeartbeats 4000000 in
set_option maxRecDepth 100000 in
theorem c_X2_letterAt (l : Launch) (D : va_G) (K : Nat → ClassId) (z0 : Nat) (w : List Int) (k : Int) (hw : Fw w) (hk : 0 ≤ k ∧ k < w.length) : CT l D K z0 yX2_letterAt cX2_letterAt 3 (some .char) rm_X2_letterAt [.long (enc w), .int (iI k)] [] (fun v u => v = some (.int (iI (lat w k))) ∧ u = []) := by
  refine CT.start RX2 "letterAt" (by decide) rfl rfl (Nat.le_of_ble_eq_true rfl) ?_
  intro p e s m args below meth c A Q ls F G hR hl
  have hl : lv_has ls 3 [(0, .long (enc w)), (2, .int (iI k))] := hl
  refine ad_bipush F dX2_letterAt_0 (by decide) ?_
  refine lv_lload_n F.1 F.2.1 dX2_letterAt_2 rfl (lv_at hl 0 rfl) ?_
  refine ad_iconst F dX2_letterAt_3 ?_
  refine lv_iload_n F.1 F.2.1 dX2_letterAt_4 rfl (lv_at hl 1 rfl) ?_
  refine ad_imul F dX2_letterAt_5 ?_
  refine lv_lushr F.1 F.2.1 dX2_letterAt_6 rfl ?_
  refine lv_ldc2 (v := 31) F.1 F.2.1 F.2.2.2.2.1 (F.in (ad_mt (List.mem_of_getElem? (i := 817) (by decide +kernel)) (by decide +kernel))) dX2_letterAt_7 ?_
  refine lv_land F.1 F.2.1 dX2_letterAt_10 ?_
  refine lv_l2i (v := iI (lat w k - 97)) F.1 F.2.1 dX2_letterAt_11 (enc_let hw hk.1 hk.2) ?_
  refine ad_iadd F dX2_letterAt_12 ?_
  refine ad_topi (y := lat w k) (by omega) ?_
  refine lv_i2c (v := iI (lat w k)) F.1 F.2.1 dX2_letterAt_13 (iI_i2c (by have := lat_let hw hk.1 hk.2; omega)) ?_
  exact ad_zreturn F G hR rfl (Nat.le_of_ble_eq_true rfl) (Nat.le_of_ble_eq_true rfl) (iI_charN (by have := lat_let hw hk.1 hk.2; omega)).1 ⟨rfl, rfl⟩ dX2_letterAt_14

def rm_X7_size : Room := { frames := 1, cells := 0, slots := 0, locals := 12 }
set_option maxHeartbeats 4000000 in
set_option maxRecDepth 100000 in
theorem c_X7_size (l : Launch) (D : va_G) (K : Nat → ClassId) (z0 : Nat) (h0 : Nat) (a : Nat) (n : Int) : CT l D K z0 yX7_size cX7_size 1 (some .int) rm_X7_size [.ref h0] [(h0, .inr (7, [.ref a, .int (iI n)]))] (fun v u => v = some (.int (iI n)) ∧ u = [(h0, .inr (7, [.ref a, .int (iI n)]))]) := by
  refine CT.start RX7 "size" (by decide) rfl rfl (Nat.le_of_ble_eq_true rfl) ?_
  intro p e s m args below meth c A Q ls F G hR hl
  have hl : lv_has ls 1 [(0, .ref h0)] := hl
  refine lv_aload_n F.1 F.2.1 dX7_size_0 rfl (lv_at hl 0 rfl) ?_
  refine ad_get F G fl_X7_13 0 rfl rfl dX7_size_1 ?_
  exact ad_ireturn F G hR rfl (Nat.le_of_ble_eq_true rfl) (Nat.le_of_ble_eq_true rfl) ⟨rfl, rfl⟩ dX7_size_4

def rm_X7_empty : Room := { frames := 1, cells := 0, slots := 0, locals := 12 }
set_option maxHeartbeats 4000000 in
set_option maxRecDepth 100000 in
theorem c_X7_empty (l : Launch) (D : va_G) (K : Nat → ClassId) (z0 : Nat) (h0 : Nat) (a : Nat) (n : Int) : CT l D K z0 yX7_empty cX7_empty 1 none rm_X7_empty [.ref h0] [(h0, .inr (7, [.ref a, .int (iI n)]))] (fun v u => v = none ∧ u = [(h0, .inr (7, [.ref a, .int (iI 0)]))]) := by
  refine CT.start RX7 "empty" (by decide) rfl rfl (Nat.le_of_ble_eq_true rfl) ?_
  intro p e s m args below meth c A Q ls F G hR hl
  have hl : lv_has ls 1 [(0, .ref h0)] := hl
  refine lv_aload_n F.1 F.2.1 dX7_empty_0 rfl (lv_at hl 0 rfl) ?_
  refine ad_iconst F dX7_empty_1 ?_
  refine ad_put F G fl_X7_13 0 rfl rfl rfl (Nat.le_of_ble_eq_true rfl) (ws' := [(h0, .inr (7, [.ref a, .int (iI 0)]))]) rfl dX7_empty_2 (fun H locs G => ?_)
  exact ad_vreturn F G hR rfl (Nat.le_of_ble_eq_true rfl) (Nat.le_of_ble_eq_true rfl) ⟨rfl, rfl⟩ dX7_empty_5

def rm_X7_init : Room := { frames := 1, cells := 1, slots := 1200, locals := 20 }
set_option maxHeartbeats 4000000 in
set_option maxRecDepth 100000 in
theorem c_X7_init (l : Launch) (D : va_G) (K : Nat → ClassId) (z0 : Nat) (h0 : Nat) (n : Nat) (hn : n ≤ 1200) : CT l D K z0 yX7_init cX7_init 2 none rm_X7_init [.ref h0, .int (iI (n : Int))] [(h0, .inr (7, [.null, .int (iI 0)]))] (fun v u => ∃ (a1 : Nat), v = none ∧ u = [(h0, .inr (7, [.ref a1, .int (iI 0)])), (a1, aI (K 2) n (fun _ => 0))]) := by
  refine CT.start RX7 "<init>" (by decide) rfl rfl (Nat.le_of_ble_eq_true rfl) ?_
  intro p e s m args below meth c A Q ls F G hR hl
  have hl : lv_has ls 2 [(0, .ref h0), (1, .int (iI (n : Int)))] := hl
  refine lv_aload_n F.1 F.2.1 dX7_init_0 rfl (lv_at hl 0 rfl) ?_
  refine ad_obji F oi_X7_1 hl.1 (Nat.le_of_ble_eq_true rfl) (Nat.le_of_ble_eq_true rfl) dX7_init_1 ?_
  refine lv_aload_n F.1 F.2.1 dX7_init_4 rfl (lv_at hl 0 rfl) ?_
  refine lv_iload_n F.1 F.2.1 dX7_init_5 rfl (lv_at hl 1 rfl) ?_
  refine ad_if_le (tgt := 13) F (by omega) dX7_init_6 (by decide) (fun cc_1 => ?_) (fun cc_1 => ?_)
  · refine ad_iconst F dX7_init_13 ?_
    refine ad_newa F G (ty := .char) rfl ac_char (t0 := 2) (cA := K 2) rfl (fun _ h => by cases h) (n := n) (a0 := aI0 n (fun _ => 0)) (fun _ => rfl) (by omega) (by show n * 2 ≤ _; omega) (Nat.le_of_ble_eq_true rfl) (by show 0 + n ≤ 1200; omega) dX7_init_14 (fun q_2 H G => ?_)
    replace G := G.eq (ws' := [(h0, .inr (7, [.null, .int (iI 0)])), (q_2, aI (K 2) n (fun _ => 0))]) rfl
    refine W.widen (k := 1) (n := 1200) (by omega) (by omega) ?_
    refine ad_putF F G fl_X7_7 rfl 0 rfl rfl rfl (Nat.le_of_ble_eq_true rfl) (ws' := [(h0, .inr (7, [.ref q_2, .int (iI 0)])), (q_2, aI (K 2) n (fun _ => 0))]) rfl dX7_init_16 (fun H locs G => ?_)
    exact ad_vreturn F G hR rfl (Nat.le_of_ble_eq_true rfl) (Nat.le_of_ble_eq_true rfl) ⟨q_2, rfl, rfl⟩ dX7_init_19
  · refine lv_iload_n F.1 F.2.1 dX7_init_9 rfl (lv_at hl 1 rfl) ?_
    refine lv_goto (tgt := 14) F.1 F.2.1 dX7_init_10 (by decide) ?_
    refine ad_newa F G (ty := .char) rfl ac_char (t0 := 2) (cA := K 2) rfl (fun _ h => by cases h) (n := n) (a0 := aI0 n (fun _ => 0)) (fun _ => rfl) (by omega) (by show n * 2 ≤ _; omega) (Nat.le_of_ble_eq_true rfl) (by show 0 + n ≤ 1200; omega) dX7_init_14 (fun q_3 H G => ?_)
    replace G := G.eq (ws' := [(h0, .inr (7, [.null, .int (iI 0)])), (q_3, aI (K 2) n (fun _ => 0))]) rfl
    refine W.widen (k := 1) (n := 1200) (by omega) (by omega) ?_
    refine ad_putF F G fl_X7_7 rfl 0 rfl rfl rfl (Nat.le_of_ble_eq_true rfl) (ws' := [(h0, .inr (7, [.ref q_3, .int (iI 0)])), (q_3, aI (K 2) n (fun _ => 0))]) rfl dX7_init_16 (fun H locs G => ?_)
    exact ad_vreturn F G hR rfl (Nat.le_of_ble_eq_true rfl) (Nat.le_of_ble_eq_true rfl) ⟨q_3, rfl, rfl⟩ dX7_init_19

def rm_X7_at : Room := { frames := 1, cells := 0, slots := 0, locals := 12 }
set_option maxHeartbeats 4000000 in
set_option maxRecDepth 100000 in
theorem c_X7_at (l : Launch) (D : va_G) (K : Nat → ClassId) (z0 : Nat) (h0 : Nat) (a : Nat) (L : Nat) (g : Nat → Int) (w : List Int) (z : Int) (hT : Tx g w) (hC : Chs w) (hL : w.length ≤ L ∧ L ≤ 65536) (hz : -2147483648 ≤ z ∧ z < 2147483648) : CT l D K z0 yX7_at cX7_at 2 (some .char) rm_X7_at [.ref h0, .int (iI z)] [(h0, .inr (7, [.ref a, .int (iI (w.length : Int))])), (a, aI (K 2) L g)] (fun v u => v = some (.int (iI (lat w z))) ∧ u = [(h0, .inr (7, [.ref a, .int (iI (w.length : Int))])), (a, aI (K 2) L g)]) := by
  refine CT.start RX7 "at" (by decide) rfl rfl (Nat.le_of_ble_eq_true rfl) ?_
  intro p e s m args below meth c A Q ls F G hR hl
  have hl : lv_has ls 2 [(0, .ref h0), (1, .int (iI z))] := hl
  refine lv_iload_n F.1 F.2.1 dX7_at_0 rfl (lv_at hl 1 rfl) ?_
  refine ad_if_lt (tgt := 21) F (by omega) dX7_at_1 (by decide) (fun cc_1 => ?_) (fun cc_1 => ?_)
  · refine ad_iconst F dX7_at_21 ?_
    exact ad_zreturn F G hR rfl (Nat.le_of_ble_eq_true rfl) (Nat.le_of_ble_eq_true rfl) (iI_charN (by first | omega | exact lat_ch hC _)).1 ⟨(ad_eqi (lat_out (by omega)).symm), rfl⟩ dX7_at_22
  · refine lv_iload_n F.1 F.2.1 dX7_at_4 rfl (lv_at hl 1 rfl) ?_
    refine lv_aload_n F.1 F.2.1 dX7_at_5 rfl (lv_at hl 0 rfl) ?_
    refine ad_get F G fl_X7_13 0 rfl rfl dX7_at_6 ?_
    refine ad_icmp_ge (tgt := 21) F (by omega) dX7_at_9 (by decide) (fun cc_2 => ?_) (fun cc_2 => ?_)
    · refine ad_iconst F dX7_at_21 ?_
      exact ad_zreturn F G hR rfl (Nat.le_of_ble_eq_true rfl) (Nat.le_of_ble_eq_true rfl) (iI_charN (by first | omega | exact lat_ch hC _)).1 ⟨(ad_eqi (lat_out (by omega)).symm), rfl⟩ dX7_at_22
    · refine lv_aload_n F.1 F.2.1 dX7_at_12 rfl (lv_at hl 0 rfl) ?_
      refine ad_get F G fl_X7_7 0 rfl rfl dX7_at_13 ?_
      refine lv_iload_n F.1 F.2.1 dX7_at_16 rfl (lv_at hl 1 rfl) ?_
      refine ad_cald F G 1 rfl (w := lat w z) (by omega) (Tx_at hT (by omega) (by omega)) dX7_at_17 ?_
      refine lv_goto (tgt := 22) F.1 F.2.1 dX7_at_18 (by decide) ?_
      exact ad_zreturn F G hR rfl (Nat.le_of_ble_eq_true rfl) (Nat.le_of_ble_eq_true rfl) (iI_charN (by first | omega | exact lat_ch hC _)).1 ⟨rfl, rfl⟩ dX7_at_22

def rm_X7_add : Room := { frames := 1, cells := 0, slots := 0, locals := 12 }
set_option maxHeartbeats 4000000 in
set_option maxRecDepth 100000 in
theorem c_X7_add (l : Launch) (D : va_G) (K : Nat → ClassId) (z0 : Nat) (h0 : Nat) (a : Nat) (L : Nat) (g : Nat → Int) (w : List Int) (x : Int) (hT : Tx g w) (hL : w.length < L ∧ L ≤ 65536) (hx : 0 ≤ x ∧ x < 65536) : CT l D K z0 yX7_add cX7_add 2 none rm_X7_add [.ref h0, .int (iI x)] [(h0, .inr (7, [.ref a, .int (iI (w.length : Int))])), (a, aI (K 2) L g)] (fun v u => ∃ (g2 : Nat → Int), ∃ (w2 : List Int), v = none ∧ (w2 = w ++ [x]) ∧ (Tx g2 w2) ∧ u = [(h0, .inr (7, [.ref a, .int (iI (w2.length : Int))])), (a, aI (K 2) L g2)]) := by
  refine CT.start RX7 "add" (by decide) rfl rfl (Nat.le_of_ble_eq_true rfl) ?_
  intro p e s m args below meth c A Q ls F G hR hl
  have hl : lv_has ls 2 [(0, .ref h0), (1, .int (iI x))] := hl
  refine lv_aload_n F.1 F.2.1 dX7_add_0 rfl (lv_at hl 0 rfl) ?_
  refine ad_get F G fl_X7_13 0 rfl rfl dX7_add_1 ?_
  refine lv_aload_n F.1 F.2.1 dX7_add_4 rfl (lv_at hl 0 rfl) ?_
  refine ad_get F G fl_X7_7 0 rfl rfl dX7_add_5 ?_
  refine ad_alen F G 1 2 rfl rfl (n := L) rfl dX7_add_8 ?_
  refine ad_icmp_ge (tgt := 32) F (by omega) dX7_add_9 (by decide) (fun cc_1 => ?_) (fun cc_1 => ?_)
  · exact absurd cc_1 (by omega)
  · refine lv_aload_n F.1 F.2.1 dX7_add_12 rfl (lv_at hl 0 rfl) ?_
    refine ad_get F G fl_X7_7 0 rfl rfl dX7_add_13 ?_
    refine lv_aload_n F.1 F.2.1 dX7_add_16 rfl (lv_at hl 0 rfl) ?_
    refine ad_get F G fl_X7_13 0 rfl rfl dX7_add_17 ?_
    refine lv_iload_n F.1 F.2.1 dX7_add_20 rfl (lv_at hl 1 rfl) ?_
    refine ad_cast F G 1 rfl (by omega) (by omega) (ws' := [(h0, .inr (7, [.ref a, .int (iI (w.length : Int))])), (a, aI (K 2) L (va_up g (w.length : Int).toNat x))]) rfl dX7_add_21 (fun H locs G => ?_)
    refine lv_aload_n F.1 F.2.1 dX7_add_22 rfl (lv_at hl 0 rfl) ?_
    refine lv_dup F.1 F.2.1 dX7_add_23 rfl ?_
    refine ad_get F G fl_X7_13 0 rfl rfl dX7_add_24 ?_
    refine ad_iconst F dX7_add_27 ?_
    refine ad_iadd F dX7_add_28 ?_
    refine ad_topi (y := ((w ++ [x]).length : Int)) (by simp) ?_
    refine ad_put F G fl_X7_13 0 rfl rfl rfl (Nat.le_of_ble_eq_true rfl) (ws' := [(h0, .inr (7, [.ref a, .int (iI ((w ++ [x]).length : Int))])), (a, aI (K 2) L (va_up g (w.length : Int).toNat x))]) rfl dX7_add_29 (fun H locs G => ?_)
    exact ad_vreturn F G hR rfl (Nat.le_of_ble_eq_true rfl) (Nat.le_of_ble_eq_true rfl) ⟨va_up g (w.length : Int).toNat x, w ++ [x], rfl, rfl, (Tx_push hT x), rfl⟩ dX7_add_32
