def isVb (x : Int) : Bool := decide (x = 97 ∨ x = 101 ∨ x = 105 ∨ x = 111 ∨ x = 117)
theorem isVb_iff {x : Int} : isVb x = true ↔ isV x := decide_eq_true_iff
def plb (w : List Int) : Int := if isVb (lat w ((w.length : Int) - 1)) = true then 1 else 2
def rm_X8_init : Room := { frames := 1, cells := 0, slots := 0, locals := 20 }
set_option maxHeartbeats 4000000 in
set_option maxRecDepth 100000 in
theorem c_X8_init (l : Launch) (D : va_G) (K : Nat → ClassId) (z0 : Nat) (h0 : Nat) (am : Int) (mk : Int) (lt : Int) (wd : Int) (wt : Int) (wp : Int) : CT l D K z0 yX8_init cX8_init 1 none rm_X8_init [.ref h0] [(h0, .inr (8, [.int (iI am), .int (iI mk), .int (iI lt), .int (iI wd), .int (iI wt), .int (iI wp)]))] (fun v9 u9 => v9 = none ∧ u9 = [(h0, .inr (8, [.int (iI am), .int (iI mk), .int (iI lt), .int (iI wd), .int (iI wt), .int (iI wp)]))]) := by
  refine CT.start RX8 "<init>" (by decide) rfl rfl (Nat.le_of_ble_eq_true rfl) ?_
  intro p9 e9 s9 m9 ag9 bl9 mt9 c9 A9 Q9 ls F G hR hl
  have hl : lv_has ls 1 [(0, .ref h0)] := hl
  refine lv_aload_n F.1 F.2.1 dX8_init_0 rfl (lv_at hl 0 rfl) ?_
  refine ad_obji F oi_X8_3 hl.1 (Nat.le_of_ble_eq_true rfl) (Nat.le_of_ble_eq_true rfl) dX8_init_1 ?_
  exact ad_vreturn F G hR rfl (Nat.le_of_ble_eq_true rfl) (Nat.le_of_ble_eq_true rfl) ⟨rfl, rfl⟩ dX8_init_4

def rm_X8_startWord : Room := { frames := 1, cells := 0, slots := 0, locals := 12 }
set_option maxHeartbeats 4000000 in
set_option maxRecDepth 100000 in
theorem c_X8_startWord (l : Launch) (D : va_G) (K : Nat → ClassId) (z0 : Nat) (h0 : Nat) (am : Int) (mk : Int) (lt : Int) (wd : Int) (wt : Int) (wp : Int) : CT l D K z0 yX8_startWord cX8_startWord 1 none rm_X8_startWord [.ref h0] [(h0, .inr (8, [.int (iI am), .int (iI mk), .int (iI lt), .int (iI wd), .int (iI wt), .int (iI wp)]))] (fun v9 u9 => v9 = none ∧ u9 = [(h0, .inr (8, [.int (iI am), .int (iI 0), .int (iI 0), .int (iI wd), .int (iI wt), .int (iI wp)]))]) := by
  refine CT.start RX8 "startWord" (by decide) rfl rfl (Nat.le_of_ble_eq_true rfl) ?_
  intro p9 e9 s9 m9 ag9 bl9 mt9 c9 A9 Q9 ls F G hR hl
  have hl : lv_has ls 1 [(0, .ref h0)] := hl
  refine lv_aload_n F.1 F.2.1 dX8_startWord_0 rfl (lv_at hl 0 rfl) ?_
  refine ad_iconst F dX8_startWord_1 ?_
  refine ad_put F G fl_X8_57 0 rfl rfl rfl (Nat.le_of_ble_eq_true rfl) (ws' := [(h0, .inr (8, [.int (iI am), .int (iI mk), .int (iI 0), .int (iI wd), .int (iI wt), .int (iI wp)]))]) rfl dX8_startWord_2 (fun H locs G => ?_)
  refine lv_aload_n F.1 F.2.1 dX8_startWord_5 rfl (lv_at hl 0 rfl) ?_
  refine ad_iconst F dX8_startWord_6 ?_
  refine ad_put F G fl_X8_66 0 rfl rfl rfl (Nat.le_of_ble_eq_true rfl) (ws' := [(h0, .inr (8, [.int (iI am), .int (iI 0), .int (iI 0), .int (iI wd), .int (iI wt), .int (iI wp)]))]) rfl dX8_startWord_7 (fun H locs G => ?_)
  exact ad_vreturn F G hR rfl (Nat.le_of_ble_eq_true rfl) (Nat.le_of_ble_eq_true rfl) ⟨rfl, rfl⟩ dX8_startWord_10

def rm_X8_startSide : Room := { frames := 2, cells := 0, slots := 0, locals := 32 }
set_option maxHeartbeats 4000000 in
set_option maxRecDepth 100000 in
theorem c_X8_startSide (l : Launch) (D : va_G) (K : Nat → ClassId) (z0 : Nat) (h0 : Nat) (am : Int) (mk : Int) (lt : Int) (wd : Int) (wt : Int) (wp : Int) : CT l D K z0 yX8_startSide cX8_startSide 1 none rm_X8_startSide [.ref h0] [(h0, .inr (8, [.int (iI am), .int (iI mk), .int (iI lt), .int (iI wd), .int (iI wt), .int (iI wp)]))] (fun v9 u9 => v9 = none ∧ u9 = [(h0, .inr (8, [.int (iI am), .int (iI 0), .int (iI 0), .int (iI 1), .int (iI wt), .int (iI wp)]))]) := by
  refine CT.start RX8 "startSide" (by decide) rfl rfl (Nat.le_of_ble_eq_true rfl) ?_
  intro p9 e9 s9 m9 ag9 bl9 mt9 c9 A9 Q9 ls F G hR hl
  have hl : lv_has ls 1 [(0, .ref h0)] := hl
  refine lv_aload_n F.1 F.2.1 dX8_startSide_0 rfl (lv_at hl 0 rfl) ?_
  refine ad_iconst F dX8_startSide_1 ?_
  refine ad_put F G fl_X8_60 0 rfl rfl rfl (Nat.le_of_ble_eq_true rfl) (ws' := [(h0, .inr (8, [.int (iI am), .int (iI mk), .int (iI lt), .int (iI 1), .int (iI wt), .int (iI wp)]))]) rfl dX8_startSide_2 (fun H locs G => ?_)
  refine lv_aload_n F.1 F.2.1 dX8_startSide_5 rfl (lv_at hl 0 rfl) ?_
  refine ad_callV (As := []) (rest := []) F G (c_X8_startWord l D K z0 h0 am mk lt 1 wt wp ) my_X8_startWord mv_X8_63 (wr := []) (isC := [0]) (isR := []) ⟨rfl, rfl, rfl, rfl, by decide⟩ 8 0 rfl rfl rfl rfl ⟨Nat.le_of_ble_eq_true rfl, Nat.le_of_ble_eq_true rfl⟩ ⟨Nat.le_of_ble_eq_true rfl, Nat.le_of_ble_eq_true rfl⟩ (Nat.le_of_ble_eq_true rfl) hl.1 (cells9 := 0) (slots9 := 0) ⟨rfl, rfl⟩ dX8_startSide_6 (fun v u H locs hw_1 G => ?_)
  obtain ⟨rfl, rfl⟩ := hw_1
  replace G := G.perm (ws' := [(h0, .inr (8, [.int (iI am), .int (iI 0), .int (iI 0), .int (iI 1), .int (iI wt), .int (iI wp)]))]) [0] rfl rfl
  refine W.eq (g2 := F0 m9 9 ls []) rfl ?_
  exact ad_vreturn F G hR rfl (Nat.le_of_ble_eq_true rfl) (Nat.le_of_ble_eq_true rfl) ⟨rfl, rfl⟩ dX8_startSide_9

def rm_X8_acceptsEnd : Room := { frames := 3, cells := 0, slots := 0, locals := 52 }
set_option maxHeartbeats 4000000 in
set_option maxRecDepth 100000 in
theorem c_X8_acceptsEnd (l : Launch) (D : va_G) (K : Nat → ClassId) (z0 : Nat) (h0 : Nat) (am : Int) (mk : Int) (lt : Int) (wd : Int) (wt : Int) (wp : Int) (x : Int) (hx : 0 ≤ x ∧ x < 65536) (hg : (0 ≤ mk ∧ mk ≤ 1) ∧ (0 ≤ lt ∧ lt ≤ 1000) ∧ (0 ≤ wd ∧ wd ≤ 1000) ∧ (0 ≤ wt ∧ wt ≤ 1000) ∧ (0 ≤ am ∧ am ≤ 1) ∧ (0 ≤ wp ∧ wp ≤ 1)) : CT l D K z0 yX8_acceptsEnd cX8_acceptsEnd 2 (some .boolean) rm_X8_acceptsEnd [.ref h0, .int (iI x)] [(h0, .inr (8, [.int (iI am), .int (iI mk), .int (iI lt), .int (iI wd), .int (iI wt), .int (iI wp)]))] (fun v9 u9 => (v9 = some (.int (iI 1)) ∧ (x = 32 ∧ wd ≠ wt) ∧ u9 = [(h0, .inr (8, [.int (iI am), .int (iI 0), .int (iI 0), .int (iI (wd + 1)), .int (iI wt), .int (iI wp)]))]) ∨ (v9 = some (.int (iI 1)) ∧ (x = 61 ∧ wp = 1 ∧ wt = 0) ∧ u9 = [(h0, .inr (8, [.int (iI am), .int (iI 0), .int (iI 0), .int (iI 1), .int (iI wd), .int (iI wp)]))]) ∨ (v9 = some (.int (iI 0)) ∧ (¬ (x = 32 ∧ wd ≠ wt) ∧ ¬ (x = 61 ∧ wp = 1 ∧ wt = 0)) ∧ u9 = [(h0, .inr (8, [.int (iI am), .int (iI mk), .int (iI lt), .int (iI wd), .int (iI wt), .int (iI wp)]))])) := by
  refine CT.start RX8 "acceptsEnd" (by decide) rfl rfl (Nat.le_of_ble_eq_true rfl) ?_
  intro p9 e9 s9 m9 ag9 bl9 mt9 c9 A9 Q9 ls F G hR hl
  have hl : lv_has ls 2 [(0, .ref h0), (1, .int (iI x))] := hl
  refine lv_iload_n F.1 F.2.1 dX8_acceptsEnd_0 rfl (lv_at hl 1 rfl) ?_
  refine ad_bipush F dX8_acceptsEnd_1 (by decide) ?_
  refine ad_icmp_ne (tgt := 33) F (by omega) dX8_acceptsEnd_3 (by decide) (fun cc_1 => ?_) (fun cc_1 => ?_)
  · refine lv_iload_n F.1 F.2.1 dX8_acceptsEnd_33 rfl (lv_at hl 1 rfl) ?_
    refine ad_bipush F dX8_acceptsEnd_34 (by decide) ?_
    refine ad_icmp_ne (tgt := 67) F (by omega) dX8_acceptsEnd_36 (by decide) (fun cc_2 => ?_) (fun cc_2 => ?_)
    · refine ad_iconst F dX8_acceptsEnd_67 ?_
      exact ad_zreturn F G hR rfl (Nat.le_of_ble_eq_true rfl) (Nat.le_of_ble_eq_true rfl) rfl (Or.inr (Or.inr (⟨rfl, (by omega), rfl⟩))) dX8_acceptsEnd_68
    · refine lv_aload_n F.1 F.2.1 dX8_acceptsEnd_39 rfl (lv_at hl 0 rfl) ?_
      refine ad_get F G fl_X8_39 0 rfl rfl dX8_acceptsEnd_40 ?_
      refine ad_if_eq (tgt := 67) F (by omega) dX8_acceptsEnd_43 (by decide) (fun cc_3 => ?_) (fun cc_3 => ?_)
      · refine ad_iconst F dX8_acceptsEnd_67 ?_
        exact ad_zreturn F G hR rfl (Nat.le_of_ble_eq_true rfl) (Nat.le_of_ble_eq_true rfl) rfl (Or.inr (Or.inr (⟨rfl, (by omega), rfl⟩))) dX8_acceptsEnd_68
      · refine lv_aload_n F.1 F.2.1 dX8_acceptsEnd_46 rfl (lv_at hl 0 rfl) ?_
        refine ad_get F G fl_X8_49 0 rfl rfl dX8_acceptsEnd_47 ?_
        refine ad_if_ne (tgt := 67) F (by omega) dX8_acceptsEnd_50 (by decide) (fun cc_4 => ?_) (fun cc_4 => ?_)
        · refine ad_iconst F dX8_acceptsEnd_67 ?_
          exact ad_zreturn F G hR rfl (Nat.le_of_ble_eq_true rfl) (Nat.le_of_ble_eq_true rfl) rfl (Or.inr (Or.inr (⟨rfl, (by omega), rfl⟩))) dX8_acceptsEnd_68
        · refine lv_aload_n F.1 F.2.1 dX8_acceptsEnd_53 rfl (lv_at hl 0 rfl) ?_
          refine lv_aload_n F.1 F.2.1 dX8_acceptsEnd_54 rfl (lv_at hl 0 rfl) ?_
          refine ad_get F G fl_X8_60 0 rfl rfl dX8_acceptsEnd_55 ?_
          refine ad_put F G fl_X8_49 0 rfl rfl rfl (Nat.le_of_ble_eq_true rfl) (ws' := [(h0, .inr (8, [.int (iI am), .int (iI mk), .int (iI lt), .int (iI wd), .int (iI wd), .int (iI wp)]))]) rfl dX8_acceptsEnd_58 (fun H locs G => ?_)
          refine lv_aload_n F.1 F.2.1 dX8_acceptsEnd_61 rfl (lv_at hl 0 rfl) ?_
          refine ad_callV (As := []) (rest := []) F G (c_X8_startSide l D K z0 h0 am mk lt wd wd wp ) my_X8_startSide mv_X8_46 (wr := []) (isC := [0]) (isR := []) ⟨rfl, rfl, rfl, rfl, by decide⟩ 8 0 rfl rfl rfl rfl ⟨Nat.le_of_ble_eq_true rfl, Nat.le_of_ble_eq_true rfl⟩ ⟨Nat.le_of_ble_eq_true rfl, Nat.le_of_ble_eq_true rfl⟩ (Nat.le_of_ble_eq_true rfl) hl.1 (cells9 := 0) (slots9 := 0) ⟨rfl, rfl⟩ dX8_acceptsEnd_62 (fun v u H locs hw_5 G => ?_)
          obtain ⟨rfl, rfl⟩ := hw_5
          replace G := G.perm (ws' := [(h0, .inr (8, [.int (iI am), .int (iI 0), .int (iI 0), .int (iI 1), .int (iI wd), .int (iI wp)]))]) [0] rfl rfl
          refine W.eq (g2 := F0 m9 65 ls []) rfl ?_
          refine ad_iconst F dX8_acceptsEnd_65 ?_
          exact ad_zreturn F G hR rfl (Nat.le_of_ble_eq_true rfl) (Nat.le_of_ble_eq_true rfl) rfl (Or.inr (Or.inl ⟨rfl, (by omega), rfl⟩)) dX8_acceptsEnd_66
  · refine lv_aload_n F.1 F.2.1 dX8_acceptsEnd_6 rfl (lv_at hl 0 rfl) ?_
    refine ad_get F G fl_X8_60 0 rfl rfl dX8_acceptsEnd_7 ?_
    refine lv_aload_n F.1 F.2.1 dX8_acceptsEnd_10 rfl (lv_at hl 0 rfl) ?_
    refine ad_get F G fl_X8_49 0 rfl rfl dX8_acceptsEnd_11 ?_
    refine ad_icmp_eq (tgt := 33) F (by omega) dX8_acceptsEnd_14 (by decide) (fun cc_6 => ?_) (fun cc_6 => ?_)
    · refine lv_iload_n F.1 F.2.1 dX8_acceptsEnd_33 rfl (lv_at hl 1 rfl) ?_
      refine ad_bipush F dX8_acceptsEnd_34 (by decide) ?_
      refine ad_icmp_ne (tgt := 67) F (by omega) dX8_acceptsEnd_36 (by decide) (fun cc_7 => ?_) (fun cc_7 => ?_)
      · refine ad_iconst F dX8_acceptsEnd_67 ?_
        exact ad_zreturn F G hR rfl (Nat.le_of_ble_eq_true rfl) (Nat.le_of_ble_eq_true rfl) rfl (Or.inr (Or.inr (⟨rfl, (by omega), rfl⟩))) dX8_acceptsEnd_68
      · refine lv_aload_n F.1 F.2.1 dX8_acceptsEnd_39 rfl (lv_at hl 0 rfl) ?_
        refine ad_get F G fl_X8_39 0 rfl rfl dX8_acceptsEnd_40 ?_
        refine ad_if_eq (tgt := 67) F (by omega) dX8_acceptsEnd_43 (by decide) (fun cc_8 => ?_) (fun cc_8 => ?_)
        · refine ad_iconst F dX8_acceptsEnd_67 ?_
          exact ad_zreturn F G hR rfl (Nat.le_of_ble_eq_true rfl) (Nat.le_of_ble_eq_true rfl) rfl (Or.inr (Or.inr (⟨rfl, (by omega), rfl⟩))) dX8_acceptsEnd_68
        · refine lv_aload_n F.1 F.2.1 dX8_acceptsEnd_46 rfl (lv_at hl 0 rfl) ?_
          refine ad_get F G fl_X8_49 0 rfl rfl dX8_acceptsEnd_47 ?_
          refine ad_if_ne (tgt := 67) F (by omega) dX8_acceptsEnd_50 (by decide) (fun cc_9 => ?_) (fun cc_9 => ?_)
          · refine ad_iconst F dX8_acceptsEnd_67 ?_
            exact ad_zreturn F G hR rfl (Nat.le_of_ble_eq_true rfl) (Nat.le_of_ble_eq_true rfl) rfl (Or.inr (Or.inr (⟨rfl, (by omega), rfl⟩))) dX8_acceptsEnd_68
          · refine lv_aload_n F.1 F.2.1 dX8_acceptsEnd_53 rfl (lv_at hl 0 rfl) ?_
            refine lv_aload_n F.1 F.2.1 dX8_acceptsEnd_54 rfl (lv_at hl 0 rfl) ?_
            refine ad_get F G fl_X8_60 0 rfl rfl dX8_acceptsEnd_55 ?_
            refine ad_put F G fl_X8_49 0 rfl rfl rfl (Nat.le_of_ble_eq_true rfl) (ws' := [(h0, .inr (8, [.int (iI am), .int (iI mk), .int (iI lt), .int (iI wd), .int (iI wd), .int (iI wp)]))]) rfl dX8_acceptsEnd_58 (fun H locs G => ?_)
            refine lv_aload_n F.1 F.2.1 dX8_acceptsEnd_61 rfl (lv_at hl 0 rfl) ?_
            refine ad_callV (As := []) (rest := []) F G (c_X8_startSide l D K z0 h0 am mk lt wd wd wp ) my_X8_startSide mv_X8_46 (wr := []) (isC := [0]) (isR := []) ⟨rfl, rfl, rfl, rfl, by decide⟩ 8 0 rfl rfl rfl rfl ⟨Nat.le_of_ble_eq_true rfl, Nat.le_of_ble_eq_true rfl⟩ ⟨Nat.le_of_ble_eq_true rfl, Nat.le_of_ble_eq_true rfl⟩ (Nat.le_of_ble_eq_true rfl) hl.1 (cells9 := 0) (slots9 := 0) ⟨rfl, rfl⟩ dX8_acceptsEnd_62 (fun v u H locs hw_10 G => ?_)
            obtain ⟨rfl, rfl⟩ := hw_10
            replace G := G.perm (ws' := [(h0, .inr (8, [.int (iI am), .int (iI 0), .int (iI 0), .int (iI 1), .int (iI wd), .int (iI wp)]))]) [0] rfl rfl
            refine W.eq (g2 := F0 m9 65 ls []) rfl ?_
            refine ad_iconst F dX8_acceptsEnd_65 ?_
            exact ad_zreturn F G hR rfl (Nat.le_of_ble_eq_true rfl) (Nat.le_of_ble_eq_true rfl) rfl (Or.inr (Or.inl ⟨rfl, (by omega), rfl⟩)) dX8_acceptsEnd_66
    · refine lv_aload_n F.1 F.2.1 dX8_acceptsEnd_17 rfl (lv_at hl 0 rfl) ?_
      refine lv_dup F.1 F.2.1 dX8_acceptsEnd_18 rfl ?_
      refine ad_get F G fl_X8_60 0 rfl rfl dX8_acceptsEnd_19 ?_
      refine ad_iconst F dX8_acceptsEnd_22 ?_
      refine ad_iadd F dX8_acceptsEnd_23 ?_
      refine ad_put F G fl_X8_60 0 rfl rfl rfl (Nat.le_of_ble_eq_true rfl) (ws' := [(h0, .inr (8, [.int (iI am), .int (iI mk), .int (iI lt), .int (iI (wd + 1)), .int (iI wt), .int (iI wp)]))]) rfl dX8_acceptsEnd_24 (fun H locs G => ?_)
      refine lv_aload_n F.1 F.2.1 dX8_acceptsEnd_27 rfl (lv_at hl 0 rfl) ?_
      refine ad_callV (As := []) (rest := []) F G (c_X8_startWord l D K z0 h0 am mk lt (wd + 1) wt wp ) my_X8_startWord mv_X8_63 (wr := []) (isC := [0]) (isR := []) ⟨rfl, rfl, rfl, rfl, by decide⟩ 8 0 rfl rfl rfl rfl ⟨Nat.le_of_ble_eq_true rfl, Nat.le_of_ble_eq_true rfl⟩ ⟨Nat.le_of_ble_eq_true rfl, Nat.le_of_ble_eq_true rfl⟩ (Nat.le_of_ble_eq_true rfl) hl.1 (cells9 := 0) (slots9 := 0) ⟨rfl, rfl⟩ dX8_acceptsEnd_28 (fun v u H locs hw_11 G => ?_)
      obtain ⟨rfl, rfl⟩ := hw_11
      replace G := G.perm (ws' := [(h0, .inr (8, [.int (iI am), .int (iI 0), .int (iI 0), .int (iI (wd + 1)), .int (iI wt), .int (iI wp)]))]) [0] rfl rfl
      refine W.eq (g2 := F0 m9 31 ls []) rfl ?_
      refine ad_iconst F dX8_acceptsEnd_31 ?_
      exact ad_zreturn F G hR rfl (Nat.le_of_ble_eq_true rfl) (Nat.le_of_ble_eq_true rfl) rfl (Or.inl ⟨rfl, (by omega), rfl⟩) dX8_acceptsEnd_32

def rm_X8_accepts : Room := { frames := 4, cells := 0, slots := 0, locals := 73 }
set_option maxHeartbeats 4000000 in
set_option maxRecDepth 100000 in
theorem c_X8_accepts (l : Launch) (D : va_G) (K : Nat → ClassId) (z0 : Nat) (h0 : Nat) (am : Int) (mk : Int) (lt : Int) (wd : Int) (wt : Int) (wp : Int) (x : Int) (hx : 0 ≤ x ∧ x < 65536) (hg : (0 ≤ mk ∧ mk ≤ 1) ∧ (0 ≤ lt ∧ lt ≤ 1000) ∧ (0 ≤ wd ∧ wd ≤ 1000) ∧ (0 ≤ wt ∧ wt ≤ 1000) ∧ (0 ≤ am ∧ am ≤ 1) ∧ (0 ≤ wp ∧ wp ≤ 1)) : CT l D K z0 yX8_accepts cX8_accepts 3 (some .boolean) rm_X8_accepts [.ref h0, .int (iI x)] [(h0, .inr (8, [.int (iI am), .int (iI mk), .int (iI lt), .int (iI wd), .int (iI wt), .int (iI wp)]))] (fun v9 u9 => (∃ (mk2 : Int), ∃ (lt2 : Int), ∃ (wd2 : Int), ∃ (wt2 : Int), v9 = some (.int (iI 1)) ∧ (acc am wp (mk, lt, wd, wt) x = true) ∧ (nst (mk, lt, wd, wt) x = (mk2, lt2, wd2, wt2)) ∧ u9 = [(h0, .inr (8, [.int (iI am), .int (iI mk2), .int (iI lt2), .int (iI wd2), .int (iI wt2), .int (iI wp)]))]) ∨ (∃ (mk2 : Int), ∃ (lt2 : Int), ∃ (wd2 : Int), ∃ (wt2 : Int), v9 = some (.int (iI 0)) ∧ (acc am wp (mk, lt, wd, wt) x = false) ∧ u9 = [(h0, .inr (8, [.int (iI am), .int (iI mk2), .int (iI lt2), .int (iI wd2), .int (iI wt2), .int (iI wp)]))])) := by
  refine CT.start RX8 "accepts" (by decide) rfl rfl (Nat.le_of_ble_eq_true rfl) ?_
  intro p9 e9 s9 m9 ag9 bl9 mt9 c9 A9 Q9 ls F G hR hl
  have hl : lv_has ls 3 [(0, .ref h0), (1, .int (iI x))] := hl
  refine lv_iload_n F.1 F.2.1 dX8_accepts_0 rfl (lv_at hl 1 rfl) ?_
  refine ad_callSN (As := [.int (iI x)]) (rest := []) F G (c_X10_isLetter l D K z0 x hx) my_X10_isLetter ms_X8_69 (wr := [(h0, .inr (8, [.int (iI am), .int (iI mk), .int (iI lt), .int (iI wd), .int (iI wt), .int (iI wp)]))]) (isC := []) (isR := [0]) ⟨rfl, rfl, rfl, rfl, by decide⟩ rfl rfl ⟨Nat.le_of_ble_eq_true rfl, Nat.le_of_ble_eq_true rfl⟩ ⟨Nat.le_of_ble_eq_true rfl, Nat.le_of_ble_eq_true rfl⟩ (Nat.le_of_ble_eq_true rfl) hl.1 (cells9 := 0) (slots9 := 0) ⟨rfl, rfl⟩ dX8_accepts_1 (fun v u H locs hw_1 G => ?_)
  rcases hw_1 with ⟨rfl, hc_2, rfl⟩ | ⟨rfl, hc_3, rfl⟩
  · replace G := G.perm (ws' := [(h0, .inr (8, [.int (iI am), .int (iI mk), .int (iI lt), .int (iI wd), .int (iI wt), .int (iI wp)]))]) [0] rfl rfl
    refine W.eq (g2 := F0 m9 4 ls [.int (iI 1)]) rfl ?_
    refine ad_if_eq (tgt := 32) F (by decide) dX8_accepts_4 (by decide) (fun cc_4 => absurd cc_4 (by decide)) (fun _ => ?_)
    refine lv_aload_n F.1 F.2.1 dX8_accepts_7 rfl (lv_at hl 0 rfl) ?_
    refine lv_dup F.1 F.2.1 dX8_accepts_8 rfl ?_
    refine ad_get F G fl_X8_57 0 rfl rfl dX8_accepts_9 ?_
    refine ad_iconst F dX8_accepts_12 ?_
    refine ad_iadd F dX8_accepts_13 ?_
    refine ad_put F G fl_X8_57 0 rfl rfl rfl (Nat.le_of_ble_eq_true rfl) (ws' := [(h0, .inr (8, [.int (iI am), .int (iI mk), .int (iI (lt + 1)), .int (iI wd), .int (iI wt), .int (iI wp)]))]) rfl dX8_accepts_14 (fun H locs G => ?_)
    refine lv_aload_n F.1 F.2.1 dX8_accepts_17 rfl (lv_at hl 0 rfl) ?_
    refine ad_get F G fl_X8_57 0 rfl rfl dX8_accepts_18 ?_
    refine ad_bipush F dX8_accepts_21 (by decide) ?_
    refine ad_icmp_gt (tgt := 30) F (by omega) dX8_accepts_23 (by decide) (fun cc_5 => ?_) (fun cc_5 => ?_)
    · refine ad_iconst F dX8_accepts_30 ?_
      exact ad_zreturn F G hR rfl (Nat.le_of_ble_eq_true rfl) (Nat.le_of_ble_eq_true rfl) rfl (Or.inr (⟨mk, lt + 1, wd, wt, rfl, (by simp only [acc]; (repeat split) <;> simp <;> omega), rfl⟩)) dX8_accepts_31
    · refine ad_iconst F dX8_accepts_26 ?_
      refine lv_goto (tgt := 31) F.1 F.2.1 dX8_accepts_27 (by decide) ?_
      exact ad_zreturn F G hR rfl (Nat.le_of_ble_eq_true rfl) (Nat.le_of_ble_eq_true rfl) rfl (Or.inl ⟨mk, lt + 1, wd, wt, rfl, (by simp only [acc]; (repeat split) <;> simp <;> omega), (by simp only [nst]; (repeat split) <;> simp <;> omega), rfl⟩) dX8_accepts_31
  · replace G := G.perm (ws' := [(h0, .inr (8, [.int (iI am), .int (iI mk), .int (iI lt), .int (iI wd), .int (iI wt), .int (iI wp)]))]) [0] rfl rfl
    refine W.eq (g2 := F0 m9 4 ls [.int (iI 0)]) rfl ?_
    refine ad_if_eq (tgt := 32) F (by decide) dX8_accepts_4 (by decide) (fun _ => ?_) (fun cc_6 => absurd cc_6 (by decide))
    refine lv_iload_n F.1 F.2.1 dX8_accepts_32 rfl (lv_at hl 1 rfl) ?_
    refine ad_bipush F dX8_accepts_33 (by decide) ?_
    refine ad_icmp_ne (tgt := 80) F (by omega) dX8_accepts_35 (by decide) (fun cc_7 => ?_) (fun cc_7 => ?_)
    · refine lv_aload_n F.1 F.2.1 dX8_accepts_80 rfl (lv_at hl 0 rfl) ?_
      refine ad_get F G fl_X8_57 0 rfl rfl dX8_accepts_81 ?_
      refine ad_if_le (tgt := 99) F (by omega) dX8_accepts_84 (by decide) (fun cc_8 => ?_) (fun cc_8 => ?_)
      · refine ad_iconst F dX8_accepts_99 ?_
        exact ad_zreturn F G hR rfl (Nat.le_of_ble_eq_true rfl) (Nat.le_of_ble_eq_true rfl) rfl (Or.inr (⟨mk, lt, wd, wt, rfl, (by simp only [acc]; (repeat split) <;> simp <;> omega), rfl⟩)) dX8_accepts_100
      · refine lv_aload_n F.1 F.2.1 dX8_accepts_87 rfl (lv_at hl 0 rfl) ?_
        refine lv_iload_n F.1 F.2.1 dX8_accepts_88 rfl (lv_at hl 1 rfl) ?_
        refine ad_callV (As := [.int (iI x)]) (rest := []) F G (c_X8_acceptsEnd l D K z0 h0 am mk lt wd wt wp x hx hg) my_X8_acceptsEnd mv_X8_72 (wr := []) (isC := [0]) (isR := []) ⟨rfl, rfl, rfl, rfl, by decide⟩ 8 0 rfl rfl rfl rfl ⟨Nat.le_of_ble_eq_true rfl, Nat.le_of_ble_eq_true rfl⟩ ⟨Nat.le_of_ble_eq_true rfl, Nat.le_of_ble_eq_true rfl⟩ (Nat.le_of_ble_eq_true rfl) hl.1 (cells9 := 0) (slots9 := 0) ⟨rfl, rfl⟩ dX8_accepts_89 (fun v u H locs hw_9 G => ?_)
        rcases hw_9 with ⟨rfl, hc_10, rfl⟩ | ⟨rfl, hc_11, rfl⟩ | ⟨rfl, hc_12, rfl⟩
        · replace G := G.perm (ws' := [(h0, .inr (8, [.int (iI am), .int (iI 0), .int (iI 0), .int (iI (wd + 1)), .int (iI wt), .int (iI wp)]))]) [0] rfl rfl
          refine W.eq (g2 := F0 m9 92 ls [.int (iI 1)]) rfl ?_
          refine ad_if_eq (tgt := 99) F (by decide) dX8_accepts_92 (by decide) (fun cc_13 => absurd cc_13 (by decide)) (fun _ => ?_)
          refine ad_iconst F dX8_accepts_95 ?_
          refine lv_goto (tgt := 100) F.1 F.2.1 dX8_accepts_96 (by decide) ?_
          exact ad_zreturn F G hR rfl (Nat.le_of_ble_eq_true rfl) (Nat.le_of_ble_eq_true rfl) rfl (Or.inl ⟨0, 0, wd + 1, wt, rfl, (by simp only [acc]; (repeat split) <;> simp <;> omega), (by simp only [nst]; (repeat split) <;> simp <;> omega), rfl⟩) dX8_accepts_100
        · replace G := G.perm (ws' := [(h0, .inr (8, [.int (iI am), .int (iI 0), .int (iI 0), .int (iI 1), .int (iI wd), .int (iI wp)]))]) [0] rfl rfl
          refine W.eq (g2 := F0 m9 92 ls [.int (iI 1)]) rfl ?_
          refine ad_if_eq (tgt := 99) F (by decide) dX8_accepts_92 (by decide) (fun cc_14 => absurd cc_14 (by decide)) (fun _ => ?_)
          refine ad_iconst F dX8_accepts_95 ?_
          refine lv_goto (tgt := 100) F.1 F.2.1 dX8_accepts_96 (by decide) ?_
          exact ad_zreturn F G hR rfl (Nat.le_of_ble_eq_true rfl) (Nat.le_of_ble_eq_true rfl) rfl (Or.inl ⟨0, 0, 1, wd, rfl, (by simp only [acc]; (repeat split) <;> simp <;> omega), (by simp only [nst]; (repeat split) <;> simp <;> omega), rfl⟩) dX8_accepts_100
        · replace G := G.perm (ws' := [(h0, .inr (8, [.int (iI am), .int (iI mk), .int (iI lt), .int (iI wd), .int (iI wt), .int (iI wp)]))]) [0] rfl rfl
          refine W.eq (g2 := F0 m9 92 ls [.int (iI 0)]) rfl ?_
          refine ad_if_eq (tgt := 99) F (by decide) dX8_accepts_92 (by decide) (fun _ => ?_) (fun cc_15 => absurd cc_15 (by decide))
          refine ad_iconst F dX8_accepts_99 ?_
          exact ad_zreturn F G hR rfl (Nat.le_of_ble_eq_true rfl) (Nat.le_of_ble_eq_true rfl) rfl (Or.inr (⟨mk, lt, wd, wt, rfl, (by simp only [acc]; (repeat split) <;> simp <;> omega), rfl⟩)) dX8_accepts_100
    · refine lv_aload_n F.1 F.2.1 dX8_accepts_38 rfl (lv_at hl 0 rfl) ?_
      refine ad_get F G fl_X8_57 0 rfl rfl dX8_accepts_39 ?_
      refine ad_if_ne (tgt := 56) F (by omega) dX8_accepts_42 (by decide) (fun cc_16 => ?_) (fun cc_16 => ?_)
      · refine ad_iconst F dX8_accepts_56 ?_
        refine lv_istore_n (lv' := [(2, .int (iI 0)), (0, .ref h0), (1, .int (iI x))]) F.1 F.2.1 dX8_accepts_57 rfl hl (by decide) rfl (fun ls hl => ?_)
        refine lv_aload_n F.1 F.2.1 dX8_accepts_58 rfl (lv_at hl 1 rfl) ?_
        refine ad_iconst F dX8_accepts_59 ?_
        refine ad_put F G fl_X8_66 0 rfl rfl rfl (Nat.le_of_ble_eq_true rfl) (ws' := [(h0, .inr (8, [.int (iI am), .int (iI 1), .int (iI lt), .int (iI wd), .int (iI wt), .int (iI wp)]))]) rfl dX8_accepts_60 (fun H locs G => ?_)
        refine lv_aload_n F.1 F.2.1 dX8_accepts_63 rfl (lv_at hl 1 rfl) ?_
        refine ad_get F G fl_X8_33 0 rfl rfl dX8_accepts_64 ?_
        refine ad_if_eq (tgt := 78) F (by omega) dX8_accepts_67 (by decide) (fun cc_17 => ?_) (fun cc_17 => ?_)
        · refine ad_iconst F dX8_accepts_78 ?_
          exact ad_zreturn F G hR rfl (Nat.le_of_ble_eq_true rfl) (Nat.le_of_ble_eq_true rfl) rfl (Or.inr (⟨1, lt, wd, wt, rfl, (by simp only [acc]; (repeat split) <;> simp <;> omega), rfl⟩)) dX8_accepts_79
        · refine lv_iload_n F.1 F.2.1 dX8_accepts_70 rfl (lv_at hl 0 rfl) ?_
          refine ad_if_eq (tgt := 78) F (by decide) dX8_accepts_71 (by decide) (fun _ => ?_) (fun cc_18 => absurd cc_18 (by decide))
          refine ad_iconst F dX8_accepts_78 ?_
          exact ad_zreturn F G hR rfl (Nat.le_of_ble_eq_true rfl) (Nat.le_of_ble_eq_true rfl) rfl (Or.inr (⟨1, lt, wd, wt, rfl, (by simp only [acc]; (repeat split) <;> simp <;> omega), rfl⟩)) dX8_accepts_79
      · refine lv_aload_n F.1 F.2.1 dX8_accepts_45 rfl (lv_at hl 0 rfl) ?_
        refine ad_get F G fl_X8_66 0 rfl rfl dX8_accepts_46 ?_
        refine ad_if_ne (tgt := 56) F (by omega) dX8_accepts_49 (by decide) (fun cc_19 => ?_) (fun cc_19 => ?_)
        · refine ad_iconst F dX8_accepts_56 ?_
          refine lv_istore_n (lv' := [(2, .int (iI 0)), (0, .ref h0), (1, .int (iI x))]) F.1 F.2.1 dX8_accepts_57 rfl hl (by decide) rfl (fun ls hl => ?_)
          refine lv_aload_n F.1 F.2.1 dX8_accepts_58 rfl (lv_at hl 1 rfl) ?_
          refine ad_iconst F dX8_accepts_59 ?_
          refine ad_put F G fl_X8_66 0 rfl rfl rfl (Nat.le_of_ble_eq_true rfl) (ws' := [(h0, .inr (8, [.int (iI am), .int (iI 1), .int (iI lt), .int (iI wd), .int (iI wt), .int (iI wp)]))]) rfl dX8_accepts_60 (fun H locs G => ?_)
          refine lv_aload_n F.1 F.2.1 dX8_accepts_63 rfl (lv_at hl 1 rfl) ?_
          refine ad_get F G fl_X8_33 0 rfl rfl dX8_accepts_64 ?_
          refine ad_if_eq (tgt := 78) F (by omega) dX8_accepts_67 (by decide) (fun cc_20 => ?_) (fun cc_20 => ?_)
          · refine ad_iconst F dX8_accepts_78 ?_
            exact ad_zreturn F G hR rfl (Nat.le_of_ble_eq_true rfl) (Nat.le_of_ble_eq_true rfl) rfl (Or.inr (⟨1, lt, wd, wt, rfl, (by simp only [acc]; (repeat split) <;> simp <;> omega), rfl⟩)) dX8_accepts_79
          · refine lv_iload_n F.1 F.2.1 dX8_accepts_70 rfl (lv_at hl 0 rfl) ?_
            refine ad_if_eq (tgt := 78) F (by decide) dX8_accepts_71 (by decide) (fun _ => ?_) (fun cc_21 => absurd cc_21 (by decide))
            refine ad_iconst F dX8_accepts_78 ?_
            exact ad_zreturn F G hR rfl (Nat.le_of_ble_eq_true rfl) (Nat.le_of_ble_eq_true rfl) rfl (Or.inr (⟨1, lt, wd, wt, rfl, (by simp only [acc]; (repeat split) <;> simp <;> omega), rfl⟩)) dX8_accepts_79
        · refine ad_iconst F dX8_accepts_52 ?_
          refine lv_goto (tgt := 57) F.1 F.2.1 dX8_accepts_53 (by decide) ?_
          refine lv_istore_n (lv' := [(2, .int (iI 1)), (0, .ref h0), (1, .int (iI x))]) F.1 F.2.1 dX8_accepts_57 rfl hl (by decide) rfl (fun ls hl => ?_)
          refine lv_aload_n F.1 F.2.1 dX8_accepts_58 rfl (lv_at hl 1 rfl) ?_
          refine ad_iconst F dX8_accepts_59 ?_
          refine ad_put F G fl_X8_66 0 rfl rfl rfl (Nat.le_of_ble_eq_true rfl) (ws' := [(h0, .inr (8, [.int (iI am), .int (iI 1), .int (iI lt), .int (iI wd), .int (iI wt), .int (iI wp)]))]) rfl dX8_accepts_60 (fun H locs G => ?_)
          refine lv_aload_n F.1 F.2.1 dX8_accepts_63 rfl (lv_at hl 1 rfl) ?_
          refine ad_get F G fl_X8_33 0 rfl rfl dX8_accepts_64 ?_
          refine ad_if_eq (tgt := 78) F (by omega) dX8_accepts_67 (by decide) (fun cc_22 => ?_) (fun cc_22 => ?_)
          · refine ad_iconst F dX8_accepts_78 ?_
            exact ad_zreturn F G hR rfl (Nat.le_of_ble_eq_true rfl) (Nat.le_of_ble_eq_true rfl) rfl (Or.inr (⟨1, lt, wd, wt, rfl, (by simp only [acc]; (repeat split) <;> simp <;> omega), rfl⟩)) dX8_accepts_79
          · refine lv_iload_n F.1 F.2.1 dX8_accepts_70 rfl (lv_at hl 0 rfl) ?_
            refine ad_if_eq (tgt := 78) F (by decide) dX8_accepts_71 (by decide) (fun cc_23 => absurd cc_23 (by decide)) (fun _ => ?_)
            refine ad_iconst F dX8_accepts_74 ?_
            refine lv_goto (tgt := 79) F.1 F.2.1 dX8_accepts_75 (by decide) ?_
            exact ad_zreturn F G hR rfl (Nat.le_of_ble_eq_true rfl) (Nat.le_of_ble_eq_true rfl) rfl (Or.inl ⟨1, lt, wd, wt, rfl, (by simp only [acc]; (repeat split) <;> simp <;> omega), (by simp only [nst]; (repeat split) <;> simp <;> omega), rfl⟩) dX8_accepts_79

def rm_X8_firstError : Room := { frames := 5, cells := 0, slots := 0, locals := 95 }
set_option maxHeartbeats 4000000 in
set_option maxRecDepth 100000 in
theorem c_X8_firstError (l : Launch) (D : va_G) (K : Nat → ClassId) (z0 : Nat) (h0 : Nat) (am : Int) (mk : Int) (lt : Int) (wd : Int) (wt : Int) (wp : Int) (h1 : Nat) (a : Nat) (L : Nat) (g : Nat → Int) (w : List Int) (hT : Tx g w) (hC : Chs w) (hL : w.length ≤ L ∧ L ≤ 65536) (hl1 : w.length ≤ 100) (hgp : (0 ≤ am ∧ am ≤ 1) ∧ (0 ≤ wp ∧ wp ≤ 1)) : CT l D K z0 yX8_firstError cX8_firstError 3 (some .int) rm_X8_firstError [.ref h0, .ref h1] [(h0, .inr (8, [.int (iI am), .int (iI mk), .int (iI lt), .int (iI wd), .int (iI wt), .int (iI wp)])), (h1, .inr (7, [.ref a, .int (iI (w.length : Int))])), (a, aI (K 2) L g)] (fun v9 u9 => ∃ (mk2 : Int), ∃ (lt2 : Int), ∃ (wd2 : Int), ∃ (wt2 : Int), ∃ (r : Int), v9 = some (.int (iI r)) ∧ (PE am wp w r) ∧ u9 = [(h0, .inr (8, [.int (iI am), .int (iI mk2), .int (iI lt2), .int (iI wd2), .int (iI wt2), .int (iI wp)])), (h1, .inr (7, [.ref a, .int (iI (w.length : Int))])), (a, aI (K 2) L g)]) := by
  refine CT.start RX8 "firstError" (by decide) rfl rfl (Nat.le_of_ble_eq_true rfl) ?_
  intro p9 e9 s9 m9 ag9 bl9 mt9 c9 A9 Q9 ls F G hR hl
  have hl : lv_has ls 3 [(0, .ref h0), (1, .ref h1)] := hl
  refine lv_aload_n F.1 F.2.1 dX8_firstError_0 rfl (lv_at hl 0 rfl) ?_
  refine ad_callV (As := []) (rest := []) F G (c_X8_startSide l D K z0 h0 am mk lt wd wt wp ) my_X8_startSide mv_X8_46 (wr := [(h1, .inr (7, [.ref a, .int (iI (w.length : Int))])), (a, aI (K 2) L g)]) (isC := [0]) (isR := [1, 2]) ⟨rfl, rfl, rfl, rfl, by decide⟩ 8 0 rfl rfl rfl rfl ⟨Nat.le_of_ble_eq_true rfl, Nat.le_of_ble_eq_true rfl⟩ ⟨Nat.le_of_ble_eq_true rfl, Nat.le_of_ble_eq_true rfl⟩ (Nat.le_of_ble_eq_true rfl) hl.1 (cells9 := 0) (slots9 := 0) ⟨rfl, rfl⟩ dX8_firstError_1 (fun v u H locs hw_1 G => ?_)
  obtain ⟨rfl, rfl⟩ := hw_1
  replace G := G.perm (ws' := [(h0, .inr (8, [.int (iI am), .int (iI 0), .int (iI 0), .int (iI 1), .int (iI wt), .int (iI wp)])), (h1, .inr (7, [.ref a, .int (iI (w.length : Int))])), (a, aI (K 2) L g)]) [2, 0, 1] rfl rfl
  refine W.eq (g2 := F0 m9 4 ls []) rfl ?_
  refine lv_aload_n F.1 F.2.1 dX8_firstError_4 rfl (lv_at hl 0 rfl) ?_
  refine ad_iconst F dX8_firstError_5 ?_
  refine ad_put F G fl_X8_49 0 rfl rfl rfl (Nat.le_of_ble_eq_true rfl) (ws' := [(h0, .inr (8, [.int (iI am), .int (iI 0), .int (iI 0), .int (iI 1), .int (iI 0), .int (iI wp)])), (h1, .inr (7, [.ref a, .int (iI (w.length : Int))])), (a, aI (K 2) L g)]) rfl dX8_firstError_6 (fun H locs G => ?_)
  refine ad_iconst F dX8_firstError_9 ?_
  refine lv_istore_n (lv' := [(2, .int (iI 0)), (0, .ref h0), (1, .ref h1)]) F.1 F.2.1 dX8_firstError_10 rfl hl (by decide) rfl (fun ls hl => ?_)
  have lp11 : ∀ (n11 : Nat) (i : Int) (mk1 : Int) (lt1 : Int) (wd1 : Int) (wt1 : Int) (H : Heap) (locs : List Loc) (ls : Array Slot), (0 ≤ i ∧ i ≤ w.length) → ((mk1, lt1, wd1, wt1) = rnS w i.toNat) → (∀ j : Int, 0 ≤ j → j < i → okA am wp w j) → (w.length - i) < (n11 : Int) → ad_G D A9 s9.heap H locs [(h0, .inr (8, [.int (iI am), .int (iI mk1), .int (iI lt1), .int (iI wd1), .int (iI wt1), .int (iI wp)])), (h1, .inr (7, [.ref a, .int (iI (w.length : Int))])), (a, aI (K 2) L g)] → lv_has ls 3 [(0, .ref h0), (1, .ref h1), (2, .int (iI i))] → W p9 l e9 rm_X8_firstError s9 m9 ag9 bl9 mt9 c9 H locs 0 0 Q9 (F0 m9 11 ls []) := by
    intro n11
    induction n11 with
    | zero =>
      intro i mk1 lt1 wd1 wt1 H locs ls hi hq ho hm11
      exact absurd hm11 (by omega)
    | succ n11 ih11 =>
      intro i mk1 lt1 wd1 wt1 H locs ls hi hq ho hm11 G hl
      have hb := rnS_b w i.toNat
      rw [← hq] at hb
      simp only at hb
      refine lv_iload_n F.1 F.2.1 dX8_firstError_11 rfl (lv_at hl 2 rfl) ?_
      refine lv_aload_n F.1 F.2.1 dX8_firstError_12 rfl (lv_at hl 1 rfl) ?_
      refine ad_callV (As := []) (rest := [.int (iI i)]) F G (c_X7_size l D K z0 h1 a (w.length : Int) ) my_X7_size mv_X8_25 (wr := [(h0, .inr (8, [.int (iI am), .int (iI mk1), .int (iI lt1), .int (iI wd1), .int (iI wt1), .int (iI wp)])), (a, aI (K 2) L g)]) (isC := [1]) (isR := [0, 2]) ⟨rfl, rfl, rfl, rfl, by decide⟩ 7 0 rfl rfl rfl rfl ⟨Nat.le_of_ble_eq_true rfl, Nat.le_of_ble_eq_true rfl⟩ ⟨Nat.le_of_ble_eq_true rfl, Nat.le_of_ble_eq_true rfl⟩ (Nat.le_of_ble_eq_true rfl) hl.1 (cells9 := 0) (slots9 := 0) ⟨rfl, rfl⟩ dX8_firstError_13 (fun v u H locs hw_2 G => ?_)
      obtain ⟨rfl, rfl⟩ := hw_2
      replace G := G.perm (ws' := [(h0, .inr (8, [.int (iI am), .int (iI mk1), .int (iI lt1), .int (iI wd1), .int (iI wt1), .int (iI wp)])), (h1, .inr (7, [.ref a, .int (iI (w.length : Int))])), (a, aI (K 2) L g)]) [0, 2, 1] rfl rfl
      refine W.eq (g2 := F0 m9 16 ls [.int (iI (w.length : Int)), .int (iI i)]) rfl ?_
      refine ad_icmp_ge (tgt := 39) F (by omega) dX8_firstError_16 (by decide) (fun cc_3 => ?_) (fun cc_3 => ?_)
      · refine lv_aload_n F.1 F.2.1 dX8_firstError_39 rfl (lv_at hl 0 rfl) ?_
        refine ad_get F G fl_X8_57 0 rfl rfl dX8_firstError_40 ?_
        refine ad_if_le (tgt := 68) F (by omega) dX8_firstError_43 (by decide) (fun cc_4 => ?_) (fun cc_4 => ?_)
        · refine ad_iconst F dX8_firstError_68 ?_
          refine lv_istore_n (lv' := [(2, .int (iI 0)), (0, .ref h0), (1, .ref h1)]) F.1 F.2.1 dX8_firstError_69 rfl hl (by decide) rfl (fun ls hl => ?_)
          refine lv_iload_n F.1 F.2.1 dX8_firstError_70 rfl (lv_at hl 0 rfl) ?_
          refine ad_if_eq (tgt := 78) F (by decide) dX8_firstError_71 (by decide) (fun _ => ?_) (fun cc_5 => absurd cc_5 (by decide))
          refine lv_aload_n F.1 F.2.1 dX8_firstError_78 rfl (lv_at hl 2 rfl) ?_
          refine ad_callV (As := []) (rest := []) F G (c_X7_size l D K z0 h1 a (w.length : Int) ) my_X7_size mv_X8_25 (wr := [(h0, .inr (8, [.int (iI am), .int (iI mk1), .int (iI lt1), .int (iI wd1), .int (iI wt1), .int (iI wp)])), (a, aI (K 2) L g)]) (isC := [1]) (isR := [0, 2]) ⟨rfl, rfl, rfl, rfl, by decide⟩ 7 0 rfl rfl rfl rfl ⟨Nat.le_of_ble_eq_true rfl, Nat.le_of_ble_eq_true rfl⟩ ⟨Nat.le_of_ble_eq_true rfl, Nat.le_of_ble_eq_true rfl⟩ (Nat.le_of_ble_eq_true rfl) hl.1 (cells9 := 0) (slots9 := 0) ⟨rfl, rfl⟩ dX8_firstError_79 (fun v u H locs hw_6 G => ?_)
          obtain ⟨rfl, rfl⟩ := hw_6
          replace G := G.perm (ws' := [(h0, .inr (8, [.int (iI am), .int (iI mk1), .int (iI lt1), .int (iI wd1), .int (iI wt1), .int (iI wp)])), (h1, .inr (7, [.ref a, .int (iI (w.length : Int))])), (a, aI (K 2) L g)]) [0, 2, 1] rfl rfl
          refine W.eq (g2 := F0 m9 82 ls [.int (iI (w.length : Int))]) rfl ?_
          exact ad_ireturn F G hR rfl (Nat.le_of_ble_eq_true rfl) (Nat.le_of_ble_eq_true rfl) ⟨mk1, lt1, wd1, wt1, (w.length : Int), rfl, (Or.inr ⟨fun j h1 h2 => ho j h1 (by omega), Or.inr ⟨by rw [show (w.length : Nat) = i.toNat by omega, ← hq]; unfold gdA; simp only; omega, rfl⟩⟩), rfl⟩ dX8_firstError_82
        · refine lv_aload_n F.1 F.2.1 dX8_firstError_46 rfl (lv_at hl 0 rfl) ?_
          refine ad_get F G fl_X8_39 0 rfl rfl dX8_firstError_47 ?_
          refine ad_if_eq (tgt := 64) F (by omega) dX8_firstError_50 (by decide) (fun cc_7 => ?_) (fun cc_7 => ?_)
          · refine ad_iconst F dX8_firstError_64 ?_
            refine lv_goto (tgt := 69) F.1 F.2.1 dX8_firstError_65 (by decide) ?_
            refine lv_istore_n (lv' := [(2, .int (iI 1)), (0, .ref h0), (1, .ref h1)]) F.1 F.2.1 dX8_firstError_69 rfl hl (by decide) rfl (fun ls hl => ?_)
            refine lv_iload_n F.1 F.2.1 dX8_firstError_70 rfl (lv_at hl 0 rfl) ?_
            refine ad_if_eq (tgt := 78) F (by decide) dX8_firstError_71 (by decide) (fun cc_8 => absurd cc_8 (by decide)) (fun _ => ?_)
            refine ad_iconst F dX8_firstError_74 ?_
            refine lv_goto (tgt := 82) F.1 F.2.1 dX8_firstError_75 (by decide) ?_
            exact ad_ireturn F G hR rfl (Nat.le_of_ble_eq_true rfl) (Nat.le_of_ble_eq_true rfl) ⟨mk1, lt1, wd1, wt1, (-1), rfl, (Or.inr ⟨fun j h1 h2 => ho j h1 (by omega), Or.inl ⟨by rw [show (w.length : Nat) = i.toNat by omega, ← hq]; unfold gdA; simp only; omega, rfl⟩⟩), rfl⟩ dX8_firstError_82
          · refine lv_aload_n F.1 F.2.1 dX8_firstError_53 rfl (lv_at hl 0 rfl) ?_
            refine ad_get F G fl_X8_60 0 rfl rfl dX8_firstError_54 ?_
            refine lv_aload_n F.1 F.2.1 dX8_firstError_57 rfl (lv_at hl 0 rfl) ?_
            refine ad_get F G fl_X8_49 0 rfl rfl dX8_firstError_58 ?_
            refine ad_icmp_ne (tgt := 68) F (by omega) dX8_firstError_61 (by decide) (fun cc_9 => ?_) (fun cc_9 => ?_)
            · refine ad_iconst F dX8_firstError_68 ?_
              refine lv_istore_n (lv' := [(2, .int (iI 0)), (0, .ref h0), (1, .ref h1)]) F.1 F.2.1 dX8_firstError_69 rfl hl (by decide) rfl (fun ls hl => ?_)
              refine lv_iload_n F.1 F.2.1 dX8_firstError_70 rfl (lv_at hl 0 rfl) ?_
              refine ad_if_eq (tgt := 78) F (by decide) dX8_firstError_71 (by decide) (fun _ => ?_) (fun cc_10 => absurd cc_10 (by decide))
              refine lv_aload_n F.1 F.2.1 dX8_firstError_78 rfl (lv_at hl 2 rfl) ?_
              refine ad_callV (As := []) (rest := []) F G (c_X7_size l D K z0 h1 a (w.length : Int) ) my_X7_size mv_X8_25 (wr := [(h0, .inr (8, [.int (iI am), .int (iI mk1), .int (iI lt1), .int (iI wd1), .int (iI wt1), .int (iI wp)])), (a, aI (K 2) L g)]) (isC := [1]) (isR := [0, 2]) ⟨rfl, rfl, rfl, rfl, by decide⟩ 7 0 rfl rfl rfl rfl ⟨Nat.le_of_ble_eq_true rfl, Nat.le_of_ble_eq_true rfl⟩ ⟨Nat.le_of_ble_eq_true rfl, Nat.le_of_ble_eq_true rfl⟩ (Nat.le_of_ble_eq_true rfl) hl.1 (cells9 := 0) (slots9 := 0) ⟨rfl, rfl⟩ dX8_firstError_79 (fun v u H locs hw_11 G => ?_)
              obtain ⟨rfl, rfl⟩ := hw_11
              replace G := G.perm (ws' := [(h0, .inr (8, [.int (iI am), .int (iI mk1), .int (iI lt1), .int (iI wd1), .int (iI wt1), .int (iI wp)])), (h1, .inr (7, [.ref a, .int (iI (w.length : Int))])), (a, aI (K 2) L g)]) [0, 2, 1] rfl rfl
              refine W.eq (g2 := F0 m9 82 ls [.int (iI (w.length : Int))]) rfl ?_
              exact ad_ireturn F G hR rfl (Nat.le_of_ble_eq_true rfl) (Nat.le_of_ble_eq_true rfl) ⟨mk1, lt1, wd1, wt1, (w.length : Int), rfl, (Or.inr ⟨fun j h1 h2 => ho j h1 (by omega), Or.inr ⟨by rw [show (w.length : Nat) = i.toNat by omega, ← hq]; unfold gdA; simp only; omega, rfl⟩⟩), rfl⟩ dX8_firstError_82
            · refine ad_iconst F dX8_firstError_64 ?_
              refine lv_goto (tgt := 69) F.1 F.2.1 dX8_firstError_65 (by decide) ?_
              refine lv_istore_n (lv' := [(2, .int (iI 1)), (0, .ref h0), (1, .ref h1)]) F.1 F.2.1 dX8_firstError_69 rfl hl (by decide) rfl (fun ls hl => ?_)
              refine lv_iload_n F.1 F.2.1 dX8_firstError_70 rfl (lv_at hl 0 rfl) ?_
              refine ad_if_eq (tgt := 78) F (by decide) dX8_firstError_71 (by decide) (fun cc_12 => absurd cc_12 (by decide)) (fun _ => ?_)
              refine ad_iconst F dX8_firstError_74 ?_
              refine lv_goto (tgt := 82) F.1 F.2.1 dX8_firstError_75 (by decide) ?_
              exact ad_ireturn F G hR rfl (Nat.le_of_ble_eq_true rfl) (Nat.le_of_ble_eq_true rfl) ⟨mk1, lt1, wd1, wt1, (-1), rfl, (Or.inr ⟨fun j h1 h2 => ho j h1 (by omega), Or.inl ⟨by rw [show (w.length : Nat) = i.toNat by omega, ← hq]; unfold gdA; simp only; omega, rfl⟩⟩), rfl⟩ dX8_firstError_82
      · refine lv_aload_n F.1 F.2.1 dX8_firstError_19 rfl (lv_at hl 0 rfl) ?_
        refine lv_aload_n F.1 F.2.1 dX8_firstError_20 rfl (lv_at hl 1 rfl) ?_
        refine lv_iload_n F.1 F.2.1 dX8_firstError_21 rfl (lv_at hl 2 rfl) ?_
        refine ad_callV (As := [.int (iI i)]) (rest := [.ref h0]) F G (c_X7_at l D K z0 h1 a L g w i hT hC hL (by omega)) my_X7_at mv_X8_21 (wr := [(h0, .inr (8, [.int (iI am), .int (iI mk1), .int (iI lt1), .int (iI wd1), .int (iI wt1), .int (iI wp)]))]) (isC := [1, 2]) (isR := [0]) ⟨rfl, rfl, rfl, rfl, by decide⟩ 7 0 rfl rfl rfl rfl ⟨Nat.le_of_ble_eq_true rfl, Nat.le_of_ble_eq_true rfl⟩ ⟨Nat.le_of_ble_eq_true rfl, Nat.le_of_ble_eq_true rfl⟩ (Nat.le_of_ble_eq_true rfl) hl.1 (cells9 := 0) (slots9 := 0) ⟨rfl, rfl⟩ dX8_firstError_22 (fun v u H locs hw_13 G => ?_)
        obtain ⟨rfl, rfl⟩ := hw_13
        replace G := G.perm (ws' := [(h0, .inr (8, [.int (iI am), .int (iI mk1), .int (iI lt1), .int (iI wd1), .int (iI wt1), .int (iI wp)])), (h1, .inr (7, [.ref a, .int (iI (w.length : Int))])), (a, aI (K 2) L g)]) [0, 1, 2] rfl rfl
        refine W.eq (g2 := F0 m9 25 ls [.int (iI (lat w i)), .ref h0]) rfl ?_
        refine ad_callV (As := [.int (iI (lat w i))]) (rest := []) F G (c_X8_accepts l D K z0 h0 am mk1 lt1 wd1 wt1 wp (lat w i) (lat_ch hC _) (by omega)) my_X8_accepts mv_X8_53 (wr := [(h1, .inr (7, [.ref a, .int (iI (w.length : Int))])), (a, aI (K 2) L g)]) (isC := [0]) (isR := [1, 2]) ⟨rfl, rfl, rfl, rfl, by decide⟩ 8 0 rfl rfl rfl rfl ⟨Nat.le_of_ble_eq_true rfl, Nat.le_of_ble_eq_true rfl⟩ ⟨Nat.le_of_ble_eq_true rfl, Nat.le_of_ble_eq_true rfl⟩ (Nat.le_of_ble_eq_true rfl) hl.1 (cells9 := 0) (slots9 := 0) ⟨rfl, rfl⟩ dX8_firstError_25 (fun v u H locs hw_14 G => ?_)
        rcases hw_14 with ⟨mk2_15, lt2_16, wd2_17, wt2_18, rfl, hc_19, hc_20, rfl⟩ | ⟨mk2_21, lt2_22, wd2_23, wt2_24, rfl, hc_25, rfl⟩
        · replace G := G.perm (ws' := [(h0, .inr (8, [.int (iI am), .int (iI mk2_15), .int (iI lt2_16), .int (iI wd2_17), .int (iI wt2_18), .int (iI wp)])), (h1, .inr (7, [.ref a, .int (iI (w.length : Int))])), (a, aI (K 2) L g)]) [2, 0, 1] rfl rfl
          refine W.eq (g2 := F0 m9 28 ls [.int (iI 1)]) rfl ?_
          refine ad_if_ne (tgt := 33) F (by decide) dX8_firstError_28 (by decide) (fun _ => ?_) (fun cc_26 => absurd cc_26 (by decide))
          refine ad_iinc (lv' := [(2, .int (iI (i + 1))), (0, .ref h0), (1, .ref h1)]) F dX8_firstError_33 hl (k := 2) rfl (by decide) rfl (fun ls hl => ?_)
          refine lv_goto (tgt := 11) F.1 F.2.1 dX8_firstError_36 (by decide) ?_
          exact ih11 (i + 1) mk2_15 lt2_16 wd2_17 wt2_18 _ _ _ (by omega) (by rw [rnS_s (by omega), ← hq]; exact hc_20.symm) (fun j h1 h2 => (show j = i ∨ j < i by omega).elim (fun h => by rw [h]; unfold okA; rw [← hq]; exact hc_19) (fun h => ho j h1 h)) (by omega) (G.perm (ws' := [(h0, .inr (8, [.int (iI am), .int (iI mk2_15), .int (iI lt2_16), .int (iI wd2_17), .int (iI wt2_18), .int (iI wp)])), (h1, .inr (7, [.ref a, .int (iI (w.length : Int))])), (a, aI (K 2) L g)]) [0, 1, 2] rfl rfl) (lv_sub hl [1, 2, 0] rfl)
        · replace G := G.perm (ws' := [(h0, .inr (8, [.int (iI am), .int (iI mk2_21), .int (iI lt2_22), .int (iI wd2_23), .int (iI wt2_24), .int (iI wp)])), (h1, .inr (7, [.ref a, .int (iI (w.length : Int))])), (a, aI (K 2) L g)]) [2, 0, 1] rfl rfl
          refine W.eq (g2 := F0 m9 28 ls [.int (iI 0)]) rfl ?_
          refine ad_if_ne (tgt := 33) F (by decide) dX8_firstError_28 (by decide) (fun cc_27 => absurd cc_27 (by decide)) (fun _ => ?_)
          refine lv_iload_n F.1 F.2.1 dX8_firstError_31 rfl (lv_at hl 2 rfl) ?_
          exact ad_ireturn F G hR rfl (Nat.le_of_ble_eq_true rfl) (Nat.le_of_ble_eq_true rfl) ⟨mk2_21, lt2_22, wd2_23, wt2_24, i, rfl, (Or.inl ⟨by omega, by omega, by unfold okA; rw [← hq, hc_25]; simp, ho⟩), rfl⟩ dX8_firstError_32
  exact lp11 ((((w.length - 0 : Int)) + 1).toNat) 0 0 0 1 0 _ _ _ (by omega) rfl (fun j h1 h2 => by omega) (by omega) (G.perm (ws' := [(h0, .inr (8, [.int (iI am), .int (iI 0), .int (iI 0), .int (iI 1), .int (iI 0), .int (iI wp)])), (h1, .inr (7, [.ref a, .int (iI (w.length : Int))])), (a, aI (K 2) L g)]) [0, 1, 2] rfl rfl) (lv_sub hl [1, 2, 0] rfl)

def rm_X8_errorInText : Room := { frames := 6, cells := 0, slots := 0, locals := 117 }
set_option maxHeartbeats 4000000 in
set_option maxRecDepth 100000 in
theorem c_X8_errorInText (l : Launch) (D : va_G) (K : Nat → ClassId) (z0 : Nat) (h0 : Nat) (am : Int) (mk : Int) (lt : Int) (wd : Int) (wt : Int) (wp : Int) (h1 : Nat) (a : Nat) (L : Nat) (g : Nat → Int) (w : List Int) (b : Int) (hT : Tx g w) (hC : Chs w) (hL : w.length ≤ L ∧ L ≤ 65536) (hl1 : w.length ≤ 100) (hb : 0 ≤ b ∧ b ≤ 1) : CT l D K z0 yX8_errorInText cX8_errorInText 3 (some .int) rm_X8_errorInText [.ref h0, .ref h1, .int (iI b)] [(h0, .inr (8, [.int (iI am), .int (iI mk), .int (iI lt), .int (iI wd), .int (iI wt), .int (iI wp)])), (h1, .inr (7, [.ref a, .int (iI (w.length : Int))])), (a, aI (K 2) L g)] (fun v9 u9 => ∃ (mk2 : Int), ∃ (lt2 : Int), ∃ (wd2 : Int), ∃ (wt2 : Int), ∃ (r : Int), v9 = some (.int (iI r)) ∧ (PE b 0 w r) ∧ u9 = [(h0, .inr (8, [.int (iI b), .int (iI mk2), .int (iI lt2), .int (iI wd2), .int (iI wt2), .int (iI 0)])), (h1, .inr (7, [.ref a, .int (iI (w.length : Int))])), (a, aI (K 2) L g)]) := by
  refine CT.start RX8 "errorInText" (by decide) rfl rfl (Nat.le_of_ble_eq_true rfl) ?_
  intro p9 e9 s9 m9 ag9 bl9 mt9 c9 A9 Q9 ls F G hR hl
  have hl : lv_has ls 3 [(0, .ref h0), (1, .ref h1), (2, .int (iI b))] := hl
  refine lv_aload_n F.1 F.2.1 dX8_errorInText_0 rfl (lv_at hl 0 rfl) ?_
  refine lv_iload_n F.1 F.2.1 dX8_errorInText_1 rfl (lv_at hl 2 rfl) ?_
  refine ad_put F G fl_X8_33 0 rfl (iI_boolN (by omega)).1 (iI_boolN (by omega)).2 (Nat.le_of_ble_eq_true rfl) (ws' := [(h0, .inr (8, [.int (iI b), .int (iI mk), .int (iI lt), .int (iI wd), .int (iI wt), .int (iI wp)])), (h1, .inr (7, [.ref a, .int (iI (w.length : Int))])), (a, aI (K 2) L g)]) rfl dX8_errorInText_2 (fun H locs G => ?_)
  refine lv_aload_n F.1 F.2.1 dX8_errorInText_5 rfl (lv_at hl 0 rfl) ?_
  refine ad_iconst F dX8_errorInText_6 ?_
  refine ad_put F G fl_X8_39 0 rfl rfl rfl (Nat.le_of_ble_eq_true rfl) (ws' := [(h0, .inr (8, [.int (iI b), .int (iI mk), .int (iI lt), .int (iI wd), .int (iI wt), .int (iI 0)])), (h1, .inr (7, [.ref a, .int (iI (w.length : Int))])), (a, aI (K 2) L g)]) rfl dX8_errorInText_7 (fun H locs G => ?_)
  refine lv_aload_n F.1 F.2.1 dX8_errorInText_10 rfl (lv_at hl 0 rfl) ?_
  refine lv_aload_n F.1 F.2.1 dX8_errorInText_11 rfl (lv_at hl 1 rfl) ?_
  refine ad_callV (As := [.ref h1]) (rest := []) F G (c_X8_firstError l D K z0 h0 b mk lt wd wt 0 h1 a L g w hT hC hL hl1 (by omega)) my_X8_firstError mv_X8_42 (wr := []) (isC := [0, 1, 2]) (isR := []) ⟨rfl, rfl, rfl, rfl, by decide⟩ 8 0 rfl rfl rfl rfl ⟨Nat.le_of_ble_eq_true rfl, Nat.le_of_ble_eq_true rfl⟩ ⟨Nat.le_of_ble_eq_true rfl, Nat.le_of_ble_eq_true rfl⟩ (Nat.le_of_ble_eq_true rfl) hl.1 (cells9 := 0) (slots9 := 0) ⟨rfl, rfl⟩ dX8_errorInText_12 (fun v u H locs hw_1 G => ?_)
  obtain ⟨mk2_2, lt2_3, wd2_4, wt2_5, r_6, rfl, hc_7, rfl⟩ := hw_1
  replace G := G.perm (ws' := [(h0, .inr (8, [.int (iI b), .int (iI mk2_2), .int (iI lt2_3), .int (iI wd2_4), .int (iI wt2_5), .int (iI 0)])), (h1, .inr (7, [.ref a, .int (iI (w.length : Int))])), (a, aI (K 2) L g)]) [0, 1, 2] rfl rfl
  refine W.eq (g2 := F0 m9 15 ls [.int (iI r_6)]) rfl ?_
  exact ad_ireturn F G hR rfl (Nat.le_of_ble_eq_true rfl) (Nat.le_of_ble_eq_true rfl) ⟨mk2_2, lt2_3, wd2_4, wt2_5, r_6, rfl, hc_7, rfl⟩ dX8_errorInText_15

def rm_X8_errorInPairs : Room := { frames := 6, cells := 0, slots := 0, locals := 117 }
set_option maxHeartbeats 4000000 in
set_option maxRecDepth 100000 in
theorem c_X8_errorInPairs (l : Launch) (D : va_G) (K : Nat → ClassId) (z0 : Nat) (h0 : Nat) (am : Int) (mk : Int) (lt : Int) (wd : Int) (wt : Int) (wp : Int) (h1 : Nat) (a : Nat) (L : Nat) (g : Nat → Int) (w : List Int) (hT : Tx g w) (hC : Chs w) (hL : w.length ≤ L ∧ L ≤ 65536) (hl1 : w.length ≤ 100) : CT l D K z0 yX8_errorInPairs cX8_errorInPairs 2 (some .int) rm_X8_errorInPairs [.ref h0, .ref h1] [(h0, .inr (8, [.int (iI am), .int (iI mk), .int (iI lt), .int (iI wd), .int (iI wt), .int (iI wp)])), (h1, .inr (7, [.ref a, .int (iI (w.length : Int))])), (a, aI (K 2) L g)] (fun v9 u9 => ∃ (mk2 : Int), ∃ (lt2 : Int), ∃ (wd2 : Int), ∃ (wt2 : Int), ∃ (r : Int), v9 = some (.int (iI r)) ∧ (PE 0 1 w r) ∧ u9 = [(h0, .inr (8, [.int (iI 0), .int (iI mk2), .int (iI lt2), .int (iI wd2), .int (iI wt2), .int (iI 1)])), (h1, .inr (7, [.ref a, .int (iI (w.length : Int))])), (a, aI (K 2) L g)]) := by
  refine CT.start RX8 "errorInPairs" (by decide) rfl rfl (Nat.le_of_ble_eq_true rfl) ?_
  intro p9 e9 s9 m9 ag9 bl9 mt9 c9 A9 Q9 ls F G hR hl
  have hl : lv_has ls 2 [(0, .ref h0), (1, .ref h1)] := hl
  refine lv_aload_n F.1 F.2.1 dX8_errorInPairs_0 rfl (lv_at hl 0 rfl) ?_
  refine ad_iconst F dX8_errorInPairs_1 ?_
  refine ad_put F G fl_X8_33 0 rfl rfl rfl (Nat.le_of_ble_eq_true rfl) (ws' := [(h0, .inr (8, [.int (iI 0), .int (iI mk), .int (iI lt), .int (iI wd), .int (iI wt), .int (iI wp)])), (h1, .inr (7, [.ref a, .int (iI (w.length : Int))])), (a, aI (K 2) L g)]) rfl dX8_errorInPairs_2 (fun H locs G => ?_)
  refine lv_aload_n F.1 F.2.1 dX8_errorInPairs_5 rfl (lv_at hl 0 rfl) ?_
  refine ad_iconst F dX8_errorInPairs_6 ?_
  refine ad_put F G fl_X8_39 0 rfl rfl rfl (Nat.le_of_ble_eq_true rfl) (ws' := [(h0, .inr (8, [.int (iI 0), .int (iI mk), .int (iI lt), .int (iI wd), .int (iI wt), .int (iI 1)])), (h1, .inr (7, [.ref a, .int (iI (w.length : Int))])), (a, aI (K 2) L g)]) rfl dX8_errorInPairs_7 (fun H locs G => ?_)
  refine lv_aload_n F.1 F.2.1 dX8_errorInPairs_10 rfl (lv_at hl 0 rfl) ?_
  refine lv_aload_n F.1 F.2.1 dX8_errorInPairs_11 rfl (lv_at hl 1 rfl) ?_
  refine ad_callV (As := [.ref h1]) (rest := []) F G (c_X8_firstError l D K z0 h0 0 mk lt wd wt 1 h1 a L g w hT hC hL hl1 (by omega)) my_X8_firstError mv_X8_42 (wr := []) (isC := [0, 1, 2]) (isR := []) ⟨rfl, rfl, rfl, rfl, by decide⟩ 8 0 rfl rfl rfl rfl ⟨Nat.le_of_ble_eq_true rfl, Nat.le_of_ble_eq_true rfl⟩ ⟨Nat.le_of_ble_eq_true rfl, Nat.le_of_ble_eq_true rfl⟩ (Nat.le_of_ble_eq_true rfl) hl.1 (cells9 := 0) (slots9 := 0) ⟨rfl, rfl⟩ dX8_errorInPairs_12 (fun v u H locs hw_1 G => ?_)
  obtain ⟨mk2_2, lt2_3, wd2_4, wt2_5, r_6, rfl, hc_7, rfl⟩ := hw_1
  replace G := G.perm (ws' := [(h0, .inr (8, [.int (iI 0), .int (iI mk2_2), .int (iI lt2_3), .int (iI wd2_4), .int (iI wt2_5), .int (iI 1)])), (h1, .inr (7, [.ref a, .int (iI (w.length : Int))])), (a, aI (K 2) L g)]) [0, 1, 2] rfl rfl
  refine W.eq (g2 := F0 m9 15 ls [.int (iI r_6)]) rfl ?_
  exact ad_ireturn F G hR rfl (Nat.le_of_ble_eq_true rfl) (Nat.le_of_ble_eq_true rfl) ⟨mk2_2, lt2_3, wd2_4, wt2_5, r_6, rfl, hc_7, rfl⟩ dX8_errorInPairs_15

def rm_X10_areForms : Room := { frames := 1, cells := 0, slots := 0, locals := 12 }
set_option maxHeartbeats 4000000 in
set_option maxRecDepth 100000 in
theorem c_X10_areForms (l : Launch) (D : va_G) (K : Nat → ClassId) (z0 : Nat) (x : Int) (y : Int) (hx : -2147483648 ≤ x ∧ x < 2147483648) (hy : -2147483648 ≤ y ∧ y < 2147483648) : CT l D K z0 yX10_areForms cX10_areForms 2 (some .boolean) rm_X10_areForms [.int (iI x), .int (iI y)] [] (fun v9 u9 => (v9 = some (.int (iI 1)) ∧ (1 ≤ x ∧ x ≤ 6 ∧ y ≤ 12 ∧ x < y) ∧ u9 = []) ∨ (v9 = some (.int (iI 0)) ∧ (¬ (1 ≤ x ∧ x ≤ 6 ∧ y ≤ 12 ∧ x < y)) ∧ u9 = [])) := by
  refine CT.start RX10 "areForms" (by decide) rfl rfl (Nat.le_of_ble_eq_true rfl) ?_
  intro p9 e9 s9 m9 ag9 bl9 mt9 c9 A9 Q9 ls F G hR hl
  have hl : lv_has ls 2 [(0, .int (iI x)), (1, .int (iI y))] := hl
  refine lv_iload_n F.1 F.2.1 dX10_areForms_0 rfl (lv_at hl 0 rfl) ?_
  refine ad_iconst F dX10_areForms_1 ?_
  refine ad_icmp_lt (tgt := 26) F (by omega) dX10_areForms_2 (by decide) (fun cc_1 => ?_) (fun cc_1 => ?_)
  · refine ad_iconst F dX10_areForms_26 ?_
    exact ad_zreturn F G hR rfl (Nat.le_of_ble_eq_true rfl) (Nat.le_of_ble_eq_true rfl) rfl (Or.inr (⟨rfl, (by omega), rfl⟩)) dX10_areForms_27
  · refine lv_iload_n F.1 F.2.1 dX10_areForms_5 rfl (lv_at hl 0 rfl) ?_
    refine ad_bipush F dX10_areForms_6 (by decide) ?_
    refine ad_icmp_gt (tgt := 26) F (by omega) dX10_areForms_8 (by decide) (fun cc_2 => ?_) (fun cc_2 => ?_)
    · refine ad_iconst F dX10_areForms_26 ?_
      exact ad_zreturn F G hR rfl (Nat.le_of_ble_eq_true rfl) (Nat.le_of_ble_eq_true rfl) rfl (Or.inr (⟨rfl, (by omega), rfl⟩)) dX10_areForms_27
    · refine lv_iload_n F.1 F.2.1 dX10_areForms_11 rfl (lv_at hl 1 rfl) ?_
      refine ad_bipush F dX10_areForms_12 (by decide) ?_
      refine ad_icmp_gt (tgt := 26) F (by omega) dX10_areForms_14 (by decide) (fun cc_3 => ?_) (fun cc_3 => ?_)
      · refine ad_iconst F dX10_areForms_26 ?_
        exact ad_zreturn F G hR rfl (Nat.le_of_ble_eq_true rfl) (Nat.le_of_ble_eq_true rfl) rfl (Or.inr (⟨rfl, (by omega), rfl⟩)) dX10_areForms_27
      · refine lv_iload_n F.1 F.2.1 dX10_areForms_17 rfl (lv_at hl 1 rfl) ?_
        refine lv_iload_n F.1 F.2.1 dX10_areForms_18 rfl (lv_at hl 0 rfl) ?_
        refine ad_icmp_le (tgt := 26) F (by omega) dX10_areForms_19 (by decide) (fun cc_4 => ?_) (fun cc_4 => ?_)
        · refine ad_iconst F dX10_areForms_26 ?_
          exact ad_zreturn F G hR rfl (Nat.le_of_ble_eq_true rfl) (Nat.le_of_ble_eq_true rfl) rfl (Or.inr (⟨rfl, (by omega), rfl⟩)) dX10_areForms_27
        · refine ad_iconst F dX10_areForms_22 ?_
          refine lv_goto (tgt := 27) F.1 F.2.1 dX10_areForms_23 (by decide) ?_
          exact ad_zreturn F G hR rfl (Nat.le_of_ble_eq_true rfl) (Nat.le_of_ble_eq_true rfl) rfl (Or.inl ⟨rfl, (by omega), rfl⟩) dX10_areForms_27

def rm_X10_placeBehind : Room := { frames := 2, cells := 0, slots := 0, locals := 33 }
set_option maxHeartbeats 4000000 in
set_option maxRecDepth 100000 in
theorem c_X10_placeBehind (l : Launch) (D : va_G) (K : Nat → ClassId) (z0 : Nat) (h0 : Nat) (a : Nat) (L : Nat) (g : Nat → Int) (w : List Int) (hT : Tx g w) (hC : Chs w) (hL : w.length ≤ L ∧ L ≤ 65536) : CT l D K z0 yX10_placeBehind cX10_placeBehind 1 (some .int) rm_X10_placeBehind [.ref h0] [(h0, .inr (7, [.ref a, .int (iI (w.length : Int))])), (a, aI (K 2) L g)] (fun v9 u9 => v9 = some (.int (iI (plb w))) ∧ u9 = [(h0, .inr (7, [.ref a, .int (iI (w.length : Int))])), (a, aI (K 2) L g)]) := by
  refine CT.start RX10 "placeBehind" (by decide) rfl rfl (Nat.le_of_ble_eq_true rfl) ?_
  intro p9 e9 s9 m9 ag9 bl9 mt9 c9 A9 Q9 ls F G hR hl
  have hl : lv_has ls 1 [(0, .ref h0)] := hl
  refine lv_aload_n F.1 F.2.1 dX10_placeBehind_0 rfl (lv_at hl 0 rfl) ?_
  refine lv_aload_n F.1 F.2.1 dX10_placeBehind_1 rfl (lv_at hl 0 rfl) ?_
  refine ad_callV (As := []) (rest := [.ref h0]) F G (c_X7_size l D K z0 h0 a (w.length : Int) ) my_X7_size mv_X10_97 (wr := [(a, aI (K 2) L g)]) (isC := [0]) (isR := [1]) ⟨rfl, rfl, rfl, rfl, by decide⟩ 7 0 rfl rfl rfl rfl ⟨Nat.le_of_ble_eq_true rfl, Nat.le_of_ble_eq_true rfl⟩ ⟨Nat.le_of_ble_eq_true rfl, Nat.le_of_ble_eq_true rfl⟩ (Nat.le_of_ble_eq_true rfl) hl.1 (cells9 := 0) (slots9 := 0) ⟨rfl, rfl⟩ dX10_placeBehind_2 (fun v u H locs hw_1 G => ?_)
  obtain ⟨rfl, rfl⟩ := hw_1
  replace G := G.perm (ws' := [(h0, .inr (7, [.ref a, .int (iI (w.length : Int))])), (a, aI (K 2) L g)]) [1, 0] rfl rfl
  refine W.eq (g2 := F0 m9 5 ls [.int (iI (w.length : Int)), .ref h0]) rfl ?_
  refine ad_iconst F dX10_placeBehind_5 ?_
  refine ad_isub F dX10_placeBehind_6 ?_
  refine ad_callV (As := [.int (iI ((w.length : Int) - 1))]) (rest := []) F G (c_X7_at l D K z0 h0 a L g w ((w.length : Int) - 1) hT hC hL (by omega)) my_X7_at mv_X10_263 (wr := []) (isC := [0, 1]) (isR := []) ⟨rfl, rfl, rfl, rfl, by decide⟩ 7 0 rfl rfl rfl rfl ⟨Nat.le_of_ble_eq_true rfl, Nat.le_of_ble_eq_true rfl⟩ ⟨Nat.le_of_ble_eq_true rfl, Nat.le_of_ble_eq_true rfl⟩ (Nat.le_of_ble_eq_true rfl) hl.1 (cells9 := 0) (slots9 := 0) ⟨rfl, rfl⟩ dX10_placeBehind_7 (fun v u H locs hw_2 G => ?_)
  obtain ⟨rfl, rfl⟩ := hw_2
  replace G := G.perm (ws' := [(h0, .inr (7, [.ref a, .int (iI (w.length : Int))])), (a, aI (K 2) L g)]) [0, 1] rfl rfl
  refine W.eq (g2 := F0 m9 10 ls [.int (iI (lat w ((w.length : Int) - 1)))]) rfl ?_
  refine ad_callS (As := [.int (iI (lat w ((w.length : Int) - 1)))]) (rest := []) F G (c_X10_isVowel l D K z0 (lat w ((w.length : Int) - 1)) (lat_ch hC _)) my_X10_isVowel ms_X10_419 (wr := [(h0, .inr (7, [.ref a, .int (iI (w.length : Int))])), (a, aI (K 2) L g)]) (isC := []) (isR := [0, 1]) ⟨rfl, rfl, rfl, rfl, by decide⟩ rfl rfl ⟨Nat.le_of_ble_eq_true rfl, Nat.le_of_ble_eq_true rfl⟩ ⟨Nat.le_of_ble_eq_true rfl, Nat.le_of_ble_eq_true rfl⟩ (Nat.le_of_ble_eq_true rfl) hl.1 (cells9 := 0) (slots9 := 0) ⟨rfl, rfl⟩ dX10_placeBehind_10 (fun v u H locs hw_3 G => ?_)
  rcases hw_3 with ⟨rfl, hc_4, rfl⟩ | ⟨rfl, hc_5, rfl⟩
  · replace G := G.perm (ws' := [(h0, .inr (7, [.ref a, .int (iI (w.length : Int))])), (a, aI (K 2) L g)]) [0, 1] rfl rfl
    refine W.eq (g2 := F0 m9 13 ls [.int (iI 1)]) rfl ?_
    refine ad_if_eq (tgt := 20) F (by decide) dX10_placeBehind_13 (by decide) (fun cc_6 => absurd cc_6 (by decide)) (fun _ => ?_)
    refine ad_iconst F dX10_placeBehind_16 ?_
    refine lv_goto (tgt := 21) F.1 F.2.1 dX10_placeBehind_17 (by decide) ?_
    exact ad_ireturn F G hR rfl (Nat.le_of_ble_eq_true rfl) (Nat.le_of_ble_eq_true rfl) ⟨(ad_eqi (by unfold plb; rw [if_pos (isVb_iff.mpr hc_4)])), rfl⟩ dX10_placeBehind_21
  · replace G := G.perm (ws' := [(h0, .inr (7, [.ref a, .int (iI (w.length : Int))])), (a, aI (K 2) L g)]) [0, 1] rfl rfl
    refine W.eq (g2 := F0 m9 13 ls [.int (iI 0)]) rfl ?_
    refine ad_if_eq (tgt := 20) F (by decide) dX10_placeBehind_13 (by decide) (fun _ => ?_) (fun cc_7 => absurd cc_7 (by decide))
    refine ad_iconst F dX10_placeBehind_20 ?_
    exact ad_ireturn F G hR rfl (Nat.le_of_ble_eq_true rfl) (Nat.le_of_ble_eq_true rfl) ⟨(ad_eqi (by unfold plb; rw [if_neg (fun q => hc_5 (isVb_iff.mp q))])), rfl⟩ dX10_placeBehind_21

def rm_X8_errorInRule : Room := { frames := 3, cells := 0, slots := 0, locals := 55 }
set_option maxHeartbeats 4000000 in
set_option maxRecDepth 100000 in
theorem c_X8_errorInRule (l : Launch) (D : va_G) (K : Nat → ClassId) (z0 : Nat) (h0 : Nat) (a : Nat) (L : Nat) (g : Nat → Int) (w : List Int) (hT : Tx g w) (hC : Chs w) (hL : w.length ≤ L ∧ L ≤ 65536) : CT l D K z0 yX8_errorInRule cX8_errorInRule 4 (some .int) rm_X8_errorInRule [.ref h0] [(h0, .inr (7, [.ref a, .int (iI (w.length : Int))])), (a, aI (K 2) L g)] (fun v9 u9 => v9 = some (.int (iI (errR w))) ∧ u9 = [(h0, .inr (7, [.ref a, .int (iI (w.length : Int))])), (a, aI (K 2) L g)]) := by
  refine CT.start RX8 "errorInRule" (by decide) rfl rfl (Nat.le_of_ble_eq_true rfl) ?_
  intro p9 e9 s9 m9 ag9 bl9 mt9 c9 A9 Q9 ls F G hR hl
  have hl : lv_has ls 4 [(0, .ref h0)] := hl
  have hi6 : ∀ a b : Int, imin a b ≤ a ∧ imin a b ≤ b ∧ (imin a b = a ∨ imin a b = b) := fun a b => by unfold imin; split <;> omega
  refine lv_aload_n F.1 F.2.1 dX8_errorInRule_0 rfl (lv_at hl 0 rfl) ?_
  refine ad_iconst F dX8_errorInRule_1 ?_
  refine ad_callV (As := [.int (iI 0)]) (rest := []) F G (c_X7_lettersEnd l D K z0 h0 a L g w 0 hT hC hL (by omega)) my_X7_lettersEnd mv_X8_9 (wr := []) (isC := [0, 1]) (isR := []) ⟨rfl, rfl, rfl, rfl, by decide⟩ 7 0 rfl rfl rfl rfl ⟨Nat.le_of_ble_eq_true rfl, Nat.le_of_ble_eq_true rfl⟩ ⟨Nat.le_of_ble_eq_true rfl, Nat.le_of_ble_eq_true rfl⟩ (Nat.le_of_ble_eq_true rfl) hl.1 (cells9 := 0) (slots9 := 0) ⟨rfl, rfl⟩ dX8_errorInRule_2 (fun v u H locs hw_1 G => ?_)
  obtain ⟨r_2, rfl, hc_3, hc_4, hc_5, rfl⟩ := hw_1
  replace G := G.perm (ws' := [(h0, .inr (7, [.ref a, .int (iI (w.length : Int))])), (a, aI (K 2) L g)]) [0, 1] rfl rfl
  refine W.eq (g2 := F0 m9 5 ls [.int (iI r_2)]) rfl ?_
  have hle_6 : lend w 0 = r_2 := lend_eq (by omega) hc_3.1 hc_3.2 hc_4 hc_5
  refine ad_topi (y := lend w 0) hle_6.symm ?_
  refine ad_bipush F dX8_errorInRule_5 (by decide) ?_
  refine ad_min F mn_X8_15 hl.1 (Nat.le_of_ble_eq_true rfl) (Nat.le_of_ble_eq_true rfl) (Nat.le_of_ble_eq_true rfl) (Nat.le_of_ble_eq_true rfl) (by omega) dX8_errorInRule_7 ?_
  have hm1 := hi6 (lend w 0) 6
  refine lv_istore_n (lv' := [(1, .int (iI (imin (lend w 0) 6))), (0, .ref h0)]) F.1 F.2.1 dX8_errorInRule_10 rfl hl (by decide) rfl (fun ls hl => ?_)
  refine lv_iload_n F.1 F.2.1 dX8_errorInRule_11 rfl (lv_at hl 0 rfl) ?_
  refine ad_if_eq (tgt := 25) F (by have := hi6 (lend w 0) 6; omega) dX8_errorInRule_12 (by decide) (fun cc_7 => ?_) (fun cc_7 => ?_)
  · refine lv_iload_n F.1 F.2.1 dX8_errorInRule_25 rfl (lv_at hl 0 rfl) ?_
    exact ad_ireturn F G hR rfl (Nat.le_of_ble_eq_true rfl) (Nat.le_of_ble_eq_true rfl) ⟨(ad_eqi (by unfold errR; rw [if_pos (by omega)])), rfl⟩ dX8_errorInRule_26
  · refine lv_aload_n F.1 F.2.1 dX8_errorInRule_15 rfl (lv_at hl 1 rfl) ?_
    refine lv_iload_n F.1 F.2.1 dX8_errorInRule_16 rfl (lv_at hl 0 rfl) ?_
    refine ad_callV (As := [.int (iI (imin (lend w 0) 6))]) (rest := []) F G (c_X7_at l D K z0 h0 a L g w (imin (lend w 0) 6) hT hC hL (by omega)) my_X7_at mv_X8_21 (wr := []) (isC := [0, 1]) (isR := []) ⟨rfl, rfl, rfl, rfl, by decide⟩ 7 0 rfl rfl rfl rfl ⟨Nat.le_of_ble_eq_true rfl, Nat.le_of_ble_eq_true rfl⟩ ⟨Nat.le_of_ble_eq_true rfl, Nat.le_of_ble_eq_true rfl⟩ (Nat.le_of_ble_eq_true rfl) hl.1 (cells9 := 0) (slots9 := 0) ⟨rfl, rfl⟩ dX8_errorInRule_17 (fun v u H locs hw_8 G => ?_)
    obtain ⟨rfl, rfl⟩ := hw_8
    replace G := G.perm (ws' := [(h0, .inr (7, [.ref a, .int (iI (w.length : Int))])), (a, aI (K 2) L g)]) [0, 1] rfl rfl
    refine W.eq (g2 := F0 m9 20 ls [.int (iI (lat w (imin (lend w 0) 6)))]) rfl ?_
    refine ad_bipush F dX8_errorInRule_20 (by decide) ?_
    refine ad_icmp_eq (tgt := 27) F (by have := lat_ch hC (imin (lend w 0) 6); omega) dX8_errorInRule_22 (by decide) (fun cc_9 => ?_) (fun cc_9 => ?_)
    · have hlt : imin (lend w 0) 6 < w.length := Decidable.byContradiction (fun q => by have := lat_out (w := w) (z := imin (lend w 0) 6) (Or.inr (by omega)); omega)
      refine lv_iload_n F.1 F.2.1 dX8_errorInRule_27 rfl (lv_at hl 0 rfl) ?_
      refine ad_iconst F dX8_errorInRule_28 ?_
      refine ad_iadd F dX8_errorInRule_29 ?_
      refine lv_istore_n (lv' := [(2, .int (iI ((imin (lend w 0) 6) + 1))), (1, .int (iI (imin (lend w 0) 6))), (0, .ref h0)]) F.1 F.2.1 dX8_errorInRule_30 rfl hl (by decide) rfl (fun ls hl => ?_)
      refine lv_aload_n F.1 F.2.1 dX8_errorInRule_31 rfl (lv_at hl 2 rfl) ?_
      refine lv_iload_n F.1 F.2.1 dX8_errorInRule_32 rfl (lv_at hl 0 rfl) ?_
      refine ad_callV (As := [.int (iI ((imin (lend w 0) 6) + 1))]) (rest := []) F G (c_X7_lettersEnd l D K z0 h0 a L g w ((imin (lend w 0) 6) + 1) hT hC hL (by omega)) my_X7_lettersEnd mv_X8_9 (wr := []) (isC := [0, 1]) (isR := []) ⟨rfl, rfl, rfl, rfl, by decide⟩ 7 0 rfl rfl rfl rfl ⟨Nat.le_of_ble_eq_true rfl, Nat.le_of_ble_eq_true rfl⟩ ⟨Nat.le_of_ble_eq_true rfl, Nat.le_of_ble_eq_true rfl⟩ (Nat.le_of_ble_eq_true rfl) hl.1 (cells9 := 0) (slots9 := 0) ⟨rfl, rfl⟩ dX8_errorInRule_33 (fun v u H locs hw_10 G => ?_)
      obtain ⟨r_11, rfl, hc_12, hc_13, hc_14, rfl⟩ := hw_10
      replace G := G.perm (ws' := [(h0, .inr (7, [.ref a, .int (iI (w.length : Int))])), (a, aI (K 2) L g)]) [0, 1] rfl rfl
      refine W.eq (g2 := F0 m9 36 ls [.int (iI r_11)]) rfl ?_
      have hle_15 : lend w (imin (lend w 0) 6 + 1) = r_11 := lend_eq (by omega) hc_12.1 hc_12.2 hc_13 hc_14
      refine ad_topi (y := lend w (imin (lend w 0) 6 + 1)) hle_15.symm ?_
      refine lv_iload_n F.1 F.2.1 dX8_errorInRule_36 rfl (lv_at hl 0 rfl) ?_
      refine ad_bipush F dX8_errorInRule_37 (by decide) ?_
      refine ad_iadd F dX8_errorInRule_39 ?_
      refine ad_min F mn_X8_15 hl.1 (Nat.le_of_ble_eq_true rfl) (Nat.le_of_ble_eq_true rfl) (Nat.le_of_ble_eq_true rfl) (Nat.le_of_ble_eq_true rfl) (by have := hi6 (lend w 0) 6; omega) dX8_errorInRule_40 ?_
      have hm2 := hi6 (lend w (imin (lend w 0) 6 + 1)) (imin (lend w 0) 6 + 1 + 12)
      refine lv_istore_n (lv' := [(3, .int (iI (imin (lend w (imin (lend w 0) 6 + 1)) (((imin (lend w 0) 6) + 1) + 12)))), (2, .int (iI ((imin (lend w 0) 6) + 1))), (1, .int (iI (imin (lend w 0) 6))), (0, .ref h0)]) F.1 F.2.1 dX8_errorInRule_43 rfl hl (by decide) rfl (fun ls hl => ?_)
      refine lv_iload_n F.1 F.2.1 dX8_errorInRule_44 rfl (lv_at hl 0 rfl) ?_
      refine lv_aload_n F.1 F.2.1 dX8_errorInRule_45 rfl (lv_at hl 3 rfl) ?_
      refine ad_callV (As := []) (rest := [.int (iI (imin (lend w (imin (lend w 0) 6 + 1)) (((imin (lend w 0) 6) + 1) + 12)))]) F G (c_X7_size l D K z0 h0 a (w.length : Int) ) my_X7_size mv_X8_25 (wr := [(a, aI (K 2) L g)]) (isC := [0]) (isR := [1]) ⟨rfl, rfl, rfl, rfl, by decide⟩ 7 0 rfl rfl rfl rfl ⟨Nat.le_of_ble_eq_true rfl, Nat.le_of_ble_eq_true rfl⟩ ⟨Nat.le_of_ble_eq_true rfl, Nat.le_of_ble_eq_true rfl⟩ (Nat.le_of_ble_eq_true rfl) hl.1 (cells9 := 0) (slots9 := 0) ⟨rfl, rfl⟩ dX8_errorInRule_46 (fun v u H locs hw_16 G => ?_)
      obtain ⟨rfl, rfl⟩ := hw_16
      replace G := G.perm (ws' := [(h0, .inr (7, [.ref a, .int (iI (w.length : Int))])), (a, aI (K 2) L g)]) [1, 0] rfl rfl
      refine W.eq (g2 := F0 m9 49 ls [.int (iI (w.length : Int)), .int (iI (imin (lend w (imin (lend w 0) 6 + 1)) (((imin (lend w 0) 6) + 1) + 12)))]) rfl ?_
      refine ad_icmp_ge (tgt := 54) F (by have := hi6 (lend w 0) 6; have := hi6 (lend w (imin (lend w 0) 6 + 1)) (imin (lend w 0) 6 + 1 + 12); omega) dX8_errorInRule_49 (by decide) (fun cc_17 => ?_) (fun cc_17 => ?_)
      · refine lv_iload_n F.1 F.2.1 dX8_errorInRule_54 rfl (lv_at hl 2 rfl) ?_
        refine lv_iload_n F.1 F.2.1 dX8_errorInRule_55 rfl (lv_at hl 0 rfl) ?_
        refine lv_iload_n F.1 F.2.1 dX8_errorInRule_56 rfl (lv_at hl 1 rfl) ?_
        refine ad_isub F dX8_errorInRule_57 ?_
        refine ad_callSN (As := [.int (iI (imin (lend w 0) 6)), .int (iI ((imin (lend w (imin (lend w 0) 6 + 1)) (((imin (lend w 0) 6) + 1) + 12)) - ((imin (lend w 0) 6) + 1)))]) (rest := []) F G (c_X10_areForms l D K z0 (imin (lend w 0) 6) ((imin (lend w (imin (lend w 0) 6 + 1)) (((imin (lend w 0) 6) + 1) + 12)) - ((imin (lend w 0) 6) + 1)) (by omega) (by omega)) my_X10_areForms ms_X8_29 (wr := [(h0, .inr (7, [.ref a, .int (iI (w.length : Int))])), (a, aI (K 2) L g)]) (isC := []) (isR := [0, 1]) ⟨rfl, rfl, rfl, rfl, by decide⟩ rfl rfl ⟨Nat.le_of_ble_eq_true rfl, Nat.le_of_ble_eq_true rfl⟩ ⟨Nat.le_of_ble_eq_true rfl, Nat.le_of_ble_eq_true rfl⟩ (Nat.le_of_ble_eq_true rfl) hl.1 (cells9 := 0) (slots9 := 0) ⟨rfl, rfl⟩ dX8_errorInRule_58 (fun v u H locs hw_18 G => ?_)
        rcases hw_18 with ⟨rfl, hc_19, rfl⟩ | ⟨rfl, hc_20, rfl⟩
        · replace G := G.perm (ws' := [(h0, .inr (7, [.ref a, .int (iI (w.length : Int))])), (a, aI (K 2) L g)]) [0, 1] rfl rfl
          refine W.eq (g2 := F0 m9 61 ls [.int (iI 1)]) rfl ?_
          refine ad_if_eq (tgt := 68) F (by decide) dX8_errorInRule_61 (by decide) (fun cc_21 => absurd cc_21 (by decide)) (fun _ => ?_)
          refine ad_iconst F dX8_errorInRule_64 ?_
          refine lv_goto (tgt := 72) F.1 F.2.1 dX8_errorInRule_65 (by decide) ?_
          exact ad_ireturn F G hR rfl (Nat.le_of_ble_eq_true rfl) (Nat.le_of_ble_eq_true rfl) ⟨(ad_eqi (by unfold errR; rw [if_neg (by omega), if_neg (by omega), if_pos (by omega)])), rfl⟩ dX8_errorInRule_72
        · replace G := G.perm (ws' := [(h0, .inr (7, [.ref a, .int (iI (w.length : Int))])), (a, aI (K 2) L g)]) [0, 1] rfl rfl
          refine W.eq (g2 := F0 m9 61 ls [.int (iI 0)]) rfl ?_
          refine ad_if_eq (tgt := 68) F (by decide) dX8_errorInRule_61 (by decide) (fun _ => ?_) (fun cc_22 => absurd cc_22 (by decide))
          refine lv_aload_n F.1 F.2.1 dX8_errorInRule_68 rfl (lv_at hl 3 rfl) ?_
          refine ad_callV (As := []) (rest := []) F G (c_X7_size l D K z0 h0 a (w.length : Int) ) my_X7_size mv_X8_25 (wr := [(a, aI (K 2) L g)]) (isC := [0]) (isR := [1]) ⟨rfl, rfl, rfl, rfl, by decide⟩ 7 0 rfl rfl rfl rfl ⟨Nat.le_of_ble_eq_true rfl, Nat.le_of_ble_eq_true rfl⟩ ⟨Nat.le_of_ble_eq_true rfl, Nat.le_of_ble_eq_true rfl⟩ (Nat.le_of_ble_eq_true rfl) hl.1 (cells9 := 0) (slots9 := 0) ⟨rfl, rfl⟩ dX8_errorInRule_69 (fun v u H locs hw_23 G => ?_)
          obtain ⟨rfl, rfl⟩ := hw_23
          replace G := G.perm (ws' := [(h0, .inr (7, [.ref a, .int (iI (w.length : Int))])), (a, aI (K 2) L g)]) [1, 0] rfl rfl
          refine W.eq (g2 := F0 m9 72 ls [.int (iI (w.length : Int))]) rfl ?_
          exact ad_ireturn F G hR rfl (Nat.le_of_ble_eq_true rfl) (Nat.le_of_ble_eq_true rfl) ⟨(ad_eqi (by unfold errR; rw [if_neg (by omega), if_neg (by omega), if_neg (by omega)])), rfl⟩ dX8_errorInRule_72
      · refine lv_iload_n F.1 F.2.1 dX8_errorInRule_52 rfl (lv_at hl 0 rfl) ?_
        exact ad_ireturn F G hR rfl (Nat.le_of_ble_eq_true rfl) (Nat.le_of_ble_eq_true rfl) ⟨(ad_eqi (by unfold errR; rw [if_neg (by omega), if_pos (by omega)])), rfl⟩ dX8_errorInRule_53
    · refine lv_iload_n F.1 F.2.1 dX8_errorInRule_25 rfl (lv_at hl 0 rfl) ?_
      exact ad_ireturn F G hR rfl (Nat.le_of_ble_eq_true rfl) (Nat.le_of_ble_eq_true rfl) ⟨(ad_eqi (by unfold errR; rw [if_pos (by omega)])), rfl⟩ dX8_errorInRule_26
