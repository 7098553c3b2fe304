theorem my_L_order : ad_myH yL_order cL_order 4 (some .int) hL_order 3 := ⟨(ad_mt (List.mem_of_getElem? (i := 859) (by decide +kernel)) (by decide +kernel)), ⟨by decide, by decide, by decide +kernel⟩, (ad_mt (List.mem_of_getElem? (i := 0) (by decide +kernel)) (by decide +kernel))⟩
set_option maxRecDepth 20000 in
theorem lc_order {p : Program} {l : Launch} {e : Env} {R : Room} {s : State} {m : MethodId} {args : Array Value} {below : List Frame} {meth : Method} {c : Code} {H : Heap} {locs : List Loc} {cells slots : Nat} {Q : State → Prop} {ret : Option FieldType} {D : va_G} {K : Nat → ClassId} {z0 : Nat} {A : Nat → Prop} {ls : Array Slot} {b d0 m0 o1 o2 L n : Nat} {xs : Nat → Int32} {fs fm : List Value} {go : Nat → Int64} {gd : Nat → UInt64} {wD wM : va_W} {N M MH ME MS : Nat → Nat} {S : Sx} {xth i : Int} {nm : String} (hl0 : l.stackTraces = false) (F : ad_F p s m args meth c RL nm cL_law 9 ret D K z0 A) (B : LB s A b L xs) (hn : n < 512) (hD : DkI K N n S fs wD) (hM : MoI K M MH ME MS xth S fm wM) (hS : SxI n S) (hi : 0 ≤ i ∧ i + 4 ≤ L ∧ L ≤ 2048) (hR : 20 ≤ R.frames ∧ 1000 ≤ R.locals) (hC : cells + 4 ≤ R.cells ∧ slots + 1214 ≤ R.slots) (G : ad_G D A s.heap H locs (WL K d0 m0 o1 o2 fs fm go gd wD wM)) (hl : lv_has ls 9 (LV b d0 m0 o1 o2 i)) (kk : LK p l e R s m args below meth c cells slots Q D A K b d0 m0 o1 o2 n N M MH ME MS i) : W p l e R s m args below meth c H locs cells slots Q (F0 m 959 ls []) := by
  refine lv_aload_n F.1 F.2.1 dL_law_959 rfl (lv_at hl 4 rfl) ?_
  refine la_x F G B (lv_at hl 5 rfl) (lv_at hl 0 rfl) (k := 1) ⟨by omega, by omega, by omega⟩ dL_law_960 dL_law_961 dL_law_963 dL_law_964 dL_law_965 ?_
  refine lv_aload_n F.1 F.2.1 dL_law_966 rfl (lv_at hl 2 rfl) ?_
  refine la_c (As := [.ref d0, .int (iI ((xs (i + 1).toNat).toInt)), .ref o1]) (a := (an_order S ((xs (i + 1).toNat).toInt))) F G (w_order l D K z0 d0 o1 fs wD go ((xs (i + 1).toNat).toInt) (PRg K N n (an_order S ((xs (i + 1).toNat).toInt))) (PXg K N n (an_order S ((xs (i + 1).toNat).toInt))) (dk_order l hl0 D K z0 N d0 hn hD hS ((xs (i + 1).toNat).toInt) (x32 _))) my_L_order ms_L_181 (by decide) rfl rfl ⟨by omega, by omega⟩ hC (by simp) hl.1 dL_law_967 (fun cm fs2 wD2 go2 H locs hc0 hcg hS2 hD2 G => ?_)
  refine lv_istore (lv' := (6, .int (iI ((an_order S ((xs (i + 1).toNat).toInt)) cm).1)) :: LV b d0 m0 o1 o2 i) F.1 F.2.1 dL_law_970 hl (by decide) rfl (fun ls hl => ?_)
  refine lv_aload_n F.1 F.2.1 dL_law_972 rfl (lv_at hl 4 rfl) ?_
  refine la_x F G B (lv_at hl 6 rfl) (lv_at hl 1 rfl) (k := 1) ⟨by omega, by omega, by omega⟩ dL_law_973 dL_law_974 dL_law_976 dL_law_977 dL_law_978 ?_
  refine la_m (As := [.int (iI ((xs (i + 1).toNat).toInt))]) (mkv := fun z => .int (iI z)) (a := (an_order S ((xs (i + 1).toNat).toInt))) F G (md_order l D K z0 M MH ME MS m0 hM hS ((xs (i + 1).toNat).toInt) (x32 _)) my_X11_order mv_L_183 rfl rfl rfl ⟨by omega, by omega⟩ ⟨by omega, by omega⟩ (Nat.le_of_ble_eq_true rfl) hl.1 dL_law_979 (fun z fm2 wM2 H locs hq G => ?_)
  refine lv_istore (lv' := (7, .int (iI z)) :: (6, .int (iI ((an_order S ((xs (i + 1).toNat).toInt)) cm).1)) :: LV b d0 m0 o1 o2 i) F.1 F.2.1 dL_law_982 hl (by decide) rfl (fun ls hl => ?_)
  obtain ⟨hq1, hq2⟩ := hq cm
  refine la_t (tgt := 1012) F G hq2 hc0 ⟨by omega, by omega⟩ ⟨by omega, by omega⟩ hl.1 (lv_at hl 5 rfl) (lv_at hl 1 rfl) dL_law_984 dL_law_985 dL_law_988 dL_law_990 dL_law_995 dL_law_997 (by decide) (fun H locs _ G => ?_) (fun H locs hk G => ?_)
  · skip
    refine lv_goto (tgt := 2225) F.1 F.2.1 dL_law_1012 (by decide) ?_
    exact kk _ _ _ _ _ _ _ _ _ _ _ hD2 hq2 hS2 G (lv_sub hl [2, 3, 4, 5, 6, 7] rfl)
  · have hg := hcg hk
    rw [hq1 hk] at hg
    refine la_i (tgt := 1012) F G hg (lv_at hl 4 rfl) (lv_at hl 0 rfl) dL_law_1000 dL_law_1001 dL_law_1002 dL_law_1003 dL_law_1005 dL_law_1006 dL_law_1007 (by decide) ?_
    refine lv_goto (tgt := 2225) F.1 F.2.1 dL_law_1012 (by decide) ?_
    exact kk _ _ _ _ _ _ _ _ _ _ _ hD2 hq2 hS2 G (lv_sub hl [2, 3, 4, 5, 6, 7] rfl)
theorem my_L_shadow : ad_myH yL_shadow cL_shadow 5 (some .int) hL_shadow 4 := ⟨(ad_mt (List.mem_of_getElem? (i := 866) (by decide +kernel)) (by decide +kernel)), ⟨by decide, by decide, by decide +kernel⟩, (ad_mt (List.mem_of_getElem? (i := 0) (by decide +kernel)) (by decide +kernel))⟩
set_option maxRecDepth 20000 in
theorem lc_shadow {p : Program} {l : Launch} {e : Env} {R : Room} {s : State} {m : MethodId} {args : Array Value} {below : List Frame} {meth : Method} {c : Code} {H : Heap} {locs : List Loc} {cells slots : Nat} {Q : State → Prop} {ret : Option FieldType} {D : va_G} {K : Nat → ClassId} {z0 : Nat} {A : Nat → Prop} {ls : Array Slot} {b d0 m0 o1 o2 L n : Nat} {xs : Nat → Int32} {fs fm : List Value} {go : Nat → Int64} {gd : Nat → UInt64} {wD wM : va_W} {N M MH ME MS : Nat → Nat} {S : Sx} {xth i : Int} {nm : String} (hl0 : l.stackTraces = false) (F : ad_F p s m args meth c RL nm cL_law 9 ret D K z0 A) (B : LB s A b L xs) (hn : n < 512) (hD : DkI K N n S fs wD) (hM : MoI K M MH ME MS xth S fm wM) (hS : SxI n S) (hi : 0 ≤ i ∧ i + 4 ≤ L ∧ L ≤ 2048) (hR : 20 ≤ R.frames ∧ 1000 ≤ R.locals) (hC : cells + 4 ≤ R.cells ∧ slots + 1214 ≤ R.slots) (G : ad_G D A s.heap H locs (WL K d0 m0 o1 o2 fs fm go gd wD wM)) (hl : lv_has ls 9 (LV b d0 m0 o1 o2 i)) (kk : LK p l e R s m args below meth c cells slots Q D A K b d0 m0 o1 o2 n N M MH ME MS i) : W p l e R s m args below meth c H locs cells slots Q (F0 m 1015 ls []) := by
  refine lv_aload_n F.1 F.2.1 dL_law_1015 rfl (lv_at hl 4 rfl) ?_
  refine la_x F G B (lv_at hl 5 rfl) (lv_at hl 0 rfl) (k := 1) ⟨by omega, by omega, by omega⟩ dL_law_1016 dL_law_1017 dL_law_1019 dL_law_1020 dL_law_1021 ?_
  refine la_x F G B (lv_at hl 5 rfl) (lv_at hl 0 rfl) (k := 2) ⟨by omega, by omega, by omega⟩ dL_law_1022 dL_law_1023 dL_law_1025 dL_law_1026 dL_law_1027 ?_
  refine la_bz (A9 := 1035) (B9 := 1036) F (x32 _) dL_law_1028 dL_law_1031 dL_law_1032 dL_law_1035 (by decide) (by decide) rfl ?_
  refine lv_aload_n F.1 F.2.1 dL_law_1036 rfl (lv_at hl 2 rfl) ?_
  refine la_c (As := [.ref d0, .int (iI ((xs (i + 1).toNat).toInt)), .int (iI (bz (xs (i + 2).toNat).toInt)), .ref o1]) (a := (an_shadow S ((xs (i + 1).toNat).toInt) (bz (xs (i + 2).toNat).toInt))) F G (w_shadow l D K z0 d0 o1 fs wD go ((xs (i + 1).toNat).toInt) (bz (xs (i + 2).toNat).toInt) (PRg K N n (an_shadow S ((xs (i + 1).toNat).toInt) (bz (xs (i + 2).toNat).toInt))) (PXg K N n (an_shadow S ((xs (i + 1).toNat).toInt) (bz (xs (i + 2).toNat).toInt))) (dk_shadow l hl0 D K z0 N d0 hn hD hS ((xs (i + 1).toNat).toInt) (bz (xs (i + 2).toNat).toInt) (x32 _) (bz_01 _))) my_L_shadow ms_L_184 (by decide) rfl rfl ⟨by omega, by omega⟩ hC (by simp) hl.1 dL_law_1037 (fun cm fs2 wD2 go2 H locs hc0 hcg hS2 hD2 G => ?_)
  refine lv_istore (lv' := (6, .int (iI ((an_shadow S ((xs (i + 1).toNat).toInt) (bz (xs (i + 2).toNat).toInt)) cm).1)) :: LV b d0 m0 o1 o2 i) F.1 F.2.1 dL_law_1040 hl (by decide) rfl (fun ls hl => ?_)
  refine lv_aload_n F.1 F.2.1 dL_law_1042 rfl (lv_at hl 4 rfl) ?_
  refine la_x F G B (lv_at hl 6 rfl) (lv_at hl 1 rfl) (k := 1) ⟨by omega, by omega, by omega⟩ dL_law_1043 dL_law_1044 dL_law_1046 dL_law_1047 dL_law_1048 ?_
  refine la_x F G B (lv_at hl 6 rfl) (lv_at hl 1 rfl) (k := 2) ⟨by omega, by omega, by omega⟩ dL_law_1049 dL_law_1050 dL_law_1052 dL_law_1053 dL_law_1054 ?_
  refine la_bz (A9 := 1062) (B9 := 1063) F (x32 _) dL_law_1055 dL_law_1058 dL_law_1059 dL_law_1062 (by decide) (by decide) rfl ?_
  refine la_m (As := [.int (iI ((xs (i + 1).toNat).toInt)), .int (iI (bz (xs (i + 2).toNat).toInt))]) (mkv := fun z => .int (iI z)) (a := (an_shadow S ((xs (i + 1).toNat).toInt) (bz (xs (i + 2).toNat).toInt))) F G (md_shadow l D K z0 M MH ME MS m0 hM hS ((xs (i + 1).toNat).toInt) (bz (xs (i + 2).toNat).toInt) (x32 _) (bz_01 _)) my_X11_shadow mv_L_186 rfl rfl rfl ⟨by omega, by omega⟩ ⟨by omega, by omega⟩ (Nat.le_of_ble_eq_true rfl) hl.1 dL_law_1063 (fun z fm2 wM2 H locs hq G => ?_)
  refine lv_istore (lv' := (7, .int (iI z)) :: (6, .int (iI ((an_shadow S ((xs (i + 1).toNat).toInt) (bz (xs (i + 2).toNat).toInt)) cm).1)) :: LV b d0 m0 o1 o2 i) F.1 F.2.1 dL_law_1066 hl (by decide) rfl (fun ls hl => ?_)
  obtain ⟨hq1, hq2⟩ := hq cm
  refine la_t (tgt := 1096) F G hq2 hc0 ⟨by omega, by omega⟩ ⟨by omega, by omega⟩ hl.1 (lv_at hl 5 rfl) (lv_at hl 1 rfl) dL_law_1068 dL_law_1069 dL_law_1072 dL_law_1074 dL_law_1079 dL_law_1081 (by decide) (fun H locs _ G => ?_) (fun H locs hk G => ?_)
  · skip
    refine lv_goto (tgt := 2225) F.1 F.2.1 dL_law_1096 (by decide) ?_
    exact kk _ _ _ _ _ _ _ _ _ _ _ hD2 hq2 hS2 G (lv_sub hl [2, 3, 4, 5, 6, 7] rfl)
  · have hg := hcg hk
    rw [hq1 hk] at hg
    refine la_i (tgt := 1096) F G hg (lv_at hl 4 rfl) (lv_at hl 0 rfl) dL_law_1084 dL_law_1085 dL_law_1086 dL_law_1087 dL_law_1089 dL_law_1090 dL_law_1091 (by decide) ?_
    refine lv_goto (tgt := 2225) F.1 F.2.1 dL_law_1096 (by decide) ?_
    exact kk _ _ _ _ _ _ _ _ _ _ _ hD2 hq2 hS2 G (lv_sub hl [2, 3, 4, 5, 6, 7] rfl)
theorem my_L_letterCount : ad_myH yL_letterCount cL_letterCount 5 (some .int) hL_letterCount 4 := ⟨(ad_mt (List.mem_of_getElem? (i := 878) (by decide +kernel)) (by decide +kernel)), ⟨by decide, by decide, by decide +kernel⟩, (ad_mt (List.mem_of_getElem? (i := 0) (by decide +kernel)) (by decide +kernel))⟩
set_option maxRecDepth 20000 in
theorem lc_letterCount {p : Program} {l : Launch} {e : Env} {R : Room} {s : State} {m : MethodId} {args : Array Value} {below : List Frame} {meth : Method} {c : Code} {H : Heap} {locs : List Loc} {cells slots : Nat} {Q : State → Prop} {ret : Option FieldType} {D : va_G} {K : Nat → ClassId} {z0 : Nat} {A : Nat → Prop} {ls : Array Slot} {b d0 m0 o1 o2 L n : Nat} {xs : Nat → Int32} {fs fm : List Value} {go : Nat → Int64} {gd : Nat → UInt64} {wD wM : va_W} {N M MH ME MS : Nat → Nat} {S : Sx} {xth i : Int} {nm : String} (hl0 : l.stackTraces = false) (F : ad_F p s m args meth c RL nm cL_law 9 ret D K z0 A) (B : LB s A b L xs) (hn : n < 512) (hD : DkI K N n S fs wD) (hM : MoI K M MH ME MS xth S fm wM) (hS : SxI n S) (hi : 0 ≤ i ∧ i + 4 ≤ L ∧ L ≤ 2048) (hR : 20 ≤ R.frames ∧ 1000 ≤ R.locals) (hC : cells + 4 ≤ R.cells ∧ slots + 1214 ≤ R.slots) (G : ad_G D A s.heap H locs (WL K d0 m0 o1 o2 fs fm go gd wD wM)) (hl : lv_has ls 9 (LV b d0 m0 o1 o2 i)) (kk : LK p l e R s m args below meth c cells slots Q D A K b d0 m0 o1 o2 n N M MH ME MS i) : W p l e R s m args below meth c H locs cells slots Q (F0 m 1099 ls []) := by
  refine lv_aload_n F.1 F.2.1 dL_law_1099 rfl (lv_at hl 4 rfl) ?_
  refine la_x F G B (lv_at hl 5 rfl) (lv_at hl 0 rfl) (k := 1) ⟨by omega, by omega, by omega⟩ dL_law_1100 dL_law_1101 dL_law_1103 dL_law_1104 dL_law_1105 ?_
  refine lv_i2c (v := iI ((xs (i + 1).toNat).toInt % 65536)) F.1 F.2.1 dL_law_1106 (ch_eq (x32 _)) ?_
  refine la_x F G B (lv_at hl 5 rfl) (lv_at hl 0 rfl) (k := 2) ⟨by omega, by omega, by omega⟩ dL_law_1107 dL_law_1108 dL_law_1110 dL_law_1111 dL_law_1112 ?_
  refine la_bz (A9 := 1120) (B9 := 1121) F (x32 _) dL_law_1113 dL_law_1116 dL_law_1117 dL_law_1120 (by decide) (by decide) rfl ?_
  refine lv_aload_n F.1 F.2.1 dL_law_1121 rfl (lv_at hl 2 rfl) ?_
  refine la_c (As := [.ref d0, .int (iI ((xs (i + 1).toNat).toInt % 65536)), .int (iI (bz (xs (i + 2).toNat).toInt)), .ref o1]) (a := (an_letterCount S ((xs (i + 1).toNat).toInt % 65536) (bz (xs (i + 2).toNat).toInt))) F G (w_letterCount l D K z0 d0 o1 fs wD go ((xs (i + 1).toNat).toInt % 65536) (bz (xs (i + 2).toNat).toInt) (PRg K N n (an_letterCount S ((xs (i + 1).toNat).toInt % 65536) (bz (xs (i + 2).toNat).toInt))) (PXg K N n (an_letterCount S ((xs (i + 1).toNat).toInt % 65536) (bz (xs (i + 2).toNat).toInt))) (dk_letterCount l hl0 D K z0 N d0 hn hD hS ((xs (i + 1).toNat).toInt % 65536) (bz (xs (i + 2).toNat).toInt) (ch_r _) (bz_01 _))) my_L_letterCount ms_L_187 (by decide) rfl rfl ⟨by omega, by omega⟩ hC (by simp) hl.1 dL_law_1122 (fun cm fs2 wD2 go2 H locs hc0 hcg hS2 hD2 G => ?_)
  refine lv_istore (lv' := (6, .int (iI ((an_letterCount S ((xs (i + 1).toNat).toInt % 65536) (bz (xs (i + 2).toNat).toInt)) cm).1)) :: LV b d0 m0 o1 o2 i) F.1 F.2.1 dL_law_1125 hl (by decide) rfl (fun ls hl => ?_)
  refine lv_aload_n F.1 F.2.1 dL_law_1127 rfl (lv_at hl 4 rfl) ?_
  refine la_x F G B (lv_at hl 6 rfl) (lv_at hl 1 rfl) (k := 1) ⟨by omega, by omega, by omega⟩ dL_law_1128 dL_law_1129 dL_law_1131 dL_law_1132 dL_law_1133 ?_
  refine lv_i2c (v := iI ((xs (i + 1).toNat).toInt % 65536)) F.1 F.2.1 dL_law_1134 (ch_eq (x32 _)) ?_
  refine la_x F G B (lv_at hl 6 rfl) (lv_at hl 1 rfl) (k := 2) ⟨by omega, by omega, by omega⟩ dL_law_1135 dL_law_1136 dL_law_1138 dL_law_1139 dL_law_1140 ?_
  refine la_bz (A9 := 1148) (B9 := 1149) F (x32 _) dL_law_1141 dL_law_1144 dL_law_1145 dL_law_1148 (by decide) (by decide) rfl ?_
  refine la_m (As := [.int (iI ((xs (i + 1).toNat).toInt % 65536)), .int (iI (bz (xs (i + 2).toNat).toInt))]) (mkv := fun z => .int (iI z)) (a := (an_letterCount S ((xs (i + 1).toNat).toInt % 65536) (bz (xs (i + 2).toNat).toInt))) F G (md_letterCount l D K z0 M MH ME MS m0 hM hS ((xs (i + 1).toNat).toInt % 65536) (bz (xs (i + 2).toNat).toInt) (ch_r _) (bz_01 _)) my_X11_letterCount mv_L_190 rfl rfl rfl ⟨by omega, by omega⟩ ⟨by omega, by omega⟩ (Nat.le_of_ble_eq_true rfl) hl.1 dL_law_1149 (fun z fm2 wM2 H locs hq G => ?_)
  refine lv_istore (lv' := (7, .int (iI z)) :: (6, .int (iI ((an_letterCount S ((xs (i + 1).toNat).toInt % 65536) (bz (xs (i + 2).toNat).toInt)) cm).1)) :: LV b d0 m0 o1 o2 i) F.1 F.2.1 dL_law_1152 hl (by decide) rfl (fun ls hl => ?_)
  obtain ⟨hq1, hq2⟩ := hq cm
  refine la_t (tgt := 1182) F G hq2 hc0 ⟨by omega, by omega⟩ ⟨by omega, by omega⟩ hl.1 (lv_at hl 5 rfl) (lv_at hl 1 rfl) dL_law_1154 dL_law_1155 dL_law_1158 dL_law_1160 dL_law_1165 dL_law_1167 (by decide) (fun H locs _ G => ?_) (fun H locs hk G => ?_)
  · skip
    refine lv_goto (tgt := 2225) F.1 F.2.1 dL_law_1182 (by decide) ?_
    exact kk _ _ _ _ _ _ _ _ _ _ _ hD2 hq2 hS2 G (lv_sub hl [2, 3, 4, 5, 6, 7] rfl)
  · have hg := hcg hk
    rw [hq1 hk] at hg
    refine la_i (tgt := 1182) F G hg (lv_at hl 4 rfl) (lv_at hl 0 rfl) dL_law_1170 dL_law_1171 dL_law_1172 dL_law_1173 dL_law_1175 dL_law_1176 dL_law_1177 (by decide) ?_
    refine lv_goto (tgt := 2225) F.1 F.2.1 dL_law_1182 (by decide) ?_
    exact kk _ _ _ _ _ _ _ _ _ _ _ hD2 hq2 hS2 G (lv_sub hl [2, 3, 4, 5, 6, 7] rfl)
theorem my_L_saving : ad_myH yL_saving cL_saving 4 (some .int) hL_saving 3 := ⟨(ad_mt (List.mem_of_getElem? (i := 891) (by decide +kernel)) (by decide +kernel)), ⟨by decide, by decide, by decide +kernel⟩, (ad_mt (List.mem_of_getElem? (i := 0) (by decide +kernel)) (by decide +kernel))⟩
set_option maxRecDepth 20000 in
theorem lc_saving {p : Program} {l : Launch} {e : Env} {R : Room} {s : State} {m : MethodId} {args : Array Value} {below : List Frame} {meth : Method} {c : Code} {H : Heap} {locs : List Loc} {cells slots : Nat} {Q : State → Prop} {ret : Option FieldType} {D : va_G} {K : Nat → ClassId} {z0 : Nat} {A : Nat → Prop} {ls : Array Slot} {b d0 m0 o1 o2 L n : Nat} {xs : Nat → Int32} {fs fm : List Value} {go : Nat → Int64} {gd : Nat → UInt64} {wD wM : va_W} {N M MH ME MS : Nat → Nat} {S : Sx} {xth i : Int} {nm : String} (hl0 : l.stackTraces = false) (F : ad_F p s m args meth c RL nm cL_law 9 ret D K z0 A) (B : LB s A b L xs) (hn : n < 512) (hD : DkI K N n S fs wD) (hM : MoI K M MH ME MS xth S fm wM) (hS : SxI n S) (hi : 0 ≤ i ∧ i + 4 ≤ L ∧ L ≤ 2048) (hR : 20 ≤ R.frames ∧ 1000 ≤ R.locals) (hC : cells + 4 ≤ R.cells ∧ slots + 1214 ≤ R.slots) (G : ad_G D A s.heap H locs (WL K d0 m0 o1 o2 fs fm go gd wD wM)) (hl : lv_has ls 9 (LV b d0 m0 o1 o2 i)) (kk : LK p l e R s m args below meth c cells slots Q D A K b d0 m0 o1 o2 n N M MH ME MS i) : W p l e R s m args below meth c H locs cells slots Q (F0 m 1185 ls []) := by
  refine lv_aload_n F.1 F.2.1 dL_law_1185 rfl (lv_at hl 4 rfl) ?_
  refine la_x F G B (lv_at hl 5 rfl) (lv_at hl 0 rfl) (k := 1) ⟨by omega, by omega, by omega⟩ dL_law_1186 dL_law_1187 dL_law_1189 dL_law_1190 dL_law_1191 ?_
  refine lv_aload_n F.1 F.2.1 dL_law_1192 rfl (lv_at hl 2 rfl) ?_
  refine la_c (As := [.ref d0, .int (iI ((xs (i + 1).toNat).toInt)), .ref o1]) (a := (an_saving S ((xs (i + 1).toNat).toInt))) F G (w_saving l D K z0 d0 o1 fs wD go ((xs (i + 1).toNat).toInt) (PRg K N n (an_saving S ((xs (i + 1).toNat).toInt))) (PXg K N n (an_saving S ((xs (i + 1).toNat).toInt))) (dk_saving l hl0 D K z0 N d0 hn hD hS ((xs (i + 1).toNat).toInt) (x32 _))) my_L_saving ms_L_191 (by decide) rfl rfl ⟨by omega, by omega⟩ hC (by simp) hl.1 dL_law_1193 (fun cm fs2 wD2 go2 H locs hc0 hcg hS2 hD2 G => ?_)
  refine lv_istore (lv' := (6, .int (iI ((an_saving S ((xs (i + 1).toNat).toInt)) cm).1)) :: LV b d0 m0 o1 o2 i) F.1 F.2.1 dL_law_1196 hl (by decide) rfl (fun ls hl => ?_)
  refine lv_aload_n F.1 F.2.1 dL_law_1198 rfl (lv_at hl 4 rfl) ?_
  refine la_x F G B (lv_at hl 6 rfl) (lv_at hl 1 rfl) (k := 1) ⟨by omega, by omega, by omega⟩ dL_law_1199 dL_law_1200 dL_law_1202 dL_law_1203 dL_law_1204 ?_
  refine la_m (As := [.int (iI ((xs (i + 1).toNat).toInt))]) (mkv := fun z => .int (iI z)) (a := (an_saving S ((xs (i + 1).toNat).toInt))) F G (md_saving l D K z0 M MH ME MS m0 hM hS ((xs (i + 1).toNat).toInt) (x32 _)) my_X11_saving mv_L_193 rfl rfl rfl ⟨by omega, by omega⟩ ⟨by omega, by omega⟩ (Nat.le_of_ble_eq_true rfl) hl.1 dL_law_1205 (fun z fm2 wM2 H locs hq G => ?_)
  refine lv_istore (lv' := (7, .int (iI z)) :: (6, .int (iI ((an_saving S ((xs (i + 1).toNat).toInt)) cm).1)) :: LV b d0 m0 o1 o2 i) F.1 F.2.1 dL_law_1208 hl (by decide) rfl (fun ls hl => ?_)
  obtain ⟨hq1, hq2⟩ := hq cm
  refine la_t (tgt := 1238) F G hq2 hc0 ⟨by omega, by omega⟩ ⟨by omega, by omega⟩ hl.1 (lv_at hl 5 rfl) (lv_at hl 1 rfl) dL_law_1210 dL_law_1211 dL_law_1214 dL_law_1216 dL_law_1221 dL_law_1223 (by decide) (fun H locs _ G => ?_) (fun H locs hk G => ?_)
  · skip
    refine lv_goto (tgt := 2225) F.1 F.2.1 dL_law_1238 (by decide) ?_
    exact kk _ _ _ _ _ _ _ _ _ _ _ hD2 hq2 hS2 G (lv_sub hl [2, 3, 4, 5, 6, 7] rfl)
  · have hg := hcg hk
    rw [hq1 hk] at hg
    refine la_i (tgt := 1238) F G hg (lv_at hl 4 rfl) (lv_at hl 0 rfl) dL_law_1226 dL_law_1227 dL_law_1228 dL_law_1229 dL_law_1231 dL_law_1232 dL_law_1233 (by decide) ?_
    refine lv_goto (tgt := 2225) F.1 F.2.1 dL_law_1238 (by decide) ?_
    exact kk _ _ _ _ _ _ _ _ _ _ _ hD2 hq2 hS2 G (lv_sub hl [2, 3, 4, 5, 6, 7] rfl)
theorem my_L_learn : ad_myH yL_learn cL_learn 3 (some .int) hL_learn 2 := ⟨(ad_mt (List.mem_of_getElem? (i := 902) (by decide +kernel)) (by decide +kernel)), ⟨by decide, by decide, by decide +kernel⟩, (ad_mt (List.mem_of_getElem? (i := 0) (by decide +kernel)) (by decide +kernel))⟩
set_option maxRecDepth 20000 in
theorem lc_learn {p : Program} {l : Launch} {e : Env} {R : Room} {s : State} {m : MethodId} {args : Array Value} {below : List Frame} {meth : Method} {c : Code} {H : Heap} {locs : List Loc} {cells slots : Nat} {Q : State → Prop} {ret : Option FieldType} {D : va_G} {K : Nat → ClassId} {z0 : Nat} {A : Nat → Prop} {ls : Array Slot} {b d0 m0 o1 o2 L n : Nat} {xs : Nat → Int32} {fs fm : List Value} {go : Nat → Int64} {gd : Nat → UInt64} {wD wM : va_W} {N M MH ME MS : Nat → Nat} {S : Sx} {xth i : Int} {nm : String} (hl0 : l.stackTraces = false) (F : ad_F p s m args meth c RL nm cL_law 9 ret D K z0 A) (B : LB s A b L xs) (hn : n < 512) (hD : DkI K N n S fs wD) (hM : MoI K M MH ME MS xth S fm wM) (hS : SxI n S) (hi : 0 ≤ i ∧ i + 4 ≤ L ∧ L ≤ 2048) (hR : 20 ≤ R.frames ∧ 1000 ≤ R.locals) (hC : cells + 4 ≤ R.cells ∧ slots + 1214 ≤ R.slots) (G : ad_G D A s.heap H locs (WL K d0 m0 o1 o2 fs fm go gd wD wM)) (hl : lv_has ls 9 (LV b d0 m0 o1 o2 i)) (kk : LK p l e R s m args below meth c cells slots Q D A K b d0 m0 o1 o2 n N M MH ME MS i) : W p l e R s m args below meth c H locs cells slots Q (F0 m 1241 ls []) := by
  refine lv_aload_n F.1 F.2.1 dL_law_1241 rfl (lv_at hl 4 rfl) ?_
  refine lv_aload_n F.1 F.2.1 dL_law_1242 rfl (lv_at hl 2 rfl) ?_
  refine la_c (As := [.ref d0, .ref o1]) (a := (an_learn S)) F G (w_learn l D K z0 d0 o1 fs wD go  (PRg K N n (an_learn S)) (PXg K N n (an_learn S)) (dk_learn l hl0 D K z0 N d0 hn hD hS  )) my_L_learn ms_L_194 (by decide) rfl rfl ⟨by omega, by omega⟩ hC (by simp) hl.1 dL_law_1243 (fun cm fs2 wD2 go2 H locs hc0 hcg hS2 hD2 G => ?_)
  refine lv_istore (lv' := (6, .int (iI ((an_learn S) cm).1)) :: LV b d0 m0 o1 o2 i) F.1 F.2.1 dL_law_1246 hl (by decide) rfl (fun ls hl => ?_)
  refine lv_aload_n F.1 F.2.1 dL_law_1248 rfl (lv_at hl 4 rfl) ?_
  refine la_m (As := []) (mkv := fun z => .int (iI z)) (a := (an_learn S)) F G (md_learn l D K z0 M MH ME MS m0 hM hS  ) my_X11_learn mv_L_197 rfl rfl rfl ⟨by omega, by omega⟩ ⟨by omega, by omega⟩ (Nat.le_of_ble_eq_true rfl) hl.1 dL_law_1249 (fun z fm2 wM2 H locs hq G => ?_)
  refine lv_istore (lv' := (7, .int (iI z)) :: (6, .int (iI ((an_learn S) cm).1)) :: LV b d0 m0 o1 o2 i) F.1 F.2.1 dL_law_1252 hl (by decide) rfl (fun ls hl => ?_)
  obtain ⟨hq1, hq2⟩ := hq cm
  refine la_t (tgt := 1282) F G hq2 hc0 ⟨by omega, by omega⟩ ⟨by omega, by omega⟩ hl.1 (lv_at hl 5 rfl) (lv_at hl 1 rfl) dL_law_1254 dL_law_1255 dL_law_1258 dL_law_1260 dL_law_1265 dL_law_1267 (by decide) (fun H locs _ G => ?_) (fun H locs hk G => ?_)
  · skip
    refine lv_goto (tgt := 2225) F.1 F.2.1 dL_law_1282 (by decide) ?_
    exact kk _ _ _ _ _ _ _ _ _ _ _ hD2 hq2 hS2 G (lv_sub hl [2, 3, 4, 5, 6, 7] rfl)
  · have hg := hcg hk
    rw [hq1 hk] at hg
    refine la_i (tgt := 1282) F G hg (lv_at hl 4 rfl) (lv_at hl 0 rfl) dL_law_1270 dL_law_1271 dL_law_1272 dL_law_1273 dL_law_1275 dL_law_1276 dL_law_1277 (by decide) ?_
    refine lv_goto (tgt := 2225) F.1 F.2.1 dL_law_1282 (by decide) ?_
    exact kk _ _ _ _ _ _ _ _ _ _ _ hD2 hq2 hS2 G (lv_sub hl [2, 3, 4, 5, 6, 7] rfl)
theorem my_L_pair : ad_myH yL_pair cL_pair 5 (some .int) hL_pair 4 := ⟨(ad_mt (List.mem_of_getElem? (i := 934) (by decide +kernel)) (by decide +kernel)), ⟨by decide, by decide, by decide +kernel⟩, (ad_mt (List.mem_of_getElem? (i := 0) (by decide +kernel)) (by decide +kernel))⟩
set_option maxRecDepth 20000 in
theorem lc_pair {p : Program} {l : Launch} {e : Env} {R : Room} {s : State} {m : MethodId} {args : Array Value} {below : List Frame} {meth : Method} {c : Code} {H : Heap} {locs : List Loc} {cells slots : Nat} {Q : State → Prop} {ret : Option FieldType} {D : va_G} {K : Nat → ClassId} {z0 : Nat} {A : Nat → Prop} {ls : Array Slot} {b d0 m0 o1 o2 L n : Nat} {xs : Nat → Int32} {fs fm : List Value} {go : Nat → Int64} {gd : Nat → UInt64} {wD wM : va_W} {N M MH ME MS : Nat → Nat} {S : Sx} {xth i : Int} {nm : String} (hl0 : l.stackTraces = false) (F : ad_F p s m args meth c RL nm cL_law 9 ret D K z0 A) (B : LB s A b L xs) (hn : n < 512) (hD : DkI K N n S fs wD) (hM : MoI K M MH ME MS xth S fm wM) (hS : SxI n S) (hi : 0 ≤ i ∧ i + 4 ≤ L ∧ L ≤ 2048) (hR : 20 ≤ R.frames ∧ 1000 ≤ R.locals) (hC : cells + 4 ≤ R.cells ∧ slots + 1214 ≤ R.slots) (G : ad_G D A s.heap H locs (WL K d0 m0 o1 o2 fs fm go gd wD wM)) (hl : lv_has ls 9 (LV b d0 m0 o1 o2 i)) (kk : LK p l e R s m args below meth c cells slots Q D A K b d0 m0 o1 o2 n N M MH ME MS i) : W p l e R s m args below meth c H locs cells slots Q (F0 m 1285 ls []) := by
  refine lv_aload_n F.1 F.2.1 dL_law_1285 rfl (lv_at hl 4 rfl) ?_
  refine la_x F G B (lv_at hl 5 rfl) (lv_at hl 0 rfl) (k := 1) ⟨by omega, by omega, by omega⟩ dL_law_1286 dL_law_1287 dL_law_1289 dL_law_1290 dL_law_1291 ?_
  refine la_x F G B (lv_at hl 5 rfl) (lv_at hl 0 rfl) (k := 2) ⟨by omega, by omega, by omega⟩ dL_law_1292 dL_law_1293 dL_law_1295 dL_law_1296 dL_law_1297 ?_
  refine lv_aload_n F.1 F.2.1 dL_law_1298 rfl (lv_at hl 2 rfl) ?_
  refine la_c (As := [.ref d0, .int (iI ((xs (i + 1).toNat).toInt)), .int (iI ((xs (i + 2).toNat).toInt)), .ref o1]) (a := (an_pair S ((xs (i + 1).toNat).toInt) ((xs (i + 2).toNat).toInt))) F G (w_pair l D K z0 d0 o1 fs wD go ((xs (i + 1).toNat).toInt) ((xs (i + 2).toNat).toInt) (PRg K N n (an_pair S ((xs (i + 1).toNat).toInt) ((xs (i + 2).toNat).toInt))) (PXg K N n (an_pair S ((xs (i + 1).toNat).toInt) ((xs (i + 2).toNat).toInt))) (dk_pair l hl0 D K z0 N d0 hn hD hS ((xs (i + 1).toNat).toInt) ((xs (i + 2).toNat).toInt) (x32 _) (x32 _))) my_L_pair ms_L_198 (by decide) rfl rfl ⟨by omega, by omega⟩ hC (by simp) hl.1 dL_law_1299 (fun cm fs2 wD2 go2 H locs hc0 hcg hS2 hD2 G => ?_)
  refine lv_istore (lv' := (6, .int (iI ((an_pair S ((xs (i + 1).toNat).toInt) ((xs (i + 2).toNat).toInt)) cm).1)) :: LV b d0 m0 o1 o2 i) F.1 F.2.1 dL_law_1302 hl (by decide) rfl (fun ls hl => ?_)
  refine lv_aload_n F.1 F.2.1 dL_law_1304 rfl (lv_at hl 4 rfl) ?_
  refine la_x F G B (lv_at hl 6 rfl) (lv_at hl 1 rfl) (k := 1) ⟨by omega, by omega, by omega⟩ dL_law_1305 dL_law_1306 dL_law_1308 dL_law_1309 dL_law_1310 ?_
  refine la_x F G B (lv_at hl 6 rfl) (lv_at hl 1 rfl) (k := 2) ⟨by omega, by omega, by omega⟩ dL_law_1311 dL_law_1312 dL_law_1314 dL_law_1315 dL_law_1316 ?_
  refine la_m (As := [.int (iI ((xs (i + 1).toNat).toInt)), .int (iI ((xs (i + 2).toNat).toInt))]) (mkv := fun z => .int (iI z)) (a := (an_pair S ((xs (i + 1).toNat).toInt) ((xs (i + 2).toNat).toInt))) F G (md_pair l D K z0 M MH ME MS m0 hM hS ((xs (i + 1).toNat).toInt) ((xs (i + 2).toNat).toInt) (x32 _) (x32 _)) my_X11_pair mv_L_200 rfl rfl rfl ⟨by omega, by omega⟩ ⟨by omega, by omega⟩ (Nat.le_of_ble_eq_true rfl) hl.1 dL_law_1317 (fun z fm2 wM2 H locs hq G => ?_)
  refine lv_istore (lv' := (7, .int (iI z)) :: (6, .int (iI ((an_pair S ((xs (i + 1).toNat).toInt) ((xs (i + 2).toNat).toInt)) cm).1)) :: LV b d0 m0 o1 o2 i) F.1 F.2.1 dL_law_1320 hl (by decide) rfl (fun ls hl => ?_)
  obtain ⟨hq1, hq2⟩ := hq cm
  refine la_t (tgt := 1350) F G hq2 hc0 ⟨by omega, by omega⟩ ⟨by omega, by omega⟩ hl.1 (lv_at hl 5 rfl) (lv_at hl 1 rfl) dL_law_1322 dL_law_1323 dL_law_1326 dL_law_1328 dL_law_1333 dL_law_1335 (by decide) (fun H locs _ G => ?_) (fun H locs hk G => ?_)
  · skip
    refine lv_goto (tgt := 2225) F.1 F.2.1 dL_law_1350 (by decide) ?_
    exact kk _ _ _ _ _ _ _ _ _ _ _ hD2 hq2 hS2 G (lv_sub hl [2, 3, 4, 5, 6, 7] rfl)
  · have hg := hcg hk
    rw [hq1 hk] at hg
    refine la_i (tgt := 1350) F G hg (lv_at hl 4 rfl) (lv_at hl 0 rfl) dL_law_1338 dL_law_1339 dL_law_1340 dL_law_1341 dL_law_1343 dL_law_1344 dL_law_1345 (by decide) ?_
    refine lv_goto (tgt := 2225) F.1 F.2.1 dL_law_1350 (by decide) ?_
    exact kk _ _ _ _ _ _ _ _ _ _ _ hD2 hq2 hS2 G (lv_sub hl [2, 3, 4, 5, 6, 7] rfl)
theorem my_L_abbreviate : ad_myH yL_abbreviate cL_abbreviate 3 (some .int) hL_abbreviate 2 := ⟨(ad_mt (List.mem_of_getElem? (i := 942) (by decide +kernel)) (by decide +kernel)), ⟨by decide, by decide, by decide +kernel⟩, (ad_mt (List.mem_of_getElem? (i := 0) (by decide +kernel)) (by decide +kernel))⟩
set_option maxRecDepth 20000 in
theorem lc_abbreviate {p : Program} {l : Launch} {e : Env} {R : Room} {s : State} {m : MethodId} {args : Array Value} {below : List Frame} {meth : Method} {c : Code} {H : Heap} {locs : List Loc} {cells slots : Nat} {Q : State → Prop} {ret : Option FieldType} {D : va_G} {K : Nat → ClassId} {z0 : Nat} {A : Nat → Prop} {ls : Array Slot} {b d0 m0 o1 o2 L n : Nat} {xs : Nat → Int32} {fs fm : List Value} {go : Nat → Int64} {gd : Nat → UInt64} {wD wM : va_W} {N M MH ME MS : Nat → Nat} {S : Sx} {xth i : Int} {nm : String} (hl0 : l.stackTraces = false) (F : ad_F p s m args meth c RL nm cL_law 9 ret D K z0 A) (B : LB s A b L xs) (hn : n < 512) (hD : DkI K N n S fs wD) (hM : MoI K M MH ME MS xth S fm wM) (hS : SxI n S) (hi : 0 ≤ i ∧ i + 4 ≤ L ∧ L ≤ 2048) (hR : 20 ≤ R.frames ∧ 1000 ≤ R.locals) (hC : cells + 4 ≤ R.cells ∧ slots + 1214 ≤ R.slots) (G : ad_G D A s.heap H locs (WL K d0 m0 o1 o2 fs fm go gd wD wM)) (hl : lv_has ls 9 (LV b d0 m0 o1 o2 i)) (kk : LK p l e R s m args below meth c cells slots Q D A K b d0 m0 o1 o2 n N M MH ME MS i) : W p l e R s m args below meth c H locs cells slots Q (F0 m 1353 ls []) := by
  refine lv_aload_n F.1 F.2.1 dL_law_1353 rfl (lv_at hl 4 rfl) ?_
  refine lv_aload_n F.1 F.2.1 dL_law_1354 rfl (lv_at hl 2 rfl) ?_
  refine la_c (As := [.ref d0, .ref o1]) (a := (an_abbreviate S)) F G (w_abbreviate l D K z0 d0 o1 fs wD go  (PRg K N n (an_abbreviate S)) (PXg K N n (an_abbreviate S)) (dk_abbreviate l hl0 D K z0 N d0 hn hD hS  )) my_L_abbreviate ms_L_201 (by decide) rfl rfl ⟨by omega, by omega⟩ hC (by simp) hl.1 dL_law_1355 (fun cm fs2 wD2 go2 H locs hc0 hcg hS2 hD2 G => ?_)
  refine lv_istore (lv' := (6, .int (iI ((an_abbreviate S) cm).1)) :: LV b d0 m0 o1 o2 i) F.1 F.2.1 dL_law_1358 hl (by decide) rfl (fun ls hl => ?_)
  refine lv_aload_n F.1 F.2.1 dL_law_1360 rfl (lv_at hl 4 rfl) ?_
  refine la_m (As := []) (mkv := fun z => .int (iI z)) (a := (an_abbreviate S)) F G (md_abbreviate l D K z0 M MH ME MS m0 hM hS  ) my_X11_abbreviate mv_L_203 rfl rfl rfl ⟨by omega, by omega⟩ ⟨by omega, by omega⟩ (Nat.le_of_ble_eq_true rfl) hl.1 dL_law_1361 (fun z fm2 wM2 H locs hq G => ?_)
  refine lv_istore (lv' := (7, .int (iI z)) :: (6, .int (iI ((an_abbreviate S) cm).1)) :: LV b d0 m0 o1 o2 i) F.1 F.2.1 dL_law_1364 hl (by decide) rfl (fun ls hl => ?_)
  obtain ⟨hq1, hq2⟩ := hq cm
  refine la_t (tgt := 1394) F G hq2 hc0 ⟨by omega, by omega⟩ ⟨by omega, by omega⟩ hl.1 (lv_at hl 5 rfl) (lv_at hl 1 rfl) dL_law_1366 dL_law_1367 dL_law_1370 dL_law_1372 dL_law_1377 dL_law_1379 (by decide) (fun H locs _ G => ?_) (fun H locs hk G => ?_)
  · skip
    refine lv_goto (tgt := 2225) F.1 F.2.1 dL_law_1394 (by decide) ?_
    exact kk _ _ _ _ _ _ _ _ _ _ _ hD2 hq2 hS2 G (lv_sub hl [2, 3, 4, 5, 6, 7] rfl)
  · have hg := hcg hk
    rw [hq1 hk] at hg
    refine la_i (tgt := 1394) F G hg (lv_at hl 4 rfl) (lv_at hl 0 rfl) dL_law_1382 dL_law_1383 dL_law_1384 dL_law_1385 dL_law_1387 dL_law_1388 dL_law_1389 (by decide) ?_
    refine lv_goto (tgt := 2225) F.1 F.2.1 dL_law_1394 (by decide) ?_
    exact kk _ _ _ _ _ _ _ _ _ _ _ hD2 hq2 hS2 G (lv_sub hl [2, 3, 4, 5, 6, 7] rfl)
theorem my_L_expand : ad_myH yL_expand cL_expand 3 (some .int) hL_expand 2 := ⟨(ad_mt (List.mem_of_getElem? (i := 1052) (by decide +kernel)) (by decide +kernel)), ⟨by decide, by decide, by decide +kernel⟩, (ad_mt (List.mem_of_getElem? (i := 0) (by decide +kernel)) (by decide +kernel))⟩
set_option maxRecDepth 20000 in
theorem lc_expand {p : Program} {l : Launch} {e : Env} {R : Room} {s : State} {m : MethodId} {args : Array Value} {below : List Frame} {meth : Method} {c : Code} {H : Heap} {locs : List Loc} {cells slots : Nat} {Q : State → Prop} {ret : Option FieldType} {D : va_G} {K : Nat → ClassId} {z0 : Nat} {A : Nat → Prop} {ls : Array Slot} {b d0 m0 o1 o2 L n : Nat} {xs : Nat → Int32} {fs fm : List Value} {go : Nat → Int64} {gd : Nat → UInt64} {wD wM : va_W} {N M MH ME MS : Nat → Nat} {S : Sx} {xth i : Int} {nm : String} (hl0 : l.stackTraces = false) (F : ad_F p s m args meth c RL nm cL_law 9 ret D K z0 A) (B : LB s A b L xs) (hn : n < 512) (hD : DkI K N n S fs wD) (hM : MoI K M MH ME MS xth S fm wM) (hS : SxI n S) (hi : 0 ≤ i ∧ i + 4 ≤ L ∧ L ≤ 2048) (hR : 20 ≤ R.frames ∧ 1000 ≤ R.locals) (hC : cells + 4 ≤ R.cells ∧ slots + 1214 ≤ R.slots) (G : ad_G D A s.heap H locs (WL K d0 m0 o1 o2 fs fm go gd wD wM)) (hl : lv_has ls 9 (LV b d0 m0 o1 o2 i)) (kk : LK p l e R s m args below meth c cells slots Q D A K b d0 m0 o1 o2 n N M MH ME MS i) : W p l e R s m args below meth c H locs cells slots Q (F0 m 1397 ls []) := by
  refine lv_aload_n F.1 F.2.1 dL_law_1397 rfl (lv_at hl 4 rfl) ?_
  refine lv_aload_n F.1 F.2.1 dL_law_1398 rfl (lv_at hl 2 rfl) ?_
  refine la_c (As := [.ref d0, .ref o1]) (a := (an_expand S)) F G (w_expand l D K z0 d0 o1 fs wD go  (PRg K N n (an_expand S)) (PXg K N n (an_expand S)) (dk_expand l hl0 D K z0 N d0 hn hD hS  )) my_L_expand ms_L_204 (by decide) rfl rfl ⟨by omega, by omega⟩ hC (by simp) hl.1 dL_law_1399 (fun cm fs2 wD2 go2 H locs hc0 hcg hS2 hD2 G => ?_)
  refine lv_istore (lv' := (6, .int (iI ((an_expand S) cm).1)) :: LV b d0 m0 o1 o2 i) F.1 F.2.1 dL_law_1402 hl (by decide) rfl (fun ls hl => ?_)
  refine lv_aload_n F.1 F.2.1 dL_law_1404 rfl (lv_at hl 4 rfl) ?_
  refine la_m (As := []) (mkv := fun z => .int (iI z)) (a := (an_expand S)) F G (md_expand l D K z0 M MH ME MS m0 hM hS  ) my_X11_expand mv_L_206 rfl rfl rfl ⟨by omega, by omega⟩ ⟨by omega, by omega⟩ (Nat.le_of_ble_eq_true rfl) hl.1 dL_law_1405 (fun z fm2 wM2 H locs hq G => ?_)
  refine lv_istore (lv' := (7, .int (iI z)) :: (6, .int (iI ((an_expand S) cm).1)) :: LV b d0 m0 o1 o2 i) F.1 F.2.1 dL_law_1408 hl (by decide) rfl (fun ls hl => ?_)
  obtain ⟨hq1, hq2⟩ := hq cm
  refine la_t (tgt := 1438) F G hq2 hc0 ⟨by omega, by omega⟩ ⟨by omega, by omega⟩ hl.1 (lv_at hl 5 rfl) (lv_at hl 1 rfl) dL_law_1410 dL_law_1411 dL_law_1414 dL_law_1416 dL_law_1421 dL_law_1423 (by decide) (fun H locs _ G => ?_) (fun H locs hk G => ?_)
  · skip
    refine lv_goto (tgt := 2225) F.1 F.2.1 dL_law_1438 (by decide) ?_
    exact kk _ _ _ _ _ _ _ _ _ _ _ hD2 hq2 hS2 G (lv_sub hl [2, 3, 4, 5, 6, 7] rfl)
  · have hg := hcg hk
    rw [hq1 hk] at hg
    refine la_i (tgt := 1438) F G hg (lv_at hl 4 rfl) (lv_at hl 0 rfl) dL_law_1426 dL_law_1427 dL_law_1428 dL_law_1429 dL_law_1431 dL_law_1432 dL_law_1433 (by decide) ?_
    refine lv_goto (tgt := 2225) F.1 F.2.1 dL_law_1438 (by decide) ?_
    exact kk _ _ _ _ _ _ _ _ _ _ _ hD2 hq2 hS2 G (lv_sub hl [2, 3, 4, 5, 6, 7] rfl)
theorem my_L_errorPosition : ad_myH yL_errorPosition cL_errorPosition 3 (some .int) hL_errorPosition 2 := ⟨(ad_mt (List.mem_of_getElem? (i := 1059) (by decide +kernel)) (by decide +kernel)), ⟨by decide, by decide, by decide +kernel⟩, (ad_mt (List.mem_of_getElem? (i := 0) (by decide +kernel)) (by decide +kernel))⟩
set_option maxRecDepth 20000 in
theorem lc_errorPosition {p : Program} {l : Launch} {e : Env} {R : Room} {s : State} {m : MethodId} {args : Array Value} {below : List Frame} {meth : Method} {c : Code} {H : Heap} {locs : List Loc} {cells slots : Nat} {Q : State → Prop} {ret : Option FieldType} {D : va_G} {K : Nat → ClassId} {z0 : Nat} {A : Nat → Prop} {ls : Array Slot} {b d0 m0 o1 o2 L n : Nat} {xs : Nat → Int32} {fs fm : List Value} {go : Nat → Int64} {gd : Nat → UInt64} {wD wM : va_W} {N M MH ME MS : Nat → Nat} {S : Sx} {xth i : Int} {nm : String} (hl0 : l.stackTraces = false) (F : ad_F p s m args meth c RL nm cL_law 9 ret D K z0 A) (B : LB s A b L xs) (hn : n < 512) (hD : DkI K N n S fs wD) (hM : MoI K M MH ME MS xth S fm wM) (hS : SxI n S) (hi : 0 ≤ i ∧ i + 4 ≤ L ∧ L ≤ 2048) (hR : 20 ≤ R.frames ∧ 1000 ≤ R.locals) (hC : cells + 4 ≤ R.cells ∧ slots + 1214 ≤ R.slots) (G : ad_G D A s.heap H locs (WL K d0 m0 o1 o2 fs fm go gd wD wM)) (hl : lv_has ls 9 (LV b d0 m0 o1 o2 i)) (kk : LK p l e R s m args below meth c cells slots Q D A K b d0 m0 o1 o2 n N M MH ME MS i) : W p l e R s m args below meth c H locs cells slots Q (F0 m 1441 ls []) := by
  refine lv_aload_n F.1 F.2.1 dL_law_1441 rfl (lv_at hl 4 rfl) ?_
  refine lv_aload_n F.1 F.2.1 dL_law_1442 rfl (lv_at hl 2 rfl) ?_
  refine la_c (As := [.ref d0, .ref o1]) (a := (an_errorPosition S)) F G (w_errorPosition l D K z0 d0 o1 fs wD go  (PRg K N n (an_errorPosition S)) (PXg K N n (an_errorPosition S)) (dk_errorPosition l hl0 D K z0 N d0 hn hD hS  )) my_L_errorPosition ms_L_207 (by decide) rfl rfl ⟨by omega, by omega⟩ hC (by simp) hl.1 dL_law_1443 (fun cm fs2 wD2 go2 H locs hc0 hcg hS2 hD2 G => ?_)
  refine lv_istore (lv' := (6, .int (iI ((an_errorPosition S) cm).1)) :: LV b d0 m0 o1 o2 i) F.1 F.2.1 dL_law_1446 hl (by decide) rfl (fun ls hl => ?_)
  refine lv_aload_n F.1 F.2.1 dL_law_1448 rfl (lv_at hl 4 rfl) ?_
  refine la_m (As := []) (mkv := fun z => .int (iI z)) (a := (an_errorPosition S)) F G (md_errorPosition l D K z0 M MH ME MS m0 hM hS  ) my_X11_errorPosition mv_L_209 rfl rfl rfl ⟨by omega, by omega⟩ ⟨by omega, by omega⟩ (Nat.le_of_ble_eq_true rfl) hl.1 dL_law_1449 (fun z fm2 wM2 H locs hq G => ?_)
  refine lv_istore (lv' := (7, .int (iI z)) :: (6, .int (iI ((an_errorPosition S) cm).1)) :: LV b d0 m0 o1 o2 i) F.1 F.2.1 dL_law_1452 hl (by decide) rfl (fun ls hl => ?_)
  obtain ⟨hq1, hq2⟩ := hq cm
  refine la_t (tgt := 1482) F G hq2 hc0 ⟨by omega, by omega⟩ ⟨by omega, by omega⟩ hl.1 (lv_at hl 5 rfl) (lv_at hl 1 rfl) dL_law_1454 dL_law_1455 dL_law_1458 dL_law_1460 dL_law_1465 dL_law_1467 (by decide) (fun H locs _ G => ?_) (fun H locs hk G => ?_)
  · skip
    refine lv_goto (tgt := 2225) F.1 F.2.1 dL_law_1482 (by decide) ?_
    exact kk _ _ _ _ _ _ _ _ _ _ _ hD2 hq2 hS2 G (lv_sub hl [2, 3, 4, 5, 6, 7] rfl)
  · have hg := hcg hk
    rw [hq1 hk] at hg
    refine la_i (tgt := 1482) F G hg (lv_at hl 4 rfl) (lv_at hl 0 rfl) dL_law_1470 dL_law_1471 dL_law_1472 dL_law_1473 dL_law_1475 dL_law_1476 dL_law_1477 (by decide) ?_
    refine lv_goto (tgt := 2225) F.1 F.2.1 dL_law_1482 (by decide) ?_
    exact kk _ _ _ _ _ _ _ _ _ _ _ hD2 hq2 hS2 G (lv_sub hl [2, 3, 4, 5, 6, 7] rfl)
theorem my_L_output : ad_myH yL_output cL_output 4 (some .int) hL_output 3 := ⟨(ad_mt (List.mem_of_getElem? (i := 1066) (by decide +kernel)) (by decide +kernel)), ⟨by decide, by decide, by decide +kernel⟩, (ad_mt (List.mem_of_getElem? (i := 0) (by decide +kernel)) (by decide +kernel))⟩
set_option maxRecDepth 20000 in
theorem lc_output {p : Program} {l : Launch} {e : Env} {R : Room} {s : State} {m : MethodId} {args : Array Value} {below : List Frame} {meth : Method} {c : Code} {H : Heap} {locs : List Loc} {cells slots : Nat} {Q : State → Prop} {ret : Option FieldType} {D : va_G} {K : Nat → ClassId} {z0 : Nat} {A : Nat → Prop} {ls : Array Slot} {b d0 m0 o1 o2 L n : Nat} {xs : Nat → Int32} {fs fm : List Value} {go : Nat → Int64} {gd : Nat → UInt64} {wD wM : va_W} {N M MH ME MS : Nat → Nat} {S : Sx} {xth i : Int} {nm : String} (hl0 : l.stackTraces = false) (F : ad_F p s m args meth c RL nm cL_law 9 ret D K z0 A) (B : LB s A b L xs) (hn : n < 512) (hD : DkI K N n S fs wD) (hM : MoI K M MH ME MS xth S fm wM) (hS : SxI n S) (hi : 0 ≤ i ∧ i + 4 ≤ L ∧ L ≤ 2048) (hR : 20 ≤ R.frames ∧ 1000 ≤ R.locals) (hC : cells + 4 ≤ R.cells ∧ slots + 1214 ≤ R.slots) (G : ad_G D A s.heap H locs (WL K d0 m0 o1 o2 fs fm go gd wD wM)) (hl : lv_has ls 9 (LV b d0 m0 o1 o2 i)) (kk : LK p l e R s m args below meth c cells slots Q D A K b d0 m0 o1 o2 n N M MH ME MS i) : W p l e R s m args below meth c H locs cells slots Q (F0 m 1485 ls []) := by
  refine lv_aload_n F.1 F.2.1 dL_law_1485 rfl (lv_at hl 4 rfl) ?_
  refine la_x F G B (lv_at hl 5 rfl) (lv_at hl 0 rfl) (k := 1) ⟨by omega, by omega, by omega⟩ dL_law_1486 dL_law_1487 dL_law_1489 dL_law_1490 dL_law_1491 ?_
  refine lv_aload_n F.1 F.2.1 dL_law_1492 rfl (lv_at hl 2 rfl) ?_
  refine la_c (As := [.ref d0, .int (iI ((xs (i + 1).toNat).toInt)), .ref o1]) (a := (an_output S ((xs (i + 1).toNat).toInt))) F G (w_output l D K z0 d0 o1 fs wD go ((xs (i + 1).toNat).toInt) (PRg K N n (an_output S ((xs (i + 1).toNat).toInt))) (PXg K N n (an_output S ((xs (i + 1).toNat).toInt))) (dk_output l hl0 D K z0 N d0 hn hD hS ((xs (i + 1).toNat).toInt) (x32 _))) my_L_output ms_L_210 (by decide) rfl rfl ⟨by omega, by omega⟩ hC (by simp) hl.1 dL_law_1493 (fun cm fs2 wD2 go2 H locs hc0 hcg hS2 hD2 G => ?_)
  refine lv_istore (lv' := (6, .int (iI ((an_output S ((xs (i + 1).toNat).toInt)) cm).1)) :: LV b d0 m0 o1 o2 i) F.1 F.2.1 dL_law_1496 hl (by decide) rfl (fun ls hl => ?_)
  refine lv_aload_n F.1 F.2.1 dL_law_1498 rfl (lv_at hl 4 rfl) ?_
  refine la_x F G B (lv_at hl 6 rfl) (lv_at hl 1 rfl) (k := 1) ⟨by omega, by omega, by omega⟩ dL_law_1499 dL_law_1500 dL_law_1502 dL_law_1503 dL_law_1504 ?_
  refine la_m (As := [.int (iI ((xs (i + 1).toNat).toInt))]) (mkv := fun z => .int (iI z)) (a := (an_output S ((xs (i + 1).toNat).toInt))) F G (md_output l D K z0 M MH ME MS m0 hM hS ((xs (i + 1).toNat).toInt) (x32 _)) my_X11_output mv_L_212 rfl rfl rfl ⟨by omega, by omega⟩ ⟨by omega, by omega⟩ (Nat.le_of_ble_eq_true rfl) hl.1 dL_law_1505 (fun z fm2 wM2 H locs hq G => ?_)
  refine lv_istore (lv' := (7, .int (iI z)) :: (6, .int (iI ((an_output S ((xs (i + 1).toNat).toInt)) cm).1)) :: LV b d0 m0 o1 o2 i) F.1 F.2.1 dL_law_1508 hl (by decide) rfl (fun ls hl => ?_)
  obtain ⟨hq1, hq2⟩ := hq cm
  refine la_t (tgt := 1538) F G hq2 hc0 ⟨by omega, by omega⟩ ⟨by omega, by omega⟩ hl.1 (lv_at hl 5 rfl) (lv_at hl 1 rfl) dL_law_1510 dL_law_1511 dL_law_1514 dL_law_1516 dL_law_1521 dL_law_1523 (by decide) (fun H locs _ G => ?_) (fun H locs hk G => ?_)
  · skip
    refine lv_goto (tgt := 2225) F.1 F.2.1 dL_law_1538 (by decide) ?_
    exact kk _ _ _ _ _ _ _ _ _ _ _ hD2 hq2 hS2 G (lv_sub hl [2, 3, 4, 5, 6, 7] rfl)
  · have hg := hcg hk
    rw [hq1 hk] at hg
    refine la_i (tgt := 1538) F G hg (lv_at hl 4 rfl) (lv_at hl 0 rfl) dL_law_1526 dL_law_1527 dL_law_1528 dL_law_1529 dL_law_1531 dL_law_1532 dL_law_1533 (by decide) ?_
    refine lv_goto (tgt := 2225) F.1 F.2.1 dL_law_1538 (by decide) ?_
    exact kk _ _ _ _ _ _ _ _ _ _ _ hD2 hq2 hS2 G (lv_sub hl [2, 3, 4, 5, 6, 7] rfl)
theorem my_L_takeBack : ad_myH yL_takeBack cL_takeBack 3 (some .int) hL_takeBack 2 := ⟨(ad_mt (List.mem_of_getElem? (i := 1077) (by decide +kernel)) (by decide +kernel)), ⟨by decide, by decide, by decide +kernel⟩, (ad_mt (List.mem_of_getElem? (i := 0) (by decide +kernel)) (by decide +kernel))⟩
set_option maxRecDepth 20000 in
theorem lc_takeBack {p : Program} {l : Launch} {e : Env} {R : Room} {s : State} {m : MethodId} {args : Array Value} {below : List Frame} {meth : Method} {c : Code} {H : Heap} {locs : List Loc} {cells slots : Nat} {Q : State → Prop} {ret : Option FieldType} {D : va_G} {K : Nat → ClassId} {z0 : Nat} {A : Nat → Prop} {ls : Array Slot} {b d0 m0 o1 o2 L n : Nat} {xs : Nat → Int32} {fs fm : List Value} {go : Nat → Int64} {gd : Nat → UInt64} {wD wM : va_W} {N M MH ME MS : Nat → Nat} {S : Sx} {xth i : Int} {nm : String} (hl0 : l.stackTraces = false) (F : ad_F p s m args meth c RL nm cL_law 9 ret D K z0 A) (B : LB s A b L xs) (hn : n < 512) (hD : DkI K N n S fs wD) (hM : MoI K M MH ME MS xth S fm wM) (hS : SxI n S) (hi : 0 ≤ i ∧ i + 4 ≤ L ∧ L ≤ 2048) (hR : 20 ≤ R.frames ∧ 1000 ≤ R.locals) (hC : cells + 4 ≤ R.cells ∧ slots + 1214 ≤ R.slots) (G : ad_G D A s.heap H locs (WL K d0 m0 o1 o2 fs fm go gd wD wM)) (hl : lv_has ls 9 (LV b d0 m0 o1 o2 i)) (kk : LK p l e R s m args below meth c cells slots Q D A K b d0 m0 o1 o2 n N M MH ME MS i) : W p l e R s m args below meth c H locs cells slots Q (F0 m 1541 ls []) := by
  refine lv_aload_n F.1 F.2.1 dL_law_1541 rfl (lv_at hl 4 rfl) ?_
  refine lv_aload_n F.1 F.2.1 dL_law_1542 rfl (lv_at hl 2 rfl) ?_
  refine la_c (As := [.ref d0, .ref o1]) (a := (an_takeBack S)) F G (w_takeBack l D K z0 d0 o1 fs wD go  (PRg K N n (an_takeBack S)) (PXg K N n (an_takeBack S)) (dk_takeBack l hl0 D K z0 N d0 hn hD hS  )) my_L_takeBack ms_L_213 (by decide) rfl rfl ⟨by omega, by omega⟩ hC (by simp) hl.1 dL_law_1543 (fun cm fs2 wD2 go2 H locs hc0 hcg hS2 hD2 G => ?_)
  refine lv_istore (lv' := (6, .int (iI ((an_takeBack S) cm).1)) :: LV b d0 m0 o1 o2 i) F.1 F.2.1 dL_law_1546 hl (by decide) rfl (fun ls hl => ?_)
  refine lv_aload_n F.1 F.2.1 dL_law_1548 rfl (lv_at hl 4 rfl) ?_
  refine la_m (As := []) (mkv := fun z => .int (iI z)) (a := (an_takeBack S)) F G (md_takeBack l D K z0 M MH ME MS m0 hM hS  ) my_X11_takeBack mv_L_215 rfl rfl rfl ⟨by omega, by omega⟩ ⟨by omega, by omega⟩ (Nat.le_of_ble_eq_true rfl) hl.1 dL_law_1549 (fun z fm2 wM2 H locs hq G => ?_)
  refine lv_istore (lv' := (7, .int (iI z)) :: (6, .int (iI ((an_takeBack S) cm).1)) :: LV b d0 m0 o1 o2 i) F.1 F.2.1 dL_law_1552 hl (by decide) rfl (fun ls hl => ?_)
  obtain ⟨hq1, hq2⟩ := hq cm
  refine la_t (tgt := 1582) F G hq2 hc0 ⟨by omega, by omega⟩ ⟨by omega, by omega⟩ hl.1 (lv_at hl 5 rfl) (lv_at hl 1 rfl) dL_law_1554 dL_law_1555 dL_law_1558 dL_law_1560 dL_law_1565 dL_law_1567 (by decide) (fun H locs _ G => ?_) (fun H locs hk G => ?_)
  · skip
    refine lv_goto (tgt := 2225) F.1 F.2.1 dL_law_1582 (by decide) ?_
    exact kk _ _ _ _ _ _ _ _ _ _ _ hD2 hq2 hS2 G (lv_sub hl [2, 3, 4, 5, 6, 7] rfl)
  · have hg := hcg hk
    rw [hq1 hk] at hg
    refine la_i (tgt := 1582) F G hg (lv_at hl 4 rfl) (lv_at hl 0 rfl) dL_law_1570 dL_law_1571 dL_law_1572 dL_law_1573 dL_law_1575 dL_law_1576 dL_law_1577 (by decide) ?_
    refine lv_goto (tgt := 2225) F.1 F.2.1 dL_law_1582 (by decide) ?_
    exact kk _ _ _ _ _ _ _ _ _ _ _ hD2 hq2 hS2 G (lv_sub hl [2, 3, 4, 5, 6, 7] rfl)
theorem my_L_word : ad_myH yL_word cL_word 5 (some .int) hL_word 4 := ⟨(ad_mt (List.mem_of_getElem? (i := 1084) (by decide +kernel)) (by decide +kernel)), ⟨by decide, by decide, by decide +kernel⟩, (ad_mt (List.mem_of_getElem? (i := 0) (by decide +kernel)) (by decide +kernel))⟩
set_option maxRecDepth 20000 in
theorem lc_word {p : Program} {l : Launch} {e : Env} {R : Room} {s : State} {m : MethodId} {args : Array Value} {below : List Frame} {meth : Method} {c : Code} {H : Heap} {locs : List Loc} {cells slots : Nat} {Q : State → Prop} {ret : Option FieldType} {D : va_G} {K : Nat → ClassId} {z0 : Nat} {A : Nat → Prop} {ls : Array Slot} {b d0 m0 o1 o2 L n : Nat} {xs : Nat → Int32} {fs fm : List Value} {go : Nat → Int64} {gd : Nat → UInt64} {wD wM : va_W} {N M MH ME MS : Nat → Nat} {S : Sx} {xth i : Int} {nm : String} (hl0 : l.stackTraces = false) (F : ad_F p s m args meth c RL nm cL_law 9 ret D K z0 A) (B : LB s A b L xs) (hn : n < 512) (hD : DkI K N n S fs wD) (hM : MoI K M MH ME MS xth S fm wM) (hS : SxI n S) (hi : 0 ≤ i ∧ i + 4 ≤ L ∧ L ≤ 2048) (hR : 20 ≤ R.frames ∧ 1000 ≤ R.locals) (hC : cells + 4 ≤ R.cells ∧ slots + 1214 ≤ R.slots) (G : ad_G D A s.heap H locs (WL K d0 m0 o1 o2 fs fm go gd wD wM)) (hl : lv_has ls 9 (LV b d0 m0 o1 o2 i)) (kk : LK p l e R s m args below meth c cells slots Q D A K b d0 m0 o1 o2 n N M MH ME MS i) : W p l e R s m args below meth c H locs cells slots Q (F0 m 1585 ls []) := by
  refine lv_aload_n F.1 F.2.1 dL_law_1585 rfl (lv_at hl 4 rfl) ?_
  refine la_x F G B (lv_at hl 5 rfl) (lv_at hl 0 rfl) (k := 1) ⟨by omega, by omega, by omega⟩ dL_law_1586 dL_law_1587 dL_law_1589 dL_law_1590 dL_law_1591 ?_
  refine la_x F G B (lv_at hl 5 rfl) (lv_at hl 0 rfl) (k := 2) ⟨by omega, by omega, by omega⟩ dL_law_1592 dL_law_1593 dL_law_1595 dL_law_1596 dL_law_1597 ?_
  refine lv_aload_n F.1 F.2.1 dL_law_1598 rfl (lv_at hl 2 rfl) ?_
  refine la_c (As := [.ref d0, .int (iI ((xs (i + 1).toNat).toInt)), .int (iI ((xs (i + 2).toNat).toInt)), .ref o1]) (a := (an_word S ((xs (i + 1).toNat).toInt) ((xs (i + 2).toNat).toInt))) F G (w_word l D K z0 d0 o1 fs wD go ((xs (i + 1).toNat).toInt) ((xs (i + 2).toNat).toInt) (PRg K N n (an_word S ((xs (i + 1).toNat).toInt) ((xs (i + 2).toNat).toInt))) (PXg K N n (an_word S ((xs (i + 1).toNat).toInt) ((xs (i + 2).toNat).toInt))) (dk_word l hl0 D K z0 N d0 hn hD hS ((xs (i + 1).toNat).toInt) ((xs (i + 2).toNat).toInt) (x32 _) (x32 _))) my_L_word ms_L_216 (by decide) rfl rfl ⟨by omega, by omega⟩ hC (by simp) hl.1 dL_law_1599 (fun cm fs2 wD2 go2 H locs hc0 hcg hS2 hD2 G => ?_)
  refine lv_istore (lv' := (6, .int (iI ((an_word S ((xs (i + 1).toNat).toInt) ((xs (i + 2).toNat).toInt)) cm).1)) :: LV b d0 m0 o1 o2 i) F.1 F.2.1 dL_law_1602 hl (by decide) rfl (fun ls hl => ?_)
  refine lv_aload_n F.1 F.2.1 dL_law_1604 rfl (lv_at hl 4 rfl) ?_
  refine la_x F G B (lv_at hl 6 rfl) (lv_at hl 1 rfl) (k := 1) ⟨by omega, by omega, by omega⟩ dL_law_1605 dL_law_1606 dL_law_1608 dL_law_1609 dL_law_1610 ?_
  refine la_x F G B (lv_at hl 6 rfl) (lv_at hl 1 rfl) (k := 2) ⟨by omega, by omega, by omega⟩ dL_law_1611 dL_law_1612 dL_law_1614 dL_law_1615 dL_law_1616 ?_
  refine la_m (As := [.int (iI ((xs (i + 1).toNat).toInt)), .int (iI ((xs (i + 2).toNat).toInt))]) (mkv := fun z => .int (iI z)) (a := (an_word S ((xs (i + 1).toNat).toInt) ((xs (i + 2).toNat).toInt))) F G (md_word l D K z0 M MH ME MS m0 hM hS ((xs (i + 1).toNat).toInt) ((xs (i + 2).toNat).toInt) (x32 _) (x32 _)) my_X11_word mv_L_218 rfl rfl rfl ⟨by omega, by omega⟩ ⟨by omega, by omega⟩ (Nat.le_of_ble_eq_true rfl) hl.1 dL_law_1617 (fun z fm2 wM2 H locs hq G => ?_)
  refine lv_istore (lv' := (7, .int (iI z)) :: (6, .int (iI ((an_word S ((xs (i + 1).toNat).toInt) ((xs (i + 2).toNat).toInt)) cm).1)) :: LV b d0 m0 o1 o2 i) F.1 F.2.1 dL_law_1620 hl (by decide) rfl (fun ls hl => ?_)
  obtain ⟨hq1, hq2⟩ := hq cm
  refine la_t (tgt := 1650) F G hq2 hc0 ⟨by omega, by omega⟩ ⟨by omega, by omega⟩ hl.1 (lv_at hl 5 rfl) (lv_at hl 1 rfl) dL_law_1622 dL_law_1623 dL_law_1626 dL_law_1628 dL_law_1633 dL_law_1635 (by decide) (fun H locs _ G => ?_) (fun H locs hk G => ?_)
  · skip
    refine lv_goto (tgt := 2225) F.1 F.2.1 dL_law_1650 (by decide) ?_
    exact kk _ _ _ _ _ _ _ _ _ _ _ hD2 hq2 hS2 G (lv_sub hl [2, 3, 4, 5, 6, 7] rfl)
  · have hg := hcg hk
    rw [hq1 hk] at hg
    refine la_i (tgt := 1650) F G hg (lv_at hl 4 rfl) (lv_at hl 0 rfl) dL_law_1638 dL_law_1639 dL_law_1640 dL_law_1641 dL_law_1643 dL_law_1644 dL_law_1645 (by decide) ?_
    refine lv_goto (tgt := 2225) F.1 F.2.1 dL_law_1650 (by decide) ?_
    exact kk _ _ _ _ _ _ _ _ _ _ _ hD2 hq2 hS2 G (lv_sub hl [2, 3, 4, 5, 6, 7] rfl)
