def rm_X6_init : Room := { frames := 2, cells := 2, slots := 1202, locals := 41 }
set_option maxHeartbeats 4000000 in
set_option maxRecDepth 100000 in
theorem c_X6_init (l : Launch) (D : va_G) (K : Nat → ClassId) (z0 : Nat) (h0 : Nat) : CT l D K z0 yX6_init cX6_init 1 none rm_X6_init [.ref h0] [(h0, .inr (6, [.null, .int (iI 0), .int (iI 0)]))] (fun v9 u9 => ∃ (t1 : Nat), ∃ (a1 : Nat), v9 = none ∧ u9 = [(h0, .inr (6, [.ref t1, .int (iI 0), .int (iI 0)])), (t1, .inr (7, [.ref a1, .int (iI 0)])), (a1, aI (K 2) 46 (fun _ => 0))]) := by
  refine CT.start RX6 "<init>" (by decide) rfl rfl (Nat.le_of_ble_eq_true rfl) ?_
  intro p9 e9 s9 m9 ag9 bl9 mt9 c9 A9 Q9 ls F G hR hl
  have hl : lv_has ls 1 [(0, .ref h0)] := hl
  refine lv_aload_n F.1 F.2.1 dX6_init_0 rfl (lv_at hl 0 rfl) ?_
  refine ad_obji F oi_X6_3 hl.1 (Nat.le_of_ble_eq_true rfl) (Nat.le_of_ble_eq_true rfl) dX6_init_1 ?_
  refine lv_aload_n F.1 F.2.1 dX6_init_4 rfl (lv_at hl 0 rfl) ?_
  refine ad_new F G nw_X6_9 (fs := [.null, .int (iI 0)]) (by decide) (Nat.le_of_ble_eq_true rfl) (Nat.le_of_ble_eq_true rfl) dX6_init_5 (fun q_1 H G => ?_)
  replace G := G.eq (ws' := [(h0, .inr (6, [.null, .int (iI 0), .int (iI 0)])), (q_1, .inr (7, [.null, .int (iI 0)]))]) rfl
  refine ad_wid (k := 1) (n := 2) rfl rfl ?_
  refine lv_dup F.1 F.2.1 dX6_init_8 rfl ?_
  refine ad_bipush F dX6_init_9 (by decide) ?_
  refine ad_callI (As := [.int (iI 46)]) (rest := [.ref q_1, .ref h0]) F G (c_X7_init l D K z0 q_1 46 (by omega)) my_X7_init mi_X6_11 (wr := [(h0, .inr (6, [.null, .int (iI 0), .int (iI 0)]))]) (isC := [1]) (isR := [0]) ⟨rfl, rfl, rfl, rfl, by decide⟩ rfl rfl ⟨Nat.le_of_ble_eq_true rfl, Nat.le_of_ble_eq_true rfl⟩ ⟨Nat.le_of_ble_eq_true rfl, Nat.le_of_ble_eq_true rfl⟩ (Nat.le_of_ble_eq_true rfl) hl.1 (cells9 := 2) (slots9 := 1202) ⟨rfl, rfl⟩ dX6_init_11 (fun v u H locs hw_2 G => ?_)
  obtain ⟨a1_3, rfl, rfl⟩ := hw_2
  replace G := G.perm (ws' := [(h0, .inr (6, [.null, .int (iI 0), .int (iI 0)])), (q_1, .inr (7, [.ref a1_3, .int (iI 0)])), (a1_3, aI (K 2) 46 (fun _ => 0))]) [0, 1, 2] rfl rfl
  refine W.eq (g2 := F0 m9 14 ls [.ref q_1, .ref h0]) rfl ?_
  refine ad_putF F G fl_X6_14 rfl 0 rfl rfl rfl (Nat.le_of_ble_eq_true rfl) (ws' := [(h0, .inr (6, [.ref q_1, .int (iI 0), .int (iI 0)])), (q_1, .inr (7, [.ref a1_3, .int (iI 0)])), (a1_3, aI (K 2) 46 (fun _ => 0))]) rfl dX6_init_14 (fun H locs G => ?_)
  exact ad_vreturn F G hR rfl (Nat.le_of_ble_eq_true rfl) (Nat.le_of_ble_eq_true rfl) ⟨q_1, a1_3, rfl, rfl⟩ dX6_init_17

def rm_X9_init : Room := { frames := 3, cells := 8, slots := 3620, locals := 61 }
set_option maxHeartbeats 4000000 in
set_option maxRecDepth 100000 in
theorem c_X9_init (l : Launch) (D : va_G) (K : Nat → ClassId) (z0 : Nat) (h0 : Nat) : CT l D K z0 yX9_init cX9_init 1 none rm_X9_init [.ref h0] [(h0, .inr (9, [.null, .null, .null, .int (iI 0), .int (iI 0), .int (iI 0), .int (iI 0)]))] (fun v9 u9 => ∃ (s1 : Nat), ∃ (t1 : Nat), ∃ (a1 : Nat), ∃ (s2 : Nat), ∃ (t2 : Nat), ∃ (a2 : Nat), ∃ (o1 : Nat), ∃ (oa1 : Nat), v9 = none ∧ u9 = [(h0, .inr (9, [.ref s1, .ref s2, .ref o1, .int (iI 0), .int (iI 0), .int (iI 0), .int (iI 0)])), (s1, .inr (6, [.ref t1, .int (iI 0), .int (iI 0)])), (t1, .inr (7, [.ref a1, .int (iI 0)])), (a1, aI (K 2) 46 (fun _ => 0)), (s2, .inr (6, [.ref t2, .int (iI 0), .int (iI 0)])), (t2, .inr (7, [.ref a2, .int (iI 0)])), (a2, aI (K 2) 46 (fun _ => 0)), (o1, .inr (7, [.ref oa1, .int (iI 0)])), (oa1, aI (K 2) 46 (fun _ => 0))]) := by
  refine CT.start RX9 "<init>" (by decide) rfl rfl (Nat.le_of_ble_eq_true rfl) ?_
  intro p9 e9 s9 m9 ag9 bl9 mt9 c9 A9 Q9 ls F G hR hl
  have hl : lv_has ls 1 [(0, .ref h0)] := hl
  refine lv_aload_n F.1 F.2.1 dX9_init_0 rfl (lv_at hl 0 rfl) ?_
  refine ad_obji F oi_X9_3 hl.1 (Nat.le_of_ble_eq_true rfl) (Nat.le_of_ble_eq_true rfl) dX9_init_1 ?_
  refine lv_aload_n F.1 F.2.1 dX9_init_4 rfl (lv_at hl 0 rfl) ?_
  refine ad_new F G nw_X9_9 (fs := [.null, .int (iI 0), .int (iI 0)]) (by decide) (Nat.le_of_ble_eq_true rfl) (Nat.le_of_ble_eq_true rfl) dX9_init_5 (fun q_1 H G => ?_)
  replace G := G.eq (ws' := [(h0, .inr (9, [.null, .null, .null, .int (iI 0), .int (iI 0), .int (iI 0), .int (iI 0)])), (q_1, .inr (6, [.null, .int (iI 0), .int (iI 0)]))]) rfl
  refine ad_wid (k := 1) (n := 3) rfl rfl ?_
  refine lv_dup F.1 F.2.1 dX9_init_8 rfl ?_
  refine ad_callIN (As := []) (rest := [.ref q_1, .ref h0]) F G (c_X6_init l D K z0 q_1 ) my_X6_init mi_X9_11 (wr := [(h0, .inr (9, [.null, .null, .null, .int (iI 0), .int (iI 0), .int (iI 0), .int (iI 0)]))]) (isC := [1]) (isR := [0]) ⟨rfl, rfl, rfl, rfl, by decide⟩ rfl rfl ⟨Nat.le_of_ble_eq_true rfl, Nat.le_of_ble_eq_true rfl⟩ ⟨Nat.le_of_ble_eq_true rfl, Nat.le_of_ble_eq_true rfl⟩ (Nat.le_of_ble_eq_true rfl) hl.1 (cells9 := 3) (slots9 := 1205) ⟨rfl, rfl⟩ dX9_init_9 (fun v u H locs hw_2 G => ?_)
  obtain ⟨t1_3, a1_4, rfl, rfl⟩ := hw_2
  replace G := G.perm (ws' := [(h0, .inr (9, [.null, .null, .null, .int (iI 0), .int (iI 0), .int (iI 0), .int (iI 0)])), (q_1, .inr (6, [.ref t1_3, .int (iI 0), .int (iI 0)])), (t1_3, .inr (7, [.ref a1_4, .int (iI 0)])), (a1_4, aI (K 2) 46 (fun _ => 0))]) [0, 1, 2, 3] rfl rfl
  refine W.eq (g2 := F0 m9 12 ls [.ref q_1, .ref h0]) rfl ?_
  refine ad_putF F G fl_X9_12 rfl 0 rfl rfl rfl (Nat.le_of_ble_eq_true rfl) (ws' := [(h0, .inr (9, [.ref q_1, .null, .null, .int (iI 0), .int (iI 0), .int (iI 0), .int (iI 0)])), (q_1, .inr (6, [.ref t1_3, .int (iI 0), .int (iI 0)])), (t1_3, .inr (7, [.ref a1_4, .int (iI 0)])), (a1_4, aI (K 2) 46 (fun _ => 0))]) rfl dX9_init_12 (fun H locs G => ?_)
  refine lv_aload_n F.1 F.2.1 dX9_init_15 rfl (lv_at hl 0 rfl) ?_
  refine ad_new F G nw_X9_9 (fs := [.null, .int (iI 0), .int (iI 0)]) (by decide) (Nat.le_of_ble_eq_true rfl) (Nat.le_of_ble_eq_true rfl) dX9_init_16 (fun q_5 H G => ?_)
  replace G := G.eq (ws' := [(h0, .inr (9, [.ref q_1, .null, .null, .int (iI 0), .int (iI 0), .int (iI 0), .int (iI 0)])), (q_1, .inr (6, [.ref t1_3, .int (iI 0), .int (iI 0)])), (t1_3, .inr (7, [.ref a1_4, .int (iI 0)])), (a1_4, aI (K 2) 46 (fun _ => 0)), (q_5, .inr (6, [.null, .int (iI 0), .int (iI 0)]))]) rfl
  refine ad_wid (k := 4) (n := 1208) rfl rfl ?_
  refine lv_dup F.1 F.2.1 dX9_init_19 rfl ?_
  refine ad_callIN (As := []) (rest := [.ref q_5, .ref h0]) F G (c_X6_init l D K z0 q_5 ) my_X6_init mi_X9_11 (wr := [(h0, .inr (9, [.ref q_1, .null, .null, .int (iI 0), .int (iI 0), .int (iI 0), .int (iI 0)])), (q_1, .inr (6, [.ref t1_3, .int (iI 0), .int (iI 0)])), (t1_3, .inr (7, [.ref a1_4, .int (iI 0)])), (a1_4, aI (K 2) 46 (fun _ => 0))]) (isC := [4]) (isR := [0, 1, 2, 3]) ⟨rfl, rfl, rfl, rfl, by decide⟩ rfl rfl ⟨Nat.le_of_ble_eq_true rfl, Nat.le_of_ble_eq_true rfl⟩ ⟨Nat.le_of_ble_eq_true rfl, Nat.le_of_ble_eq_true rfl⟩ (Nat.le_of_ble_eq_true rfl) hl.1 (cells9 := 6) (slots9 := 2410) ⟨rfl, rfl⟩ dX9_init_20 (fun v u H locs hw_6 G => ?_)
  obtain ⟨t1_7, a1_8, rfl, rfl⟩ := hw_6
  replace G := G.perm (ws' := [(h0, .inr (9, [.ref q_1, .null, .null, .int (iI 0), .int (iI 0), .int (iI 0), .int (iI 0)])), (q_1, .inr (6, [.ref t1_3, .int (iI 0), .int (iI 0)])), (t1_3, .inr (7, [.ref a1_4, .int (iI 0)])), (a1_4, aI (K 2) 46 (fun _ => 0)), (q_5, .inr (6, [.ref t1_7, .int (iI 0), .int (iI 0)])), (t1_7, .inr (7, [.ref a1_8, .int (iI 0)])), (a1_8, aI (K 2) 46 (fun _ => 0))]) [0, 1, 2, 3, 4, 5, 6] rfl rfl
  refine W.eq (g2 := F0 m9 23 ls [.ref q_5, .ref h0]) rfl ?_
  refine ad_putF F G fl_X9_18 rfl 0 rfl rfl rfl (Nat.le_of_ble_eq_true rfl) (ws' := [(h0, .inr (9, [.ref q_1, .ref q_5, .null, .int (iI 0), .int (iI 0), .int (iI 0), .int (iI 0)])), (q_1, .inr (6, [.ref t1_3, .int (iI 0), .int (iI 0)])), (t1_3, .inr (7, [.ref a1_4, .int (iI 0)])), (a1_4, aI (K 2) 46 (fun _ => 0)), (q_5, .inr (6, [.ref t1_7, .int (iI 0), .int (iI 0)])), (t1_7, .inr (7, [.ref a1_8, .int (iI 0)])), (a1_8, aI (K 2) 46 (fun _ => 0))]) rfl dX9_init_23 (fun H locs G => ?_)
  refine lv_aload_n F.1 F.2.1 dX9_init_26 rfl (lv_at hl 0 rfl) ?_
  refine ad_new F G nw_X9_21 (fs := [.null, .int (iI 0)]) (by decide) (Nat.le_of_ble_eq_true rfl) (Nat.le_of_ble_eq_true rfl) dX9_init_27 (fun q_9 H G => ?_)
  replace G := G.eq (ws' := [(h0, .inr (9, [.ref q_1, .ref q_5, .null, .int (iI 0), .int (iI 0), .int (iI 0), .int (iI 0)])), (q_1, .inr (6, [.ref t1_3, .int (iI 0), .int (iI 0)])), (t1_3, .inr (7, [.ref a1_4, .int (iI 0)])), (a1_4, aI (K 2) 46 (fun _ => 0)), (q_5, .inr (6, [.ref t1_7, .int (iI 0), .int (iI 0)])), (t1_7, .inr (7, [.ref a1_8, .int (iI 0)])), (a1_8, aI (K 2) 46 (fun _ => 0)), (q_9, .inr (7, [.null, .int (iI 0)]))]) rfl
  refine ad_wid (k := 7) (n := 2412) rfl rfl ?_
  refine lv_dup F.1 F.2.1 dX9_init_30 rfl ?_
  refine ad_bipush F dX9_init_31 (by decide) ?_
  refine ad_callI (As := [.int (iI 46)]) (rest := [.ref q_9, .ref h0]) F G (c_X7_init l D K z0 q_9 46 (by omega)) my_X7_init mi_X9_23 (wr := [(h0, .inr (9, [.ref q_1, .ref q_5, .null, .int (iI 0), .int (iI 0), .int (iI 0), .int (iI 0)])), (q_1, .inr (6, [.ref t1_3, .int (iI 0), .int (iI 0)])), (t1_3, .inr (7, [.ref a1_4, .int (iI 0)])), (a1_4, aI (K 2) 46 (fun _ => 0)), (q_5, .inr (6, [.ref t1_7, .int (iI 0), .int (iI 0)])), (t1_7, .inr (7, [.ref a1_8, .int (iI 0)])), (a1_8, aI (K 2) 46 (fun _ => 0))]) (isC := [7]) (isR := [0, 1, 2, 3, 4, 5, 6]) ⟨rfl, rfl, rfl, rfl, by decide⟩ rfl rfl ⟨Nat.le_of_ble_eq_true rfl, Nat.le_of_ble_eq_true rfl⟩ ⟨Nat.le_of_ble_eq_true rfl, Nat.le_of_ble_eq_true rfl⟩ (Nat.le_of_ble_eq_true rfl) hl.1 (cells9 := 8) (slots9 := 3612) ⟨rfl, rfl⟩ dX9_init_33 (fun v u H locs hw_10 G => ?_)
  obtain ⟨a1_11, rfl, rfl⟩ := hw_10
  replace G := G.perm (ws' := [(h0, .inr (9, [.ref q_1, .ref q_5, .null, .int (iI 0), .int (iI 0), .int (iI 0), .int (iI 0)])), (q_1, .inr (6, [.ref t1_3, .int (iI 0), .int (iI 0)])), (t1_3, .inr (7, [.ref a1_4, .int (iI 0)])), (a1_4, aI (K 2) 46 (fun _ => 0)), (q_5, .inr (6, [.ref t1_7, .int (iI 0), .int (iI 0)])), (t1_7, .inr (7, [.ref a1_8, .int (iI 0)])), (a1_8, aI (K 2) 46 (fun _ => 0)), (q_9, .inr (7, [.ref a1_11, .int (iI 0)])), (a1_11, aI (K 2) 46 (fun _ => 0))]) [0, 1, 2, 3, 4, 5, 6, 7, 8] rfl rfl
  refine W.eq (g2 := F0 m9 36 ls [.ref q_9, .ref h0]) rfl ?_
  refine ad_putF F G fl_X9_26 rfl 0 rfl rfl rfl (Nat.le_of_ble_eq_true rfl) (ws' := [(h0, .inr (9, [.ref q_1, .ref q_5, .ref q_9, .int (iI 0), .int (iI 0), .int (iI 0), .int (iI 0)])), (q_1, .inr (6, [.ref t1_3, .int (iI 0), .int (iI 0)])), (t1_3, .inr (7, [.ref a1_4, .int (iI 0)])), (a1_4, aI (K 2) 46 (fun _ => 0)), (q_5, .inr (6, [.ref t1_7, .int (iI 0), .int (iI 0)])), (t1_7, .inr (7, [.ref a1_8, .int (iI 0)])), (a1_8, aI (K 2) 46 (fun _ => 0)), (q_9, .inr (7, [.ref a1_11, .int (iI 0)])), (a1_11, aI (K 2) 46 (fun _ => 0))]) rfl dX9_init_36 (fun H locs G => ?_)
  exact ad_vreturn F G hR rfl (Nat.le_of_ble_eq_true rfl) (Nat.le_of_ble_eq_true rfl) ⟨q_1, t1_3, a1_4, q_5, t1_7, a1_8, q_9, a1_11, rfl, rfl⟩ dX9_init_39

def rm_X9_takeWord : Room := { frames := 3, cells := 0, slots := 0, locals := 57 }
set_option maxHeartbeats 4000000 in
set_option maxRecDepth 100000 in
theorem c_X9_takeWord (l : Launch) (D : va_G) (K : Nat → ClassId) (z0 : Nat) (tt : Nat) (sq : Nat) (bq : Nat) (oq : Nat) (mk : Int) (dd : Int) (mr : Int) (er : Int) (oa : Nat) (on : Int) (og : Nat → Int) (h1 : Nat) (a : Nat) (L : Nat) (g : Nat → Int) (w : List Int) (dn : Int) (hT : Tx g w) (hC : Chs w) (hL : w.length ≤ L ∧ L ≤ 65536) (h46 : w.length ≤ 46) : CT l D K z0 yX9_takeWord cX9_takeWord 3 none rm_X9_takeWord [.ref tt, .ref h1, .int (iI dn)] [(tt, .inr (9, [.ref sq, .ref bq, .ref oq, .int (iI mk), .int (iI dd), .int (iI mr), .int (iI er)])), (oq, .inr (7, [.ref oa, .int (iI on)])), (oa, aI (K 2) 46 og), (h1, .inr (7, [.ref a, .int (iI (w.length : Int))])), (a, aI (K 2) L g)] (fun v9 u9 => ∃ (g2 : Nat → Int), ∃ (u2 : List Int), v9 = none ∧ (u2 = w) ∧ (Tx g2 u2) ∧ u9 = [(tt, .inr (9, [.ref sq, .ref bq, .ref oq, .int (iI 0), .int (iI dn), .int (iI (-1)), .int (iI (-1))])), (oq, .inr (7, [.ref oa, .int (iI (u2.length : Int))])), (oa, aI (K 2) 46 g2), (h1, .inr (7, [.ref a, .int (iI (w.length : Int))])), (a, aI (K 2) L g)]) := by
  refine CT.start RX9 "takeWord" (by decide) rfl rfl (Nat.le_of_ble_eq_true rfl) ?_
  intro p9 e9 s9 m9 ag9 bl9 mt9 c9 A9 Q9 ls F G hR hl
  have hl : lv_has ls 3 [(0, .ref tt), (1, .ref h1), (2, .int (iI dn))] := hl
  refine lv_aload_n F.1 F.2.1 dX9_takeWord_0 rfl (lv_at hl 0 rfl) ?_
  refine ad_get F G fl_X9_26 0 rfl rfl dX9_takeWord_1 ?_
  refine ad_callV (As := []) (rest := []) F G (c_X7_empty l D K z0 oq oa on ) my_X7_empty mv_X9_71 (wr := [(tt, .inr (9, [.ref sq, .ref bq, .ref oq, .int (iI mk), .int (iI dd), .int (iI mr), .int (iI er)])), (oa, aI (K 2) 46 og), (h1, .inr (7, [.ref a, .int (iI (w.length : Int))])), (a, aI (K 2) L g)]) (isC := [1]) (isR := [0, 2, 3, 4]) ⟨rfl, rfl, rfl, rfl, by decide⟩ 7 0 rfl rfl rfl rfl ⟨Nat.le_of_ble_eq_true rfl, Nat.le_of_ble_eq_true rfl⟩ ⟨Nat.le_of_ble_eq_true rfl, Nat.le_of_ble_eq_true rfl⟩ (Nat.le_of_ble_eq_true rfl) hl.1 (cells9 := 0) (slots9 := 0) ⟨rfl, rfl⟩ dX9_takeWord_4 (fun v u H locs hw_1 G => ?_)
  obtain ⟨rfl, rfl⟩ := hw_1
  replace G := G.perm (ws' := [(tt, .inr (9, [.ref sq, .ref bq, .ref oq, .int (iI mk), .int (iI dd), .int (iI mr), .int (iI er)])), (oq, .inr (7, [.ref oa, .int (iI 0)])), (oa, aI (K 2) 46 og), (h1, .inr (7, [.ref a, .int (iI (w.length : Int))])), (a, aI (K 2) L g)]) [0, 4, 1, 2, 3] rfl rfl
  refine W.eq (g2 := F0 m9 7 ls []) rfl ?_
  refine lv_aload_n F.1 F.2.1 dX9_takeWord_7 rfl (lv_at hl 0 rfl) ?_
  refine ad_get F G fl_X9_26 0 rfl rfl dX9_takeWord_8 ?_
  refine lv_aload_n F.1 F.2.1 dX9_takeWord_11 rfl (lv_at hl 1 rfl) ?_
  refine ad_iconst F dX9_takeWord_12 ?_
  refine lv_aload_n F.1 F.2.1 dX9_takeWord_13 rfl (lv_at hl 1 rfl) ?_
  refine ad_callV (As := []) (rest := [.int (iI 0), .ref h1, .ref oq]) F G (c_X7_size l D K z0 h1 a (w.length : Int) ) my_X7_size mv_X9_74 (wr := [(tt, .inr (9, [.ref sq, .ref bq, .ref oq, .int (iI mk), .int (iI dd), .int (iI mr), .int (iI er)])), (oq, .inr (7, [.ref oa, .int (iI 0)])), (oa, aI (K 2) 46 og), (a, aI (K 2) L g)]) (isC := [3]) (isR := [0, 1, 2, 4]) ⟨rfl, rfl, rfl, rfl, by decide⟩ 7 0 rfl rfl rfl rfl ⟨Nat.le_of_ble_eq_true rfl, Nat.le_of_ble_eq_true rfl⟩ ⟨Nat.le_of_ble_eq_true rfl, Nat.le_of_ble_eq_true rfl⟩ (Nat.le_of_ble_eq_true rfl) hl.1 (cells9 := 0) (slots9 := 0) ⟨rfl, rfl⟩ dX9_takeWord_14 (fun v u H locs hw_2 G => ?_)
  obtain ⟨rfl, rfl⟩ := hw_2
  replace G := G.perm (ws' := [(tt, .inr (9, [.ref sq, .ref bq, .ref oq, .int (iI mk), .int (iI dd), .int (iI mr), .int (iI er)])), (oq, .inr (7, [.ref oa, .int (iI 0)])), (oa, aI (K 2) 46 og), (h1, .inr (7, [.ref a, .int (iI (w.length : Int))])), (a, aI (K 2) L g)]) [0, 1, 2, 4, 3] rfl rfl
  refine W.eq (g2 := F0 m9 17 ls [.int (iI (w.length : Int)), .int (iI 0), .ref h1, .ref oq]) rfl ?_
  refine ad_callV (As := [.ref h1, .int (iI 0), .int (iI (w.length : Int))]) (rest := []) F G (c_X7_addPart l D K z0 oq oa 46 og ([] : List Int) h1 a L g w 0 (w.length : Int) Tx_nil hT hC hL (by omega) (by simp only [List.length_nil]; omega)) my_X7_addPart mv_X9_78 (wr := [(tt, .inr (9, [.ref sq, .ref bq, .ref oq, .int (iI mk), .int (iI dd), .int (iI mr), .int (iI er)]))]) (isC := [1, 2, 3, 4]) (isR := [0]) ⟨rfl, rfl, rfl, rfl, by decide⟩ 7 0 rfl rfl rfl rfl ⟨Nat.le_of_ble_eq_true rfl, Nat.le_of_ble_eq_true rfl⟩ ⟨Nat.le_of_ble_eq_true rfl, Nat.le_of_ble_eq_true rfl⟩ (Nat.le_of_ble_eq_true rfl) hl.1 (cells9 := 0) (slots9 := 0) ⟨rfl, rfl⟩ dX9_takeWord_17 (fun v u H locs hw_3 G => ?_)
  obtain ⟨g2_4, w2_5, rfl, hc_6, hc_7, rfl⟩ := hw_3
  replace G := G.perm (ws' := [(tt, .inr (9, [.ref sq, .ref bq, .ref oq, .int (iI mk), .int (iI dd), .int (iI mr), .int (iI er)])), (oq, .inr (7, [.ref oa, .int (iI (w2_5.length : Int))])), (oa, aI (K 2) 46 g2_4), (h1, .inr (7, [.ref a, .int (iI (w.length : Int))])), (a, aI (K 2) L g)]) [0, 1, 2, 3, 4] rfl rfl
  refine W.eq (g2 := F0 m9 20 ls []) rfl ?_
  refine lv_aload_n F.1 F.2.1 dX9_takeWord_20 rfl (lv_at hl 0 rfl) ?_
  refine ad_iconst F dX9_takeWord_21 ?_
  refine ad_put F G fl_X9_55 0 rfl rfl rfl (Nat.le_of_ble_eq_true rfl) (ws' := [(tt, .inr (9, [.ref sq, .ref bq, .ref oq, .int (iI 0), .int (iI dd), .int (iI mr), .int (iI er)])), (oq, .inr (7, [.ref oa, .int (iI (w2_5.length : Int))])), (oa, aI (K 2) 46 g2_4), (h1, .inr (7, [.ref a, .int (iI (w.length : Int))])), (a, aI (K 2) L g)]) rfl dX9_takeWord_22 (fun H locs G => ?_)
  refine lv_aload_n F.1 F.2.1 dX9_takeWord_25 rfl (lv_at hl 0 rfl) ?_
  refine lv_iload_n F.1 F.2.1 dX9_takeWord_26 rfl (lv_at hl 2 rfl) ?_
  refine ad_put F G fl_X9_82 0 rfl rfl rfl (Nat.le_of_ble_eq_true rfl) (ws' := [(tt, .inr (9, [.ref sq, .ref bq, .ref oq, .int (iI 0), .int (iI dn), .int (iI mr), .int (iI er)])), (oq, .inr (7, [.ref oa, .int (iI (w2_5.length : Int))])), (oa, aI (K 2) 46 g2_4), (h1, .inr (7, [.ref a, .int (iI (w.length : Int))])), (a, aI (K 2) L g)]) rfl dX9_takeWord_27 (fun H locs G => ?_)
  refine lv_aload_n F.1 F.2.1 dX9_takeWord_30 rfl (lv_at hl 0 rfl) ?_
  refine ad_iconst F dX9_takeWord_31 ?_
  refine ad_put F G fl_X9_66 0 rfl rfl rfl (Nat.le_of_ble_eq_true rfl) (ws' := [(tt, .inr (9, [.ref sq, .ref bq, .ref oq, .int (iI 0), .int (iI dn), .int (iI (-1)), .int (iI er)])), (oq, .inr (7, [.ref oa, .int (iI (w2_5.length : Int))])), (oa, aI (K 2) 46 g2_4), (h1, .inr (7, [.ref a, .int (iI (w.length : Int))])), (a, aI (K 2) L g)]) rfl dX9_takeWord_32 (fun H locs G => ?_)
  refine lv_aload_n F.1 F.2.1 dX9_takeWord_35 rfl (lv_at hl 0 rfl) ?_
  refine ad_iconst F dX9_takeWord_36 ?_
  refine ad_put F G fl_X9_70 0 rfl rfl rfl (Nat.le_of_ble_eq_true rfl) (ws' := [(tt, .inr (9, [.ref sq, .ref bq, .ref oq, .int (iI 0), .int (iI dn), .int (iI (-1)), .int (iI (-1))])), (oq, .inr (7, [.ref oa, .int (iI (w2_5.length : Int))])), (oa, aI (K 2) 46 g2_4), (h1, .inr (7, [.ref a, .int (iI (w.length : Int))])), (a, aI (K 2) L g)]) rfl dX9_takeWord_37 (fun H locs G => ?_)
  exact ad_vreturn F G hR rfl (Nat.le_of_ble_eq_true rfl) (Nat.le_of_ble_eq_true rfl) ⟨g2_4, w2_5, rfl, (by rw [hc_6, List.nil_append, sl_all]), hc_7, rfl⟩ dX9_takeWord_40

def rm_X9_takeSpelled : Room := { frames := 4, cells := 0, slots := 0, locals := 79 }
set_option maxHeartbeats 4000000 in
set_option maxRecDepth 100000 in
theorem c_X9_takeSpelled (l : Launch) (D : va_G) (K : Nat → ClassId) (z0 : Nat) (tt : Nat) (sq : Nat) (bq : Nat) (oq : Nat) (mk : Int) (dd : Int) (mr : Int) (er : Int) (stq : Nat) (sta : Nat) (sm : Int) (se : Int) (sg : Nat → Int) (tw : List Int) (oa : Nat) (on : Int) (og : Nat → Int) (hb : Nat) (ak : Nat) (ap : Nat) (ac : Nat) (ash : Nat) (alo : Nat) (apc : Nat) (aps : Nat) (apl : Nat) (lc : Option Nat) (gk : Nat → Int) (gp : Nat → Int) (gc : Nat → Int) (gs : Nat → Int64) (gl : Nat → Int64) (rs : List Rl) (np : Int) (md : Int) (th : Int) (nc : Int) (hB : BRep gk gp gc gs gl rs) (hW : RW rs) (hT : Tx sg tw) (hC : Chs tw) (h46 : tw.length ≤ 46) (hm : -1 ≤ sm ∧ sm < rs.length) (he : -1 ≤ se ∧ se < rs.length) : CT l D K z0 yX9_takeSpelled cX9_takeSpelled 2 none rm_X9_takeSpelled [.ref tt, .ref hb] [(tt, .inr (9, [.ref sq, .ref bq, .ref oq, .int (iI mk), .int (iI dd), .int (iI mr), .int (iI er)])), (sq, .inr (6, [.ref stq, .int (iI sm), .int (iI se)])), (stq, .inr (7, [.ref sta, .int (iI (tw.length : Int))])), (sta, aI (K 2) 46 sg), (oq, .inr (7, [.ref oa, .int (iI on)])), (oa, aI (K 2) 46 og), (hb, .inr (0, [.ref ak, .ref ap, .ref ac, .ref ash, .ref alo, .int (iI (rs.length : Int)), .ref apc, .ref aps, .ref apl, .int (iI np), .int (iI md), .int (iI th), va_rf lc, .int (iI nc)])), (ak, aI (K 0) 24 gk)] (fun v9 u9 => ∃ (g2 : Nat → Int), ∃ (u2 : List Int), v9 = none ∧ (u2 = tw) ∧ (Tx g2 u2) ∧ u9 = [(tt, .inr (9, [.ref sq, .ref bq, .ref oq, .int (iI 0), .int (iI (ded rs sm se)), .int (iI sm), .int (iI se)])), (sq, .inr (6, [.ref stq, .int (iI sm), .int (iI se)])), (stq, .inr (7, [.ref sta, .int (iI (tw.length : Int))])), (sta, aI (K 2) 46 sg), (oq, .inr (7, [.ref oa, .int (iI (u2.length : Int))])), (oa, aI (K 2) 46 g2), (hb, .inr (0, [.ref ak, .ref ap, .ref ac, .ref ash, .ref alo, .int (iI (rs.length : Int)), .ref apc, .ref aps, .ref apl, .int (iI np), .int (iI md), .int (iI th), va_rf lc, .int (iI nc)])), (ak, aI (K 0) 24 gk)]) := by
  refine CT.start RX9 "takeSpelled" (by decide) rfl rfl (Nat.le_of_ble_eq_true rfl) ?_
  intro p9 e9 s9 m9 ag9 bl9 mt9 c9 A9 Q9 ls F G hR hl
  have hl : lv_has ls 2 [(0, .ref tt), (1, .ref hb)] := hl
  have hn := hW.1
  refine lv_aload_n F.1 F.2.1 dX9_takeSpelled_0 rfl (lv_at hl 0 rfl) ?_
  refine lv_aload_n F.1 F.2.1 dX9_takeSpelled_1 rfl (lv_at hl 0 rfl) ?_
  refine ad_get F G fl_X9_12 0 rfl rfl dX9_takeSpelled_2 ?_
  refine ad_get F G fl_X9_44 1 rfl rfl dX9_takeSpelled_5 ?_
  refine lv_aload_n F.1 F.2.1 dX9_takeSpelled_8 rfl (lv_at hl 0 rfl) ?_
  refine ad_get F G fl_X9_12 0 rfl rfl dX9_takeSpelled_9 ?_
  refine lv_aload_n F.1 F.2.1 dX9_takeSpelled_12 rfl (lv_at hl 1 rfl) ?_
  refine ad_callV (As := [.ref hb]) (rest := [.ref stq, .ref tt]) F G (c_X6_deed l D K z0 sq stq sm se hb ak ap ac ash alo apc aps apl lc gk gp gc gs gl rs np md th nc hB hW hm he) my_X6_deed mv_X9_59 (wr := [(tt, .inr (9, [.ref sq, .ref bq, .ref oq, .int (iI mk), .int (iI dd), .int (iI mr), .int (iI er)])), (stq, .inr (7, [.ref sta, .int (iI (tw.length : Int))])), (sta, aI (K 2) 46 sg), (oq, .inr (7, [.ref oa, .int (iI on)])), (oa, aI (K 2) 46 og)]) (isC := [1, 6, 7]) (isR := [0, 2, 3, 4, 5]) ⟨rfl, rfl, rfl, rfl, by decide⟩ 6 0 rfl rfl rfl rfl ⟨Nat.le_of_ble_eq_true rfl, Nat.le_of_ble_eq_true rfl⟩ ⟨Nat.le_of_ble_eq_true rfl, Nat.le_of_ble_eq_true rfl⟩ (Nat.le_of_ble_eq_true rfl) hl.1 (cells9 := 0) (slots9 := 0) ⟨rfl, rfl⟩ dX9_takeSpelled_13 (fun v u H locs hw_1 G => ?_)
  obtain ⟨rfl, rfl⟩ := hw_1
  replace G := G.perm (ws' := [(tt, .inr (9, [.ref sq, .ref bq, .ref oq, .int (iI mk), .int (iI dd), .int (iI mr), .int (iI er)])), (sq, .inr (6, [.ref stq, .int (iI sm), .int (iI se)])), (stq, .inr (7, [.ref sta, .int (iI (tw.length : Int))])), (sta, aI (K 2) 46 sg), (oq, .inr (7, [.ref oa, .int (iI on)])), (oa, aI (K 2) 46 og), (hb, .inr (0, [.ref ak, .ref ap, .ref ac, .ref ash, .ref alo, .int (iI (rs.length : Int)), .ref apc, .ref aps, .ref apl, .int (iI np), .int (iI md), .int (iI th), va_rf lc, .int (iI nc)])), (ak, aI (K 0) 24 gk)]) [0, 5, 1, 2, 3, 4, 6, 7] rfl rfl
  refine W.eq (g2 := F0 m9 16 ls [.int (iI (ded rs sm se)), .ref stq, .ref tt]) rfl ?_
  refine ad_callV (As := [.ref stq, .int (iI (ded rs sm se))]) (rest := []) F G (c_X9_takeWord l D K z0 tt sq bq oq mk dd mr er oa on og stq sta 46 sg tw (ded rs sm se) hT hC (by omega) h46) my_X9_takeWord mv_X9_51 (wr := [(sq, .inr (6, [.ref stq, .int (iI sm), .int (iI se)])), (hb, .inr (0, [.ref ak, .ref ap, .ref ac, .ref ash, .ref alo, .int (iI (rs.length : Int)), .ref apc, .ref aps, .ref apl, .int (iI np), .int (iI md), .int (iI th), va_rf lc, .int (iI nc)])), (ak, aI (K 0) 24 gk)]) (isC := [0, 4, 5, 2, 3]) (isR := [1, 6, 7]) ⟨rfl, rfl, rfl, rfl, by decide⟩ 9 0 rfl rfl rfl rfl ⟨Nat.le_of_ble_eq_true rfl, Nat.le_of_ble_eq_true rfl⟩ ⟨Nat.le_of_ble_eq_true rfl, Nat.le_of_ble_eq_true rfl⟩ (Nat.le_of_ble_eq_true rfl) hl.1 (cells9 := 0) (slots9 := 0) ⟨rfl, rfl⟩ dX9_takeSpelled_16 (fun v u H locs hw_2 G => ?_)
  obtain ⟨g2_3, u2_4, rfl, hc_5, hc_6, rfl⟩ := hw_2
  replace G := G.perm (ws' := [(tt, .inr (9, [.ref sq, .ref bq, .ref oq, .int (iI 0), .int (iI (ded rs sm se)), .int (iI (-1)), .int (iI (-1))])), (sq, .inr (6, [.ref stq, .int (iI sm), .int (iI se)])), (stq, .inr (7, [.ref sta, .int (iI (tw.length : Int))])), (sta, aI (K 2) 46 sg), (oq, .inr (7, [.ref oa, .int (iI (u2_4.length : Int))])), (oa, aI (K 2) 46 g2_3), (hb, .inr (0, [.ref ak, .ref ap, .ref ac, .ref ash, .ref alo, .int (iI (rs.length : Int)), .ref apc, .ref aps, .ref apl, .int (iI np), .int (iI md), .int (iI th), va_rf lc, .int (iI nc)])), (ak, aI (K 0) 24 gk)]) [3, 0, 6, 7, 4, 5, 1, 2] rfl rfl
  refine W.eq (g2 := F0 m9 19 ls []) rfl ?_
  refine lv_aload_n F.1 F.2.1 dX9_takeSpelled_19 rfl (lv_at hl 0 rfl) ?_
  refine lv_aload_n F.1 F.2.1 dX9_takeSpelled_20 rfl (lv_at hl 0 rfl) ?_
  refine ad_get F G fl_X9_12 0 rfl rfl dX9_takeSpelled_21 ?_
  refine ad_get F G fl_X9_63 1 rfl rfl dX9_takeSpelled_24 ?_
  refine ad_put F G fl_X9_66 0 rfl rfl rfl (Nat.le_of_ble_eq_true rfl) (ws' := [(tt, .inr (9, [.ref sq, .ref bq, .ref oq, .int (iI 0), .int (iI (ded rs sm se)), .int (iI sm), .int (iI (-1))])), (sq, .inr (6, [.ref stq, .int (iI sm), .int (iI se)])), (stq, .inr (7, [.ref sta, .int (iI (tw.length : Int))])), (sta, aI (K 2) 46 sg), (oq, .inr (7, [.ref oa, .int (iI (u2_4.length : Int))])), (oa, aI (K 2) 46 g2_3), (hb, .inr (0, [.ref ak, .ref ap, .ref ac, .ref ash, .ref alo, .int (iI (rs.length : Int)), .ref apc, .ref aps, .ref apl, .int (iI np), .int (iI md), .int (iI th), va_rf lc, .int (iI nc)])), (ak, aI (K 0) 24 gk)]) rfl dX9_takeSpelled_27 (fun H locs G => ?_)
  refine lv_aload_n F.1 F.2.1 dX9_takeSpelled_30 rfl (lv_at hl 0 rfl) ?_
  refine lv_aload_n F.1 F.2.1 dX9_takeSpelled_31 rfl (lv_at hl 0 rfl) ?_
  refine ad_get F G fl_X9_12 0 rfl rfl dX9_takeSpelled_32 ?_
  refine ad_get F G fl_X9_67 1 rfl rfl dX9_takeSpelled_35 ?_
  refine ad_put F G fl_X9_70 0 rfl rfl rfl (Nat.le_of_ble_eq_true rfl) (ws' := [(tt, .inr (9, [.ref sq, .ref bq, .ref oq, .int (iI 0), .int (iI (ded rs sm se)), .int (iI sm), .int (iI se)])), (sq, .inr (6, [.ref stq, .int (iI sm), .int (iI se)])), (stq, .inr (7, [.ref sta, .int (iI (tw.length : Int))])), (sta, aI (K 2) 46 sg), (oq, .inr (7, [.ref oa, .int (iI (u2_4.length : Int))])), (oa, aI (K 2) 46 g2_3), (hb, .inr (0, [.ref ak, .ref ap, .ref ac, .ref ash, .ref alo, .int (iI (rs.length : Int)), .ref apc, .ref aps, .ref apl, .int (iI np), .int (iI md), .int (iI th), va_rf lc, .int (iI nc)])), (ak, aI (K 0) 24 gk)]) rfl dX9_takeSpelled_38 (fun H locs G => ?_)
  exact ad_vreturn F G hR rfl (Nat.le_of_ble_eq_true rfl) (Nat.le_of_ble_eq_true rfl) ⟨g2_3, u2_4, rfl, hc_5, hc_6, rfl⟩ dX9_takeSpelled_41

def rm_X9_unmarkWord : Room := { frames := 4, cells := 0, slots := 0, locals := 79 }
set_option maxHeartbeats 4000000 in
set_option maxRecDepth 100000 in
theorem c_X9_unmarkWord (l : Launch) (D : va_G) (K : Nat → ClassId) (z0 : Nat) (tt : Nat) (sq : Nat) (bq : Nat) (oq : Nat) (mk : Int) (dd : Int) (mr : Int) (er : Int) (oa : Nat) (on : Int) (og : Nat → Int) (h1 : Nat) (a : Nat) (L : Nat) (g : Nat → Int) (w : List Int) (hT : Tx g w) (hC : Chs w) (hL : w.length ≤ L ∧ L ≤ 65536) (h46 : w.length ≤ 46) : CT l D K z0 yX9_unmarkWord cX9_unmarkWord 2 none rm_X9_unmarkWord [.ref tt, .ref h1] [(tt, .inr (9, [.ref sq, .ref bq, .ref oq, .int (iI mk), .int (iI dd), .int (iI mr), .int (iI er)])), (oq, .inr (7, [.ref oa, .int (iI on)])), (oa, aI (K 2) 46 og), (h1, .inr (7, [.ref a, .int (iI (w.length : Int))])), (a, aI (K 2) L g)] (fun v9 u9 => ∃ (g2 : Nat → Int), ∃ (u2 : List Int), v9 = none ∧ (u2 = w) ∧ (Tx g2 u2) ∧ u9 = [(tt, .inr (9, [.ref sq, .ref bq, .ref oq, .int (iI 0), .int (iI 5), .int (iI (-1)), .int (iI (-1))])), (oq, .inr (7, [.ref oa, .int (iI (u2.length : Int))])), (oa, aI (K 2) 46 g2), (h1, .inr (7, [.ref a, .int (iI (w.length : Int))])), (a, aI (K 2) L g)]) := by
  refine CT.start RX9 "unmarkWord" (by decide) rfl rfl (Nat.le_of_ble_eq_true rfl) ?_
  intro p9 e9 s9 m9 ag9 bl9 mt9 c9 A9 Q9 ls F G hR hl
  have hl : lv_has ls 2 [(0, .ref tt), (1, .ref h1)] := hl
  refine lv_aload_n F.1 F.2.1 dX9_unmarkWord_0 rfl (lv_at hl 0 rfl) ?_
  refine lv_aload_n F.1 F.2.1 dX9_unmarkWord_1 rfl (lv_at hl 1 rfl) ?_
  refine ad_iconst F dX9_unmarkWord_2 ?_
  refine ad_callV (As := [.ref h1, .int (iI 5)]) (rest := []) F G (c_X9_takeWord l D K z0 tt sq bq oq mk dd mr er oa on og h1 a L g w 5 hT hC hL h46) my_X9_takeWord mv_X9_51 (wr := []) (isC := [0, 1, 2, 3, 4]) (isR := []) ⟨rfl, rfl, rfl, rfl, by decide⟩ 9 0 rfl rfl rfl rfl ⟨Nat.le_of_ble_eq_true rfl, Nat.le_of_ble_eq_true rfl⟩ ⟨Nat.le_of_ble_eq_true rfl, Nat.le_of_ble_eq_true rfl⟩ (Nat.le_of_ble_eq_true rfl) hl.1 (cells9 := 0) (slots9 := 0) ⟨rfl, rfl⟩ dX9_unmarkWord_3 (fun v u H locs hw_1 G => ?_)
  obtain ⟨g2_2, u2_3, rfl, hc_4, hc_5, rfl⟩ := hw_1
  replace G := G.perm (ws' := [(tt, .inr (9, [.ref sq, .ref bq, .ref oq, .int (iI 0), .int (iI 5), .int (iI (-1)), .int (iI (-1))])), (oq, .inr (7, [.ref oa, .int (iI (u2_3.length : Int))])), (oa, aI (K 2) 46 g2_2), (h1, .inr (7, [.ref a, .int (iI (w.length : Int))])), (a, aI (K 2) L g)]) [0, 1, 2, 3, 4] rfl rfl
  refine W.eq (g2 := F0 m9 6 ls []) rfl ?_
  exact ad_vreturn F G hR rfl (Nat.le_of_ble_eq_true rfl) (Nat.le_of_ble_eq_true rfl) ⟨g2_2, u2_3, rfl, hc_4, hc_5, rfl⟩ dX9_unmarkWord_6

def rm_X9_lengthenWord : Room := { frames := 5, cells := 0, slots := 0, locals := 111 }
set_option maxHeartbeats 4000000 in
set_option maxRecDepth 100000 in
theorem c_X9_lengthenWord (l : Launch) (D : va_G) (K : Nat → ClassId) (z0 : Nat) (tt : Nat) (sq : Nat) (bq : Nat) (oq : Nat) (mk : Int) (dd : Int) (mr : Int) (er : Int) (stq : Nat) (sta : Nat) (sm : Int) (se : Int) (sn : Int) (sg : Nat → Int) (oa : Nat) (on : Int) (og : Nat → Int) (hb : Nat) (ak : Nat) (ap : Nat) (ac : Nat) (ash : Nat) (alo : Nat) (apc : Nat) (aps : Nat) (apl : Nat) (lc : Option Nat) (gk : Nat → Int) (gp : Nat → Int) (gc : Nat → Int) (gs : Nat → Int64) (gl : Nat → Int64) (rs : List Rl) (np : Int) (md : Int) (th : Int) (nc : Int) (h1 : Nat) (a : Nat) (L : Nat) (g : Nat → Int) (w : List Int) (pl : Int) (hB : BRep gk gp gc gs gl rs) (hW : RW rs) (hT : Tx g w) (hLt : Lt w) (hL : w.length ≤ L ∧ L ≤ 65536) (hw1 : 1 ≤ w.length) (hw24 : w.length ≤ 24) (hpl : 0 ≤ pl ∧ pl ≤ 2) : CT l D K z0 yX9_lengthenWord cX9_lengthenWord 4 none rm_X9_lengthenWord [.ref tt, .ref hb, .ref h1, .int (iI pl)] [(tt, .inr (9, [.ref sq, .ref bq, .ref oq, .int (iI mk), .int (iI dd), .int (iI mr), .int (iI er)])), (sq, .inr (6, [.ref stq, .int (iI sm), .int (iI se)])), (stq, .inr (7, [.ref sta, .int (iI sn)])), (sta, aI (K 2) 46 sg), (oq, .inr (7, [.ref oa, .int (iI on)])), (oa, aI (K 2) 46 og), (hb, .inr (0, [.ref ak, .ref ap, .ref ac, .ref ash, .ref alo, .int (iI (rs.length : Int)), .ref apc, .ref aps, .ref apl, .int (iI np), .int (iI md), .int (iI th), va_rf lc, .int (iI nc)])), (ak, aI (K 0) 24 gk), (ap, aI (K 0) 24 gp), (ac, aI (K 0) 24 gc), (ash, aJ (K 1) 24 gs), (alo, aJ (K 1) 24 gl), (h1, .inr (7, [.ref a, .int (iI (w.length : Int))])), (a, aI (K 2) L g)] (fun v9 u9 => ∃ (sm2 : Int), ∃ (se2 : Int), ∃ (sn2 : Int), ∃ (sg2 : Nat → Int), ∃ (g2 : Nat → Int), ∃ (u2 : List Int), v9 = none ∧ (u2 = (exW rs w pl).1) ∧ (Tx g2 u2) ∧ u9 = [(tt, .inr (9, [.ref sq, .ref bq, .ref oq, .int (iI ((exW rs w pl).2.1)), .int (iI ((exW rs w pl).2.2.1)), .int (iI ((exW rs w pl).2.2.2.1)), .int (iI ((exW rs w pl).2.2.2.2))])), (sq, .inr (6, [.ref stq, .int (iI sm2), .int (iI se2)])), (stq, .inr (7, [.ref sta, .int (iI sn2)])), (sta, aI (K 2) 46 sg2), (oq, .inr (7, [.ref oa, .int (iI (u2.length : Int))])), (oa, aI (K 2) 46 g2), (hb, .inr (0, [.ref ak, .ref ap, .ref ac, .ref ash, .ref alo, .int (iI (rs.length : Int)), .ref apc, .ref aps, .ref apl, .int (iI np), .int (iI md), .int (iI th), va_rf lc, .int (iI nc)])), (ak, aI (K 0) 24 gk), (ap, aI (K 0) 24 gp), (ac, aI (K 0) 24 gc), (ash, aJ (K 1) 24 gs), (alo, aJ (K 1) 24 gl), (h1, .inr (7, [.ref a, .int (iI (w.length : Int))])), (a, aI (K 2) L g)]) := by
  refine CT.start RX9 "lengthenWord" (by decide) rfl rfl (Nat.le_of_ble_eq_true rfl) ?_
  intro p9 e9 s9 m9 ag9 bl9 mt9 c9 A9 Q9 ls F G hR hl
  have hl : lv_has ls 4 [(0, .ref tt), (1, .ref hb), (2, .ref h1), (3, .int (iI pl))] := hl
  have hn := hW.1
  have hC := Lt_Chs hLt
  refine lv_aload_n F.1 F.2.1 dX9_lengthenWord_0 rfl (lv_at hl 0 rfl) ?_
  refine ad_get F G fl_X9_12 0 rfl rfl dX9_lengthenWord_1 ?_
  refine lv_aload_n F.1 F.2.1 dX9_lengthenWord_4 rfl (lv_at hl 1 rfl) ?_
  refine lv_aload_n F.1 F.2.1 dX9_lengthenWord_5 rfl (lv_at hl 2 rfl) ?_
  refine lv_iload_n F.1 F.2.1 dX9_lengthenWord_6 rfl (lv_at hl 3 rfl) ?_
  refine ad_iconst F dX9_lengthenWord_7 ?_
  refine ad_callV (As := [.ref hb, .ref h1, .int (iI pl), .int (iI 0)]) (rest := []) F G (c_X6_spell l D K z0 sq stq sta sm se sn sg hb ak ap ac ash alo apc aps apl lc gk gp gc gs gl rs np md th nc h1 a L g w pl 0 hB hW hT (by omega) hL hpl (by omega) hw1 hw24) my_X6_spell mv_X9_30 (wr := [(tt, .inr (9, [.ref sq, .ref bq, .ref oq, .int (iI mk), .int (iI dd), .int (iI mr), .int (iI er)])), (oq, .inr (7, [.ref oa, .int (iI on)])), (oa, aI (K 2) 46 og)]) (isC := [1, 2, 3, 6, 7, 8, 9, 10, 11, 12, 13]) (isR := [0, 4, 5]) ⟨rfl, rfl, rfl, rfl, by decide⟩ 6 0 rfl rfl rfl rfl ⟨Nat.le_of_ble_eq_true rfl, Nat.le_of_ble_eq_true rfl⟩ ⟨Nat.le_of_ble_eq_true rfl, Nat.le_of_ble_eq_true rfl⟩ (Nat.le_of_ble_eq_true rfl) hl.1 (cells9 := 0) (slots9 := 0) ⟨rfl, rfl⟩ dX9_lengthenWord_8 (fun v u H locs hw_1 G => ?_)
  obtain ⟨g2_2, u2_3, rfl, hc_4, hc_5, rfl⟩ := hw_1
  replace G := G.perm (ws' := [(tt, .inr (9, [.ref sq, .ref bq, .ref oq, .int (iI mk), .int (iI dd), .int (iI mr), .int (iI er)])), (sq, .inr (6, [.ref stq, .int (iI (spm rs w pl 0)), .int (iI (spe rs w pl 0))])), (stq, .inr (7, [.ref sta, .int (iI (u2_3.length : Int))])), (sta, aI (K 2) 46 g2_2), (oq, .inr (7, [.ref oa, .int (iI on)])), (oa, aI (K 2) 46 og), (hb, .inr (0, [.ref ak, .ref ap, .ref ac, .ref ash, .ref alo, .int (iI (rs.length : Int)), .ref apc, .ref aps, .ref apl, .int (iI np), .int (iI md), .int (iI th), va_rf lc, .int (iI nc)])), (ak, aI (K 0) 24 gk), (ap, aI (K 0) 24 gp), (ac, aI (K 0) 24 gc), (ash, aJ (K 1) 24 gs), (alo, aJ (K 1) 24 gl), (h1, .inr (7, [.ref a, .int (iI (w.length : Int))])), (a, aI (K 2) L g)]) [0, 3, 4, 5, 1, 2, 6, 7, 8, 9, 10, 11, 12, 13] rfl rfl
  refine W.eq (g2 := F0 m9 11 ls []) rfl ?_
  refine lv_aload_n F.1 F.2.1 dX9_lengthenWord_11 rfl (lv_at hl 0 rfl) ?_
  refine lv_aload_n F.1 F.2.1 dX9_lengthenWord_12 rfl (lv_at hl 1 rfl) ?_
  refine ad_callV (As := [.ref hb]) (rest := []) F G (c_X9_takeSpelled l D K z0 tt sq bq oq mk dd mr er stq sta (spm rs w pl 0) (spe rs w pl 0) g2_2 u2_3 oa on og hb ak ap ac ash alo apc aps apl lc gk gp gc gs gl rs np md th nc hB hW hc_5 (by rw [hc_4]; exact Lt_Chs (spw_Lt hW hLt _ _)) (by rw [hc_4]; have := spw_b hW hw1 pl 0 (Or.inl rfl); omega) (spm_b rs w pl 0) (spe_b rs w pl 0)) my_X9_takeSpelled mv_X9_40 (wr := [(ap, aI (K 0) 24 gp), (ac, aI (K 0) 24 gc), (ash, aJ (K 1) 24 gs), (alo, aJ (K 1) 24 gl), (h1, .inr (7, [.ref a, .int (iI (w.length : Int))])), (a, aI (K 2) L g)]) (isC := [0, 1, 2, 3, 4, 5, 6, 7]) (isR := [8, 9, 10, 11, 12, 13]) ⟨rfl, rfl, rfl, rfl, by decide⟩ 9 0 rfl rfl rfl rfl ⟨Nat.le_of_ble_eq_true rfl, Nat.le_of_ble_eq_true rfl⟩ ⟨Nat.le_of_ble_eq_true rfl, Nat.le_of_ble_eq_true rfl⟩ (Nat.le_of_ble_eq_true rfl) hl.1 (cells9 := 0) (slots9 := 0) ⟨rfl, rfl⟩ dX9_lengthenWord_13 (fun v u H locs hw_6 G => ?_)
  obtain ⟨g2_7, u2_8, rfl, hc_9, hc_10, rfl⟩ := hw_6
  replace G := G.perm (ws' := [(tt, .inr (9, [.ref sq, .ref bq, .ref oq, .int (iI 0), .int (iI (ded rs (spm rs w pl 0) (spe rs w pl 0))), .int (iI (spm rs w pl 0)), .int (iI (spe rs w pl 0))])), (sq, .inr (6, [.ref stq, .int (iI (spm rs w pl 0)), .int (iI (spe rs w pl 0))])), (stq, .inr (7, [.ref sta, .int (iI (u2_3.length : Int))])), (sta, aI (K 2) 46 g2_2), (oq, .inr (7, [.ref oa, .int (iI (u2_8.length : Int))])), (oa, aI (K 2) 46 g2_7), (hb, .inr (0, [.ref ak, .ref ap, .ref ac, .ref ash, .ref alo, .int (iI (rs.length : Int)), .ref apc, .ref aps, .ref apl, .int (iI np), .int (iI md), .int (iI th), va_rf lc, .int (iI nc)])), (ak, aI (K 0) 24 gk), (ap, aI (K 0) 24 gp), (ac, aI (K 0) 24 gc), (ash, aJ (K 1) 24 gs), (alo, aJ (K 1) 24 gl), (h1, .inr (7, [.ref a, .int (iI (w.length : Int))])), (a, aI (K 2) L g)]) [6, 7, 8, 9, 10, 11, 12, 13, 0, 1, 2, 3, 4, 5] rfl rfl
  refine W.eq (g2 := F0 m9 16 ls []) rfl ?_
  exact ad_vreturn F G hR rfl (Nat.le_of_ble_eq_true rfl) (Nat.le_of_ble_eq_true rfl) ⟨(spm rs w pl 0), (spe rs w pl 0), (u2_3.length : Int), g2_2, g2_7, u2_8, rfl, (by rw [hc_9, hc_4]; rfl), hc_10, rfl⟩ dX9_lengthenWord_16
