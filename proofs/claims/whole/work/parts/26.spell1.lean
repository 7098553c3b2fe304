def rm_X6_stands : Room := { frames := 2, cells := 0, slots := 0, locals := 34 }
set_option maxHeartbeats 4000000 in
set_option maxRecDepth 100000 in
theorem c_X6_stands (l : Launch) (D : va_G) (K : Nat → ClassId) (z0 : Nat) (h1 : Nat) (a : Nat) (L : Nat) (g : Nat → Int) (w : List Int) (f : List Int) (k : Int) (hT : Tx g w) (hC : Chs w) (hL : w.length ≤ L ∧ L ≤ 65536) (hf : Fw f) (hk : 0 ≤ k ∧ k ≤ 2) : CT l D K z0 yX6_stands cX6_stands 8 (some .boolean) rm_X6_stands [.long (enc f), .ref h1, .int (iI k)] [(h1, .inr (7, [.ref a, .int (iI (w.length : Int))])), (a, aI (K 2) L g)] (fun v9 u9 => (v9 = some (.int (iI 1)) ∧ (stb f w k = true) ∧ u9 = [(h1, .inr (7, [.ref a, .int (iI (w.length : Int))])), (a, aI (K 2) L g)]) ∨ (v9 = some (.int (iI 0)) ∧ (stb f w k = false) ∧ u9 = [(h1, .inr (7, [.ref a, .int (iI (w.length : Int))])), (a, aI (K 2) L g)])) := by
  refine CT.start RX6 "stands" (by decide) rfl rfl (Nat.le_of_ble_eq_true rfl) ?_
  intro p9 e9 s9 m9 ag9 bl9 mt9 c9 A9 Q9 ls F G hR hl
  have hl : lv_has ls 8 [(0, .long (enc f)), (2, .ref h1), (3, .int (iI k))] := hl
  have h12 := hf.1
  refine lv_lload_n F.1 F.2.1 dX6_stands_0 rfl (lv_at hl 0 rfl) ?_
  refine ad_callS (As := [.long (enc f)]) (rest := []) F G (c_X2_lengthOf l D K z0 f hf) my_X2_lengthOf ms_X6_62 (wr := [(h1, .inr (7, [.ref a, .int (iI (w.length : Int))])), (a, aI (K 2) L g)]) (isC := []) (isR := [0, 1]) ⟨rfl, rfl, rfl, rfl, by decide⟩ rfl rfl ⟨Nat.le_of_ble_eq_true rfl, Nat.le_of_ble_eq_true rfl⟩ ⟨Nat.le_of_ble_eq_true rfl, Nat.le_of_ble_eq_true rfl⟩ (Nat.le_of_ble_eq_true rfl) hl.1 (cells9 := 0) (slots9 := 0) ⟨rfl, rfl⟩ dX6_stands_1 (fun v u H locs hw_1 G => ?_)
  obtain ⟨rfl, rfl⟩ := hw_1
  replace G := G.perm (ws' := [(h1, .inr (7, [.ref a, .int (iI (w.length : Int))])), (a, aI (K 2) L g)]) [0, 1] rfl rfl
  refine W.eq (g2 := F0 m9 4 ls [.int (iI (f.length : Int))]) rfl ?_
  refine lv_istore (lv' := [(4, .int (iI (f.length : Int))), (0, .long (enc f)), (2, .ref h1), (3, .int (iI k))]) F.1 F.2.1 dX6_stands_4 hl (by decide) rfl (fun ls hl => ?_)
  refine lv_aload_n F.1 F.2.1 dX6_stands_6 rfl (lv_at hl 2 rfl) ?_
  refine ad_callV (As := []) (rest := []) F G (c_X7_size l D K z0 h1 a (w.length : Int) ) my_X7_size mv_X6_68 (wr := [(a, aI (K 2) L g)]) (isC := [0]) (isR := [1]) ⟨rfl, rfl, rfl, rfl, by decide⟩ 7 0 rfl rfl rfl rfl ⟨Nat.le_of_ble_eq_true rfl, Nat.le_of_ble_eq_true rfl⟩ ⟨Nat.le_of_ble_eq_true rfl, Nat.le_of_ble_eq_true rfl⟩ (Nat.le_of_ble_eq_true rfl) hl.1 (cells9 := 0) (slots9 := 0) ⟨rfl, rfl⟩ dX6_stands_7 (fun v u H locs hw_2 G => ?_)
  obtain ⟨rfl, rfl⟩ := hw_2
  replace G := G.perm (ws' := [(h1, .inr (7, [.ref a, .int (iI (w.length : Int))])), (a, aI (K 2) L g)]) [1, 0] rfl rfl
  refine W.eq (g2 := F0 m9 10 ls [.int (iI (w.length : Int))]) rfl ?_
  refine lv_iload F.1 F.2.1 dX6_stands_10 (lv_at hl 0 rfl) ?_
  refine ad_isub F dX6_stands_12 ?_
  refine lv_istore (lv' := [(5, .int (iI ((w.length : Int) - (f.length : Int)))), (4, .int (iI (f.length : Int))), (0, .long (enc f)), (2, .ref h1), (3, .int (iI k))]) F.1 F.2.1 dX6_stands_13 hl (by decide) rfl (fun ls hl => ?_)
  refine lv_iload_n F.1 F.2.1 dX6_stands_15 rfl (lv_at hl 4 rfl) ?_
  refine ad_if_ne (tgt := 27) F (by omega) dX6_stands_16 (by decide) (fun cc_3 => ?_) (fun cc_3 => ?_)
  · refine lv_iload F.1 F.2.1 dX6_stands_27 (lv_at hl 0 rfl) ?_
    refine ad_if_gt (tgt := 34) F (by omega) dX6_stands_29 (by decide) (fun cc_4 => ?_) (fun cc_4 => ?_)
    · have hs0 : 0 ≤ st0 f w k ∧ st0 f w k + f.length ≤ w.length := by unfold st0; split <;> omega
      refine lv_iload_n F.1 F.2.1 dX6_stands_34 rfl (lv_at hl 4 rfl) ?_
      refine ad_iconst F dX6_stands_35 ?_
      refine ad_icmp_ne (tgt := 44) F (by omega) dX6_stands_36 (by decide) (fun cc_5 => ?_) (fun cc_5 => ?_)
      · refine ad_iconst F dX6_stands_44 ?_
        refine ad_topi (y := st0 f w k) (by unfold st0; rw [if_neg (by omega)]) ?_
        refine lv_istore (lv' := [(6, .int (iI (st0 f w k))), (5, .int (iI ((w.length : Int) - (f.length : Int)))), (4, .int (iI (f.length : Int))), (0, .long (enc f)), (2, .ref h1), (3, .int (iI k))]) F.1 F.2.1 dX6_stands_45 hl (by decide) rfl (fun ls hl => ?_)
        refine ad_iconst F dX6_stands_47 ?_
        refine lv_istore (lv' := [(7, .int (iI 0)), (6, .int (iI (st0 f w k))), (5, .int (iI ((w.length : Int) - (f.length : Int)))), (4, .int (iI (f.length : Int))), (0, .long (enc f)), (2, .ref h1), (3, .int (iI k))]) F.1 F.2.1 dX6_stands_48 hl (by decide) rfl (fun ls hl => ?_)
        have lp50 : ∀ (n50 : Nat) (i : Int) (H : Heap) (locs : List Loc) (ls : Array Slot), (0 ≤ i ∧ i ≤ f.length) → (∀ j : Int, 0 ≤ j → j < i → lat f j = lat w (st0 f w k + j)) → (f.length - i) < (n50 : Int) → ad_G D A9 s9.heap H locs [(h1, .inr (7, [.ref a, .int (iI (w.length : Int))])), (a, aI (K 2) L g)] → lv_has ls 8 [(0, .long (enc f)), (2, .ref h1), (3, .int (iI k)), (4, .int (iI (f.length : Int))), (5, .int (iI ((w.length : Int) - (f.length : Int)))), (6, .int (iI (st0 f w k))), (7, .int (iI i))] → W p9 l e9 rm_X6_stands s9 m9 ag9 bl9 mt9 c9 H locs 0 0 Q9 (F0 m9 50 ls []) := by
          intro n50
          induction n50 with
          | zero =>
            intro i H locs ls hi ha hm50
            exact absurd hm50 (by omega)
          | succ n50 ih50 =>
            intro i H locs ls hi ha hm50 G hl
            refine lv_iload F.1 F.2.1 dX6_stands_50 (lv_at hl 6 rfl) ?_
            refine lv_iload F.1 F.2.1 dX6_stands_52 (lv_at hl 3 rfl) ?_
            refine ad_icmp_ge (tgt := 83) F (by omega) dX6_stands_54 (by decide) (fun cc_6 => ?_) (fun cc_6 => ?_)
            · refine ad_iconst F dX6_stands_83 ?_
              exact ad_zreturn F G hR rfl (Nat.le_of_ble_eq_true rfl) (Nat.le_of_ble_eq_true rfl) rfl (Or.inl ⟨rfl, (by unfold stb; refine decide_eq_true ⟨by split <;> omega, ?_⟩; refine lat_ext (by rw [← Int.ofNat_inj, sl_len hs0.1 (by omega) hs0.2]; omega) (fun j h1 h2 => ?_); rw [sl_len hs0.1 (by omega) hs0.2] at h2; rw [sl_at hs0.1 h1 (by omega)]; exact (ha j h1 (by omega)).symm), rfl⟩) dX6_stands_84
            · refine lv_lload_n F.1 F.2.1 dX6_stands_57 rfl (lv_at hl 0 rfl) ?_
              refine lv_iload F.1 F.2.1 dX6_stands_58 (lv_at hl 6 rfl) ?_
              refine ad_callS (As := [.long (enc f), .int (iI i)]) (rest := []) F G (c_X2_letterAt l D K z0 f i hf (by omega)) my_X2_letterAt ms_X6_72 (wr := [(h1, .inr (7, [.ref a, .int (iI (w.length : Int))])), (a, aI (K 2) L g)]) (isC := []) (isR := [0, 1]) ⟨rfl, rfl, rfl, rfl, by decide⟩ rfl rfl ⟨Nat.le_of_ble_eq_true rfl, Nat.le_of_ble_eq_true rfl⟩ ⟨Nat.le_of_ble_eq_true rfl, Nat.le_of_ble_eq_true rfl⟩ (Nat.le_of_ble_eq_true rfl) hl.1 (cells9 := 0) (slots9 := 0) ⟨rfl, rfl⟩ dX6_stands_60 (fun v u H locs hw_7 G => ?_)
              obtain ⟨rfl, rfl⟩ := hw_7
              replace G := G.perm (ws' := [(h1, .inr (7, [.ref a, .int (iI (w.length : Int))])), (a, aI (K 2) L g)]) [0, 1] rfl rfl
              refine W.eq (g2 := F0 m9 63 ls [.int (iI (lat f i))]) rfl ?_
              refine lv_aload_n F.1 F.2.1 dX6_stands_63 rfl (lv_at hl 1 rfl) ?_
              refine lv_iload F.1 F.2.1 dX6_stands_64 (lv_at hl 5 rfl) ?_
              refine lv_iload F.1 F.2.1 dX6_stands_66 (lv_at hl 6 rfl) ?_
              refine ad_iadd F dX6_stands_68 ?_
              refine ad_callV (As := [.int (iI ((st0 f w k) + i))]) (rest := [.int (iI (lat f i))]) F G (c_X7_at l D K z0 h1 a L g w ((st0 f w k) + i) hT hC hL (by omega)) my_X7_at mv_X6_76 (wr := []) (isC := [0, 1]) (isR := []) ⟨rfl, rfl, rfl, rfl, by decide⟩ 7 0 rfl rfl rfl rfl ⟨Nat.le_of_ble_eq_true rfl, Nat.le_of_ble_eq_true rfl⟩ ⟨Nat.le_of_ble_eq_true rfl, Nat.le_of_ble_eq_true rfl⟩ (Nat.le_of_ble_eq_true rfl) hl.1 (cells9 := 0) (slots9 := 0) ⟨rfl, rfl⟩ dX6_stands_69 (fun v u H locs hw_8 G => ?_)
              obtain ⟨rfl, rfl⟩ := hw_8
              replace G := G.perm (ws' := [(h1, .inr (7, [.ref a, .int (iI (w.length : Int))])), (a, aI (K 2) L g)]) [0, 1] rfl rfl
              refine W.eq (g2 := F0 m9 72 ls [.int (iI (lat w ((st0 f w k) + i))), .int (iI (lat f i))]) rfl ?_
              refine ad_icmp_eq (tgt := 77) F (by have := lat_let hf (k := i) hi.1 (by omega); have := lat_ch hC (st0 f w k + i); omega) dX6_stands_72 (by decide) (fun cc_9 => ?_) (fun cc_9 => ?_)
              · refine ad_iinc (lv' := [(7, .int (iI (i + 1))), (0, .long (enc f)), (2, .ref h1), (3, .int (iI k)), (4, .int (iI (f.length : Int))), (5, .int (iI ((w.length : Int) - (f.length : Int)))), (6, .int (iI (st0 f w k)))]) F dX6_stands_77 hl (k := 6) rfl (by decide) rfl (fun ls hl => ?_)
                refine lv_goto (tgt := 50) F.1 F.2.1 dX6_stands_80 (by decide) ?_
                exact ih50 (i + 1) _ _ _ (by omega) (fun j h1 h2 => (show j = i ∨ j < i by omega).elim (fun h => by rw [h]; exact cc_9) (fun h => ha j h1 h)) (by omega) (G.perm (ws' := [(h1, .inr (7, [.ref a, .int (iI (w.length : Int))])), (a, aI (K 2) L g)]) [0, 1] rfl rfl) (lv_sub hl [1, 2, 3, 4, 5, 6, 0] rfl)
              · refine ad_iconst F dX6_stands_75 ?_
                exact ad_zreturn F G hR rfl (Nat.le_of_ble_eq_true rfl) (Nat.le_of_ble_eq_true rfl) rfl (Or.inr (⟨rfl, (by unfold stb; refine decide_eq_false (fun q => cc_9 ?_); have q2 : lat (sl w (st0 f w k) (st0 f w k + f.length)) i = lat f i := congrArg (fun x => lat x i) q.2; rw [sl_at hs0.1 hi.1 (by omega)] at q2; exact q2.symm), rfl⟩)) dX6_stands_76
        exact lp50 ((((f.length - 0 : Int)) + 1).toNat) 0 _ _ _ (by omega) (fun j h1 h2 => by omega) (by omega) (G.perm (ws' := [(h1, .inr (7, [.ref a, .int (iI (w.length : Int))])), (a, aI (K 2) L g)]) [0, 1] rfl rfl) (lv_sub hl [4, 5, 6, 3, 2, 1, 0] rfl)
      · refine lv_iload F.1 F.2.1 dX6_stands_39 (lv_at hl 0 rfl) ?_
        refine lv_goto (tgt := 45) F.1 F.2.1 dX6_stands_41 (by decide) ?_
        refine ad_topi (y := st0 f w k) (by unfold st0; rw [if_pos (by omega)]) ?_
        refine lv_istore (lv' := [(6, .int (iI (st0 f w k))), (5, .int (iI ((w.length : Int) - (f.length : Int)))), (4, .int (iI (f.length : Int))), (0, .long (enc f)), (2, .ref h1), (3, .int (iI k))]) F.1 F.2.1 dX6_stands_45 hl (by decide) rfl (fun ls hl => ?_)
        refine ad_iconst F dX6_stands_47 ?_
        refine lv_istore (lv' := [(7, .int (iI 0)), (6, .int (iI (st0 f w k))), (5, .int (iI ((w.length : Int) - (f.length : Int)))), (4, .int (iI (f.length : Int))), (0, .long (enc f)), (2, .ref h1), (3, .int (iI k))]) F.1 F.2.1 dX6_stands_48 hl (by decide) rfl (fun ls hl => ?_)
        have lp50 : ∀ (n50 : Nat) (i : Int) (H : Heap) (locs : List Loc) (ls : Array Slot), (0 ≤ i ∧ i ≤ f.length) → (∀ j : Int, 0 ≤ j → j < i → lat f j = lat w (st0 f w k + j)) → (f.length - i) < (n50 : Int) → ad_G D A9 s9.heap H locs [(h1, .inr (7, [.ref a, .int (iI (w.length : Int))])), (a, aI (K 2) L g)] → lv_has ls 8 [(0, .long (enc f)), (2, .ref h1), (3, .int (iI k)), (4, .int (iI (f.length : Int))), (5, .int (iI ((w.length : Int) - (f.length : Int)))), (6, .int (iI (st0 f w k))), (7, .int (iI i))] → W p9 l e9 rm_X6_stands s9 m9 ag9 bl9 mt9 c9 H locs 0 0 Q9 (F0 m9 50 ls []) := by
          intro n50
          induction n50 with
          | zero =>
            intro i H locs ls hi ha hm50
            exact absurd hm50 (by omega)
          | succ n50 ih50 =>
            intro i H locs ls hi ha hm50 G hl
            refine lv_iload F.1 F.2.1 dX6_stands_50 (lv_at hl 6 rfl) ?_
            refine lv_iload F.1 F.2.1 dX6_stands_52 (lv_at hl 3 rfl) ?_
            refine ad_icmp_ge (tgt := 83) F (by omega) dX6_stands_54 (by decide) (fun cc_10 => ?_) (fun cc_10 => ?_)
            · refine ad_iconst F dX6_stands_83 ?_
              exact ad_zreturn F G hR rfl (Nat.le_of_ble_eq_true rfl) (Nat.le_of_ble_eq_true rfl) rfl (Or.inl ⟨rfl, (by unfold stb; refine decide_eq_true ⟨by split <;> omega, ?_⟩; refine lat_ext (by rw [← Int.ofNat_inj, sl_len hs0.1 (by omega) hs0.2]; omega) (fun j h1 h2 => ?_); rw [sl_len hs0.1 (by omega) hs0.2] at h2; rw [sl_at hs0.1 h1 (by omega)]; exact (ha j h1 (by omega)).symm), rfl⟩) dX6_stands_84
            · refine lv_lload_n F.1 F.2.1 dX6_stands_57 rfl (lv_at hl 0 rfl) ?_
              refine lv_iload F.1 F.2.1 dX6_stands_58 (lv_at hl 6 rfl) ?_
              refine ad_callS (As := [.long (enc f), .int (iI i)]) (rest := []) F G (c_X2_letterAt l D K z0 f i hf (by omega)) my_X2_letterAt ms_X6_72 (wr := [(h1, .inr (7, [.ref a, .int (iI (w.length : Int))])), (a, aI (K 2) L g)]) (isC := []) (isR := [0, 1]) ⟨rfl, rfl, rfl, rfl, by decide⟩ rfl rfl ⟨Nat.le_of_ble_eq_true rfl, Nat.le_of_ble_eq_true rfl⟩ ⟨Nat.le_of_ble_eq_true rfl, Nat.le_of_ble_eq_true rfl⟩ (Nat.le_of_ble_eq_true rfl) hl.1 (cells9 := 0) (slots9 := 0) ⟨rfl, rfl⟩ dX6_stands_60 (fun v u H locs hw_11 G => ?_)
              obtain ⟨rfl, rfl⟩ := hw_11
              replace G := G.perm (ws' := [(h1, .inr (7, [.ref a, .int (iI (w.length : Int))])), (a, aI (K 2) L g)]) [0, 1] rfl rfl
              refine W.eq (g2 := F0 m9 63 ls [.int (iI (lat f i))]) rfl ?_
              refine lv_aload_n F.1 F.2.1 dX6_stands_63 rfl (lv_at hl 1 rfl) ?_
              refine lv_iload F.1 F.2.1 dX6_stands_64 (lv_at hl 5 rfl) ?_
              refine lv_iload F.1 F.2.1 dX6_stands_66 (lv_at hl 6 rfl) ?_
              refine ad_iadd F dX6_stands_68 ?_
              refine ad_callV (As := [.int (iI ((st0 f w k) + i))]) (rest := [.int (iI (lat f i))]) F G (c_X7_at l D K z0 h1 a L g w ((st0 f w k) + i) hT hC hL (by omega)) my_X7_at mv_X6_76 (wr := []) (isC := [0, 1]) (isR := []) ⟨rfl, rfl, rfl, rfl, by decide⟩ 7 0 rfl rfl rfl rfl ⟨Nat.le_of_ble_eq_true rfl, Nat.le_of_ble_eq_true rfl⟩ ⟨Nat.le_of_ble_eq_true rfl, Nat.le_of_ble_eq_true rfl⟩ (Nat.le_of_ble_eq_true rfl) hl.1 (cells9 := 0) (slots9 := 0) ⟨rfl, rfl⟩ dX6_stands_69 (fun v u H locs hw_12 G => ?_)
              obtain ⟨rfl, rfl⟩ := hw_12
              replace G := G.perm (ws' := [(h1, .inr (7, [.ref a, .int (iI (w.length : Int))])), (a, aI (K 2) L g)]) [0, 1] rfl rfl
              refine W.eq (g2 := F0 m9 72 ls [.int (iI (lat w ((st0 f w k) + i))), .int (iI (lat f i))]) rfl ?_
              refine ad_icmp_eq (tgt := 77) F (by have := lat_let hf (k := i) hi.1 (by omega); have := lat_ch hC (st0 f w k + i); omega) dX6_stands_72 (by decide) (fun cc_13 => ?_) (fun cc_13 => ?_)
              · refine ad_iinc (lv' := [(7, .int (iI (i + 1))), (0, .long (enc f)), (2, .ref h1), (3, .int (iI k)), (4, .int (iI (f.length : Int))), (5, .int (iI ((w.length : Int) - (f.length : Int)))), (6, .int (iI (st0 f w k)))]) F dX6_stands_77 hl (k := 6) rfl (by decide) rfl (fun ls hl => ?_)
                refine lv_goto (tgt := 50) F.1 F.2.1 dX6_stands_80 (by decide) ?_
                exact ih50 (i + 1) _ _ _ (by omega) (fun j h1 h2 => (show j = i ∨ j < i by omega).elim (fun h => by rw [h]; exact cc_13) (fun h => ha j h1 h)) (by omega) (G.perm (ws' := [(h1, .inr (7, [.ref a, .int (iI (w.length : Int))])), (a, aI (K 2) L g)]) [0, 1] rfl rfl) (lv_sub hl [1, 2, 3, 4, 5, 6, 0] rfl)
              · refine ad_iconst F dX6_stands_75 ?_
                exact ad_zreturn F G hR rfl (Nat.le_of_ble_eq_true rfl) (Nat.le_of_ble_eq_true rfl) rfl (Or.inr (⟨rfl, (by unfold stb; refine decide_eq_false (fun q => cc_13 ?_); have q2 : lat (sl w (st0 f w k) (st0 f w k + f.length)) i = lat f i := congrArg (fun x => lat x i) q.2; rw [sl_at hs0.1 hi.1 (by omega)] at q2; exact q2.symm), rfl⟩)) dX6_stands_76
        exact lp50 ((((f.length - 0 : Int)) + 1).toNat) 0 _ _ _ (by omega) (fun j h1 h2 => by omega) (by omega) (G.perm (ws' := [(h1, .inr (7, [.ref a, .int (iI (w.length : Int))])), (a, aI (K 2) L g)]) [0, 1] rfl rfl) (lv_sub hl [4, 5, 6, 3, 2, 1, 0] rfl)
    · refine ad_iconst F dX6_stands_32 ?_
      exact ad_zreturn F G hR rfl (Nat.le_of_ble_eq_true rfl) (Nat.le_of_ble_eq_true rfl) rfl (Or.inr (⟨rfl, (by unfold stb; refine decide_eq_false (fun q => ?_); have q1 := q.1; split at q1 <;> omega), rfl⟩)) dX6_stands_33
  · refine lv_iload F.1 F.2.1 dX6_stands_19 (lv_at hl 0 rfl) ?_
    refine ad_if_eq (tgt := 34) F (by omega) dX6_stands_21 (by decide) (fun cc_14 => ?_) (fun cc_14 => ?_)
    · have hs0 : 0 ≤ st0 f w k ∧ st0 f w k + f.length ≤ w.length := by unfold st0; split <;> omega
      refine lv_iload_n F.1 F.2.1 dX6_stands_34 rfl (lv_at hl 4 rfl) ?_
      refine ad_iconst F dX6_stands_35 ?_
      refine ad_icmp_ne (tgt := 44) F (by omega) dX6_stands_36 (by decide) (fun cc_15 => ?_) (fun cc_15 => ?_)
      · refine ad_iconst F dX6_stands_44 ?_
        refine ad_topi (y := st0 f w k) (by unfold st0; rw [if_neg (by omega)]) ?_
        refine lv_istore (lv' := [(6, .int (iI (st0 f w k))), (5, .int (iI ((w.length : Int) - (f.length : Int)))), (4, .int (iI (f.length : Int))), (0, .long (enc f)), (2, .ref h1), (3, .int (iI k))]) F.1 F.2.1 dX6_stands_45 hl (by decide) rfl (fun ls hl => ?_)
        refine ad_iconst F dX6_stands_47 ?_
        refine lv_istore (lv' := [(7, .int (iI 0)), (6, .int (iI (st0 f w k))), (5, .int (iI ((w.length : Int) - (f.length : Int)))), (4, .int (iI (f.length : Int))), (0, .long (enc f)), (2, .ref h1), (3, .int (iI k))]) F.1 F.2.1 dX6_stands_48 hl (by decide) rfl (fun ls hl => ?_)
        have lp50 : ∀ (n50 : Nat) (i : Int) (H : Heap) (locs : List Loc) (ls : Array Slot), (0 ≤ i ∧ i ≤ f.length) → (∀ j : Int, 0 ≤ j → j < i → lat f j = lat w (st0 f w k + j)) → (f.length - i) < (n50 : Int) → ad_G D A9 s9.heap H locs [(h1, .inr (7, [.ref a, .int (iI (w.length : Int))])), (a, aI (K 2) L g)] → lv_has ls 8 [(0, .long (enc f)), (2, .ref h1), (3, .int (iI k)), (4, .int (iI (f.length : Int))), (5, .int (iI ((w.length : Int) - (f.length : Int)))), (6, .int (iI (st0 f w k))), (7, .int (iI i))] → W p9 l e9 rm_X6_stands s9 m9 ag9 bl9 mt9 c9 H locs 0 0 Q9 (F0 m9 50 ls []) := by
          intro n50
          induction n50 with
          | zero =>
            intro i H locs ls hi ha hm50
            exact absurd hm50 (by omega)
          | succ n50 ih50 =>
            intro i H locs ls hi ha hm50 G hl
            refine lv_iload F.1 F.2.1 dX6_stands_50 (lv_at hl 6 rfl) ?_
            refine lv_iload F.1 F.2.1 dX6_stands_52 (lv_at hl 3 rfl) ?_
            refine ad_icmp_ge (tgt := 83) F (by omega) dX6_stands_54 (by decide) (fun cc_16 => ?_) (fun cc_16 => ?_)
            · refine ad_iconst F dX6_stands_83 ?_
              exact ad_zreturn F G hR rfl (Nat.le_of_ble_eq_true rfl) (Nat.le_of_ble_eq_true rfl) rfl (Or.inl ⟨rfl, (by unfold stb; refine decide_eq_true ⟨by split <;> omega, ?_⟩; refine lat_ext (by rw [← Int.ofNat_inj, sl_len hs0.1 (by omega) hs0.2]; omega) (fun j h1 h2 => ?_); rw [sl_len hs0.1 (by omega) hs0.2] at h2; rw [sl_at hs0.1 h1 (by omega)]; exact (ha j h1 (by omega)).symm), rfl⟩) dX6_stands_84
            · refine lv_lload_n F.1 F.2.1 dX6_stands_57 rfl (lv_at hl 0 rfl) ?_
              refine lv_iload F.1 F.2.1 dX6_stands_58 (lv_at hl 6 rfl) ?_
              refine ad_callS (As := [.long (enc f), .int (iI i)]) (rest := []) F G (c_X2_letterAt l D K z0 f i hf (by omega)) my_X2_letterAt ms_X6_72 (wr := [(h1, .inr (7, [.ref a, .int (iI (w.length : Int))])), (a, aI (K 2) L g)]) (isC := []) (isR := [0, 1]) ⟨rfl, rfl, rfl, rfl, by decide⟩ rfl rfl ⟨Nat.le_of_ble_eq_true rfl, Nat.le_of_ble_eq_true rfl⟩ ⟨Nat.le_of_ble_eq_true rfl, Nat.le_of_ble_eq_true rfl⟩ (Nat.le_of_ble_eq_true rfl) hl.1 (cells9 := 0) (slots9 := 0) ⟨rfl, rfl⟩ dX6_stands_60 (fun v u H locs hw_17 G => ?_)
              obtain ⟨rfl, rfl⟩ := hw_17
              replace G := G.perm (ws' := [(h1, .inr (7, [.ref a, .int (iI (w.length : Int))])), (a, aI (K 2) L g)]) [0, 1] rfl rfl
              refine W.eq (g2 := F0 m9 63 ls [.int (iI (lat f i))]) rfl ?_
              refine lv_aload_n F.1 F.2.1 dX6_stands_63 rfl (lv_at hl 1 rfl) ?_
              refine lv_iload F.1 F.2.1 dX6_stands_64 (lv_at hl 5 rfl) ?_
              refine lv_iload F.1 F.2.1 dX6_stands_66 (lv_at hl 6 rfl) ?_
              refine ad_iadd F dX6_stands_68 ?_
              refine ad_callV (As := [.int (iI ((st0 f w k) + i))]) (rest := [.int (iI (lat f i))]) F G (c_X7_at l D K z0 h1 a L g w ((st0 f w k) + i) hT hC hL (by omega)) my_X7_at mv_X6_76 (wr := []) (isC := [0, 1]) (isR := []) ⟨rfl, rfl, rfl, rfl, by decide⟩ 7 0 rfl rfl rfl rfl ⟨Nat.le_of_ble_eq_true rfl, Nat.le_of_ble_eq_true rfl⟩ ⟨Nat.le_of_ble_eq_true rfl, Nat.le_of_ble_eq_true rfl⟩ (Nat.le_of_ble_eq_true rfl) hl.1 (cells9 := 0) (slots9 := 0) ⟨rfl, rfl⟩ dX6_stands_69 (fun v u H locs hw_18 G => ?_)
              obtain ⟨rfl, rfl⟩ := hw_18
              replace G := G.perm (ws' := [(h1, .inr (7, [.ref a, .int (iI (w.length : Int))])), (a, aI (K 2) L g)]) [0, 1] rfl rfl
              refine W.eq (g2 := F0 m9 72 ls [.int (iI (lat w ((st0 f w k) + i))), .int (iI (lat f i))]) rfl ?_
              refine ad_icmp_eq (tgt := 77) F (by have := lat_let hf (k := i) hi.1 (by omega); have := lat_ch hC (st0 f w k + i); omega) dX6_stands_72 (by decide) (fun cc_19 => ?_) (fun cc_19 => ?_)
              · refine ad_iinc (lv' := [(7, .int (iI (i + 1))), (0, .long (enc f)), (2, .ref h1), (3, .int (iI k)), (4, .int (iI (f.length : Int))), (5, .int (iI ((w.length : Int) - (f.length : Int)))), (6, .int (iI (st0 f w k)))]) F dX6_stands_77 hl (k := 6) rfl (by decide) rfl (fun ls hl => ?_)
                refine lv_goto (tgt := 50) F.1 F.2.1 dX6_stands_80 (by decide) ?_
                exact ih50 (i + 1) _ _ _ (by omega) (fun j h1 h2 => (show j = i ∨ j < i by omega).elim (fun h => by rw [h]; exact cc_19) (fun h => ha j h1 h)) (by omega) (G.perm (ws' := [(h1, .inr (7, [.ref a, .int (iI (w.length : Int))])), (a, aI (K 2) L g)]) [0, 1] rfl rfl) (lv_sub hl [1, 2, 3, 4, 5, 6, 0] rfl)
              · refine ad_iconst F dX6_stands_75 ?_
                exact ad_zreturn F G hR rfl (Nat.le_of_ble_eq_true rfl) (Nat.le_of_ble_eq_true rfl) rfl (Or.inr (⟨rfl, (by unfold stb; refine decide_eq_false (fun q => cc_19 ?_); have q2 : lat (sl w (st0 f w k) (st0 f w k + f.length)) i = lat f i := congrArg (fun x => lat x i) q.2; rw [sl_at hs0.1 hi.1 (by omega)] at q2; exact q2.symm), rfl⟩)) dX6_stands_76
        exact lp50 ((((f.length - 0 : Int)) + 1).toNat) 0 _ _ _ (by omega) (fun j h1 h2 => by omega) (by omega) (G.perm (ws' := [(h1, .inr (7, [.ref a, .int (iI (w.length : Int))])), (a, aI (K 2) L g)]) [0, 1] rfl rfl) (lv_sub hl [4, 5, 6, 3, 2, 1, 0] rfl)
      · refine lv_iload F.1 F.2.1 dX6_stands_39 (lv_at hl 0 rfl) ?_
        refine lv_goto (tgt := 45) F.1 F.2.1 dX6_stands_41 (by decide) ?_
        refine ad_topi (y := st0 f w k) (by unfold st0; rw [if_pos (by omega)]) ?_
        refine lv_istore (lv' := [(6, .int (iI (st0 f w k))), (5, .int (iI ((w.length : Int) - (f.length : Int)))), (4, .int (iI (f.length : Int))), (0, .long (enc f)), (2, .ref h1), (3, .int (iI k))]) F.1 F.2.1 dX6_stands_45 hl (by decide) rfl (fun ls hl => ?_)
        refine ad_iconst F dX6_stands_47 ?_
        refine lv_istore (lv' := [(7, .int (iI 0)), (6, .int (iI (st0 f w k))), (5, .int (iI ((w.length : Int) - (f.length : Int)))), (4, .int (iI (f.length : Int))), (0, .long (enc f)), (2, .ref h1), (3, .int (iI k))]) F.1 F.2.1 dX6_stands_48 hl (by decide) rfl (fun ls hl => ?_)
        have lp50 : ∀ (n50 : Nat) (i : Int) (H : Heap) (locs : List Loc) (ls : Array Slot), (0 ≤ i ∧ i ≤ f.length) → (∀ j : Int, 0 ≤ j → j < i → lat f j = lat w (st0 f w k + j)) → (f.length - i) < (n50 : Int) → ad_G D A9 s9.heap H locs [(h1, .inr (7, [.ref a, .int (iI (w.length : Int))])), (a, aI (K 2) L g)] → lv_has ls 8 [(0, .long (enc f)), (2, .ref h1), (3, .int (iI k)), (4, .int (iI (f.length : Int))), (5, .int (iI ((w.length : Int) - (f.length : Int)))), (6, .int (iI (st0 f w k))), (7, .int (iI i))] → W p9 l e9 rm_X6_stands s9 m9 ag9 bl9 mt9 c9 H locs 0 0 Q9 (F0 m9 50 ls []) := by
          intro n50
          induction n50 with
          | zero =>
            intro i H locs ls hi ha hm50
            exact absurd hm50 (by omega)
          | succ n50 ih50 =>
            intro i H locs ls hi ha hm50 G hl
            refine lv_iload F.1 F.2.1 dX6_stands_50 (lv_at hl 6 rfl) ?_
            refine lv_iload F.1 F.2.1 dX6_stands_52 (lv_at hl 3 rfl) ?_
            refine ad_icmp_ge (tgt := 83) F (by omega) dX6_stands_54 (by decide) (fun cc_20 => ?_) (fun cc_20 => ?_)
            · refine ad_iconst F dX6_stands_83 ?_
              exact ad_zreturn F G hR rfl (Nat.le_of_ble_eq_true rfl) (Nat.le_of_ble_eq_true rfl) rfl (Or.inl ⟨rfl, (by unfold stb; refine decide_eq_true ⟨by split <;> omega, ?_⟩; refine lat_ext (by rw [← Int.ofNat_inj, sl_len hs0.1 (by omega) hs0.2]; omega) (fun j h1 h2 => ?_); rw [sl_len hs0.1 (by omega) hs0.2] at h2; rw [sl_at hs0.1 h1 (by omega)]; exact (ha j h1 (by omega)).symm), rfl⟩) dX6_stands_84
            · refine lv_lload_n F.1 F.2.1 dX6_stands_57 rfl (lv_at hl 0 rfl) ?_
              refine lv_iload F.1 F.2.1 dX6_stands_58 (lv_at hl 6 rfl) ?_
              refine ad_callS (As := [.long (enc f), .int (iI i)]) (rest := []) F G (c_X2_letterAt l D K z0 f i hf (by omega)) my_X2_letterAt ms_X6_72 (wr := [(h1, .inr (7, [.ref a, .int (iI (w.length : Int))])), (a, aI (K 2) L g)]) (isC := []) (isR := [0, 1]) ⟨rfl, rfl, rfl, rfl, by decide⟩ rfl rfl ⟨Nat.le_of_ble_eq_true rfl, Nat.le_of_ble_eq_true rfl⟩ ⟨Nat.le_of_ble_eq_true rfl, Nat.le_of_ble_eq_true rfl⟩ (Nat.le_of_ble_eq_true rfl) hl.1 (cells9 := 0) (slots9 := 0) ⟨rfl, rfl⟩ dX6_stands_60 (fun v u H locs hw_21 G => ?_)
              obtain ⟨rfl, rfl⟩ := hw_21
              replace G := G.perm (ws' := [(h1, .inr (7, [.ref a, .int (iI (w.length : Int))])), (a, aI (K 2) L g)]) [0, 1] rfl rfl
              refine W.eq (g2 := F0 m9 63 ls [.int (iI (lat f i))]) rfl ?_
              refine lv_aload_n F.1 F.2.1 dX6_stands_63 rfl (lv_at hl 1 rfl) ?_
              refine lv_iload F.1 F.2.1 dX6_stands_64 (lv_at hl 5 rfl) ?_
              refine lv_iload F.1 F.2.1 dX6_stands_66 (lv_at hl 6 rfl) ?_
              refine ad_iadd F dX6_stands_68 ?_
              refine ad_callV (As := [.int (iI ((st0 f w k) + i))]) (rest := [.int (iI (lat f i))]) F G (c_X7_at l D K z0 h1 a L g w ((st0 f w k) + i) hT hC hL (by omega)) my_X7_at mv_X6_76 (wr := []) (isC := [0, 1]) (isR := []) ⟨rfl, rfl, rfl, rfl, by decide⟩ 7 0 rfl rfl rfl rfl ⟨Nat.le_of_ble_eq_true rfl, Nat.le_of_ble_eq_true rfl⟩ ⟨Nat.le_of_ble_eq_true rfl, Nat.le_of_ble_eq_true rfl⟩ (Nat.le_of_ble_eq_true rfl) hl.1 (cells9 := 0) (slots9 := 0) ⟨rfl, rfl⟩ dX6_stands_69 (fun v u H locs hw_22 G => ?_)
              obtain ⟨rfl, rfl⟩ := hw_22
              replace G := G.perm (ws' := [(h1, .inr (7, [.ref a, .int (iI (w.length : Int))])), (a, aI (K 2) L g)]) [0, 1] rfl rfl
              refine W.eq (g2 := F0 m9 72 ls [.int (iI (lat w ((st0 f w k) + i))), .int (iI (lat f i))]) rfl ?_
              refine ad_icmp_eq (tgt := 77) F (by have := lat_let hf (k := i) hi.1 (by omega); have := lat_ch hC (st0 f w k + i); omega) dX6_stands_72 (by decide) (fun cc_23 => ?_) (fun cc_23 => ?_)
              · refine ad_iinc (lv' := [(7, .int (iI (i + 1))), (0, .long (enc f)), (2, .ref h1), (3, .int (iI k)), (4, .int (iI (f.length : Int))), (5, .int (iI ((w.length : Int) - (f.length : Int)))), (6, .int (iI (st0 f w k)))]) F dX6_stands_77 hl (k := 6) rfl (by decide) rfl (fun ls hl => ?_)
                refine lv_goto (tgt := 50) F.1 F.2.1 dX6_stands_80 (by decide) ?_
                exact ih50 (i + 1) _ _ _ (by omega) (fun j h1 h2 => (show j = i ∨ j < i by omega).elim (fun h => by rw [h]; exact cc_23) (fun h => ha j h1 h)) (by omega) (G.perm (ws' := [(h1, .inr (7, [.ref a, .int (iI (w.length : Int))])), (a, aI (K 2) L g)]) [0, 1] rfl rfl) (lv_sub hl [1, 2, 3, 4, 5, 6, 0] rfl)
              · refine ad_iconst F dX6_stands_75 ?_
                exact ad_zreturn F G hR rfl (Nat.le_of_ble_eq_true rfl) (Nat.le_of_ble_eq_true rfl) rfl (Or.inr (⟨rfl, (by unfold stb; refine decide_eq_false (fun q => cc_23 ?_); have q2 : lat (sl w (st0 f w k) (st0 f w k + f.length)) i = lat f i := congrArg (fun x => lat x i) q.2; rw [sl_at hs0.1 hi.1 (by omega)] at q2; exact q2.symm), rfl⟩)) dX6_stands_76
        exact lp50 ((((f.length - 0 : Int)) + 1).toNat) 0 _ _ _ (by omega) (fun j h1 h2 => by omega) (by omega) (G.perm (ws' := [(h1, .inr (7, [.ref a, .int (iI (w.length : Int))])), (a, aI (K 2) L g)]) [0, 1] rfl rfl) (lv_sub hl [4, 5, 6, 3, 2, 1, 0] rfl)
    · refine lv_goto (tgt := 32) F.1 F.2.1 dX6_stands_24 (by decide) ?_
      refine ad_iconst F dX6_stands_32 ?_
      exact ad_zreturn F G hR rfl (Nat.le_of_ble_eq_true rfl) (Nat.le_of_ble_eq_true rfl) rfl (Or.inr (⟨rfl, (by unfold stb; refine decide_eq_false (fun q => ?_); have q1 := q.1; split at q1 <;> omega), rfl⟩)) dX6_stands_33

def rm_X6_bestRule : Room := { frames := 3, cells := 0, slots := 0, locals := 61 }
set_option maxHeartbeats 4000000 in
set_option maxRecDepth 100000 in
theorem c_X6_bestRule (l : Launch) (D : va_G) (K : Nat → ClassId) (z0 : Nat) (hb : Nat) (ak : Nat) (ap : Nat) (ac : Nat) (ash : Nat) (alo : Nat) (apc : Nat) (aps : Nat) (apl : Nat) (lc : Option Nat) (gk : Nat → Int) (gp : Nat → Int) (gc : Nat → Int) (gs : Nat → Int64) (gl : Nat → Int64) (rs : List Rl) (np : Int) (md : Int) (th : Int) (nc : Int) (h1 : Nat) (a : Nat) (L : Nat) (g : Nat → Int) (w : List Int) (pl : Int) (k : Int) (b : Int) (hB : BRep gk gp gc gs gl rs) (hW : RW rs) (hT : Tx g w) (hC : Chs w) (hL : w.length ≤ L ∧ L ≤ 65536) (hpl : 0 ≤ pl ∧ pl ≤ 2) (hk : 0 ≤ k ∧ k ≤ 2) (hbb : b = 0 ∨ b = 1) : CT l D K z0 yX6_bestRule cX6_bestRule 7 (some .int) rm_X6_bestRule [.ref hb, .ref h1, .int (iI pl), .int (iI k), .int (iI b)] [(hb, .inr (0, [.ref ak, .ref ap, .ref ac, .ref ash, .ref alo, .int (iI (rs.length : Int)), .ref apc, .ref aps, .ref apl, .int (iI np), .int (iI md), .int (iI th), va_rf lc, .int (iI nc)])), (ak, aI (K 0) 24 gk), (ap, aI (K 0) 24 gp), (ac, aI (K 0) 24 gc), (ash, aJ (K 1) 24 gs), (alo, aJ (K 1) 24 gl), (h1, .inr (7, [.ref a, .int (iI (w.length : Int))])), (a, aI (K 2) L g)] (fun v9 u9 => v9 = some (.int (iI (bR rs w pl k b))) ∧ u9 = [(hb, .inr (0, [.ref ak, .ref ap, .ref ac, .ref ash, .ref alo, .int (iI (rs.length : Int)), .ref apc, .ref aps, .ref apl, .int (iI np), .int (iI md), .int (iI th), va_rf lc, .int (iI nc)])), (ak, aI (K 0) 24 gk), (ap, aI (K 0) 24 gp), (ac, aI (K 0) 24 gc), (ash, aJ (K 1) 24 gs), (alo, aJ (K 1) 24 gl), (h1, .inr (7, [.ref a, .int (iI (w.length : Int))])), (a, aI (K 2) L g)]) := by
  refine CT.start RX6 "bestRule" (by decide) rfl rfl (Nat.le_of_ble_eq_true rfl) ?_
  intro p9 e9 s9 m9 ag9 bl9 mt9 c9 A9 Q9 ls F G hR hl
  have hl : lv_has ls 7 [(0, .ref hb), (1, .ref h1), (2, .int (iI pl)), (3, .int (iI k)), (4, .int (iI b))] := hl
  have hn := hW.1
  refine ad_iconst F dX6_bestRule_0 ?_
  refine lv_istore (lv' := [(5, .int (iI (-1))), (0, .ref hb), (1, .ref h1), (2, .int (iI pl)), (3, .int (iI k)), (4, .int (iI b))]) F.1 F.2.1 dX6_bestRule_1 hl (by decide) rfl (fun ls hl => ?_)
  refine ad_iconst F dX6_bestRule_3 ?_
  refine lv_istore (lv' := [(6, .int (iI 0)), (5, .int (iI (-1))), (0, .ref hb), (1, .ref h1), (2, .int (iI pl)), (3, .int (iI k)), (4, .int (iI b))]) F.1 F.2.1 dX6_bestRule_4 hl (by decide) rfl (fun ls hl => ?_)
  have lp6 : ∀ (n6 : Nat) (i : Int) (bs : Int) (H : Heap) (locs : List Loc) (ls : Array Slot), (0 ≤ i ∧ i ≤ rs.length) → (bs = bst rs (cnd rs w pl k b) i.toNat) → (rs.length - i) < (n6 : Int) → ad_G D A9 s9.heap H locs [(hb, .inr (0, [.ref ak, .ref ap, .ref ac, .ref ash, .ref alo, .int (iI (rs.length : Int)), .ref apc, .ref aps, .ref apl, .int (iI np), .int (iI md), .int (iI th), va_rf lc, .int (iI nc)])), (ak, aI (K 0) 24 gk), (ap, aI (K 0) 24 gp), (ac, aI (K 0) 24 gc), (ash, aJ (K 1) 24 gs), (alo, aJ (K 1) 24 gl), (h1, .inr (7, [.ref a, .int (iI (w.length : Int))])), (a, aI (K 2) L g)] → lv_has ls 7 [(0, .ref hb), (1, .ref h1), (2, .int (iI pl)), (3, .int (iI k)), (4, .int (iI b)), (5, .int (iI bs)), (6, .int (iI i))] → W p9 l e9 rm_X6_bestRule s9 m9 ag9 bl9 mt9 c9 H locs 0 0 Q9 (F0 m9 6 ls []) := by
    intro n6
    induction n6 with
    | zero =>
      intro i bs H locs ls hi hbs hm6
      exact absurd hm6 (by omega)
    | succ n6 ih6 =>
      intro i bs H locs ls hi hbs hm6 G hl
      have hbd := bst_b rs (cnd rs w pl k b) i.toNat
      rw [← hbs] at hbd
      have hd8 := plN_le (rget rs i).2.2.1
      refine lv_iload F.1 F.2.1 dX6_bestRule_6 (lv_at hl 6 rfl) ?_
      refine lv_aload_n F.1 F.2.1 dX6_bestRule_8 rfl (lv_at hl 0 rfl) ?_
      refine ad_get F G fl_X6_38 0 rfl rfl dX6_bestRule_9 ?_
      refine ad_icmp_ge (tgt := 81) F (by omega) dX6_bestRule_12 (by decide) (fun cc_1 => ?_) (fun cc_1 => ?_)
      · refine lv_iload F.1 F.2.1 dX6_bestRule_81 (lv_at hl 5 rfl) ?_
        exact ad_ireturn F G hR rfl (Nat.le_of_ble_eq_true rfl) (Nat.le_of_ble_eq_true rfl) ⟨(ad_eqi (by rw [hbs, show i = rs.length by omega]; rfl)), rfl⟩ dX6_bestRule_83
      · refine lv_aload_n F.1 F.2.1 dX6_bestRule_15 rfl (lv_at hl 0 rfl) ?_
        refine lv_iload F.1 F.2.1 dX6_bestRule_16 (lv_at hl 6 rfl) ?_
        refine lv_iload_n F.1 F.2.1 dX6_bestRule_18 rfl (lv_at hl 3 rfl) ?_
        refine ad_callV (As := [.int (iI i), .int (iI k)]) (rest := []) F G (c_X0_isOfKind l D K z0 hb ak ap ac ash alo apc aps apl lc gk gp gc gs gl rs np md th nc i k hB hW (by omega) hk) my_X0_isOfKind mv_X6_43 (wr := [(ap, aI (K 0) 24 gp), (ac, aI (K 0) 24 gc), (ash, aJ (K 1) 24 gs), (alo, aJ (K 1) 24 gl), (h1, .inr (7, [.ref a, .int (iI (w.length : Int))])), (a, aI (K 2) L g)]) (isC := [0, 1]) (isR := [2, 3, 4, 5, 6, 7]) ⟨rfl, rfl, rfl, rfl, by decide⟩ 0 0 rfl rfl rfl rfl ⟨Nat.le_of_ble_eq_true rfl, Nat.le_of_ble_eq_true rfl⟩ ⟨Nat.le_of_ble_eq_true rfl, Nat.le_of_ble_eq_true rfl⟩ (Nat.le_of_ble_eq_true rfl) hl.1 (cells9 := 0) (slots9 := 0) ⟨rfl, rfl⟩ dX6_bestRule_19 (fun v u H locs hw_2 G => ?_)
        rcases hw_2 with ⟨rfl, hc_3, rfl⟩ | ⟨rfl, hc_4, rfl⟩
        · replace G := G.perm (ws' := [(hb, .inr (0, [.ref ak, .ref ap, .ref ac, .ref ash, .ref alo, .int (iI (rs.length : Int)), .ref apc, .ref aps, .ref apl, .int (iI np), .int (iI md), .int (iI th), va_rf lc, .int (iI nc)])), (ak, aI (K 0) 24 gk), (ap, aI (K 0) 24 gp), (ac, aI (K 0) 24 gc), (ash, aJ (K 1) 24 gs), (alo, aJ (K 1) 24 gl), (h1, .inr (7, [.ref a, .int (iI (w.length : Int))])), (a, aI (K 2) L g)]) [6, 7, 0, 1, 2, 3, 4, 5] rfl rfl
          refine W.eq (g2 := F0 m9 22 ls [.int (iI 1)]) rfl ?_
          refine ad_if_eq (tgt := 75) F (by decide) dX6_bestRule_22 (by decide) (fun cc_5 => absurd cc_5 (by decide)) (fun _ => ?_)
          refine lv_aload_n F.1 F.2.1 dX6_bestRule_25 rfl (lv_at hl 0 rfl) ?_
          refine lv_iload F.1 F.2.1 dX6_bestRule_26 (lv_at hl 6 rfl) ?_
          refine ad_callV (As := [.int (iI i)]) (rest := []) F G (c_X0_placesOfRule l D K z0 hb ak ap ac ash alo apc aps apl lc gk gp gc gs gl rs np md th nc i hB hW (by omega)) my_X0_placesOfRule mv_X6_47 (wr := [(ak, aI (K 0) 24 gk), (ap, aI (K 0) 24 gp), (ash, aJ (K 1) 24 gs), (alo, aJ (K 1) 24 gl), (h1, .inr (7, [.ref a, .int (iI (w.length : Int))])), (a, aI (K 2) L g)]) (isC := [0, 3]) (isR := [1, 2, 4, 5, 6, 7]) ⟨rfl, rfl, rfl, rfl, by decide⟩ 0 0 rfl rfl rfl rfl ⟨Nat.le_of_ble_eq_true rfl, Nat.le_of_ble_eq_true rfl⟩ ⟨Nat.le_of_ble_eq_true rfl, Nat.le_of_ble_eq_true rfl⟩ (Nat.le_of_ble_eq_true rfl) hl.1 (cells9 := 0) (slots9 := 0) ⟨rfl, rfl⟩ dX6_bestRule_28 (fun v u H locs hw_6 G => ?_)
          obtain ⟨rfl, rfl⟩ := hw_6
          replace G := G.perm (ws' := [(hb, .inr (0, [.ref ak, .ref ap, .ref ac, .ref ash, .ref alo, .int (iI (rs.length : Int)), .ref apc, .ref aps, .ref apl, .int (iI np), .int (iI md), .int (iI th), va_rf lc, .int (iI nc)])), (ak, aI (K 0) 24 gk), (ap, aI (K 0) 24 gp), (ac, aI (K 0) 24 gc), (ash, aJ (K 1) 24 gs), (alo, aJ (K 1) 24 gl), (h1, .inr (7, [.ref a, .int (iI (w.length : Int))])), (a, aI (K 2) L g)]) [6, 0, 1, 7, 2, 3, 4, 5] rfl rfl
          refine W.eq (g2 := F0 m9 31 ls [.int (iI (plN (rget rs i).2.2.1 : Int))]) rfl ?_
          refine lv_iload_n F.1 F.2.1 dX6_bestRule_31 rfl (lv_at hl 2 rfl) ?_
          refine ad_ishr8 F (plN_le _) hpl dX6_bestRule_32 ?_
          refine ad_iconst F dX6_bestRule_33 ?_
          refine ad_iand8 F (x := plN (rget rs i).2.2.1 / 2 ^ pl.toNat) (y := 1) (div8 _ _ hd8) (by decide) dX6_bestRule_34 ?_
          refine ad_iconst F dX6_bestRule_35 ?_
          refine ad_icmp_ne (tgt := 75) F (by have := and_le7 (plN (rget rs i).2.2.1 / 2 ^ pl.toNat) 1 (div8 _ _ hd8); omega) dX6_bestRule_36 (by decide) (fun cc_7 => ?_) (fun cc_7 => ?_)
          · refine ad_iinc (lv' := [(6, .int (iI (i + 1))), (0, .ref hb), (1, .ref h1), (2, .int (iI pl)), (3, .int (iI k)), (4, .int (iI b)), (5, .int (iI bs))]) F dX6_bestRule_75 hl (k := 6) rfl (by decide) rfl (fun ls hl => ?_)
            refine lv_goto (tgt := 6) F.1 F.2.1 dX6_bestRule_78 (by decide) ?_
            exact ih6 (i + 1) bs _ _ _ (by omega) (by rw [bst_s hi.1, ← hbs, if_neg (fun q => by have q2 := (of_decide_eq_true q.1).2.1; have q3 := of_decide_eq_true q2; omega)]) (by omega) (G.perm (ws' := [(hb, .inr (0, [.ref ak, .ref ap, .ref ac, .ref ash, .ref alo, .int (iI (rs.length : Int)), .ref apc, .ref aps, .ref apl, .int (iI np), .int (iI md), .int (iI th), va_rf lc, .int (iI nc)])), (ak, aI (K 0) 24 gk), (ap, aI (K 0) 24 gp), (ac, aI (K 0) 24 gc), (ash, aJ (K 1) 24 gs), (alo, aJ (K 1) 24 gl), (h1, .inr (7, [.ref a, .int (iI (w.length : Int))])), (a, aI (K 2) L g)]) [0, 1, 2, 3, 4, 5, 6, 7] rfl rfl) (lv_sub hl [1, 2, 3, 4, 5, 6, 0] rfl)
          · refine lv_aload_n F.1 F.2.1 dX6_bestRule_39 rfl (lv_at hl 0 rfl) ?_
            refine lv_iload F.1 F.2.1 dX6_bestRule_40 (lv_at hl 6 rfl) ?_
            refine lv_iload F.1 F.2.1 dX6_bestRule_42 (lv_at hl 4 rfl) ?_
            refine ad_callV (As := [.int (iI i), .int (iI b)]) (rest := []) F G (c_X0_formOf l D K z0 hb ak ap ac ash alo apc aps apl lc gk gp gc gs gl rs np md th nc i b hB hW (by omega) hbb) my_X0_formOf mv_X6_51 (wr := [(ak, aI (K 0) 24 gk), (ap, aI (K 0) 24 gp), (ac, aI (K 0) 24 gc), (h1, .inr (7, [.ref a, .int (iI (w.length : Int))])), (a, aI (K 2) L g)]) (isC := [0, 4, 5]) (isR := [1, 2, 3, 6, 7]) ⟨rfl, rfl, rfl, rfl, by decide⟩ 0 0 rfl rfl rfl rfl ⟨Nat.le_of_ble_eq_true rfl, Nat.le_of_ble_eq_true rfl⟩ ⟨Nat.le_of_ble_eq_true rfl, Nat.le_of_ble_eq_true rfl⟩ (Nat.le_of_ble_eq_true rfl) hl.1 (cells9 := 0) (slots9 := 0) ⟨rfl, rfl⟩ dX6_bestRule_44 (fun v u H locs hw_8 G => ?_)
            obtain ⟨rfl, rfl⟩ := hw_8
            replace G := G.perm (ws' := [(hb, .inr (0, [.ref ak, .ref ap, .ref ac, .ref ash, .ref alo, .int (iI (rs.length : Int)), .ref apc, .ref aps, .ref apl, .int (iI np), .int (iI md), .int (iI th), va_rf lc, .int (iI nc)])), (ak, aI (K 0) 24 gk), (ap, aI (K 0) 24 gp), (ac, aI (K 0) 24 gc), (ash, aJ (K 1) 24 gs), (alo, aJ (K 1) 24 gl), (h1, .inr (7, [.ref a, .int (iI (w.length : Int))])), (a, aI (K 2) L g)]) [5, 0, 1, 2, 6, 7, 3, 4] rfl rfl
            refine W.eq (g2 := F0 m9 47 ls [.long (enc (fmo (rget rs i) b))]) rfl ?_
            refine lv_aload_n F.1 F.2.1 dX6_bestRule_47 rfl (lv_at hl 1 rfl) ?_
            refine lv_iload_n F.1 F.2.1 dX6_bestRule_48 rfl (lv_at hl 3 rfl) ?_
            refine ad_callS (As := [.long (enc (fmo (rget rs i) b)), .ref h1, .int (iI k)]) (rest := []) F G (c_X6_stands l D K z0 h1 a L g w (fmo (rget rs i) b) k hT hC hL (fmo_Fw hW _ _) hk) my_X6_stands ms_X6_55 (wr := [(hb, .inr (0, [.ref ak, .ref ap, .ref ac, .ref ash, .ref alo, .int (iI (rs.length : Int)), .ref apc, .ref aps, .ref apl, .int (iI np), .int (iI md), .int (iI th), va_rf lc, .int (iI nc)])), (ak, aI (K 0) 24 gk), (ap, aI (K 0) 24 gp), (ac, aI (K 0) 24 gc), (ash, aJ (K 1) 24 gs), (alo, aJ (K 1) 24 gl)]) (isC := [6, 7]) (isR := [0, 1, 2, 3, 4, 5]) ⟨rfl, rfl, rfl, rfl, by decide⟩ rfl rfl ⟨Nat.le_of_ble_eq_true rfl, Nat.le_of_ble_eq_true rfl⟩ ⟨Nat.le_of_ble_eq_true rfl, Nat.le_of_ble_eq_true rfl⟩ (Nat.le_of_ble_eq_true rfl) hl.1 (cells9 := 0) (slots9 := 0) ⟨rfl, rfl⟩ dX6_bestRule_49 (fun v u H locs hw_9 G => ?_)
            rcases hw_9 with ⟨rfl, hc_10, rfl⟩ | ⟨rfl, hc_11, rfl⟩
            · replace G := G.perm (ws' := [(hb, .inr (0, [.ref ak, .ref ap, .ref ac, .ref ash, .ref alo, .int (iI (rs.length : Int)), .ref apc, .ref aps, .ref apl, .int (iI np), .int (iI md), .int (iI th), va_rf lc, .int (iI nc)])), (ak, aI (K 0) 24 gk), (ap, aI (K 0) 24 gp), (ac, aI (K 0) 24 gc), (ash, aJ (K 1) 24 gs), (alo, aJ (K 1) 24 gl), (h1, .inr (7, [.ref a, .int (iI (w.length : Int))])), (a, aI (K 2) L g)]) [0, 1, 2, 3, 4, 5, 6, 7] rfl rfl
              refine W.eq (g2 := F0 m9 52 ls [.int (iI 1)]) rfl ?_
              refine ad_if_eq (tgt := 75) F (by decide) dX6_bestRule_52 (by decide) (fun cc_12 => absurd cc_12 (by decide)) (fun _ => ?_)
              refine lv_iload F.1 F.2.1 dX6_bestRule_55 (lv_at hl 5 rfl) ?_
              refine ad_if_lt (tgt := 71) F (by omega) dX6_bestRule_57 (by decide) (fun cc_13 => ?_) (fun cc_13 => ?_)
              · refine lv_iload F.1 F.2.1 dX6_bestRule_71 (lv_at hl 6 rfl) ?_
                refine lv_istore (lv' := [(5, .int (iI i)), (0, .ref hb), (1, .ref h1), (2, .int (iI pl)), (3, .int (iI k)), (4, .int (iI b)), (6, .int (iI i))]) F.1 F.2.1 dX6_bestRule_73 hl (by decide) rfl (fun ls hl => ?_)
                refine ad_iinc (lv' := [(6, .int (iI (i + 1))), (5, .int (iI i)), (0, .ref hb), (1, .ref h1), (2, .int (iI pl)), (3, .int (iI k)), (4, .int (iI b))]) F dX6_bestRule_75 hl (k := 6) rfl (by decide) rfl (fun ls hl => ?_)
                refine lv_goto (tgt := 6) F.1 F.2.1 dX6_bestRule_78 (by decide) ?_
                exact ih6 (i + 1) i _ _ _ (by omega) (by rw [bst_s hi.1, ← hbs, if_pos ⟨decide_eq_true ⟨hc_3, decide_eq_true (by have := cc_7; omega), hc_10⟩, Or.inl cc_13⟩]) (by omega) (G.perm (ws' := [(hb, .inr (0, [.ref ak, .ref ap, .ref ac, .ref ash, .ref alo, .int (iI (rs.length : Int)), .ref apc, .ref aps, .ref apl, .int (iI np), .int (iI md), .int (iI th), va_rf lc, .int (iI nc)])), (ak, aI (K 0) 24 gk), (ap, aI (K 0) 24 gp), (ac, aI (K 0) 24 gc), (ash, aJ (K 1) 24 gs), (alo, aJ (K 1) 24 gl), (h1, .inr (7, [.ref a, .int (iI (w.length : Int))])), (a, aI (K 2) L g)]) [0, 1, 2, 3, 4, 5, 6, 7] rfl rfl) (lv_sub hl [2, 3, 4, 5, 6, 1, 0] rfl)
              · refine lv_aload_n F.1 F.2.1 dX6_bestRule_60 rfl (lv_at hl 0 rfl) ?_
                refine lv_iload F.1 F.2.1 dX6_bestRule_61 (lv_at hl 6 rfl) ?_
                refine lv_iload F.1 F.2.1 dX6_bestRule_63 (lv_at hl 5 rfl) ?_
                refine ad_callV (As := [.int (iI i), .int (iI bs)]) (rest := []) F G (c_X0_isBetter l D K z0 hb ak ap ac ash alo apc aps apl lc gk gp gc gs gl rs np md th nc i bs hB hW (by omega) (by omega)) my_X0_isBetter mv_X6_59 (wr := [(ak, aI (K 0) 24 gk), (ac, aI (K 0) 24 gc), (h1, .inr (7, [.ref a, .int (iI (w.length : Int))])), (a, aI (K 2) L g)]) (isC := [0, 2, 4, 5]) (isR := [1, 3, 6, 7]) ⟨rfl, rfl, rfl, rfl, by decide⟩ 0 0 rfl rfl rfl rfl ⟨Nat.le_of_ble_eq_true rfl, Nat.le_of_ble_eq_true rfl⟩ ⟨Nat.le_of_ble_eq_true rfl, Nat.le_of_ble_eq_true rfl⟩ (Nat.le_of_ble_eq_true rfl) hl.1 (cells9 := 0) (slots9 := 0) ⟨rfl, rfl⟩ dX6_bestRule_65 (fun v u H locs hw_14 G => ?_)
                rcases hw_14 with ⟨rfl, hc_15, rfl⟩ | ⟨rfl, hc_16, rfl⟩
                · replace G := G.perm (ws' := [(hb, .inr (0, [.ref ak, .ref ap, .ref ac, .ref ash, .ref alo, .int (iI (rs.length : Int)), .ref apc, .ref aps, .ref apl, .int (iI np), .int (iI md), .int (iI th), va_rf lc, .int (iI nc)])), (ak, aI (K 0) 24 gk), (ap, aI (K 0) 24 gp), (ac, aI (K 0) 24 gc), (ash, aJ (K 1) 24 gs), (alo, aJ (K 1) 24 gl), (h1, .inr (7, [.ref a, .int (iI (w.length : Int))])), (a, aI (K 2) L g)]) [4, 0, 5, 1, 6, 7, 2, 3] rfl rfl
                  refine W.eq (g2 := F0 m9 68 ls [.int (iI 1)]) rfl ?_
                  refine ad_if_eq (tgt := 75) F (by decide) dX6_bestRule_68 (by decide) (fun cc_17 => absurd cc_17 (by decide)) (fun _ => ?_)
                  refine lv_iload F.1 F.2.1 dX6_bestRule_71 (lv_at hl 6 rfl) ?_
                  refine lv_istore (lv' := [(5, .int (iI i)), (0, .ref hb), (1, .ref h1), (2, .int (iI pl)), (3, .int (iI k)), (4, .int (iI b)), (6, .int (iI i))]) F.1 F.2.1 dX6_bestRule_73 hl (by decide) rfl (fun ls hl => ?_)
                  refine ad_iinc (lv' := [(6, .int (iI (i + 1))), (5, .int (iI i)), (0, .ref hb), (1, .ref h1), (2, .int (iI pl)), (3, .int (iI k)), (4, .int (iI b))]) F dX6_bestRule_75 hl (k := 6) rfl (by decide) rfl (fun ls hl => ?_)
                  refine lv_goto (tgt := 6) F.1 F.2.1 dX6_bestRule_78 (by decide) ?_
                  exact ih6 (i + 1) i _ _ _ (by omega) (by rw [bst_s hi.1, ← hbs, if_pos ⟨decide_eq_true ⟨hc_3, decide_eq_true (by have := cc_7; omega), hc_10⟩, Or.inr (btb_iff.mpr hc_15)⟩]) (by omega) (G.perm (ws' := [(hb, .inr (0, [.ref ak, .ref ap, .ref ac, .ref ash, .ref alo, .int (iI (rs.length : Int)), .ref apc, .ref aps, .ref apl, .int (iI np), .int (iI md), .int (iI th), va_rf lc, .int (iI nc)])), (ak, aI (K 0) 24 gk), (ap, aI (K 0) 24 gp), (ac, aI (K 0) 24 gc), (ash, aJ (K 1) 24 gs), (alo, aJ (K 1) 24 gl), (h1, .inr (7, [.ref a, .int (iI (w.length : Int))])), (a, aI (K 2) L g)]) [0, 1, 2, 3, 4, 5, 6, 7] rfl rfl) (lv_sub hl [2, 3, 4, 5, 6, 1, 0] rfl)
                · replace G := G.perm (ws' := [(hb, .inr (0, [.ref ak, .ref ap, .ref ac, .ref ash, .ref alo, .int (iI (rs.length : Int)), .ref apc, .ref aps, .ref apl, .int (iI np), .int (iI md), .int (iI th), va_rf lc, .int (iI nc)])), (ak, aI (K 0) 24 gk), (ap, aI (K 0) 24 gp), (ac, aI (K 0) 24 gc), (ash, aJ (K 1) 24 gs), (alo, aJ (K 1) 24 gl), (h1, .inr (7, [.ref a, .int (iI (w.length : Int))])), (a, aI (K 2) L g)]) [4, 0, 5, 1, 6, 7, 2, 3] rfl rfl
                  refine W.eq (g2 := F0 m9 68 ls [.int (iI 0)]) rfl ?_
                  refine ad_if_eq (tgt := 75) F (by decide) dX6_bestRule_68 (by decide) (fun _ => ?_) (fun cc_18 => absurd cc_18 (by decide))
                  refine ad_iinc (lv' := [(6, .int (iI (i + 1))), (0, .ref hb), (1, .ref h1), (2, .int (iI pl)), (3, .int (iI k)), (4, .int (iI b)), (5, .int (iI bs))]) F dX6_bestRule_75 hl (k := 6) rfl (by decide) rfl (fun ls hl => ?_)
                  refine lv_goto (tgt := 6) F.1 F.2.1 dX6_bestRule_78 (by decide) ?_
                  exact ih6 (i + 1) bs _ _ _ (by omega) (by rw [bst_s hi.1, ← hbs, if_neg (fun q => by rcases q.2 with q2 | q2; omega; exact hc_16 (btb_iff.mp q2))]) (by omega) (G.perm (ws' := [(hb, .inr (0, [.ref ak, .ref ap, .ref ac, .ref ash, .ref alo, .int (iI (rs.length : Int)), .ref apc, .ref aps, .ref apl, .int (iI np), .int (iI md), .int (iI th), va_rf lc, .int (iI nc)])), (ak, aI (K 0) 24 gk), (ap, aI (K 0) 24 gp), (ac, aI (K 0) 24 gc), (ash, aJ (K 1) 24 gs), (alo, aJ (K 1) 24 gl), (h1, .inr (7, [.ref a, .int (iI (w.length : Int))])), (a, aI (K 2) L g)]) [0, 1, 2, 3, 4, 5, 6, 7] rfl rfl) (lv_sub hl [1, 2, 3, 4, 5, 6, 0] rfl)
            · replace G := G.perm (ws' := [(hb, .inr (0, [.ref ak, .ref ap, .ref ac, .ref ash, .ref alo, .int (iI (rs.length : Int)), .ref apc, .ref aps, .ref apl, .int (iI np), .int (iI md), .int (iI th), va_rf lc, .int (iI nc)])), (ak, aI (K 0) 24 gk), (ap, aI (K 0) 24 gp), (ac, aI (K 0) 24 gc), (ash, aJ (K 1) 24 gs), (alo, aJ (K 1) 24 gl), (h1, .inr (7, [.ref a, .int (iI (w.length : Int))])), (a, aI (K 2) L g)]) [0, 1, 2, 3, 4, 5, 6, 7] rfl rfl
              refine W.eq (g2 := F0 m9 52 ls [.int (iI 0)]) rfl ?_
              refine ad_if_eq (tgt := 75) F (by decide) dX6_bestRule_52 (by decide) (fun _ => ?_) (fun cc_19 => absurd cc_19 (by decide))
              refine ad_iinc (lv' := [(6, .int (iI (i + 1))), (0, .ref hb), (1, .ref h1), (2, .int (iI pl)), (3, .int (iI k)), (4, .int (iI b)), (5, .int (iI bs))]) F dX6_bestRule_75 hl (k := 6) rfl (by decide) rfl (fun ls hl => ?_)
              refine lv_goto (tgt := 6) F.1 F.2.1 dX6_bestRule_78 (by decide) ?_
              exact ih6 (i + 1) bs _ _ _ (by omega) (by rw [bst_s hi.1, ← hbs, if_neg (fun q => by have q2 := (of_decide_eq_true q.1).2.2; rw [hc_11] at q2; exact absurd q2 (by decide))]) (by omega) (G.perm (ws' := [(hb, .inr (0, [.ref ak, .ref ap, .ref ac, .ref ash, .ref alo, .int (iI (rs.length : Int)), .ref apc, .ref aps, .ref apl, .int (iI np), .int (iI md), .int (iI th), va_rf lc, .int (iI nc)])), (ak, aI (K 0) 24 gk), (ap, aI (K 0) 24 gp), (ac, aI (K 0) 24 gc), (ash, aJ (K 1) 24 gs), (alo, aJ (K 1) 24 gl), (h1, .inr (7, [.ref a, .int (iI (w.length : Int))])), (a, aI (K 2) L g)]) [0, 1, 2, 3, 4, 5, 6, 7] rfl rfl) (lv_sub hl [1, 2, 3, 4, 5, 6, 0] rfl)
        · replace G := G.perm (ws' := [(hb, .inr (0, [.ref ak, .ref ap, .ref ac, .ref ash, .ref alo, .int (iI (rs.length : Int)), .ref apc, .ref aps, .ref apl, .int (iI np), .int (iI md), .int (iI th), va_rf lc, .int (iI nc)])), (ak, aI (K 0) 24 gk), (ap, aI (K 0) 24 gp), (ac, aI (K 0) 24 gc), (ash, aJ (K 1) 24 gs), (alo, aJ (K 1) 24 gl), (h1, .inr (7, [.ref a, .int (iI (w.length : Int))])), (a, aI (K 2) L g)]) [6, 7, 0, 1, 2, 3, 4, 5] rfl rfl
          refine W.eq (g2 := F0 m9 22 ls [.int (iI 0)]) rfl ?_
          refine ad_if_eq (tgt := 75) F (by decide) dX6_bestRule_22 (by decide) (fun _ => ?_) (fun cc_20 => absurd cc_20 (by decide))
          refine ad_iinc (lv' := [(6, .int (iI (i + 1))), (0, .ref hb), (1, .ref h1), (2, .int (iI pl)), (3, .int (iI k)), (4, .int (iI b)), (5, .int (iI bs))]) F dX6_bestRule_75 hl (k := 6) rfl (by decide) rfl (fun ls hl => ?_)
          refine lv_goto (tgt := 6) F.1 F.2.1 dX6_bestRule_78 (by decide) ?_
          exact ih6 (i + 1) bs _ _ _ (by omega) (by rw [bst_s hi.1, ← hbs, if_neg (fun q => hc_4 (of_decide_eq_true q.1).1)]) (by omega) (G.perm (ws' := [(hb, .inr (0, [.ref ak, .ref ap, .ref ac, .ref ash, .ref alo, .int (iI (rs.length : Int)), .ref apc, .ref aps, .ref apl, .int (iI np), .int (iI md), .int (iI th), va_rf lc, .int (iI nc)])), (ak, aI (K 0) 24 gk), (ap, aI (K 0) 24 gp), (ac, aI (K 0) 24 gc), (ash, aJ (K 1) 24 gs), (alo, aJ (K 1) 24 gl), (h1, .inr (7, [.ref a, .int (iI (w.length : Int))])), (a, aI (K 2) L g)]) [0, 1, 2, 3, 4, 5, 6, 7] rfl rfl) (lv_sub hl [1, 2, 3, 4, 5, 6, 0] rfl)
  exact lp6 ((((rs.length - 0 : Int)) + 1).toNat) 0 (-1) _ _ _ (by omega) rfl (by omega) (G.perm (ws' := [(hb, .inr (0, [.ref ak, .ref ap, .ref ac, .ref ash, .ref alo, .int (iI (rs.length : Int)), .ref apc, .ref aps, .ref apl, .int (iI np), .int (iI md), .int (iI th), va_rf lc, .int (iI nc)])), (ak, aI (K 0) 24 gk), (ap, aI (K 0) 24 gp), (ac, aI (K 0) 24 gc), (ash, aJ (K 1) 24 gs), (alo, aJ (K 1) 24 gl), (h1, .inr (7, [.ref a, .int (iI (w.length : Int))])), (a, aI (K 2) L g)]) [0, 1, 2, 3, 4, 5, 6, 7] rfl rfl) (lv_sub hl [2, 3, 4, 5, 6, 1, 0] rfl)
