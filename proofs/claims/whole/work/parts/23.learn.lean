def rm_X0_equalsSign : Room := { frames := 2, cells := 0, slots := 0, locals := 33 }
set_option maxHeartbeats 4000000 in
set_option maxRecDepth 100000 in
theorem c_X0_equalsSign (l : Launch) (D : va_G) (K : Nat → ClassId) (z0 : Nat) (h0 : Nat) (a : Nat) (L : Nat) (g : Nat → Int) (w : List Int) (hT : Tx g w) (hC : Chs w) (hL : w.length ≤ L ∧ L ≤ 65536) : CT l D K z0 yX0_equalsSign cX0_equalsSign 2 (some .int) rm_X0_equalsSign [.ref h0] [(h0, .inr (7, [.ref a, .int (iI (w.length : Int))])), (a, aI (K 2) L g)] (fun v9 u9 => ∃ (r : Int), v9 = some (.int (iI r)) ∧ (0 ≤ r ∧ r ≤ w.length) ∧ (∀ j : Int, 0 ≤ j → j < r → lat w j ≠ 61) ∧ (r < w.length → lat w r = 61) ∧ u9 = [(h0, .inr (7, [.ref a, .int (iI (w.length : Int))])), (a, aI (K 2) L g)]) := by
  refine CT.start RX0 "equalsSign" (by decide) rfl rfl (Nat.le_of_ble_eq_true rfl) ?_
  intro p9 e9 s9 m9 ag9 bl9 mt9 c9 A9 Q9 ls F G hR hl
  have hl : lv_has ls 2 [(0, .ref h0)] := hl
  refine ad_iconst F dX0_equalsSign_0 ?_
  refine lv_istore_n (lv' := [(1, .int (iI 0)), (0, .ref h0)]) F.1 F.2.1 dX0_equalsSign_1 rfl hl (by decide) rfl (fun ls hl => ?_)
  have lp2 : ∀ (n2 : Nat) (i : Int) (H : Heap) (locs : List Loc) (ls : Array Slot), (0 ≤ i ∧ i ≤ w.length) → (∀ j : Int, 0 ≤ j → j < i → lat w j ≠ 61) → (w.length - i) < (n2 : Int) → ad_G D A9 s9.heap H locs [(h0, .inr (7, [.ref a, .int (iI (w.length : Int))])), (a, aI (K 2) L g)] → lv_has ls 2 [(0, .ref h0), (1, .int (iI i))] → W p9 l e9 rm_X0_equalsSign s9 m9 ag9 bl9 mt9 c9 H locs 0 0 Q9 (F0 m9 2 ls []) := by
    intro n2
    induction n2 with
    | zero =>
      intro i H locs ls hi ha hm2
      exact absurd hm2 (by omega)
    | succ n2 ih2 =>
      intro i H locs ls hi ha hm2 G hl
      refine lv_iload_n F.1 F.2.1 dX0_equalsSign_2 rfl (lv_at hl 1 rfl) ?_
      refine lv_aload_n F.1 F.2.1 dX0_equalsSign_3 rfl (lv_at hl 0 rfl) ?_
      refine ad_callV (As := []) (rest := [.int (iI i)]) F G (c_X7_size l D K z0 h0 a (w.length : Int) ) my_X7_size mv_X0_82 (wr := [(a, aI (K 2) L g)]) (isC := [0]) (isR := [1]) ⟨rfl, rfl, rfl, rfl, by decide⟩ 7 0 rfl rfl rfl rfl ⟨Nat.le_of_ble_eq_true rfl, Nat.le_of_ble_eq_true rfl⟩ ⟨Nat.le_of_ble_eq_true rfl, Nat.le_of_ble_eq_true rfl⟩ (Nat.le_of_ble_eq_true rfl) hl.1 (cells9 := 0) (slots9 := 0) ⟨rfl, rfl⟩ dX0_equalsSign_4 (fun v u H locs hw_1 G => ?_)
      obtain ⟨rfl, rfl⟩ := hw_1
      replace G := G.perm (ws' := [(h0, .inr (7, [.ref a, .int (iI (w.length : Int))])), (a, aI (K 2) L g)]) [1, 0] rfl rfl
      refine W.eq (g2 := F0 m9 7 ls [.int (iI (w.length : Int)), .int (iI i)]) rfl ?_
      refine ad_icmp_ge (tgt := 26) F (by omega) dX0_equalsSign_7 (by decide) (fun cc_2 => ?_) (fun cc_2 => ?_)
      · refine lv_iload_n F.1 F.2.1 dX0_equalsSign_26 rfl (lv_at hl 1 rfl) ?_
        exact ad_ireturn F G hR rfl (Nat.le_of_ble_eq_true rfl) (Nat.le_of_ble_eq_true rfl) ⟨i, rfl, hi, ha, (fun h => by omega), rfl⟩ dX0_equalsSign_27
      · refine lv_aload_n F.1 F.2.1 dX0_equalsSign_10 rfl (lv_at hl 0 rfl) ?_
        refine lv_iload_n F.1 F.2.1 dX0_equalsSign_11 rfl (lv_at hl 1 rfl) ?_
        refine ad_callV (As := [.int (iI i)]) (rest := []) F G (c_X7_at l D K z0 h0 a L g w i hT hC hL (by omega)) my_X7_at mv_X0_131 (wr := []) (isC := [0, 1]) (isR := []) ⟨rfl, rfl, rfl, rfl, by decide⟩ 7 0 rfl rfl rfl rfl ⟨Nat.le_of_ble_eq_true rfl, Nat.le_of_ble_eq_true rfl⟩ ⟨Nat.le_of_ble_eq_true rfl, Nat.le_of_ble_eq_true rfl⟩ (Nat.le_of_ble_eq_true rfl) hl.1 (cells9 := 0) (slots9 := 0) ⟨rfl, rfl⟩ dX0_equalsSign_12 (fun v u H locs hw_3 G => ?_)
        obtain ⟨rfl, rfl⟩ := hw_3
        replace G := G.perm (ws' := [(h0, .inr (7, [.ref a, .int (iI (w.length : Int))])), (a, aI (K 2) L g)]) [0, 1] rfl rfl
        refine W.eq (g2 := F0 m9 15 ls [.int (iI (lat w i))]) rfl ?_
        refine ad_bipush F dX0_equalsSign_15 (by decide) ?_
        refine ad_icmp_eq (tgt := 26) F (by have := lat_ch hC i; omega) dX0_equalsSign_17 (by decide) (fun cc_4 => ?_) (fun cc_4 => ?_)
        · refine lv_iload_n F.1 F.2.1 dX0_equalsSign_26 rfl (lv_at hl 1 rfl) ?_
          exact ad_ireturn F G hR rfl (Nat.le_of_ble_eq_true rfl) (Nat.le_of_ble_eq_true rfl) ⟨i, rfl, hi, ha, (fun _ => cc_4), rfl⟩ dX0_equalsSign_27
        · refine ad_iinc (lv' := [(1, .int (iI (i + 1))), (0, .ref h0)]) F dX0_equalsSign_20 hl (k := 1) rfl (by decide) rfl (fun ls hl => ?_)
          refine lv_goto (tgt := 2) F.1 F.2.1 dX0_equalsSign_23 (by decide) ?_
          exact ih2 (i + 1) _ _ _ (by omega) (fun j h1 h2 => (show j = i ∨ j < i by omega).elim (fun h => by rw [h]; exact cc_4) (fun h => ha j h1 h)) (by omega) (G.perm (ws' := [(h0, .inr (7, [.ref a, .int (iI (w.length : Int))])), (a, aI (K 2) L g)]) [0, 1] rfl rfl) (lv_sub hl [1, 0] rfl)
  exact lp2 ((((w.length - 0 : Int)) + 1).toNat) 0 _ _ _ (by omega) (fun j h1 h2 => by omega) (by omega) (G.perm (ws' := [(h0, .inr (7, [.ref a, .int (iI (w.length : Int))])), (a, aI (K 2) L g)]) [0, 1] rfl rfl) (lv_sub hl [1, 0] rfl)

def rm_X0_insertText : Room := { frames := 3, cells := 0, slots := 0, locals := 58 }
set_option maxHeartbeats 4000000 in
set_option maxRecDepth 100000 in
theorem c_X0_insertText (l : Launch) (D : va_G) (K : Nat → ClassId) (z0 : Nat) (h0 : Nat) (ak : Nat) (ap : Nat) (ac : Nat) (ash : Nat) (alo : Nat) (apc : Nat) (aps : Nat) (apl : Nat) (lc : Option Nat) (gk : Nat → Int) (gp : Nat → Int) (gc : Nat → Int) (gs : Nat → Int64) (gl : Nat → Int64) (rs : List Rl) (np : Int) (md : Int) (th : Int) (nc : Int) (h1 : Nat) (a : Nat) (L : Nat) (g : Nat → Int) (w : List Int) (k : Int) (p : Int) (c : Int) (hB : BRep gk gp gc gs gl rs) (hW : RW rs) (hT : Tx g w) (hC : Chs w) (hL : w.length ≤ L ∧ L ≤ 65536) (he : errR w = -1) (hkk : 0 ≤ k ∧ k ≤ 2) (hpp : 0 ≤ p ∧ p ≤ 99) (hcc : 0 ≤ c ∧ c ≤ 4) : CT l D K z0 yX0_insertText cX0_insertText 10 none rm_X0_insertText [.ref h0, .int (iI k), .int (iI p), .int (iI c), .ref h1] [(h0, .inr (0, [.ref ak, .ref ap, .ref ac, .ref ash, .ref alo, .int (iI (rs.length : Int)), .ref apc, .ref aps, .ref apl, .int (iI np), .int (iI md), .int (iI th), va_rf lc, .int (iI nc)])), (ak, aI (K 0) 24 gk), (ap, aI (K 0) 24 gp), (ac, aI (K 0) 24 gc), (ash, aJ (K 1) 24 gs), (alo, aJ (K 1) 24 gl), (h1, .inr (7, [.ref a, .int (iI (w.length : Int))])), (a, aI (K 2) L g)] (fun v9 u9 => ∃ (gk2 : Nat → Int), ∃ (gp2 : Nat → Int), ∃ (gc2 : Nat → Int), ∃ (gs2 : Nat → Int64), ∃ (gl2 : Nat → Int64), ∃ (rs2 : List Rl), v9 = none ∧ (rs2 = insR rs (k, p, c, shW w, loW w)) ∧ (BRep gk2 gp2 gc2 gs2 gl2 rs2) ∧ u9 = [(h0, .inr (0, [.ref ak, .ref ap, .ref ac, .ref ash, .ref alo, .int (iI (rs2.length : Int)), .ref apc, .ref aps, .ref apl, .int (iI np), .int (iI md), .int (iI th), va_rf lc, .int (iI nc)])), (ak, aI (K 0) 24 gk2), (ap, aI (K 0) 24 gp2), (ac, aI (K 0) 24 gc2), (ash, aJ (K 1) 24 gs2), (alo, aJ (K 1) 24 gl2), (h1, .inr (7, [.ref a, .int (iI (w.length : Int))])), (a, aI (K 2) L g)]) := by
  refine CT.start RX0 "insertText" (by decide) rfl rfl (Nat.le_of_ble_eq_true rfl) ?_
  intro p9 e9 s9 m9 ag9 bl9 mt9 c9 A9 Q9 ls F G hR hl
  have hl : lv_has ls 10 [(0, .ref h0), (1, .int (iI k)), (2, .int (iI p)), (3, .int (iI c)), (4, .ref h1)] := hl
  have hn := hW.1
  have ho := errR_ok he
  refine lv_aload F.1 F.2.1 dX0_insertText_0 (lv_at hl 4 rfl) ?_
  refine ad_iconst F dX0_insertText_2 ?_
  refine ad_callV (As := [.int (iI 0)]) (rest := []) F G (c_X7_lettersEnd l D K z0 h1 a L g w 0 hT hC hL (by omega)) my_X7_lettersEnd mv_X0_70 (wr := [(h0, .inr (0, [.ref ak, .ref ap, .ref ac, .ref ash, .ref alo, .int (iI (rs.length : Int)), .ref apc, .ref aps, .ref apl, .int (iI np), .int (iI md), .int (iI th), va_rf lc, .int (iI nc)])), (ak, aI (K 0) 24 gk), (ap, aI (K 0) 24 gp), (ac, aI (K 0) 24 gc), (ash, aJ (K 1) 24 gs), (alo, aJ (K 1) 24 gl)]) (isC := [6, 7]) (isR := [0, 1, 2, 3, 4, 5]) ⟨rfl, rfl, rfl, rfl, by decide⟩ 7 0 rfl rfl rfl rfl ⟨Nat.le_of_ble_eq_true rfl, Nat.le_of_ble_eq_true rfl⟩ ⟨Nat.le_of_ble_eq_true rfl, Nat.le_of_ble_eq_true rfl⟩ (Nat.le_of_ble_eq_true rfl) hl.1 (cells9 := 0) (slots9 := 0) ⟨rfl, rfl⟩ dX0_insertText_3 (fun v u H locs hw_1 G => ?_)
  obtain ⟨r_2, rfl, hc_3, hc_4, hc_5, rfl⟩ := hw_1
  replace G := G.perm (ws' := [(h0, .inr (0, [.ref ak, .ref ap, .ref ac, .ref ash, .ref alo, .int (iI (rs.length : Int)), .ref apc, .ref aps, .ref apl, .int (iI np), .int (iI md), .int (iI th), va_rf lc, .int (iI nc)])), (ak, aI (K 0) 24 gk), (ap, aI (K 0) 24 gp), (ac, aI (K 0) 24 gc), (ash, aJ (K 1) 24 gs), (alo, aJ (K 1) 24 gl), (h1, .inr (7, [.ref a, .int (iI (w.length : Int))])), (a, aI (K 2) L g)]) [0, 1, 2, 3, 4, 5, 6, 7] rfl rfl
  refine W.eq (g2 := F0 m9 6 ls [.int (iI r_2)]) rfl ?_
  have hle_6 : lend w 0 = r_2 := lend_eq (by omega) hc_3.1 hc_3.2 hc_4 hc_5
  refine ad_topi (y := lend w 0) hle_6.symm ?_
  refine lv_istore (lv' := [(5, .int (iI (lend w 0))), (0, .ref h0), (1, .int (iI k)), (2, .int (iI p)), (3, .int (iI c)), (4, .ref h1)]) F.1 F.2.1 dX0_insertText_6 hl (by decide) rfl (fun ls hl => ?_)
  refine lv_aload F.1 F.2.1 dX0_insertText_8 (lv_at hl 5 rfl) ?_
  refine ad_iconst F dX0_insertText_10 ?_
  refine lv_iload F.1 F.2.1 dX0_insertText_11 (lv_at hl 0 rfl) ?_
  refine ad_callS (As := [.ref h1, .int (iI 0), .int (iI (lend w 0))]) (rest := []) F G (c_X2_of l D K z0 h1 a L g w 0 (lend w 0) hT hC hL (by omega) ho.2.2.2.2.2.1) my_X2_of ms_X0_76 (wr := [(h0, .inr (0, [.ref ak, .ref ap, .ref ac, .ref ash, .ref alo, .int (iI (rs.length : Int)), .ref apc, .ref aps, .ref apl, .int (iI np), .int (iI md), .int (iI th), va_rf lc, .int (iI nc)])), (ak, aI (K 0) 24 gk), (ap, aI (K 0) 24 gp), (ac, aI (K 0) 24 gc), (ash, aJ (K 1) 24 gs), (alo, aJ (K 1) 24 gl)]) (isC := [6, 7]) (isR := [0, 1, 2, 3, 4, 5]) ⟨rfl, rfl, rfl, rfl, by decide⟩ rfl rfl ⟨Nat.le_of_ble_eq_true rfl, Nat.le_of_ble_eq_true rfl⟩ ⟨Nat.le_of_ble_eq_true rfl, Nat.le_of_ble_eq_true rfl⟩ (Nat.le_of_ble_eq_true rfl) hl.1 (cells9 := 0) (slots9 := 0) ⟨rfl, rfl⟩ dX0_insertText_13 (fun v u H locs hw_7 G => ?_)
  obtain ⟨rfl, rfl⟩ := hw_7
  replace G := G.perm (ws' := [(h0, .inr (0, [.ref ak, .ref ap, .ref ac, .ref ash, .ref alo, .int (iI (rs.length : Int)), .ref apc, .ref aps, .ref apl, .int (iI np), .int (iI md), .int (iI th), va_rf lc, .int (iI nc)])), (ak, aI (K 0) 24 gk), (ap, aI (K 0) 24 gp), (ac, aI (K 0) 24 gc), (ash, aJ (K 1) 24 gs), (alo, aJ (K 1) 24 gl), (h1, .inr (7, [.ref a, .int (iI (w.length : Int))])), (a, aI (K 2) L g)]) [0, 1, 2, 3, 4, 5, 6, 7] rfl rfl
  refine W.eq (g2 := F0 m9 16 ls [.long (enc (sl w 0 (lend w 0)))]) rfl ?_
  refine ad_topl (y := enc (shW w)) rfl ?_
  refine lv_lstore (lv' := [(6, .long (enc (shW w))), (5, .int (iI (lend w 0))), (0, .ref h0), (1, .int (iI k)), (2, .int (iI p)), (3, .int (iI c)), (4, .ref h1)]) F.1 F.2.1 dX0_insertText_16 hl (by decide) rfl (fun ls hl => ?_)
  refine lv_aload F.1 F.2.1 dX0_insertText_18 (lv_at hl 6 rfl) ?_
  refine lv_iload F.1 F.2.1 dX0_insertText_20 (lv_at hl 1 rfl) ?_
  refine ad_iconst F dX0_insertText_22 ?_
  refine ad_iadd F dX0_insertText_23 ?_
  refine lv_aload F.1 F.2.1 dX0_insertText_24 (lv_at hl 6 rfl) ?_
  refine ad_callV (As := []) (rest := [.int (iI ((lend w 0) + 1)), .ref h1]) F G (c_X7_size l D K z0 h1 a (w.length : Int) ) my_X7_size mv_X0_82 (wr := [(h0, .inr (0, [.ref ak, .ref ap, .ref ac, .ref ash, .ref alo, .int (iI (rs.length : Int)), .ref apc, .ref aps, .ref apl, .int (iI np), .int (iI md), .int (iI th), va_rf lc, .int (iI nc)])), (ak, aI (K 0) 24 gk), (ap, aI (K 0) 24 gp), (ac, aI (K 0) 24 gc), (ash, aJ (K 1) 24 gs), (alo, aJ (K 1) 24 gl), (a, aI (K 2) L g)]) (isC := [6]) (isR := [0, 1, 2, 3, 4, 5, 7]) ⟨rfl, rfl, rfl, rfl, by decide⟩ 7 0 rfl rfl rfl rfl ⟨Nat.le_of_ble_eq_true rfl, Nat.le_of_ble_eq_true rfl⟩ ⟨Nat.le_of_ble_eq_true rfl, Nat.le_of_ble_eq_true rfl⟩ (Nat.le_of_ble_eq_true rfl) hl.1 (cells9 := 0) (slots9 := 0) ⟨rfl, rfl⟩ dX0_insertText_26 (fun v u H locs hw_8 G => ?_)
  obtain ⟨rfl, rfl⟩ := hw_8
  replace G := G.perm (ws' := [(h0, .inr (0, [.ref ak, .ref ap, .ref ac, .ref ash, .ref alo, .int (iI (rs.length : Int)), .ref apc, .ref aps, .ref apl, .int (iI np), .int (iI md), .int (iI th), va_rf lc, .int (iI nc)])), (ak, aI (K 0) 24 gk), (ap, aI (K 0) 24 gp), (ac, aI (K 0) 24 gc), (ash, aJ (K 1) 24 gs), (alo, aJ (K 1) 24 gl), (h1, .inr (7, [.ref a, .int (iI (w.length : Int))])), (a, aI (K 2) L g)]) [0, 1, 2, 3, 4, 5, 7, 6] rfl rfl
  refine W.eq (g2 := F0 m9 29 ls [.int (iI (w.length : Int)), .int (iI ((lend w 0) + 1)), .ref h1]) rfl ?_
  refine ad_callS (As := [.ref h1, .int (iI ((lend w 0) + 1)), .int (iI (w.length : Int))]) (rest := []) F G (c_X2_of l D K z0 h1 a L g w ((lend w 0) + 1) (w.length : Int) hT hC hL (by omega) ho.2.2.2.2.2.2.1) my_X2_of ms_X0_76 (wr := [(h0, .inr (0, [.ref ak, .ref ap, .ref ac, .ref ash, .ref alo, .int (iI (rs.length : Int)), .ref apc, .ref aps, .ref apl, .int (iI np), .int (iI md), .int (iI th), va_rf lc, .int (iI nc)])), (ak, aI (K 0) 24 gk), (ap, aI (K 0) 24 gp), (ac, aI (K 0) 24 gc), (ash, aJ (K 1) 24 gs), (alo, aJ (K 1) 24 gl)]) (isC := [6, 7]) (isR := [0, 1, 2, 3, 4, 5]) ⟨rfl, rfl, rfl, rfl, by decide⟩ rfl rfl ⟨Nat.le_of_ble_eq_true rfl, Nat.le_of_ble_eq_true rfl⟩ ⟨Nat.le_of_ble_eq_true rfl, Nat.le_of_ble_eq_true rfl⟩ (Nat.le_of_ble_eq_true rfl) hl.1 (cells9 := 0) (slots9 := 0) ⟨rfl, rfl⟩ dX0_insertText_29 (fun v u H locs hw_9 G => ?_)
  obtain ⟨rfl, rfl⟩ := hw_9
  replace G := G.perm (ws' := [(h0, .inr (0, [.ref ak, .ref ap, .ref ac, .ref ash, .ref alo, .int (iI (rs.length : Int)), .ref apc, .ref aps, .ref apl, .int (iI np), .int (iI md), .int (iI th), va_rf lc, .int (iI nc)])), (ak, aI (K 0) 24 gk), (ap, aI (K 0) 24 gp), (ac, aI (K 0) 24 gc), (ash, aJ (K 1) 24 gs), (alo, aJ (K 1) 24 gl), (h1, .inr (7, [.ref a, .int (iI (w.length : Int))])), (a, aI (K 2) L g)]) [0, 1, 2, 3, 4, 5, 6, 7] rfl rfl
  refine W.eq (g2 := F0 m9 32 ls [.long (enc (sl w ((lend w 0) + 1) (w.length : Int)))]) rfl ?_
  refine ad_topl (y := enc (loW w)) rfl ?_
  refine lv_lstore (lv' := [(8, .long (enc (loW w))), (6, .long (enc (shW w))), (5, .int (iI (lend w 0))), (0, .ref h0), (1, .int (iI k)), (2, .int (iI p)), (3, .int (iI c)), (4, .ref h1)]) F.1 F.2.1 dX0_insertText_32 hl (by decide) rfl (fun ls hl => ?_)
  refine lv_aload_n F.1 F.2.1 dX0_insertText_34 rfl (lv_at hl 3 rfl) ?_
  refine lv_iload_n F.1 F.2.1 dX0_insertText_35 rfl (lv_at hl 4 rfl) ?_
  refine lv_iload_n F.1 F.2.1 dX0_insertText_36 rfl (lv_at hl 5 rfl) ?_
  refine lv_iload_n F.1 F.2.1 dX0_insertText_37 rfl (lv_at hl 6 rfl) ?_
  refine lv_lload F.1 F.2.1 dX0_insertText_38 (lv_at hl 1 rfl) ?_
  refine lv_lload F.1 F.2.1 dX0_insertText_40 (lv_at hl 0 rfl) ?_
  refine ad_callV (As := [.int (iI k), .int (iI p), .int (iI c), .long (enc (shW w)), .long (enc (loW w))]) (rest := []) F G (c_X0_insertRule l D K z0 h0 ak ap ac ash alo apc aps apl lc gk gp gc gs gl rs np md th nc k p c (shW w) (loW w) hB hW (RO_of he hkk hpp hcc)) my_X0_insertRule mv_X0_86 (wr := [(h1, .inr (7, [.ref a, .int (iI (w.length : Int))])), (a, aI (K 2) L g)]) (isC := [0, 1, 2, 3, 4, 5]) (isR := [6, 7]) ⟨rfl, rfl, rfl, rfl, by decide⟩ 0 0 rfl rfl rfl rfl ⟨Nat.le_of_ble_eq_true rfl, Nat.le_of_ble_eq_true rfl⟩ ⟨Nat.le_of_ble_eq_true rfl, Nat.le_of_ble_eq_true rfl⟩ (Nat.le_of_ble_eq_true rfl) hl.1 (cells9 := 0) (slots9 := 0) ⟨rfl, rfl⟩ dX0_insertText_42 (fun v u H locs hw_10 G => ?_)
  obtain ⟨gk2_11, gp2_12, gc2_13, gs2_14, gl2_15, rs2_16, rfl, hc_17, hc_18, rfl⟩ := hw_10
  replace G := G.perm (ws' := [(h0, .inr (0, [.ref ak, .ref ap, .ref ac, .ref ash, .ref alo, .int (iI (rs2_16.length : Int)), .ref apc, .ref aps, .ref apl, .int (iI np), .int (iI md), .int (iI th), va_rf lc, .int (iI nc)])), (ak, aI (K 0) 24 gk2_11), (ap, aI (K 0) 24 gp2_12), (ac, aI (K 0) 24 gc2_13), (ash, aJ (K 1) 24 gs2_14), (alo, aJ (K 1) 24 gl2_15), (h1, .inr (7, [.ref a, .int (iI (w.length : Int))])), (a, aI (K 2) L g)]) [2, 3, 4, 5, 6, 7, 0, 1] rfl rfl
  refine W.eq (g2 := F0 m9 45 ls []) rfl ?_
  exact ad_vreturn F G hR rfl (Nat.le_of_ble_eq_true rfl) (Nat.le_of_ble_eq_true rfl) ⟨gk2_11, gp2_12, gc2_13, gs2_14, gl2_15, rs2_16, rfl, hc_17, hc_18, rfl⟩ dX0_insertText_45
