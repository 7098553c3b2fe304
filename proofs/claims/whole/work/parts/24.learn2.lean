def rm_X0_learnText : Room := { frames := 3, cells := 0, slots := 0, locals := 64 }
set_option maxHeartbeats 4000000 in
set_option maxRecDepth 100000 in
theorem c_X0_learnText (l : Launch) (D : va_G) (K : Nat → ClassId) (z0 : Nat) (h0 : Nat) (ak : Nat) (ap : Nat) (ac : Nat) (ash : Nat) (alo : Nat) (apc : Nat) (aps : Nat) (apl : Nat) (lc : Option Nat) (gk : Nat → Int) (gp : Nat → Int) (gc : Nat → Int) (gs : Nat → Int64) (gl : Nat → Int64) (rs : List Rl) (gn : Nat → Int) (gq : Nat → Int64) (gr : Nat → Int64) (ps : List Pr) (md : Int) (th : Int) (nc : Int) (h1 : Nat) (a : Nat) (L : Nat) (g : Nat → Int) (w : List Int) (B : Int) (n : Nat) (hB : BRep gk gp gc gs gl rs) (hW : RW rs) (hP : PRep gn gq gr ps) (hV : PW ps B) (hT : Tx g w) (hC : Chs w) (hL : w.length ≤ L ∧ L ≤ 65536) (hr : RP w n) (ht : 1 ≤ th ∧ th ≤ 9) (hBB : 0 ≤ B ∧ B + 25 ≤ 1000000) : CT l D K z0 yX0_learnText cX0_learnText 7 none rm_X0_learnText [.ref h0, .ref h1] [(h0, .inr (0, [.ref ak, .ref ap, .ref ac, .ref ash, .ref alo, .int (iI (rs.length : Int)), .ref apc, .ref aps, .ref apl, .int (iI (ps.length : Int)), .int (iI md), .int (iI th), va_rf lc, .int (iI nc)])), (ak, aI (K 0) 24 gk), (ap, aI (K 0) 24 gp), (ac, aI (K 0) 24 gc), (ash, aJ (K 1) 24 gs), (alo, aJ (K 1) 24 gl), (apc, aI (K 0) 30 gn), (aps, aJ (K 1) 30 gq), (apl, aJ (K 1) 30 gr), (h1, .inr (7, [.ref a, .int (iI (w.length : Int))])), (a, aI (K 2) L g)] (fun v9 u9 => ∃ (gk2 : Nat → Int), ∃ (gp2 : Nat → Int), ∃ (gc2 : Nat → Int), ∃ (gs2 : Nat → Int64), ∃ (gl2 : Nat → Int64), ∃ (rs2 : List Rl), ∃ (gn2 : Nat → Int), ∃ (gq2 : Nat → Int64), ∃ (gr2 : Nat → Int64), ∃ (ps2 : List Pr), v9 = none ∧ (rs2 = (lrnT rs ps th w n n).1) ∧ (ps2 = (lrnT rs ps th w n n).2) ∧ (BRep gk2 gp2 gc2 gs2 gl2 rs2) ∧ (PRep gn2 gq2 gr2 ps2) ∧ u9 = [(h0, .inr (0, [.ref ak, .ref ap, .ref ac, .ref ash, .ref alo, .int (iI (rs2.length : Int)), .ref apc, .ref aps, .ref apl, .int (iI (ps2.length : Int)), .int (iI md), .int (iI th), va_rf lc, .int (iI nc)])), (ak, aI (K 0) 24 gk2), (ap, aI (K 0) 24 gp2), (ac, aI (K 0) 24 gc2), (ash, aJ (K 1) 24 gs2), (alo, aJ (K 1) 24 gl2), (apc, aI (K 0) 30 gn2), (aps, aJ (K 1) 30 gq2), (apl, aJ (K 1) 30 gr2), (h1, .inr (7, [.ref a, .int (iI (w.length : Int))])), (a, aI (K 2) L g)]) := by
  refine CT.start RX0 "learnText" (by decide) rfl rfl (Nat.le_of_ble_eq_true rfl) ?_
  intro p9 e9 s9 m9 ag9 bl9 mt9 c9 A9 Q9 ls F G hR hl
  have hl : lv_has ls 7 [(0, .ref h0), (1, .ref h1)] := hl
  have hr0 := hr.1
  have hr1 := hr.2.1
  have hr2 := hr.2.2.1
  have hrn := hr.2.2.2.1 (n - 1) (by omega)
  have hrn2 := stk_s w (n - 1)
  rw [show n - 1 + 1 = n by omega] at hrn2
  have hrl := hrn.1.2.2.2.1
  have hrg := hrn.1.2.2.1
  have hrh := hrn.1.2.1
  have hri := hrn.1.1
  have hpn := hV.1
  have hn0 := hW.1
  refine ad_iconst F dX0_learnText_0 ?_
  refine lv_istore_n (lv' := [(2, .int (iI 0)), (0, .ref h0), (1, .ref h1)]) F.1 F.2.1 dX0_learnText_1 rfl hl (by decide) rfl (fun ls hl => ?_)
  refine lv_aload_n F.1 F.2.1 dX0_learnText_2 rfl (lv_at hl 2 rfl) ?_
  refine ad_callS (As := [.ref h1]) (rest := []) F G (c_X0_equalsSign l D K z0 h1 a L g w hT hC hL) my_X0_equalsSign ms_X0_120 (wr := [(h0, .inr (0, [.ref ak, .ref ap, .ref ac, .ref ash, .ref alo, .int (iI (rs.length : Int)), .ref apc, .ref aps, .ref apl, .int (iI (ps.length : Int)), .int (iI md), .int (iI th), va_rf lc, .int (iI nc)])), (ak, aI (K 0) 24 gk), (ap, aI (K 0) 24 gp), (ac, aI (K 0) 24 gc), (ash, aJ (K 1) 24 gs), (alo, aJ (K 1) 24 gl), (apc, aI (K 0) 30 gn), (aps, aJ (K 1) 30 gq), (apl, aJ (K 1) 30 gr)]) (isC := [9, 10]) (isR := [0, 1, 2, 3, 4, 5, 6, 7, 8]) ⟨rfl, rfl, rfl, rfl, by decide⟩ rfl rfl ⟨Nat.le_of_ble_eq_true rfl, Nat.le_of_ble_eq_true rfl⟩ ⟨Nat.le_of_ble_eq_true rfl, Nat.le_of_ble_eq_true rfl⟩ (Nat.le_of_ble_eq_true rfl) hl.1 (cells9 := 0) (slots9 := 0) ⟨rfl, rfl⟩ dX0_learnText_3 (fun v u H locs hw_1 G => ?_)
  obtain ⟨r_2, rfl, hc_3, hc_4, hc_5, rfl⟩ := hw_1
  replace G := G.perm (ws' := [(h0, .inr (0, [.ref ak, .ref ap, .ref ac, .ref ash, .ref alo, .int (iI (rs.length : Int)), .ref apc, .ref aps, .ref apl, .int (iI (ps.length : Int)), .int (iI md), .int (iI th), va_rf lc, .int (iI nc)])), (ak, aI (K 0) 24 gk), (ap, aI (K 0) 24 gp), (ac, aI (K 0) 24 gc), (ash, aJ (K 1) 24 gs), (alo, aJ (K 1) 24 gl), (apc, aI (K 0) 30 gn), (aps, aJ (K 1) 30 gq), (apl, aJ (K 1) 30 gr), (h1, .inr (7, [.ref a, .int (iI (w.length : Int))])), (a, aI (K 2) L g)]) [0, 1, 2, 3, 4, 5, 6, 7, 8, 9, 10] rfl rfl
  refine W.eq (g2 := F0 m9 6 ls [.int (iI r_2)]) rfl ?_
  have hre : r_2 = eW w (n - 1) := by
    rcases (show r_2 < eW w (n - 1) ∨ eW w (n - 1) < r_2 ∨ r_2 = eW w (n - 1) by omega) with h | h | h
    · exact absurd (hc_5 (by omega)) (hr.2.2.2.2.2 r_2 (by omega) h)
    · exact absurd hr.2.2.2.2.1 (hc_4 _ (by omega) h)
    · exact h
  refine ad_topi (y := eW w (n - 1)) hre ?_
  refine ad_iconst F dX0_learnText_6 ?_
  refine ad_iadd F dX0_learnText_7 ?_
  refine lv_istore_n (lv' := [(3, .int (iI ((eW w (n - 1)) + 1))), (2, .int (iI 0)), (0, .ref h0), (1, .ref h1)]) F.1 F.2.1 dX0_learnText_8 rfl hl (by decide) rfl (fun ls hl => ?_)
  refine ad_iconst F dX0_learnText_9 ?_
  refine lv_istore (lv' := [(4, .int (iI 0)), (3, .int (iI ((eW w (n - 1)) + 1))), (2, .int (iI 0)), (0, .ref h0), (1, .ref h1)]) F.1 F.2.1 dX0_learnText_10 hl (by decide) rfl (fun ls hl => ?_)
  have lp12 : ∀ (n12 : Nat) (kk : Nat) (i : Int) (a1 : Int) (b1 : Int) (gk1 : Nat → Int) (gp1 : Nat → Int) (gc1 : Nat → Int) (gs1 : Nat → Int64) (gl1 : Nat → Int64) (rs1 : List Rl) (gn1 : Nat → Int) (gq1 : Nat → Int64) (gr1 : Nat → Int64) (ps1 : List Pr) (H : Heap) (locs : List Loc) (ls : Array Slot), (kk ≤ n) → (i = (kk : Int)) → (a1 = stk w kk) → (b1 = stk w (n + kk)) → (rs1 = (lrnT rs ps th w n kk).1) → (ps1 = (lrnT rs ps th w n kk).2) → (BRep gk1 gp1 gc1 gs1 gl1 rs1) → (PRep gn1 gq1 gr1 ps1) → (n - kk) < (n12 : Int) → ad_G D A9 s9.heap H locs [(h0, .inr (0, [.ref ak, .ref ap, .ref ac, .ref ash, .ref alo, .int (iI (rs1.length : Int)), .ref apc, .ref aps, .ref apl, .int (iI (ps1.length : Int)), .int (iI md), .int (iI th), va_rf lc, .int (iI nc)])), (ak, aI (K 0) 24 gk1), (ap, aI (K 0) 24 gp1), (ac, aI (K 0) 24 gc1), (ash, aJ (K 1) 24 gs1), (alo, aJ (K 1) 24 gl1), (apc, aI (K 0) 30 gn1), (aps, aJ (K 1) 30 gq1), (apl, aJ (K 1) 30 gr1), (h1, .inr (7, [.ref a, .int (iI (w.length : Int))])), (a, aI (K 2) L g)] → lv_has ls 7 [(0, .ref h0), (1, .ref h1), (2, .int (iI a1)), (3, .int (iI b1)), (4, .int (iI i))] → W p9 l e9 rm_X0_learnText s9 m9 ag9 bl9 mt9 c9 H locs 0 0 Q9 (F0 m9 12 ls []) := by
    intro n12
    induction n12 with
    | zero =>
      intro kk i a1 b1 gk1 gp1 gc1 gs1 gl1 rs1 gn1 gq1 gr1 ps1 H locs ls hk ei ea eb e1 e2 r1 q1 hm12
      exact absurd hm12 (by omega)
    | succ n12 ih12 =>
      intro kk i a1 b1 gk1 gp1 gc1 gs1 gl1 rs1 gn1 gq1 gr1 ps1 H locs ls hk ei ea eb e1 e2 r1 q1 hm12 G hl
      have hex : kk < n ∨ kk = n := by omega
      have hend : kk = n → b1 = w.length + 1 := fun h => by rw [eb, h, ← hr2]; congr 1; omega
      have hwp := RW_lrnT hW hV hBB.1 (by omega) ht hr kk hk
      rw [← e1, ← e2] at hwp
      have hW1 : RW rs1 := hwp.1
      have hV1 : PW ps1 (B + kk) := hwp.2
      have hb0 : kk < n → WdOk w kk ∧ bW w kk = stk w kk := fun h => hr.2.2.2.1 kk (by omega)
      have hb9 : kk < n → WdOk w (n + kk) ∧ bW w (n + kk) = stk w (n + kk) := fun h => hr.2.2.2.1 (n + kk) (by omega)
      have hblt : kk < n → 0 ≤ a1 ∧ a1 < w.length ∧ 0 ≤ b1 ∧ b1 < w.length ∧ bW w kk = a1 ∧ bW w (n + kk) = b1 := fun h => by
        have h1 := hb0 h
        have h2 := hb9 h
        obtain ⟨⟨x1, x2, x3, x4, -⟩, x5⟩ := h1
        obtain ⟨⟨y1, y2, y3, y4, -⟩, y5⟩ := h2
        omega
      have hbr : 0 ≤ b1 ∧ b1 ≤ w.length + 1 := by
        rcases hex with h | h
        · have := hblt h
          omega
        · have := hend h
          omega
      have hnn := hV1.1
      refine lv_iload F.1 F.2.1 dX0_learnText_12 (lv_at hl 4 rfl) ?_
      refine ad_bipush F dX0_learnText_14 (by decide) ?_
      refine ad_icmp_ge (tgt := 89) F (by omega) dX0_learnText_16 (by decide) (fun cc_6 => ?_) (fun cc_6 => ?_)
      · exact ad_vreturn F G hR rfl (Nat.le_of_ble_eq_true rfl) (Nat.le_of_ble_eq_true rfl) ⟨gk1, gp1, gc1, gs1, gl1, rs1, gn1, gq1, gr1, ps1, rfl, (by rw [e1, show kk = n by omega]), (by rw [e2, show kk = n by omega]), r1, q1, rfl⟩ dX0_learnText_89
      · refine lv_iload_n F.1 F.2.1 dX0_learnText_19 rfl (lv_at hl 3 rfl) ?_
        refine lv_aload_n F.1 F.2.1 dX0_learnText_20 rfl (lv_at hl 1 rfl) ?_
        refine ad_callV (As := []) (rest := [.int (iI b1)]) F G (c_X7_size l D K z0 h1 a (w.length : Int) ) my_X7_size mv_X0_82 (wr := [(h0, .inr (0, [.ref ak, .ref ap, .ref ac, .ref ash, .ref alo, .int (iI (rs1.length : Int)), .ref apc, .ref aps, .ref apl, .int (iI (ps1.length : Int)), .int (iI md), .int (iI th), va_rf lc, .int (iI nc)])), (ak, aI (K 0) 24 gk1), (ap, aI (K 0) 24 gp1), (ac, aI (K 0) 24 gc1), (ash, aJ (K 1) 24 gs1), (alo, aJ (K 1) 24 gl1), (apc, aI (K 0) 30 gn1), (aps, aJ (K 1) 30 gq1), (apl, aJ (K 1) 30 gr1), (a, aI (K 2) L g)]) (isC := [9]) (isR := [0, 1, 2, 3, 4, 5, 6, 7, 8, 10]) ⟨rfl, rfl, rfl, rfl, by decide⟩ 7 0 rfl rfl rfl rfl ⟨Nat.le_of_ble_eq_true rfl, Nat.le_of_ble_eq_true rfl⟩ ⟨Nat.le_of_ble_eq_true rfl, Nat.le_of_ble_eq_true rfl⟩ (Nat.le_of_ble_eq_true rfl) hl.1 (cells9 := 0) (slots9 := 0) ⟨rfl, rfl⟩ dX0_learnText_21 (fun v u H locs hw_7 G => ?_)
        obtain ⟨rfl, rfl⟩ := hw_7
        replace G := G.perm (ws' := [(h0, .inr (0, [.ref ak, .ref ap, .ref ac, .ref ash, .ref alo, .int (iI (rs1.length : Int)), .ref apc, .ref aps, .ref apl, .int (iI (ps1.length : Int)), .int (iI md), .int (iI th), va_rf lc, .int (iI nc)])), (ak, aI (K 0) 24 gk1), (ap, aI (K 0) 24 gp1), (ac, aI (K 0) 24 gc1), (ash, aJ (K 1) 24 gs1), (alo, aJ (K 1) 24 gl1), (apc, aI (K 0) 30 gn1), (aps, aJ (K 1) 30 gq1), (apl, aJ (K 1) 30 gr1), (h1, .inr (7, [.ref a, .int (iI (w.length : Int))])), (a, aI (K 2) L g)]) [0, 1, 2, 3, 4, 5, 6, 7, 8, 10, 9] rfl rfl
        refine W.eq (g2 := F0 m9 24 ls [.int (iI (w.length : Int)), .int (iI b1)]) rfl ?_
        refine ad_icmp_ge (tgt := 89) F (by omega) dX0_learnText_24 (by decide) (fun cc_8 => ?_) (fun cc_8 => ?_)
        · exact ad_vreturn F G hR rfl (Nat.le_of_ble_eq_true rfl) (Nat.le_of_ble_eq_true rfl) ⟨gk1, gp1, gc1, gs1, gl1, rs1, gn1, gq1, gr1, ps1, rfl, (by rw [e1, show kk = n by omega]), (by rw [e2, show kk = n by omega]), r1, q1, rfl⟩ dX0_learnText_89
        · have hlt : kk < n := by omega
          have hbl := hblt hlt
          have hk1 := hb0 hlt
          have hk2 := hb9 hlt
          have hq1 := hk1.1.2.2.1
          have hq2 := hk2.1.2.2.1
          have hq3 := hk1.1.2.2.2.1
          have hq4 := hk2.1.2.2.2.1
          have hl1 := wW_len hk1.1
          have hl2 := wW_len hk2.1
          refine lv_aload_n F.1 F.2.1 dX0_learnText_27 rfl (lv_at hl 1 rfl) ?_
          refine lv_iload_n F.1 F.2.1 dX0_learnText_28 rfl (lv_at hl 2 rfl) ?_
          refine ad_callV (As := [.int (iI a1)]) (rest := []) F G (c_X7_lettersEnd l D K z0 h1 a L g w a1 hT hC hL (by omega)) my_X7_lettersEnd mv_X0_70 (wr := [(h0, .inr (0, [.ref ak, .ref ap, .ref ac, .ref ash, .ref alo, .int (iI (rs1.length : Int)), .ref apc, .ref aps, .ref apl, .int (iI (ps1.length : Int)), .int (iI md), .int (iI th), va_rf lc, .int (iI nc)])), (ak, aI (K 0) 24 gk1), (ap, aI (K 0) 24 gp1), (ac, aI (K 0) 24 gc1), (ash, aJ (K 1) 24 gs1), (alo, aJ (K 1) 24 gl1), (apc, aI (K 0) 30 gn1), (aps, aJ (K 1) 30 gq1), (apl, aJ (K 1) 30 gr1)]) (isC := [9, 10]) (isR := [0, 1, 2, 3, 4, 5, 6, 7, 8]) ⟨rfl, rfl, rfl, rfl, by decide⟩ 7 0 rfl rfl rfl rfl ⟨Nat.le_of_ble_eq_true rfl, Nat.le_of_ble_eq_true rfl⟩ ⟨Nat.le_of_ble_eq_true rfl, Nat.le_of_ble_eq_true rfl⟩ (Nat.le_of_ble_eq_true rfl) hl.1 (cells9 := 0) (slots9 := 0) ⟨rfl, rfl⟩ dX0_learnText_29 (fun v u H locs hw_9 G => ?_)
          obtain ⟨r_10, rfl, hc_11, hc_12, hc_13, rfl⟩ := hw_9
          replace G := G.perm (ws' := [(h0, .inr (0, [.ref ak, .ref ap, .ref ac, .ref ash, .ref alo, .int (iI (rs1.length : Int)), .ref apc, .ref aps, .ref apl, .int (iI (ps1.length : Int)), .int (iI md), .int (iI th), va_rf lc, .int (iI nc)])), (ak, aI (K 0) 24 gk1), (ap, aI (K 0) 24 gp1), (ac, aI (K 0) 24 gc1), (ash, aJ (K 1) 24 gs1), (alo, aJ (K 1) 24 gl1), (apc, aI (K 0) 30 gn1), (aps, aJ (K 1) 30 gq1), (apl, aJ (K 1) 30 gr1), (h1, .inr (7, [.ref a, .int (iI (w.length : Int))])), (a, aI (K 2) L g)]) [0, 1, 2, 3, 4, 5, 6, 7, 8, 9, 10] rfl rfl
          refine W.eq (g2 := F0 m9 32 ls [.int (iI r_10)]) rfl ?_
          have hle_14 : eW w kk = r_10 := by unfold eW; rw [hbl.2.2.2.2.1]; exact lend_eq (by omega) hc_11.1 hc_11.2 hc_12 hc_13
          refine ad_topi (y := eW w kk) hle_14.symm ?_
          refine lv_istore (lv' := [(5, .int (iI (eW w kk))), (0, .ref h0), (1, .ref h1), (2, .int (iI a1)), (3, .int (iI b1)), (4, .int (iI i))]) F.1 F.2.1 dX0_learnText_32 hl (by decide) rfl (fun ls hl => ?_)
          refine lv_aload_n F.1 F.2.1 dX0_learnText_34 rfl (lv_at hl 2 rfl) ?_
          refine lv_iload_n F.1 F.2.1 dX0_learnText_35 rfl (lv_at hl 4 rfl) ?_
          refine ad_callV (As := [.int (iI b1)]) (rest := []) F G (c_X7_lettersEnd l D K z0 h1 a L g w b1 hT hC hL (by omega)) my_X7_lettersEnd mv_X0_70 (wr := [(h0, .inr (0, [.ref ak, .ref ap, .ref ac, .ref ash, .ref alo, .int (iI (rs1.length : Int)), .ref apc, .ref aps, .ref apl, .int (iI (ps1.length : Int)), .int (iI md), .int (iI th), va_rf lc, .int (iI nc)])), (ak, aI (K 0) 24 gk1), (ap, aI (K 0) 24 gp1), (ac, aI (K 0) 24 gc1), (ash, aJ (K 1) 24 gs1), (alo, aJ (K 1) 24 gl1), (apc, aI (K 0) 30 gn1), (aps, aJ (K 1) 30 gq1), (apl, aJ (K 1) 30 gr1)]) (isC := [9, 10]) (isR := [0, 1, 2, 3, 4, 5, 6, 7, 8]) ⟨rfl, rfl, rfl, rfl, by decide⟩ 7 0 rfl rfl rfl rfl ⟨Nat.le_of_ble_eq_true rfl, Nat.le_of_ble_eq_true rfl⟩ ⟨Nat.le_of_ble_eq_true rfl, Nat.le_of_ble_eq_true rfl⟩ (Nat.le_of_ble_eq_true rfl) hl.1 (cells9 := 0) (slots9 := 0) ⟨rfl, rfl⟩ dX0_learnText_36 (fun v u H locs hw_15 G => ?_)
          obtain ⟨r_16, rfl, hc_17, hc_18, hc_19, rfl⟩ := hw_15
          replace G := G.perm (ws' := [(h0, .inr (0, [.ref ak, .ref ap, .ref ac, .ref ash, .ref alo, .int (iI (rs1.length : Int)), .ref apc, .ref aps, .ref apl, .int (iI (ps1.length : Int)), .int (iI md), .int (iI th), va_rf lc, .int (iI nc)])), (ak, aI (K 0) 24 gk1), (ap, aI (K 0) 24 gp1), (ac, aI (K 0) 24 gc1), (ash, aJ (K 1) 24 gs1), (alo, aJ (K 1) 24 gl1), (apc, aI (K 0) 30 gn1), (aps, aJ (K 1) 30 gq1), (apl, aJ (K 1) 30 gr1), (h1, .inr (7, [.ref a, .int (iI (w.length : Int))])), (a, aI (K 2) L g)]) [0, 1, 2, 3, 4, 5, 6, 7, 8, 9, 10] rfl rfl
          refine W.eq (g2 := F0 m9 39 ls [.int (iI r_16)]) rfl ?_
          have hle_20 : eW w (n + kk) = r_16 := by unfold eW; rw [hbl.2.2.2.2.2]; exact lend_eq (by omega) hc_17.1 hc_17.2 hc_18 hc_19
          refine ad_topi (y := eW w (n + kk)) hle_20.symm ?_
          refine lv_istore (lv' := [(6, .int (iI (eW w (n + kk)))), (5, .int (iI (eW w kk))), (0, .ref h0), (1, .ref h1), (2, .int (iI a1)), (3, .int (iI b1)), (4, .int (iI i))]) F.1 F.2.1 dX0_learnText_39 hl (by decide) rfl (fun ls hl => ?_)
          refine lv_iload F.1 F.2.1 dX0_learnText_41 (lv_at hl 1 rfl) ?_
          refine lv_iload_n F.1 F.2.1 dX0_learnText_43 rfl (lv_at hl 4 rfl) ?_
          refine ad_isub F dX0_learnText_44 ?_
          refine lv_iload F.1 F.2.1 dX0_learnText_45 (lv_at hl 0 rfl) ?_
          refine lv_iload_n F.1 F.2.1 dX0_learnText_47 rfl (lv_at hl 5 rfl) ?_
          refine ad_isub F dX0_learnText_48 ?_
          refine ad_callSN (As := [.int (iI ((eW w kk) - a1)), .int (iI ((eW w (n + kk)) - b1))]) (rest := []) F G (c_X10_areForms l D K z0 ((eW w kk) - a1) ((eW w (n + kk)) - b1) (by omega) (by omega)) my_X10_areForms ms_X0_124 (wr := [(h0, .inr (0, [.ref ak, .ref ap, .ref ac, .ref ash, .ref alo, .int (iI (rs1.length : Int)), .ref apc, .ref aps, .ref apl, .int (iI (ps1.length : Int)), .int (iI md), .int (iI th), va_rf lc, .int (iI nc)])), (ak, aI (K 0) 24 gk1), (ap, aI (K 0) 24 gp1), (ac, aI (K 0) 24 gc1), (ash, aJ (K 1) 24 gs1), (alo, aJ (K 1) 24 gl1), (apc, aI (K 0) 30 gn1), (aps, aJ (K 1) 30 gq1), (apl, aJ (K 1) 30 gr1), (h1, .inr (7, [.ref a, .int (iI (w.length : Int))])), (a, aI (K 2) L g)]) (isC := []) (isR := [0, 1, 2, 3, 4, 5, 6, 7, 8, 9, 10]) ⟨rfl, rfl, rfl, rfl, by decide⟩ rfl rfl ⟨Nat.le_of_ble_eq_true rfl, Nat.le_of_ble_eq_true rfl⟩ ⟨Nat.le_of_ble_eq_true rfl, Nat.le_of_ble_eq_true rfl⟩ (Nat.le_of_ble_eq_true rfl) hl.1 (cells9 := 0) (slots9 := 0) ⟨rfl, rfl⟩ dX0_learnText_49 (fun v u H locs hw_21 G => ?_)
          rcases hw_21 with ⟨rfl, hc_22, rfl⟩ | ⟨rfl, hc_23, rfl⟩
          · replace G := G.perm (ws' := [(h0, .inr (0, [.ref ak, .ref ap, .ref ac, .ref ash, .ref alo, .int (iI (rs1.length : Int)), .ref apc, .ref aps, .ref apl, .int (iI (ps1.length : Int)), .int (iI md), .int (iI th), va_rf lc, .int (iI nc)])), (ak, aI (K 0) 24 gk1), (ap, aI (K 0) 24 gp1), (ac, aI (K 0) 24 gc1), (ash, aJ (K 1) 24 gs1), (alo, aJ (K 1) 24 gl1), (apc, aI (K 0) 30 gn1), (aps, aJ (K 1) 30 gq1), (apl, aJ (K 1) 30 gr1), (h1, .inr (7, [.ref a, .int (iI (w.length : Int))])), (a, aI (K 2) L g)]) [0, 1, 2, 3, 4, 5, 6, 7, 8, 9, 10] rfl rfl
            refine W.eq (g2 := F0 m9 52 ls [.int (iI 1)]) rfl ?_
            refine ad_if_eq (tgt := 73) F (by decide) dX0_learnText_52 (by decide) (fun cc_24 => absurd cc_24 (by decide)) (fun _ => ?_)
            refine lv_aload_n F.1 F.2.1 dX0_learnText_55 rfl (lv_at hl 2 rfl) ?_
            refine lv_aload_n F.1 F.2.1 dX0_learnText_56 rfl (lv_at hl 3 rfl) ?_
            refine lv_iload_n F.1 F.2.1 dX0_learnText_57 rfl (lv_at hl 4 rfl) ?_
            refine lv_iload F.1 F.2.1 dX0_learnText_58 (lv_at hl 1 rfl) ?_
            refine ad_callS (As := [.ref h1, .int (iI a1), .int (iI (eW w kk))]) (rest := [.ref h0]) F G (c_X2_of l D K z0 h1 a L g w a1 (eW w kk) hT hC hL (by omega) (by have := wW_Fw hk1.1 (by omega); unfold wW at this; rwa [hbl.2.2.2.2.1] at this)) my_X2_of ms_X0_76 (wr := [(h0, .inr (0, [.ref ak, .ref ap, .ref ac, .ref ash, .ref alo, .int (iI (rs1.length : Int)), .ref apc, .ref aps, .ref apl, .int (iI (ps1.length : Int)), .int (iI md), .int (iI th), va_rf lc, .int (iI nc)])), (ak, aI (K 0) 24 gk1), (ap, aI (K 0) 24 gp1), (ac, aI (K 0) 24 gc1), (ash, aJ (K 1) 24 gs1), (alo, aJ (K 1) 24 gl1), (apc, aI (K 0) 30 gn1), (aps, aJ (K 1) 30 gq1), (apl, aJ (K 1) 30 gr1)]) (isC := [9, 10]) (isR := [0, 1, 2, 3, 4, 5, 6, 7, 8]) ⟨rfl, rfl, rfl, rfl, by decide⟩ rfl rfl ⟨Nat.le_of_ble_eq_true rfl, Nat.le_of_ble_eq_true rfl⟩ ⟨Nat.le_of_ble_eq_true rfl, Nat.le_of_ble_eq_true rfl⟩ (Nat.le_of_ble_eq_true rfl) hl.1 (cells9 := 0) (slots9 := 0) ⟨rfl, rfl⟩ dX0_learnText_60 (fun v u H locs hw_25 G => ?_)
            obtain ⟨rfl, rfl⟩ := hw_25
            replace G := G.perm (ws' := [(h0, .inr (0, [.ref ak, .ref ap, .ref ac, .ref ash, .ref alo, .int (iI (rs1.length : Int)), .ref apc, .ref aps, .ref apl, .int (iI (ps1.length : Int)), .int (iI md), .int (iI th), va_rf lc, .int (iI nc)])), (ak, aI (K 0) 24 gk1), (ap, aI (K 0) 24 gp1), (ac, aI (K 0) 24 gc1), (ash, aJ (K 1) 24 gs1), (alo, aJ (K 1) 24 gl1), (apc, aI (K 0) 30 gn1), (aps, aJ (K 1) 30 gq1), (apl, aJ (K 1) 30 gr1), (h1, .inr (7, [.ref a, .int (iI (w.length : Int))])), (a, aI (K 2) L g)]) [0, 1, 2, 3, 4, 5, 6, 7, 8, 9, 10] rfl rfl
            refine W.eq (g2 := F0 m9 63 ls [.long (enc (sl w a1 (eW w kk))), .ref h0]) rfl ?_
            refine ad_topl (y := enc (wW w kk)) (by unfold wW; rw [hbl.2.2.2.2.1]) ?_
            refine lv_aload_n F.1 F.2.1 dX0_learnText_63 rfl (lv_at hl 3 rfl) ?_
            refine lv_iload_n F.1 F.2.1 dX0_learnText_64 rfl (lv_at hl 5 rfl) ?_
            refine lv_iload F.1 F.2.1 dX0_learnText_65 (lv_at hl 0 rfl) ?_
            refine ad_callS (As := [.ref h1, .int (iI b1), .int (iI (eW w (n + kk)))]) (rest := [.long (enc (wW w kk)), .ref h0]) F G (c_X2_of l D K z0 h1 a L g w b1 (eW w (n + kk)) hT hC hL (by omega) (by have := wW_Fw hk2.1 (by omega); unfold wW at this; rwa [hbl.2.2.2.2.2] at this)) my_X2_of ms_X0_76 (wr := [(h0, .inr (0, [.ref ak, .ref ap, .ref ac, .ref ash, .ref alo, .int (iI (rs1.length : Int)), .ref apc, .ref aps, .ref apl, .int (iI (ps1.length : Int)), .int (iI md), .int (iI th), va_rf lc, .int (iI nc)])), (ak, aI (K 0) 24 gk1), (ap, aI (K 0) 24 gp1), (ac, aI (K 0) 24 gc1), (ash, aJ (K 1) 24 gs1), (alo, aJ (K 1) 24 gl1), (apc, aI (K 0) 30 gn1), (aps, aJ (K 1) 30 gq1), (apl, aJ (K 1) 30 gr1)]) (isC := [9, 10]) (isR := [0, 1, 2, 3, 4, 5, 6, 7, 8]) ⟨rfl, rfl, rfl, rfl, by decide⟩ rfl rfl ⟨Nat.le_of_ble_eq_true rfl, Nat.le_of_ble_eq_true rfl⟩ ⟨Nat.le_of_ble_eq_true rfl, Nat.le_of_ble_eq_true rfl⟩ (Nat.le_of_ble_eq_true rfl) hl.1 (cells9 := 0) (slots9 := 0) ⟨rfl, rfl⟩ dX0_learnText_67 (fun v u H locs hw_26 G => ?_)
            obtain ⟨rfl, rfl⟩ := hw_26
            replace G := G.perm (ws' := [(h0, .inr (0, [.ref ak, .ref ap, .ref ac, .ref ash, .ref alo, .int (iI (rs1.length : Int)), .ref apc, .ref aps, .ref apl, .int (iI (ps1.length : Int)), .int (iI md), .int (iI th), va_rf lc, .int (iI nc)])), (ak, aI (K 0) 24 gk1), (ap, aI (K 0) 24 gp1), (ac, aI (K 0) 24 gc1), (ash, aJ (K 1) 24 gs1), (alo, aJ (K 1) 24 gl1), (apc, aI (K 0) 30 gn1), (aps, aJ (K 1) 30 gq1), (apl, aJ (K 1) 30 gr1), (h1, .inr (7, [.ref a, .int (iI (w.length : Int))])), (a, aI (K 2) L g)]) [0, 1, 2, 3, 4, 5, 6, 7, 8, 9, 10] rfl rfl
            refine W.eq (g2 := F0 m9 70 ls [.long (enc (sl w b1 (eW w (n + kk)))), .long (enc (wW w kk)), .ref h0]) rfl ?_
            refine ad_topl (y := enc (wW w (n + kk))) (by unfold wW; rw [hbl.2.2.2.2.2]) ?_
            refine ad_callV (As := [.long (enc (wW w kk)), .long (enc (wW w (n + kk)))]) (rest := []) F G (c_X0_learnForms l D K z0 h0 ak ap ac ash alo apc aps apl lc gk1 gp1 gc1 gs1 gl1 rs1 gn1 gq1 gr1 ps1 md th nc (wW w kk) (wW w (n + kk)) (B + kk) r1 hW1 q1 hV1 (PF_of hk1.1 hk2.1 ⟨by omega, by omega, by omega, by omega⟩) ht (by omega)) my_X0_learnForms mv_X0_127 (wr := [(h1, .inr (7, [.ref a, .int (iI (w.length : Int))])), (a, aI (K 2) L g)]) (isC := [0, 1, 2, 3, 4, 5, 6, 7, 8]) (isR := [9, 10]) ⟨rfl, rfl, rfl, rfl, by decide⟩ 0 0 rfl rfl rfl rfl ⟨Nat.le_of_ble_eq_true rfl, Nat.le_of_ble_eq_true rfl⟩ ⟨Nat.le_of_ble_eq_true rfl, Nat.le_of_ble_eq_true rfl⟩ (Nat.le_of_ble_eq_true rfl) hl.1 (cells9 := 0) (slots9 := 0) ⟨rfl, rfl⟩ dX0_learnText_70 (fun v u H locs hw_27 G => ?_)
            obtain ⟨gk2_28, gp2_29, gc2_30, gs2_31, gl2_32, rs2_33, gn2_34, gq2_35, gr2_36, ps2_37, rfl, hc_38, hc_39, hc_40, hc_41, rfl⟩ := hw_27
            replace G := G.perm (ws' := [(h0, .inr (0, [.ref ak, .ref ap, .ref ac, .ref ash, .ref alo, .int (iI (rs2_33.length : Int)), .ref apc, .ref aps, .ref apl, .int (iI (ps2_37.length : Int)), .int (iI md), .int (iI th), va_rf lc, .int (iI nc)])), (ak, aI (K 0) 24 gk2_28), (ap, aI (K 0) 24 gp2_29), (ac, aI (K 0) 24 gc2_30), (ash, aJ (K 1) 24 gs2_31), (alo, aJ (K 1) 24 gl2_32), (apc, aI (K 0) 30 gn2_34), (aps, aJ (K 1) 30 gq2_35), (apl, aJ (K 1) 30 gr2_36), (h1, .inr (7, [.ref a, .int (iI (w.length : Int))])), (a, aI (K 2) L g)]) [2, 3, 4, 5, 6, 7, 8, 9, 10, 0, 1] rfl rfl
            refine W.eq (g2 := F0 m9 73 ls []) rfl ?_
            refine lv_iload F.1 F.2.1 dX0_learnText_73 (lv_at hl 1 rfl) ?_
            refine ad_iconst F dX0_learnText_75 ?_
            refine ad_iadd F dX0_learnText_76 ?_
            refine lv_istore_n (lv' := [(2, .int (iI ((eW w kk) + 1))), (6, .int (iI (eW w (n + kk)))), (5, .int (iI (eW w kk))), (0, .ref h0), (1, .ref h1), (3, .int (iI b1)), (4, .int (iI i))]) F.1 F.2.1 dX0_learnText_77 rfl hl (by decide) rfl (fun ls hl => ?_)
            refine lv_iload F.1 F.2.1 dX0_learnText_78 (lv_at hl 1 rfl) ?_
            refine ad_iconst F dX0_learnText_80 ?_
            refine ad_iadd F dX0_learnText_81 ?_
            refine lv_istore_n (lv' := [(3, .int (iI ((eW w (n + kk)) + 1))), (2, .int (iI ((eW w kk) + 1))), (6, .int (iI (eW w (n + kk)))), (5, .int (iI (eW w kk))), (0, .ref h0), (1, .ref h1), (4, .int (iI i))]) F.1 F.2.1 dX0_learnText_82 rfl hl (by decide) rfl (fun ls hl => ?_)
            refine ad_iinc (lv' := [(4, .int (iI (i + 1))), (3, .int (iI ((eW w (n + kk)) + 1))), (2, .int (iI ((eW w kk) + 1))), (6, .int (iI (eW w (n + kk)))), (5, .int (iI (eW w kk))), (0, .ref h0), (1, .ref h1)]) F dX0_learnText_83 hl (k := 6) rfl (by decide) rfl (fun ls hl => ?_)
            refine lv_goto (tgt := 12) F.1 F.2.1 dX0_learnText_86 (by decide) ?_
            exact ih12 (kk + 1) (i + 1) ((eW w kk) + 1) ((eW w (n + kk)) + 1) gk2_28 gp2_29 gc2_30 gs2_31 gl2_32 rs2_33 gn2_34 gq2_35 gr2_36 ps2_37 _ _ _ (by omega) (by omega) rfl rfl (by rw [hc_38, e1, e2]; simp only [lrnT]; rw [if_pos ⟨by omega, by omega, by omega, by omega⟩]) (by rw [hc_39, e2]; simp only [lrnT]; rw [if_pos ⟨by omega, by omega, by omega, by omega⟩]) hc_40 hc_41 (by omega) (G.perm (ws' := [(h0, .inr (0, [.ref ak, .ref ap, .ref ac, .ref ash, .ref alo, .int (iI (rs2_33.length : Int)), .ref apc, .ref aps, .ref apl, .int (iI (ps2_37.length : Int)), .int (iI md), .int (iI th), va_rf lc, .int (iI nc)])), (ak, aI (K 0) 24 gk2_28), (ap, aI (K 0) 24 gp2_29), (ac, aI (K 0) 24 gc2_30), (ash, aJ (K 1) 24 gs2_31), (alo, aJ (K 1) 24 gl2_32), (apc, aI (K 0) 30 gn2_34), (aps, aJ (K 1) 30 gq2_35), (apl, aJ (K 1) 30 gr2_36), (h1, .inr (7, [.ref a, .int (iI (w.length : Int))])), (a, aI (K 2) L g)]) [0, 1, 2, 3, 4, 5, 6, 7, 8, 9, 10] rfl rfl) (lv_sub hl [5, 6, 2, 1, 0] rfl)
          · replace G := G.perm (ws' := [(h0, .inr (0, [.ref ak, .ref ap, .ref ac, .ref ash, .ref alo, .int (iI (rs1.length : Int)), .ref apc, .ref aps, .ref apl, .int (iI (ps1.length : Int)), .int (iI md), .int (iI th), va_rf lc, .int (iI nc)])), (ak, aI (K 0) 24 gk1), (ap, aI (K 0) 24 gp1), (ac, aI (K 0) 24 gc1), (ash, aJ (K 1) 24 gs1), (alo, aJ (K 1) 24 gl1), (apc, aI (K 0) 30 gn1), (aps, aJ (K 1) 30 gq1), (apl, aJ (K 1) 30 gr1), (h1, .inr (7, [.ref a, .int (iI (w.length : Int))])), (a, aI (K 2) L g)]) [0, 1, 2, 3, 4, 5, 6, 7, 8, 9, 10] rfl rfl
            refine W.eq (g2 := F0 m9 52 ls [.int (iI 0)]) rfl ?_
            refine ad_if_eq (tgt := 73) F (by decide) dX0_learnText_52 (by decide) (fun _ => ?_) (fun cc_42 => absurd cc_42 (by decide))
            refine lv_iload F.1 F.2.1 dX0_learnText_73 (lv_at hl 1 rfl) ?_
            refine ad_iconst F dX0_learnText_75 ?_
            refine ad_iadd F dX0_learnText_76 ?_
            refine lv_istore_n (lv' := [(2, .int (iI ((eW w kk) + 1))), (6, .int (iI (eW w (n + kk)))), (5, .int (iI (eW w kk))), (0, .ref h0), (1, .ref h1), (3, .int (iI b1)), (4, .int (iI i))]) F.1 F.2.1 dX0_learnText_77 rfl hl (by decide) rfl (fun ls hl => ?_)
            refine lv_iload F.1 F.2.1 dX0_learnText_78 (lv_at hl 1 rfl) ?_
            refine ad_iconst F dX0_learnText_80 ?_
            refine ad_iadd F dX0_learnText_81 ?_
            refine lv_istore_n (lv' := [(3, .int (iI ((eW w (n + kk)) + 1))), (2, .int (iI ((eW w kk) + 1))), (6, .int (iI (eW w (n + kk)))), (5, .int (iI (eW w kk))), (0, .ref h0), (1, .ref h1), (4, .int (iI i))]) F.1 F.2.1 dX0_learnText_82 rfl hl (by decide) rfl (fun ls hl => ?_)
            refine ad_iinc (lv' := [(4, .int (iI (i + 1))), (3, .int (iI ((eW w (n + kk)) + 1))), (2, .int (iI ((eW w kk) + 1))), (6, .int (iI (eW w (n + kk)))), (5, .int (iI (eW w kk))), (0, .ref h0), (1, .ref h1)]) F dX0_learnText_83 hl (k := 6) rfl (by decide) rfl (fun ls hl => ?_)
            refine lv_goto (tgt := 12) F.1 F.2.1 dX0_learnText_86 (by decide) ?_
            exact ih12 (kk + 1) (i + 1) ((eW w kk) + 1) ((eW w (n + kk)) + 1) gk1 gp1 gc1 gs1 gl1 rs1 gn1 gq1 gr1 ps1 _ _ _ (by omega) (by omega) rfl rfl (by rw [e1]; simp only [lrnT]; rw [if_neg (by omega)]) (by rw [e2]; simp only [lrnT]; rw [if_neg (by omega)]) r1 q1 (by omega) (G.perm (ws' := [(h0, .inr (0, [.ref ak, .ref ap, .ref ac, .ref ash, .ref alo, .int (iI (rs1.length : Int)), .ref apc, .ref aps, .ref apl, .int (iI (ps1.length : Int)), .int (iI md), .int (iI th), va_rf lc, .int (iI nc)])), (ak, aI (K 0) 24 gk1), (ap, aI (K 0) 24 gp1), (ac, aI (K 0) 24 gc1), (ash, aJ (K 1) 24 gs1), (alo, aJ (K 1) 24 gl1), (apc, aI (K 0) 30 gn1), (aps, aJ (K 1) 30 gq1), (apl, aJ (K 1) 30 gr1), (h1, .inr (7, [.ref a, .int (iI (w.length : Int))])), (a, aI (K 2) L g)]) [0, 1, 2, 3, 4, 5, 6, 7, 8, 9, 10] rfl rfl) (lv_sub hl [5, 6, 2, 1, 0] rfl)
  exact lp12 ((((n - 0 : Int)) + 1).toNat) 0 0 0 ((eW w (n - 1)) + 1) gk gp gc gs gl rs gn gq gr ps _ _ _ (by omega) (by omega) rfl (by rw [Nat.add_zero]; omega) rfl rfl hB hP (by omega) (G.perm (ws' := [(h0, .inr (0, [.ref ak, .ref ap, .ref ac, .ref ash, .ref alo, .int (iI (rs.length : Int)), .ref apc, .ref aps, .ref apl, .int (iI (ps.length : Int)), .int (iI md), .int (iI th), va_rf lc, .int (iI nc)])), (ak, aI (K 0) 24 gk), (ap, aI (K 0) 24 gp), (ac, aI (K 0) 24 gc), (ash, aJ (K 1) 24 gs), (alo, aJ (K 1) 24 gl), (apc, aI (K 0) 30 gn), (aps, aJ (K 1) 30 gq), (apl, aJ (K 1) 30 gr), (h1, .inr (7, [.ref a, .int (iI (w.length : Int))])), (a, aI (K 2) L g)]) [0, 1, 2, 3, 4, 5, 6, 7, 8, 9, 10] rfl rfl) (lv_sub hl [3, 4, 2, 1, 0] rfl)
