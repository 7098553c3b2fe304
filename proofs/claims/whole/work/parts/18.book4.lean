def rm_X0_hasSameRule : Room := { frames := 1, cells := 0, slots := 0, locals := 12 }
set_option maxHeartbeats 4000000 in
set_option maxRecDepth 100000 in
theorem c_X0_hasSameRule (l : Launch) (D : va_G) (K : Nat → ClassId) (z0 : Nat) (h0 : Nat) (ak : Nat) (ap : Nat) (ac : Nat) (ash : Nat) (alo : Nat) (apc : Nat) (aps : Nat) (apl : Nat) (lc : Option Nat) (gk : Nat → Int) (gp : Nat → Int) (gc : Nat → Int) (gs : Nat → Int64) (gl : Nat → Int64) (rs : List Rl) (np : Int) (md : Int) (th : Int) (nc : Int) (h1 : Nat) (ako : Nat) (apo : Nat) (aco : Nat) (asho : Nat) (aloo : Nat) (apco : Nat) (apso : Nat) (aplo : Nat) (lco : Option Nat) (gko : Nat → Int) (gpo : Nat → Int) (gco : Nat → Int) (gso : Nat → Int64) (glo : Nat → Int64) (rso : List Rl) (npo : Int) (mdo : Int) (tho : Int) (nco : Int) (z : Int) (hB : BRep gk gp gc gs gl rs) (hW : RW rs) (hBo : BRep gko gpo gco gso glo rso) (hWo : RW rso) (hz : 0 ≤ z ∧ z < rs.length ∧ z < rso.length) : CT l D K z0 yX0_hasSameRule cX0_hasSameRule 3 (some .boolean) rm_X0_hasSameRule [.ref h0, .ref h1, .int (iI z)] [(h0, .inr (0, [.ref ak, .ref ap, .ref ac, .ref ash, .ref alo, .int (iI (rs.length : Int)), .ref apc, .ref aps, .ref apl, .int (iI np), .int (iI md), .int (iI th), va_rf lc, .int (iI nc)])), (ak, aI (K 0) 24 gk), (ap, aI (K 0) 24 gp), (ac, aI (K 0) 24 gc), (ash, aJ (K 1) 24 gs), (alo, aJ (K 1) 24 gl), (h1, .inr (0, [.ref ako, .ref apo, .ref aco, .ref asho, .ref aloo, .int (iI (rso.length : Int)), .ref apco, .ref apso, .ref aplo, .int (iI npo), .int (iI mdo), .int (iI tho), va_rf lco, .int (iI nco)])), (ako, aI (K 0) 24 gko), (apo, aI (K 0) 24 gpo), (aco, aI (K 0) 24 gco), (asho, aJ (K 1) 24 gso), (aloo, aJ (K 1) 24 glo)] (fun v9 u9 => (v9 = some (.int (iI 1)) ∧ (rget rs z = rget rso z) ∧ u9 = [(h0, .inr (0, [.ref ak, .ref ap, .ref ac, .ref ash, .ref alo, .int (iI (rs.length : Int)), .ref apc, .ref aps, .ref apl, .int (iI np), .int (iI md), .int (iI th), va_rf lc, .int (iI nc)])), (ak, aI (K 0) 24 gk), (ap, aI (K 0) 24 gp), (ac, aI (K 0) 24 gc), (ash, aJ (K 1) 24 gs), (alo, aJ (K 1) 24 gl), (h1, .inr (0, [.ref ako, .ref apo, .ref aco, .ref asho, .ref aloo, .int (iI (rso.length : Int)), .ref apco, .ref apso, .ref aplo, .int (iI npo), .int (iI mdo), .int (iI tho), va_rf lco, .int (iI nco)])), (ako, aI (K 0) 24 gko), (apo, aI (K 0) 24 gpo), (aco, aI (K 0) 24 gco), (asho, aJ (K 1) 24 gso), (aloo, aJ (K 1) 24 glo)]) ∨ (v9 = some (.int (iI 0)) ∧ (rget rs z ≠ rget rso z) ∧ u9 = [(h0, .inr (0, [.ref ak, .ref ap, .ref ac, .ref ash, .ref alo, .int (iI (rs.length : Int)), .ref apc, .ref aps, .ref apl, .int (iI np), .int (iI md), .int (iI th), va_rf lc, .int (iI nc)])), (ak, aI (K 0) 24 gk), (ap, aI (K 0) 24 gp), (ac, aI (K 0) 24 gc), (ash, aJ (K 1) 24 gs), (alo, aJ (K 1) 24 gl), (h1, .inr (0, [.ref ako, .ref apo, .ref aco, .ref asho, .ref aloo, .int (iI (rso.length : Int)), .ref apco, .ref apso, .ref aplo, .int (iI npo), .int (iI mdo), .int (iI tho), va_rf lco, .int (iI nco)])), (ako, aI (K 0) 24 gko), (apo, aI (K 0) 24 gpo), (aco, aI (K 0) 24 gco), (asho, aJ (K 1) 24 gso), (aloo, aJ (K 1) 24 glo)])) := by
  refine CT.start RX0 "hasSameRule" (by decide) rfl rfl (Nat.le_of_ble_eq_true rfl) ?_
  intro p9 e9 s9 m9 ag9 bl9 mt9 c9 A9 Q9 ls F G hR hl
  have hl : lv_has ls 3 [(0, .ref h0), (1, .ref h1), (2, .int (iI z))] := hl
  have hn := hW.1
  have hno := hWo.1
  have b1 := hW.bd hz.1 hz.2.1
  have b2 := hWo.bd hz.1 hz.2.2
  refine lv_aload_n F.1 F.2.1 dX0_hasSameRule_0 rfl (lv_at hl 0 rfl) ?_
  refine ad_get F G fl_X0_9 0 rfl rfl dX0_hasSameRule_1 ?_
  refine lv_iload_n F.1 F.2.1 dX0_hasSameRule_4 rfl (lv_at hl 2 rfl) ?_
  refine ad_iald F G 1 rfl (w := (rget rs z).1) (by omega) (hB z (by omega) (by omega)).1 dX0_hasSameRule_5 ?_
  refine lv_aload_n F.1 F.2.1 dX0_hasSameRule_6 rfl (lv_at hl 1 rfl) ?_
  refine ad_get F G fl_X0_9 6 rfl rfl dX0_hasSameRule_7 ?_
  refine lv_iload_n F.1 F.2.1 dX0_hasSameRule_10 rfl (lv_at hl 2 rfl) ?_
  refine ad_iald F G 7 rfl (w := (rget rso z).1) (by omega) (hBo z (by omega) (by omega)).1 dX0_hasSameRule_11 ?_
  refine ad_icmp_ne (tgt := 81) F (by omega) dX0_hasSameRule_12 (by decide) (fun cc_1 => ?_) (fun cc_1 => ?_)
  · refine ad_iconst F dX0_hasSameRule_81 ?_
    exact ad_zreturn F G hR rfl (Nat.le_of_ble_eq_true rfl) (Nat.le_of_ble_eq_true rfl) rfl (Or.inr (⟨rfl, (fun q => cc_1 (by rw [q])), rfl⟩)) dX0_hasSameRule_82
  · refine lv_aload_n F.1 F.2.1 dX0_hasSameRule_15 rfl (lv_at hl 0 rfl) ?_
    refine ad_get F G fl_X0_15 0 rfl rfl dX0_hasSameRule_16 ?_
    refine lv_iload_n F.1 F.2.1 dX0_hasSameRule_19 rfl (lv_at hl 2 rfl) ?_
    refine ad_iald F G 2 rfl (w := (rget rs z).2.1) (by omega) (hB z (by omega) (by omega)).2.1 dX0_hasSameRule_20 ?_
    refine lv_aload_n F.1 F.2.1 dX0_hasSameRule_21 rfl (lv_at hl 1 rfl) ?_
    refine ad_get F G fl_X0_15 6 rfl rfl dX0_hasSameRule_22 ?_
    refine lv_iload_n F.1 F.2.1 dX0_hasSameRule_25 rfl (lv_at hl 2 rfl) ?_
    refine ad_iald F G 8 rfl (w := (rget rso z).2.1) (by omega) (hBo z (by omega) (by omega)).2.1 dX0_hasSameRule_26 ?_
    refine ad_icmp_ne (tgt := 81) F (by omega) dX0_hasSameRule_27 (by decide) (fun cc_2 => ?_) (fun cc_2 => ?_)
    · refine ad_iconst F dX0_hasSameRule_81 ?_
      exact ad_zreturn F G hR rfl (Nat.le_of_ble_eq_true rfl) (Nat.le_of_ble_eq_true rfl) rfl (Or.inr (⟨rfl, (fun q => cc_2 (by rw [q])), rfl⟩)) dX0_hasSameRule_82
    · refine lv_aload_n F.1 F.2.1 dX0_hasSameRule_30 rfl (lv_at hl 0 rfl) ?_
      refine ad_get F G fl_X0_18 0 rfl rfl dX0_hasSameRule_31 ?_
      refine lv_iload_n F.1 F.2.1 dX0_hasSameRule_34 rfl (lv_at hl 2 rfl) ?_
      refine ad_iald F G 3 rfl (w := (rget rs z).2.2.1) (by omega) (hB z (by omega) (by omega)).2.2.1 dX0_hasSameRule_35 ?_
      refine lv_aload_n F.1 F.2.1 dX0_hasSameRule_36 rfl (lv_at hl 1 rfl) ?_
      refine ad_get F G fl_X0_18 6 rfl rfl dX0_hasSameRule_37 ?_
      refine lv_iload_n F.1 F.2.1 dX0_hasSameRule_40 rfl (lv_at hl 2 rfl) ?_
      refine ad_iald F G 9 rfl (w := (rget rso z).2.2.1) (by omega) (hBo z (by omega) (by omega)).2.2.1 dX0_hasSameRule_41 ?_
      refine ad_icmp_ne (tgt := 81) F (by omega) dX0_hasSameRule_42 (by decide) (fun cc_3 => ?_) (fun cc_3 => ?_)
      · refine ad_iconst F dX0_hasSameRule_81 ?_
        exact ad_zreturn F G hR rfl (Nat.le_of_ble_eq_true rfl) (Nat.le_of_ble_eq_true rfl) rfl (Or.inr (⟨rfl, (fun q => cc_3 (by rw [q])), rfl⟩)) dX0_hasSameRule_82
      · refine lv_aload_n F.1 F.2.1 dX0_hasSameRule_45 rfl (lv_at hl 0 rfl) ?_
        refine ad_get F G fl_X0_21 0 rfl rfl dX0_hasSameRule_46 ?_
        refine lv_iload_n F.1 F.2.1 dX0_hasSameRule_49 rfl (lv_at hl 2 rfl) ?_
        refine ad_lald F G 4 rfl (w := enc (rget rs z).2.2.2.1) (by omega) (hB z (by omega) (by omega)).2.2.2.1 dX0_hasSameRule_50 ?_
        refine lv_aload_n F.1 F.2.1 dX0_hasSameRule_51 rfl (lv_at hl 1 rfl) ?_
        refine ad_get F G fl_X0_21 6 rfl rfl dX0_hasSameRule_52 ?_
        refine lv_iload_n F.1 F.2.1 dX0_hasSameRule_55 rfl (lv_at hl 2 rfl) ?_
        refine ad_lald F G 10 rfl (w := enc (rget rso z).2.2.2.1) (by omega) (hBo z (by omega) (by omega)).2.2.2.1 dX0_hasSameRule_56 ?_
        refine ad_lcmp_ne (tgt := 81) F dX0_hasSameRule_57 dX0_hasSameRule_58 (by decide) (fun cc_4 => ?_) (fun cc_4 => ?_)
        · refine ad_iconst F dX0_hasSameRule_81 ?_
          exact ad_zreturn F G hR rfl (Nat.le_of_ble_eq_true rfl) (Nat.le_of_ble_eq_true rfl) rfl (Or.inr (⟨rfl, (fun q => cc_4 (by rw [q])), rfl⟩)) dX0_hasSameRule_82
        · refine lv_aload_n F.1 F.2.1 dX0_hasSameRule_61 rfl (lv_at hl 0 rfl) ?_
          refine ad_get F G fl_X0_25 0 rfl rfl dX0_hasSameRule_62 ?_
          refine lv_iload_n F.1 F.2.1 dX0_hasSameRule_65 rfl (lv_at hl 2 rfl) ?_
          refine ad_lald F G 5 rfl (w := enc (rget rs z).2.2.2.2) (by omega) (hB z (by omega) (by omega)).2.2.2.2 dX0_hasSameRule_66 ?_
          refine lv_aload_n F.1 F.2.1 dX0_hasSameRule_67 rfl (lv_at hl 1 rfl) ?_
          refine ad_get F G fl_X0_25 6 rfl rfl dX0_hasSameRule_68 ?_
          refine lv_iload_n F.1 F.2.1 dX0_hasSameRule_71 rfl (lv_at hl 2 rfl) ?_
          refine ad_lald F G 11 rfl (w := enc (rget rso z).2.2.2.2) (by omega) (hBo z (by omega) (by omega)).2.2.2.2 dX0_hasSameRule_72 ?_
          refine ad_lcmp_ne (tgt := 81) F dX0_hasSameRule_73 dX0_hasSameRule_74 (by decide) (fun cc_5 => ?_) (fun cc_5 => ?_)
          · refine ad_iconst F dX0_hasSameRule_81 ?_
            exact ad_zreturn F G hR rfl (Nat.le_of_ble_eq_true rfl) (Nat.le_of_ble_eq_true rfl) rfl (Or.inr (⟨rfl, (fun q => cc_5 (by rw [q])), rfl⟩)) dX0_hasSameRule_82
          · refine ad_iconst F dX0_hasSameRule_77 ?_
            refine lv_goto (tgt := 82) F.1 F.2.1 dX0_hasSameRule_78 (by decide) ?_
            exact ad_zreturn F G hR rfl (Nat.le_of_ble_eq_true rfl) (Nat.le_of_ble_eq_true rfl) rfl (Or.inl ⟨rfl, (Prod.ext cc_1 (Prod.ext cc_2 (Prod.ext cc_3 (Prod.ext ((enc_inj (hW.at hz.1 hz.2.1).2.2.2.1 (hWo.at hz.1 hz.2.2).2.2.2.1).mp cc_4) ((enc_inj (hW.at hz.1 hz.2.1).2.2.2.2.1 (hWo.at hz.1 hz.2.2).2.2.2.2.1).mp cc_5))))), rfl⟩) dX0_hasSameRule_82

def rm_X0_hasSamePair : Room := { frames := 1, cells := 0, slots := 0, locals := 12 }
set_option maxHeartbeats 4000000 in
set_option maxRecDepth 100000 in
theorem c_X0_hasSamePair (l : Launch) (D : va_G) (K : Nat → ClassId) (z0 : Nat) (h0 : Nat) (ak : Nat) (ap : Nat) (ac : Nat) (ash : Nat) (alo : Nat) (apc : Nat) (aps : Nat) (apl : Nat) (lc : Option Nat) (n : Int) (gn : Nat → Int) (gq : Nat → Int64) (gr : Nat → Int64) (ps : List Pr) (md : Int) (th : Int) (nc : Int) (h1 : Nat) (ako : Nat) (apo : Nat) (aco : Nat) (asho : Nat) (aloo : Nat) (apco : Nat) (apso : Nat) (aplo : Nat) (lco : Option Nat) (n_o : Int) (gno : Nat → Int) (gqo : Nat → Int64) (gro : Nat → Int64) (pso : List Pr) (mdo : Int) (tho : Int) (nco : Int) (B : Int) (Bo : Int) (z : Int) (hP : PRep gn gq gr ps) (hV : PW ps B) (hPo : PRep gno gqo gro pso) (hVo : PW pso Bo) (hz : 0 ≤ z ∧ z < ps.length ∧ z < pso.length) : CT l D K z0 yX0_hasSamePair cX0_hasSamePair 3 (some .boolean) rm_X0_hasSamePair [.ref h0, .ref h1, .int (iI z)] [(h0, .inr (0, [.ref ak, .ref ap, .ref ac, .ref ash, .ref alo, .int (iI n), .ref apc, .ref aps, .ref apl, .int (iI (ps.length : Int)), .int (iI md), .int (iI th), va_rf lc, .int (iI nc)])), (apc, aI (K 0) 30 gn), (aps, aJ (K 1) 30 gq), (apl, aJ (K 1) 30 gr), (h1, .inr (0, [.ref ako, .ref apo, .ref aco, .ref asho, .ref aloo, .int (iI n_o), .ref apco, .ref apso, .ref aplo, .int (iI (pso.length : Int)), .int (iI mdo), .int (iI tho), va_rf lco, .int (iI nco)])), (apco, aI (K 0) 30 gno), (apso, aJ (K 1) 30 gqo), (aplo, aJ (K 1) 30 gro)] (fun v9 u9 => (v9 = some (.int (iI 1)) ∧ (pget ps z = pget pso z) ∧ u9 = [(h0, .inr (0, [.ref ak, .ref ap, .ref ac, .ref ash, .ref alo, .int (iI n), .ref apc, .ref aps, .ref apl, .int (iI (ps.length : Int)), .int (iI md), .int (iI th), va_rf lc, .int (iI nc)])), (apc, aI (K 0) 30 gn), (aps, aJ (K 1) 30 gq), (apl, aJ (K 1) 30 gr), (h1, .inr (0, [.ref ako, .ref apo, .ref aco, .ref asho, .ref aloo, .int (iI n_o), .ref apco, .ref apso, .ref aplo, .int (iI (pso.length : Int)), .int (iI mdo), .int (iI tho), va_rf lco, .int (iI nco)])), (apco, aI (K 0) 30 gno), (apso, aJ (K 1) 30 gqo), (aplo, aJ (K 1) 30 gro)]) ∨ (v9 = some (.int (iI 0)) ∧ (pget ps z ≠ pget pso z) ∧ u9 = [(h0, .inr (0, [.ref ak, .ref ap, .ref ac, .ref ash, .ref alo, .int (iI n), .ref apc, .ref aps, .ref apl, .int (iI (ps.length : Int)), .int (iI md), .int (iI th), va_rf lc, .int (iI nc)])), (apc, aI (K 0) 30 gn), (aps, aJ (K 1) 30 gq), (apl, aJ (K 1) 30 gr), (h1, .inr (0, [.ref ako, .ref apo, .ref aco, .ref asho, .ref aloo, .int (iI n_o), .ref apco, .ref apso, .ref aplo, .int (iI (pso.length : Int)), .int (iI mdo), .int (iI tho), va_rf lco, .int (iI nco)])), (apco, aI (K 0) 30 gno), (apso, aJ (K 1) 30 gqo), (aplo, aJ (K 1) 30 gro)])) := by
  refine CT.start RX0 "hasSamePair" (by decide) rfl rfl (Nat.le_of_ble_eq_true rfl) ?_
  intro p9 e9 s9 m9 ag9 bl9 mt9 c9 A9 Q9 ls F G hR hl
  have hl : lv_has ls 3 [(0, .ref h0), (1, .ref h1), (2, .int (iI z))] := hl
  have hn := hV.1
  have hno := hVo.1
  have b1 := hV.bd hz.1 hz.2.1
  have b2 := hVo.bd hz.1 hz.2.2
  refine lv_aload_n F.1 F.2.1 dX0_hasSamePair_0 rfl (lv_at hl 0 rfl) ?_
  refine ad_get F G fl_X0_28 0 rfl rfl dX0_hasSamePair_1 ?_
  refine lv_iload_n F.1 F.2.1 dX0_hasSamePair_4 rfl (lv_at hl 2 rfl) ?_
  refine ad_iald F G 1 rfl (w := (pget ps z).1) (by omega) (hP z (by omega) (by omega)).1 dX0_hasSamePair_5 ?_
  refine lv_aload_n F.1 F.2.1 dX0_hasSamePair_6 rfl (lv_at hl 1 rfl) ?_
  refine ad_get F G fl_X0_28 4 rfl rfl dX0_hasSamePair_7 ?_
  refine lv_iload_n F.1 F.2.1 dX0_hasSamePair_10 rfl (lv_at hl 2 rfl) ?_
  refine ad_iald F G 5 rfl (w := (pget pso z).1) (by omega) (hPo z (by omega) (by omega)).1 dX0_hasSamePair_11 ?_
  refine ad_icmp_ne (tgt := 51) F (by omega) dX0_hasSamePair_12 (by decide) (fun cc_1 => ?_) (fun cc_1 => ?_)
  · refine ad_iconst F dX0_hasSamePair_51 ?_
    exact ad_zreturn F G hR rfl (Nat.le_of_ble_eq_true rfl) (Nat.le_of_ble_eq_true rfl) rfl (Or.inr (⟨rfl, (fun q => cc_1 (by rw [q])), rfl⟩)) dX0_hasSamePair_52
  · refine lv_aload_n F.1 F.2.1 dX0_hasSamePair_15 rfl (lv_at hl 0 rfl) ?_
    refine ad_get F G fl_X0_31 0 rfl rfl dX0_hasSamePair_16 ?_
    refine lv_iload_n F.1 F.2.1 dX0_hasSamePair_19 rfl (lv_at hl 2 rfl) ?_
    refine ad_lald F G 2 rfl (w := enc (pget ps z).2.1) (by omega) (hP z (by omega) (by omega)).2.1 dX0_hasSamePair_20 ?_
    refine lv_aload_n F.1 F.2.1 dX0_hasSamePair_21 rfl (lv_at hl 1 rfl) ?_
    refine ad_get F G fl_X0_31 4 rfl rfl dX0_hasSamePair_22 ?_
    refine lv_iload_n F.1 F.2.1 dX0_hasSamePair_25 rfl (lv_at hl 2 rfl) ?_
    refine ad_lald F G 6 rfl (w := enc (pget pso z).2.1) (by omega) (hPo z (by omega) (by omega)).2.1 dX0_hasSamePair_26 ?_
    refine ad_lcmp_ne (tgt := 51) F dX0_hasSamePair_27 dX0_hasSamePair_28 (by decide) (fun cc_2 => ?_) (fun cc_2 => ?_)
    · refine ad_iconst F dX0_hasSamePair_51 ?_
      exact ad_zreturn F G hR rfl (Nat.le_of_ble_eq_true rfl) (Nat.le_of_ble_eq_true rfl) rfl (Or.inr (⟨rfl, (fun q => cc_2 (by rw [q])), rfl⟩)) dX0_hasSamePair_52
    · refine lv_aload_n F.1 F.2.1 dX0_hasSamePair_31 rfl (lv_at hl 0 rfl) ?_
      refine ad_get F G fl_X0_34 0 rfl rfl dX0_hasSamePair_32 ?_
      refine lv_iload_n F.1 F.2.1 dX0_hasSamePair_35 rfl (lv_at hl 2 rfl) ?_
      refine ad_lald F G 3 rfl (w := enc (pget ps z).2.2) (by omega) (hP z (by omega) (by omega)).2.2 dX0_hasSamePair_36 ?_
      refine lv_aload_n F.1 F.2.1 dX0_hasSamePair_37 rfl (lv_at hl 1 rfl) ?_
      refine ad_get F G fl_X0_34 4 rfl rfl dX0_hasSamePair_38 ?_
      refine lv_iload_n F.1 F.2.1 dX0_hasSamePair_41 rfl (lv_at hl 2 rfl) ?_
      refine ad_lald F G 7 rfl (w := enc (pget pso z).2.2) (by omega) (hPo z (by omega) (by omega)).2.2 dX0_hasSamePair_42 ?_
      refine ad_lcmp_ne (tgt := 51) F dX0_hasSamePair_43 dX0_hasSamePair_44 (by decide) (fun cc_3 => ?_) (fun cc_3 => ?_)
      · refine ad_iconst F dX0_hasSamePair_51 ?_
        exact ad_zreturn F G hR rfl (Nat.le_of_ble_eq_true rfl) (Nat.le_of_ble_eq_true rfl) rfl (Or.inr (⟨rfl, (fun q => cc_3 (by rw [q])), rfl⟩)) dX0_hasSamePair_52
      · refine ad_iconst F dX0_hasSamePair_47 ?_
        refine lv_goto (tgt := 52) F.1 F.2.1 dX0_hasSamePair_48 (by decide) ?_
        exact ad_zreturn F G hR rfl (Nat.le_of_ble_eq_true rfl) (Nat.le_of_ble_eq_true rfl) rfl (Or.inl ⟨rfl, (Prod.ext cc_1 (Prod.ext ((enc_inj (hV.at hz.1 hz.2.1).2.2.1 (hVo.at hz.1 hz.2.2).2.2.1).mp cc_2) ((enc_inj (hV.at hz.1 hz.2.1).2.2.2.1 (hVo.at hz.1 hz.2.2).2.2.2.1).mp cc_3))), rfl⟩) dX0_hasSamePair_52

def rm_X0_sameAs : Room := { frames := 2, cells := 0, slots := 0, locals := 34 }
set_option maxHeartbeats 4000000 in
set_option maxRecDepth 100000 in
theorem c_X0_sameAs (l : Launch) (D : va_G) (K : Nat → ClassId) (z0 : Nat) (h0 : Nat) (ak : Nat) (ap : Nat) (ac : Nat) (ash : Nat) (alo : Nat) (apc : Nat) (aps : Nat) (apl : Nat) (lc : Option Nat) (gk : Nat → Int) (gp : Nat → Int) (gc : Nat → Int) (gs : Nat → Int64) (gl : Nat → Int64) (rs : List Rl) (gn : Nat → Int) (gq : Nat → Int64) (gr : Nat → Int64) (ps : List Pr) (md : Int) (th : Int) (nc : Int) (h1 : Nat) (ako : Nat) (apo : Nat) (aco : Nat) (asho : Nat) (aloo : Nat) (apco : Nat) (apso : Nat) (aplo : Nat) (lco : Option Nat) (gko : Nat → Int) (gpo : Nat → Int) (gco : Nat → Int) (gso : Nat → Int64) (glo : Nat → Int64) (rso : List Rl) (gno : Nat → Int) (gqo : Nat → Int64) (gro : Nat → Int64) (pso : List Pr) (mdo : Int) (tho : Int) (nco : Int) (B : Int) (Bo : Int) (hB : BRep gk gp gc gs gl rs) (hW : RW rs) (hBo : BRep gko gpo gco gso glo rso) (hWo : RW rso) (hP : PRep gn gq gr ps) (hV : PW ps B) (hPo : PRep gno gqo gro pso) (hVo : PW pso Bo) (hm : (0 ≤ md ∧ md ≤ 1) ∧ (0 ≤ mdo ∧ mdo ≤ 1) ∧ (0 ≤ th ∧ th ≤ 9) ∧ (0 ≤ tho ∧ tho ≤ 9)) : CT l D K z0 yX0_sameAs cX0_sameAs 3 (some .boolean) rm_X0_sameAs [.ref h0, .ref h1] [(h0, .inr (0, [.ref ak, .ref ap, .ref ac, .ref ash, .ref alo, .int (iI (rs.length : Int)), .ref apc, .ref aps, .ref apl, .int (iI (ps.length : Int)), .int (iI md), .int (iI th), va_rf lc, .int (iI nc)])), (ak, aI (K 0) 24 gk), (ap, aI (K 0) 24 gp), (ac, aI (K 0) 24 gc), (ash, aJ (K 1) 24 gs), (alo, aJ (K 1) 24 gl), (apc, aI (K 0) 30 gn), (aps, aJ (K 1) 30 gq), (apl, aJ (K 1) 30 gr), (h1, .inr (0, [.ref ako, .ref apo, .ref aco, .ref asho, .ref aloo, .int (iI (rso.length : Int)), .ref apco, .ref apso, .ref aplo, .int (iI (pso.length : Int)), .int (iI mdo), .int (iI tho), va_rf lco, .int (iI nco)])), (ako, aI (K 0) 24 gko), (apo, aI (K 0) 24 gpo), (aco, aI (K 0) 24 gco), (asho, aJ (K 1) 24 gso), (aloo, aJ (K 1) 24 glo), (apco, aI (K 0) 30 gno), (apso, aJ (K 1) 30 gqo), (aplo, aJ (K 1) 30 gro)] (fun v9 u9 => (v9 = some (.int (iI 1)) ∧ (rs = rso ∧ ps = pso ∧ md = mdo ∧ th = tho) ∧ u9 = [(h0, .inr (0, [.ref ak, .ref ap, .ref ac, .ref ash, .ref alo, .int (iI (rs.length : Int)), .ref apc, .ref aps, .ref apl, .int (iI (ps.length : Int)), .int (iI md), .int (iI th), va_rf lc, .int (iI nc)])), (ak, aI (K 0) 24 gk), (ap, aI (K 0) 24 gp), (ac, aI (K 0) 24 gc), (ash, aJ (K 1) 24 gs), (alo, aJ (K 1) 24 gl), (apc, aI (K 0) 30 gn), (aps, aJ (K 1) 30 gq), (apl, aJ (K 1) 30 gr), (h1, .inr (0, [.ref ako, .ref apo, .ref aco, .ref asho, .ref aloo, .int (iI (rso.length : Int)), .ref apco, .ref apso, .ref aplo, .int (iI (pso.length : Int)), .int (iI mdo), .int (iI tho), va_rf lco, .int (iI nco)])), (ako, aI (K 0) 24 gko), (apo, aI (K 0) 24 gpo), (aco, aI (K 0) 24 gco), (asho, aJ (K 1) 24 gso), (aloo, aJ (K 1) 24 glo), (apco, aI (K 0) 30 gno), (apso, aJ (K 1) 30 gqo), (aplo, aJ (K 1) 30 gro)]) ∨ (v9 = some (.int (iI 0)) ∧ (¬ (rs = rso ∧ ps = pso ∧ md = mdo ∧ th = tho)) ∧ u9 = [(h0, .inr (0, [.ref ak, .ref ap, .ref ac, .ref ash, .ref alo, .int (iI (rs.length : Int)), .ref apc, .ref aps, .ref apl, .int (iI (ps.length : Int)), .int (iI md), .int (iI th), va_rf lc, .int (iI nc)])), (ak, aI (K 0) 24 gk), (ap, aI (K 0) 24 gp), (ac, aI (K 0) 24 gc), (ash, aJ (K 1) 24 gs), (alo, aJ (K 1) 24 gl), (apc, aI (K 0) 30 gn), (aps, aJ (K 1) 30 gq), (apl, aJ (K 1) 30 gr), (h1, .inr (0, [.ref ako, .ref apo, .ref aco, .ref asho, .ref aloo, .int (iI (rso.length : Int)), .ref apco, .ref apso, .ref aplo, .int (iI (pso.length : Int)), .int (iI mdo), .int (iI tho), va_rf lco, .int (iI nco)])), (ako, aI (K 0) 24 gko), (apo, aI (K 0) 24 gpo), (aco, aI (K 0) 24 gco), (asho, aJ (K 1) 24 gso), (aloo, aJ (K 1) 24 glo), (apco, aI (K 0) 30 gno), (apso, aJ (K 1) 30 gqo), (aplo, aJ (K 1) 30 gro)])) := by
  refine CT.start RX0 "sameAs" (by decide) rfl rfl (Nat.le_of_ble_eq_true rfl) ?_
  intro p9 e9 s9 m9 ag9 bl9 mt9 c9 A9 Q9 ls F G hR hl
  have hl : lv_has ls 3 [(0, .ref h0), (1, .ref h1)] := hl
  have hn := hW.1
  have hno := hWo.1
  have hpn := hV.1
  have hpno := hVo.1
  refine lv_aload_n F.1 F.2.1 dX0_sameAs_0 rfl (lv_at hl 0 rfl) ?_
  refine ad_get F G fl_X0_44 0 rfl rfl dX0_sameAs_1 ?_
  refine lv_aload_n F.1 F.2.1 dX0_sameAs_4 rfl (lv_at hl 1 rfl) ?_
  refine ad_get F G fl_X0_44 9 rfl rfl dX0_sameAs_5 ?_
  refine ad_icmp_ne (tgt := 44) F (by omega) dX0_sameAs_8 (by decide) (fun cc_1 => ?_) (fun cc_1 => ?_)
  · refine ad_iconst F dX0_sameAs_44 ?_
    exact ad_zreturn F G hR rfl (Nat.le_of_ble_eq_true rfl) (Nat.le_of_ble_eq_true rfl) rfl (Or.inr (⟨rfl, (fun q => cc_1 (by first | rw [q.1] | rw [q.2.1] | exact q.2.2.1 | exact q.2.2.2)), rfl⟩)) dX0_sameAs_45
  · refine lv_aload_n F.1 F.2.1 dX0_sameAs_11 rfl (lv_at hl 0 rfl) ?_
    refine ad_get F G fl_X0_47 0 rfl rfl dX0_sameAs_12 ?_
    refine lv_aload_n F.1 F.2.1 dX0_sameAs_15 rfl (lv_at hl 1 rfl) ?_
    refine ad_get F G fl_X0_47 9 rfl rfl dX0_sameAs_16 ?_
    refine ad_icmp_ne (tgt := 44) F (by omega) dX0_sameAs_19 (by decide) (fun cc_2 => ?_) (fun cc_2 => ?_)
    · refine ad_iconst F dX0_sameAs_44 ?_
      exact ad_zreturn F G hR rfl (Nat.le_of_ble_eq_true rfl) (Nat.le_of_ble_eq_true rfl) rfl (Or.inr (⟨rfl, (fun q => cc_2 (by first | rw [q.1] | rw [q.2.1] | exact q.2.2.1 | exact q.2.2.2)), rfl⟩)) dX0_sameAs_45
    · refine lv_aload_n F.1 F.2.1 dX0_sameAs_22 rfl (lv_at hl 0 rfl) ?_
      refine ad_get F G fl_X0_37 0 rfl rfl dX0_sameAs_23 ?_
      refine lv_aload_n F.1 F.2.1 dX0_sameAs_26 rfl (lv_at hl 1 rfl) ?_
      refine ad_get F G fl_X0_37 9 rfl rfl dX0_sameAs_27 ?_
      refine ad_icmp_ne (tgt := 44) F (by omega) dX0_sameAs_30 (by decide) (fun cc_3 => ?_) (fun cc_3 => ?_)
      · refine ad_iconst F dX0_sameAs_44 ?_
        exact ad_zreturn F G hR rfl (Nat.le_of_ble_eq_true rfl) (Nat.le_of_ble_eq_true rfl) rfl (Or.inr (⟨rfl, (fun q => cc_3 (by first | rw [q.1] | rw [q.2.1] | exact q.2.2.1 | exact q.2.2.2)), rfl⟩)) dX0_sameAs_45
      · refine lv_aload_n F.1 F.2.1 dX0_sameAs_33 rfl (lv_at hl 0 rfl) ?_
        refine ad_get F G fl_X0_41 0 rfl rfl dX0_sameAs_34 ?_
        refine lv_aload_n F.1 F.2.1 dX0_sameAs_37 rfl (lv_at hl 1 rfl) ?_
        refine ad_get F G fl_X0_41 9 rfl rfl dX0_sameAs_38 ?_
        refine ad_icmp_eq (tgt := 46) F (by omega) dX0_sameAs_41 (by decide) (fun cc_4 => ?_) (fun cc_4 => ?_)
        · refine ad_iconst F dX0_sameAs_46 ?_
          refine lv_istore_n (lv' := [(2, .int (iI 0)), (0, .ref h0), (1, .ref h1)]) F.1 F.2.1 dX0_sameAs_47 rfl hl (by decide) rfl (fun ls hl => ?_)
          have lp48 : ∀ (n48 : Nat) (i : Int) (H : Heap) (locs : List Loc) (ls : Array Slot), (0 ≤ i ∧ i ≤ rs.length) → (∀ z : Int, 0 ≤ z → z < i → rget rs z = rget rso z) → (rs.length - i) < (n48 : Int) → ad_G D A9 s9.heap H locs [(h0, .inr (0, [.ref ak, .ref ap, .ref ac, .ref ash, .ref alo, .int (iI (rs.length : Int)), .ref apc, .ref aps, .ref apl, .int (iI (ps.length : Int)), .int (iI md), .int (iI th), va_rf lc, .int (iI nc)])), (ak, aI (K 0) 24 gk), (ap, aI (K 0) 24 gp), (ac, aI (K 0) 24 gc), (ash, aJ (K 1) 24 gs), (alo, aJ (K 1) 24 gl), (apc, aI (K 0) 30 gn), (aps, aJ (K 1) 30 gq), (apl, aJ (K 1) 30 gr), (h1, .inr (0, [.ref ako, .ref apo, .ref aco, .ref asho, .ref aloo, .int (iI (rso.length : Int)), .ref apco, .ref apso, .ref aplo, .int (iI (pso.length : Int)), .int (iI mdo), .int (iI tho), va_rf lco, .int (iI nco)])), (ako, aI (K 0) 24 gko), (apo, aI (K 0) 24 gpo), (aco, aI (K 0) 24 gco), (asho, aJ (K 1) 24 gso), (aloo, aJ (K 1) 24 glo), (apco, aI (K 0) 30 gno), (apso, aJ (K 1) 30 gqo), (aplo, aJ (K 1) 30 gro)] → lv_has ls 3 [(0, .ref h0), (1, .ref h1), (2, .int (iI i))] → W p9 l e9 rm_X0_sameAs s9 m9 ag9 bl9 mt9 c9 H locs 0 0 Q9 (F0 m9 48 ls []) := by
            intro n48
            induction n48 with
            | zero =>
              intro i H locs ls hi ha hm48
              exact absurd hm48 (by omega)
            | succ n48 ih48 =>
              intro i H locs ls hi ha hm48 G hl
              refine lv_iload_n F.1 F.2.1 dX0_sameAs_48 rfl (lv_at hl 2 rfl) ?_
              refine lv_aload_n F.1 F.2.1 dX0_sameAs_49 rfl (lv_at hl 0 rfl) ?_
              refine ad_get F G fl_X0_44 0 rfl rfl dX0_sameAs_50 ?_
              refine ad_icmp_ge (tgt := 73) F (by omega) dX0_sameAs_53 (by decide) (fun cc_5 => ?_) (fun cc_5 => ?_)
              · refine ad_iconst F dX0_sameAs_73 ?_
                refine lv_istore_n (lv' := [(2, .int (iI 0)), (0, .ref h0), (1, .ref h1)]) F.1 F.2.1 dX0_sameAs_74 rfl hl (by decide) rfl (fun ls hl => ?_)
                have lp75 : ∀ (n75 : Nat) (j : Int) (H : Heap) (locs : List Loc) (ls : Array Slot), (0 ≤ j ∧ j ≤ ps.length) → (∀ z : Int, 0 ≤ z → z < j → pget ps z = pget pso z) → (ps.length - j) < (n75 : Int) → ad_G D A9 s9.heap H locs [(h0, .inr (0, [.ref ak, .ref ap, .ref ac, .ref ash, .ref alo, .int (iI (rs.length : Int)), .ref apc, .ref aps, .ref apl, .int (iI (ps.length : Int)), .int (iI md), .int (iI th), va_rf lc, .int (iI nc)])), (ak, aI (K 0) 24 gk), (ap, aI (K 0) 24 gp), (ac, aI (K 0) 24 gc), (ash, aJ (K 1) 24 gs), (alo, aJ (K 1) 24 gl), (apc, aI (K 0) 30 gn), (aps, aJ (K 1) 30 gq), (apl, aJ (K 1) 30 gr), (h1, .inr (0, [.ref ako, .ref apo, .ref aco, .ref asho, .ref aloo, .int (iI (rso.length : Int)), .ref apco, .ref apso, .ref aplo, .int (iI (pso.length : Int)), .int (iI mdo), .int (iI tho), va_rf lco, .int (iI nco)])), (ako, aI (K 0) 24 gko), (apo, aI (K 0) 24 gpo), (aco, aI (K 0) 24 gco), (asho, aJ (K 1) 24 gso), (aloo, aJ (K 1) 24 glo), (apco, aI (K 0) 30 gno), (apso, aJ (K 1) 30 gqo), (aplo, aJ (K 1) 30 gro)] → lv_has ls 3 [(0, .ref h0), (1, .ref h1), (2, .int (iI j))] → W p9 l e9 rm_X0_sameAs s9 m9 ag9 bl9 mt9 c9 H locs 0 0 Q9 (F0 m9 75 ls []) := by
                  intro n75
                  induction n75 with
                  | zero =>
                    intro j H locs ls hj hb hm75
                    exact absurd hm75 (by omega)
                  | succ n75 ih75 =>
                    intro j H locs ls hj hb hm75 G hl
                    refine lv_iload_n F.1 F.2.1 dX0_sameAs_75 rfl (lv_at hl 2 rfl) ?_
                    refine lv_aload_n F.1 F.2.1 dX0_sameAs_76 rfl (lv_at hl 0 rfl) ?_
                    refine ad_get F G fl_X0_47 0 rfl rfl dX0_sameAs_77 ?_
                    refine ad_icmp_ge (tgt := 100) F (by omega) dX0_sameAs_80 (by decide) (fun cc_6 => ?_) (fun cc_6 => ?_)
                    · refine ad_iconst F dX0_sameAs_100 ?_
                      exact ad_zreturn F G hR rfl (Nat.le_of_ble_eq_true rfl) (Nat.le_of_ble_eq_true rfl) rfl (Or.inl ⟨rfl, ⟨rget_ext (by omega) (fun z h1 h2 => ha z h1 (by omega)), pget_ext (by omega) (fun z h1 h2 => hb z h1 (by omega)), cc_3, cc_4⟩, rfl⟩) dX0_sameAs_101
                    · refine lv_aload_n F.1 F.2.1 dX0_sameAs_83 rfl (lv_at hl 0 rfl) ?_
                      refine lv_aload_n F.1 F.2.1 dX0_sameAs_84 rfl (lv_at hl 1 rfl) ?_
                      refine lv_iload_n F.1 F.2.1 dX0_sameAs_85 rfl (lv_at hl 2 rfl) ?_
                      refine ad_callV (As := [.ref h1, .int (iI j)]) (rest := []) F G (c_X0_hasSamePair l D K z0 h0 ak ap ac ash alo apc aps apl lc (rs.length : Int) gn gq gr ps md th nc h1 ako apo aco asho aloo apco apso aplo lco (rso.length : Int) gno gqo gro pso mdo tho nco B Bo j hP hV hPo hVo (by omega)) my_X0_hasSamePair mv_X0_67 (wr := [(ak, aI (K 0) 24 gk), (ap, aI (K 0) 24 gp), (ac, aI (K 0) 24 gc), (ash, aJ (K 1) 24 gs), (alo, aJ (K 1) 24 gl), (ako, aI (K 0) 24 gko), (apo, aI (K 0) 24 gpo), (aco, aI (K 0) 24 gco), (asho, aJ (K 1) 24 gso), (aloo, aJ (K 1) 24 glo)]) (isC := [0, 6, 7, 8, 9, 15, 16, 17]) (isR := [1, 2, 3, 4, 5, 10, 11, 12, 13, 14]) ⟨rfl, rfl, rfl, rfl, by decide⟩ 0 0 rfl rfl rfl rfl ⟨Nat.le_of_ble_eq_true rfl, Nat.le_of_ble_eq_true rfl⟩ ⟨Nat.le_of_ble_eq_true rfl, Nat.le_of_ble_eq_true rfl⟩ (Nat.le_of_ble_eq_true rfl) hl.1 (cells9 := 0) (slots9 := 0) ⟨rfl, rfl⟩ dX0_sameAs_86 (fun v u H locs hw_7 G => ?_)
                      rcases hw_7 with ⟨rfl, hc_8, rfl⟩ | ⟨rfl, hc_9, rfl⟩
                      · replace G := G.perm (ws' := [(h0, .inr (0, [.ref ak, .ref ap, .ref ac, .ref ash, .ref alo, .int (iI (rs.length : Int)), .ref apc, .ref aps, .ref apl, .int (iI (ps.length : Int)), .int (iI md), .int (iI th), va_rf lc, .int (iI nc)])), (ak, aI (K 0) 24 gk), (ap, aI (K 0) 24 gp), (ac, aI (K 0) 24 gc), (ash, aJ (K 1) 24 gs), (alo, aJ (K 1) 24 gl), (apc, aI (K 0) 30 gn), (aps, aJ (K 1) 30 gq), (apl, aJ (K 1) 30 gr), (h1, .inr (0, [.ref ako, .ref apo, .ref aco, .ref asho, .ref aloo, .int (iI (rso.length : Int)), .ref apco, .ref apso, .ref aplo, .int (iI (pso.length : Int)), .int (iI mdo), .int (iI tho), va_rf lco, .int (iI nco)])), (ako, aI (K 0) 24 gko), (apo, aI (K 0) 24 gpo), (aco, aI (K 0) 24 gco), (asho, aJ (K 1) 24 gso), (aloo, aJ (K 1) 24 glo), (apco, aI (K 0) 30 gno), (apso, aJ (K 1) 30 gqo), (aplo, aJ (K 1) 30 gro)]) [10, 0, 1, 2, 3, 4, 11, 12, 13, 14, 5, 6, 7, 8, 9, 15, 16, 17] rfl rfl
                        refine W.eq (g2 := F0 m9 89 ls [.int (iI 1)]) rfl ?_
                        refine ad_if_ne (tgt := 94) F (by decide) dX0_sameAs_89 (by decide) (fun _ => ?_) (fun cc_10 => absurd cc_10 (by decide))
                        refine ad_iinc (lv' := [(2, .int (iI (j + 1))), (0, .ref h0), (1, .ref h1)]) F dX0_sameAs_94 hl (k := 2) rfl (by decide) rfl (fun ls hl => ?_)
                        refine lv_goto (tgt := 75) F.1 F.2.1 dX0_sameAs_97 (by decide) ?_
                        exact ih75 (j + 1) _ _ _ (by omega) (fun z h1 h2 => (show z = j ∨ z < j by omega).elim (fun h => by rw [h]; exact hc_8) (fun h => hb z h1 h)) (by omega) (G.perm (ws' := [(h0, .inr (0, [.ref ak, .ref ap, .ref ac, .ref ash, .ref alo, .int (iI (rs.length : Int)), .ref apc, .ref aps, .ref apl, .int (iI (ps.length : Int)), .int (iI md), .int (iI th), va_rf lc, .int (iI nc)])), (ak, aI (K 0) 24 gk), (ap, aI (K 0) 24 gp), (ac, aI (K 0) 24 gc), (ash, aJ (K 1) 24 gs), (alo, aJ (K 1) 24 gl), (apc, aI (K 0) 30 gn), (aps, aJ (K 1) 30 gq), (apl, aJ (K 1) 30 gr), (h1, .inr (0, [.ref ako, .ref apo, .ref aco, .ref asho, .ref aloo, .int (iI (rso.length : Int)), .ref apco, .ref apso, .ref aplo, .int (iI (pso.length : Int)), .int (iI mdo), .int (iI tho), va_rf lco, .int (iI nco)])), (ako, aI (K 0) 24 gko), (apo, aI (K 0) 24 gpo), (aco, aI (K 0) 24 gco), (asho, aJ (K 1) 24 gso), (aloo, aJ (K 1) 24 glo), (apco, aI (K 0) 30 gno), (apso, aJ (K 1) 30 gqo), (aplo, aJ (K 1) 30 gro)]) [0, 1, 2, 3, 4, 5, 6, 7, 8, 9, 10, 11, 12, 13, 14, 15, 16, 17] rfl rfl) (lv_sub hl [1, 2, 0] rfl)
                      · replace G := G.perm (ws' := [(h0, .inr (0, [.ref ak, .ref ap, .ref ac, .ref ash, .ref alo, .int (iI (rs.length : Int)), .ref apc, .ref aps, .ref apl, .int (iI (ps.length : Int)), .int (iI md), .int (iI th), va_rf lc, .int (iI nc)])), (ak, aI (K 0) 24 gk), (ap, aI (K 0) 24 gp), (ac, aI (K 0) 24 gc), (ash, aJ (K 1) 24 gs), (alo, aJ (K 1) 24 gl), (apc, aI (K 0) 30 gn), (aps, aJ (K 1) 30 gq), (apl, aJ (K 1) 30 gr), (h1, .inr (0, [.ref ako, .ref apo, .ref aco, .ref asho, .ref aloo, .int (iI (rso.length : Int)), .ref apco, .ref apso, .ref aplo, .int (iI (pso.length : Int)), .int (iI mdo), .int (iI tho), va_rf lco, .int (iI nco)])), (ako, aI (K 0) 24 gko), (apo, aI (K 0) 24 gpo), (aco, aI (K 0) 24 gco), (asho, aJ (K 1) 24 gso), (aloo, aJ (K 1) 24 glo), (apco, aI (K 0) 30 gno), (apso, aJ (K 1) 30 gqo), (aplo, aJ (K 1) 30 gro)]) [10, 0, 1, 2, 3, 4, 11, 12, 13, 14, 5, 6, 7, 8, 9, 15, 16, 17] rfl rfl
                        refine W.eq (g2 := F0 m9 89 ls [.int (iI 0)]) rfl ?_
                        refine ad_if_ne (tgt := 94) F (by decide) dX0_sameAs_89 (by decide) (fun cc_11 => absurd cc_11 (by decide)) (fun _ => ?_)
                        refine ad_iconst F dX0_sameAs_92 ?_
                        exact ad_zreturn F G hR rfl (Nat.le_of_ble_eq_true rfl) (Nat.le_of_ble_eq_true rfl) rfl (Or.inr (⟨rfl, (fun q => hc_9 (by rw [q.2.1])), rfl⟩)) dX0_sameAs_93
                exact lp75 ((((ps.length - 0 : Int)) + 1).toNat) 0 _ _ _ (by omega) (fun z h1 h2 => by omega) (by omega) (G.perm (ws' := [(h0, .inr (0, [.ref ak, .ref ap, .ref ac, .ref ash, .ref alo, .int (iI (rs.length : Int)), .ref apc, .ref aps, .ref apl, .int (iI (ps.length : Int)), .int (iI md), .int (iI th), va_rf lc, .int (iI nc)])), (ak, aI (K 0) 24 gk), (ap, aI (K 0) 24 gp), (ac, aI (K 0) 24 gc), (ash, aJ (K 1) 24 gs), (alo, aJ (K 1) 24 gl), (apc, aI (K 0) 30 gn), (aps, aJ (K 1) 30 gq), (apl, aJ (K 1) 30 gr), (h1, .inr (0, [.ref ako, .ref apo, .ref aco, .ref asho, .ref aloo, .int (iI (rso.length : Int)), .ref apco, .ref apso, .ref aplo, .int (iI (pso.length : Int)), .int (iI mdo), .int (iI tho), va_rf lco, .int (iI nco)])), (ako, aI (K 0) 24 gko), (apo, aI (K 0) 24 gpo), (aco, aI (K 0) 24 gco), (asho, aJ (K 1) 24 gso), (aloo, aJ (K 1) 24 glo), (apco, aI (K 0) 30 gno), (apso, aJ (K 1) 30 gqo), (aplo, aJ (K 1) 30 gro)]) [0, 1, 2, 3, 4, 5, 6, 7, 8, 9, 10, 11, 12, 13, 14, 15, 16, 17] rfl rfl) (lv_sub hl [1, 2, 0] rfl)
              · refine lv_aload_n F.1 F.2.1 dX0_sameAs_56 rfl (lv_at hl 0 rfl) ?_
                refine lv_aload_n F.1 F.2.1 dX0_sameAs_57 rfl (lv_at hl 1 rfl) ?_
                refine lv_iload_n F.1 F.2.1 dX0_sameAs_58 rfl (lv_at hl 2 rfl) ?_
                refine ad_callV (As := [.ref h1, .int (iI i)]) (rest := []) F G (c_X0_hasSameRule l D K z0 h0 ak ap ac ash alo apc aps apl lc gk gp gc gs gl rs (ps.length : Int) md th nc h1 ako apo aco asho aloo apco apso aplo lco gko gpo gco gso glo rso (pso.length : Int) mdo tho nco i hB hW hBo hWo (by omega)) my_X0_hasSameRule mv_X0_63 (wr := [(apc, aI (K 0) 30 gn), (aps, aJ (K 1) 30 gq), (apl, aJ (K 1) 30 gr), (apco, aI (K 0) 30 gno), (apso, aJ (K 1) 30 gqo), (aplo, aJ (K 1) 30 gro)]) (isC := [0, 1, 2, 3, 4, 5, 9, 10, 11, 12, 13, 14]) (isR := [6, 7, 8, 15, 16, 17]) ⟨rfl, rfl, rfl, rfl, by decide⟩ 0 0 rfl rfl rfl rfl ⟨Nat.le_of_ble_eq_true rfl, Nat.le_of_ble_eq_true rfl⟩ ⟨Nat.le_of_ble_eq_true rfl, Nat.le_of_ble_eq_true rfl⟩ (Nat.le_of_ble_eq_true rfl) hl.1 (cells9 := 0) (slots9 := 0) ⟨rfl, rfl⟩ dX0_sameAs_59 (fun v u H locs hw_12 G => ?_)
                rcases hw_12 with ⟨rfl, hc_13, rfl⟩ | ⟨rfl, hc_14, rfl⟩
                · replace G := G.perm (ws' := [(h0, .inr (0, [.ref ak, .ref ap, .ref ac, .ref ash, .ref alo, .int (iI (rs.length : Int)), .ref apc, .ref aps, .ref apl, .int (iI (ps.length : Int)), .int (iI md), .int (iI th), va_rf lc, .int (iI nc)])), (ak, aI (K 0) 24 gk), (ap, aI (K 0) 24 gp), (ac, aI (K 0) 24 gc), (ash, aJ (K 1) 24 gs), (alo, aJ (K 1) 24 gl), (apc, aI (K 0) 30 gn), (aps, aJ (K 1) 30 gq), (apl, aJ (K 1) 30 gr), (h1, .inr (0, [.ref ako, .ref apo, .ref aco, .ref asho, .ref aloo, .int (iI (rso.length : Int)), .ref apco, .ref apso, .ref aplo, .int (iI (pso.length : Int)), .int (iI mdo), .int (iI tho), va_rf lco, .int (iI nco)])), (ako, aI (K 0) 24 gko), (apo, aI (K 0) 24 gpo), (aco, aI (K 0) 24 gco), (asho, aJ (K 1) 24 gso), (aloo, aJ (K 1) 24 glo), (apco, aI (K 0) 30 gno), (apso, aJ (K 1) 30 gqo), (aplo, aJ (K 1) 30 gro)]) [6, 7, 8, 9, 10, 11, 0, 1, 2, 12, 13, 14, 15, 16, 17, 3, 4, 5] rfl rfl
                  refine W.eq (g2 := F0 m9 62 ls [.int (iI 1)]) rfl ?_
                  refine ad_if_ne (tgt := 67) F (by decide) dX0_sameAs_62 (by decide) (fun _ => ?_) (fun cc_15 => absurd cc_15 (by decide))
                  refine ad_iinc (lv' := [(2, .int (iI (i + 1))), (0, .ref h0), (1, .ref h1)]) F dX0_sameAs_67 hl (k := 2) rfl (by decide) rfl (fun ls hl => ?_)
                  refine lv_goto (tgt := 48) F.1 F.2.1 dX0_sameAs_70 (by decide) ?_
                  exact ih48 (i + 1) _ _ _ (by omega) (fun z h1 h2 => (show z = i ∨ z < i by omega).elim (fun h => by rw [h]; exact hc_13) (fun h => ha z h1 h)) (by omega) (G.perm (ws' := [(h0, .inr (0, [.ref ak, .ref ap, .ref ac, .ref ash, .ref alo, .int (iI (rs.length : Int)), .ref apc, .ref aps, .ref apl, .int (iI (ps.length : Int)), .int (iI md), .int (iI th), va_rf lc, .int (iI nc)])), (ak, aI (K 0) 24 gk), (ap, aI (K 0) 24 gp), (ac, aI (K 0) 24 gc), (ash, aJ (K 1) 24 gs), (alo, aJ (K 1) 24 gl), (apc, aI (K 0) 30 gn), (aps, aJ (K 1) 30 gq), (apl, aJ (K 1) 30 gr), (h1, .inr (0, [.ref ako, .ref apo, .ref aco, .ref asho, .ref aloo, .int (iI (rso.length : Int)), .ref apco, .ref apso, .ref aplo, .int (iI (pso.length : Int)), .int (iI mdo), .int (iI tho), va_rf lco, .int (iI nco)])), (ako, aI (K 0) 24 gko), (apo, aI (K 0) 24 gpo), (aco, aI (K 0) 24 gco), (asho, aJ (K 1) 24 gso), (aloo, aJ (K 1) 24 glo), (apco, aI (K 0) 30 gno), (apso, aJ (K 1) 30 gqo), (aplo, aJ (K 1) 30 gro)]) [0, 1, 2, 3, 4, 5, 6, 7, 8, 9, 10, 11, 12, 13, 14, 15, 16, 17] rfl rfl) (lv_sub hl [1, 2, 0] rfl)
                · replace G := G.perm (ws' := [(h0, .inr (0, [.ref ak, .ref ap, .ref ac, .ref ash, .ref alo, .int (iI (rs.length : Int)), .ref apc, .ref aps, .ref apl, .int (iI (ps.length : Int)), .int (iI md), .int (iI th), va_rf lc, .int (iI nc)])), (ak, aI (K 0) 24 gk), (ap, aI (K 0) 24 gp), (ac, aI (K 0) 24 gc), (ash, aJ (K 1) 24 gs), (alo, aJ (K 1) 24 gl), (apc, aI (K 0) 30 gn), (aps, aJ (K 1) 30 gq), (apl, aJ (K 1) 30 gr), (h1, .inr (0, [.ref ako, .ref apo, .ref aco, .ref asho, .ref aloo, .int (iI (rso.length : Int)), .ref apco, .ref apso, .ref aplo, .int (iI (pso.length : Int)), .int (iI mdo), .int (iI tho), va_rf lco, .int (iI nco)])), (ako, aI (K 0) 24 gko), (apo, aI (K 0) 24 gpo), (aco, aI (K 0) 24 gco), (asho, aJ (K 1) 24 gso), (aloo, aJ (K 1) 24 glo), (apco, aI (K 0) 30 gno), (apso, aJ (K 1) 30 gqo), (aplo, aJ (K 1) 30 gro)]) [6, 7, 8, 9, 10, 11, 0, 1, 2, 12, 13, 14, 15, 16, 17, 3, 4, 5] rfl rfl
                  refine W.eq (g2 := F0 m9 62 ls [.int (iI 0)]) rfl ?_
                  refine ad_if_ne (tgt := 67) F (by decide) dX0_sameAs_62 (by decide) (fun cc_16 => absurd cc_16 (by decide)) (fun _ => ?_)
                  refine ad_iconst F dX0_sameAs_65 ?_
                  exact ad_zreturn F G hR rfl (Nat.le_of_ble_eq_true rfl) (Nat.le_of_ble_eq_true rfl) rfl (Or.inr (⟨rfl, (fun q => hc_14 (by rw [q.1])), rfl⟩)) dX0_sameAs_66
          exact lp48 ((((rs.length - 0 : Int)) + 1).toNat) 0 _ _ _ (by omega) (fun z h1 h2 => by omega) (by omega) (G.perm (ws' := [(h0, .inr (0, [.ref ak, .ref ap, .ref ac, .ref ash, .ref alo, .int (iI (rs.length : Int)), .ref apc, .ref aps, .ref apl, .int (iI (ps.length : Int)), .int (iI md), .int (iI th), va_rf lc, .int (iI nc)])), (ak, aI (K 0) 24 gk), (ap, aI (K 0) 24 gp), (ac, aI (K 0) 24 gc), (ash, aJ (K 1) 24 gs), (alo, aJ (K 1) 24 gl), (apc, aI (K 0) 30 gn), (aps, aJ (K 1) 30 gq), (apl, aJ (K 1) 30 gr), (h1, .inr (0, [.ref ako, .ref apo, .ref aco, .ref asho, .ref aloo, .int (iI (rso.length : Int)), .ref apco, .ref apso, .ref aplo, .int (iI (pso.length : Int)), .int (iI mdo), .int (iI tho), va_rf lco, .int (iI nco)])), (ako, aI (K 0) 24 gko), (apo, aI (K 0) 24 gpo), (aco, aI (K 0) 24 gco), (asho, aJ (K 1) 24 gso), (aloo, aJ (K 1) 24 glo), (apco, aI (K 0) 30 gno), (apso, aJ (K 1) 30 gqo), (aplo, aJ (K 1) 30 gro)]) [0, 1, 2, 3, 4, 5, 6, 7, 8, 9, 10, 11, 12, 13, 14, 15, 16, 17] rfl rfl) (lv_sub hl [1, 2, 0] rfl)
        · refine ad_iconst F dX0_sameAs_44 ?_
          exact ad_zreturn F G hR rfl (Nat.le_of_ble_eq_true rfl) (Nat.le_of_ble_eq_true rfl) rfl (Or.inr (⟨rfl, (fun q => cc_4 (by first | rw [q.1] | rw [q.2.1] | exact q.2.2.1 | exact q.2.2.2)), rfl⟩)) dX0_sameAs_45

def rm_X0_copyFrom : Room := { frames := 1, cells := 0, slots := 0, locals := 60 }
set_option maxHeartbeats 4000000 in
set_option maxRecDepth 100000 in
theorem c_X0_copyFrom (l : Launch) (D : va_G) (K : Nat → ClassId) (z0 : Nat) (h0 : Nat) (ak : Nat) (ap : Nat) (ac : Nat) (ash : Nat) (alo : Nat) (apc : Nat) (aps : Nat) (apl : Nat) (lc : Option Nat) (n : Int) (np : Int) (md : Int) (th : Int) (nc : Int) (gk : Nat → Int) (gp : Nat → Int) (gc : Nat → Int) (gs : Nat → Int64) (gl : Nat → Int64) (gn : Nat → Int) (gq : Nat → Int64) (gr : Nat → Int64) (h1 : Nat) (ako : Nat) (apo : Nat) (aco : Nat) (asho : Nat) (aloo : Nat) (apco : Nat) (apso : Nat) (aplo : Nat) (lco : Option Nat) (gko : Nat → Int) (gpo : Nat → Int) (gco : Nat → Int) (gso : Nat → Int64) (glo : Nat → Int64) (rso : List Rl) (gno : Nat → Int) (gqo : Nat → Int64) (gro : Nat → Int64) (pso : List Pr) (mdo : Int) (tho : Int) (nco : Int) (Bo : Int) (hBo : BRep gko gpo gco gso glo rso) (hWo : RW rso) (hPo : PRep gno gqo gro pso) (hVo : PW pso Bo) : CT l D K z0 yX0_copyFrom cX0_copyFrom 2 none rm_X0_copyFrom [.ref h0, .ref h1] [(h0, .inr (0, [.ref ak, .ref ap, .ref ac, .ref ash, .ref alo, .int (iI n), .ref apc, .ref aps, .ref apl, .int (iI np), .int (iI md), .int (iI th), va_rf lc, .int (iI nc)])), (ak, aI (K 0) 24 gk), (ap, aI (K 0) 24 gp), (ac, aI (K 0) 24 gc), (ash, aJ (K 1) 24 gs), (alo, aJ (K 1) 24 gl), (apc, aI (K 0) 30 gn), (aps, aJ (K 1) 30 gq), (apl, aJ (K 1) 30 gr), (h1, .inr (0, [.ref ako, .ref apo, .ref aco, .ref asho, .ref aloo, .int (iI (rso.length : Int)), .ref apco, .ref apso, .ref aplo, .int (iI (pso.length : Int)), .int (iI mdo), .int (iI tho), va_rf lco, .int (iI nco)])), (ako, aI (K 0) 24 gko), (apo, aI (K 0) 24 gpo), (aco, aI (K 0) 24 gco), (asho, aJ (K 1) 24 gso), (aloo, aJ (K 1) 24 glo), (apco, aI (K 0) 30 gno), (apso, aJ (K 1) 30 gqo), (aplo, aJ (K 1) 30 gro)] (fun v9 u9 => ∃ (gk2 : Nat → Int), ∃ (gp2 : Nat → Int), ∃ (gc2 : Nat → Int), ∃ (gs2 : Nat → Int64), ∃ (gl2 : Nat → Int64), ∃ (gn2 : Nat → Int), ∃ (gq2 : Nat → Int64), ∃ (gr2 : Nat → Int64), v9 = none ∧ (BRep gk2 gp2 gc2 gs2 gl2 rso) ∧ (PRep gn2 gq2 gr2 pso) ∧ u9 = [(h0, .inr (0, [.ref ak, .ref ap, .ref ac, .ref ash, .ref alo, .int (iI (rso.length : Int)), .ref apc, .ref aps, .ref apl, .int (iI (pso.length : Int)), .int (iI mdo), .int (iI tho), va_rf lco, .int (iI nco)])), (ak, aI (K 0) 24 gk2), (ap, aI (K 0) 24 gp2), (ac, aI (K 0) 24 gc2), (ash, aJ (K 1) 24 gs2), (alo, aJ (K 1) 24 gl2), (apc, aI (K 0) 30 gn2), (aps, aJ (K 1) 30 gq2), (apl, aJ (K 1) 30 gr2), (h1, .inr (0, [.ref ako, .ref apo, .ref aco, .ref asho, .ref aloo, .int (iI (rso.length : Int)), .ref apco, .ref apso, .ref aplo, .int (iI (pso.length : Int)), .int (iI mdo), .int (iI tho), va_rf lco, .int (iI nco)])), (ako, aI (K 0) 24 gko), (apo, aI (K 0) 24 gpo), (aco, aI (K 0) 24 gco), (asho, aJ (K 1) 24 gso), (aloo, aJ (K 1) 24 glo), (apco, aI (K 0) 30 gno), (apso, aJ (K 1) 30 gqo), (aplo, aJ (K 1) 30 gro)]) := by
  refine CT.start RX0 "copyFrom" (by decide) rfl rfl (Nat.le_of_ble_eq_true rfl) ?_
  intro p9 e9 s9 m9 ag9 bl9 mt9 c9 A9 Q9 ls F G hR hl
  have hl : lv_has ls 2 [(0, .ref h0), (1, .ref h1)] := hl
  refine lv_aload_n F.1 F.2.1 dX0_copyFrom_0 rfl (lv_at hl 1 rfl) ?_
  refine ad_get F G fl_X0_9 9 rfl rfl dX0_copyFrom_1 ?_
  refine ad_iconst F dX0_copyFrom_4 ?_
  refine lv_aload_n F.1 F.2.1 dX0_copyFrom_5 rfl (lv_at hl 0 rfl) ?_
  refine ad_get F G fl_X0_9 0 rfl rfl dX0_copyFrom_6 ?_
  refine ad_iconst F dX0_copyFrom_9 ?_
  refine ad_bipush F dX0_copyFrom_10 (by decide) ?_
  refine ad_copyi F G sc_X0_57 hl.1 10 1 rfl rfl (n := 24) (by decide) (Nat.le_of_ble_eq_true rfl) (Nat.le_of_ble_eq_true rfl) (ws' := [(h0, .inr (0, [.ref ak, .ref ap, .ref ac, .ref ash, .ref alo, .int (iI n), .ref apc, .ref aps, .ref apl, .int (iI np), .int (iI md), .int (iI th), va_rf lc, .int (iI nc)])), (ak, aI (K 0) 24 (cpy gko gk 24)), (ap, aI (K 0) 24 gp), (ac, aI (K 0) 24 gc), (ash, aJ (K 1) 24 gs), (alo, aJ (K 1) 24 gl), (apc, aI (K 0) 30 gn), (aps, aJ (K 1) 30 gq), (apl, aJ (K 1) 30 gr), (h1, .inr (0, [.ref ako, .ref apo, .ref aco, .ref asho, .ref aloo, .int (iI (rso.length : Int)), .ref apco, .ref apso, .ref aplo, .int (iI (pso.length : Int)), .int (iI mdo), .int (iI tho), va_rf lco, .int (iI nco)])), (ako, aI (K 0) 24 gko), (apo, aI (K 0) 24 gpo), (aco, aI (K 0) 24 gco), (asho, aJ (K 1) 24 gso), (aloo, aJ (K 1) 24 glo), (apco, aI (K 0) 30 gno), (apso, aJ (K 1) 30 gqo), (aplo, aJ (K 1) 30 gro)]) rfl dX0_copyFrom_12 (fun H locs G => ?_)
  refine lv_aload_n F.1 F.2.1 dX0_copyFrom_15 rfl (lv_at hl 1 rfl) ?_
  refine ad_get F G fl_X0_15 9 rfl rfl dX0_copyFrom_16 ?_
  refine ad_iconst F dX0_copyFrom_19 ?_
  refine lv_aload_n F.1 F.2.1 dX0_copyFrom_20 rfl (lv_at hl 0 rfl) ?_
  refine ad_get F G fl_X0_15 0 rfl rfl dX0_copyFrom_21 ?_
  refine ad_iconst F dX0_copyFrom_24 ?_
  refine ad_bipush F dX0_copyFrom_25 (by decide) ?_
  refine ad_copyi F G sc_X0_57 hl.1 11 2 rfl rfl (n := 24) (by decide) (Nat.le_of_ble_eq_true rfl) (Nat.le_of_ble_eq_true rfl) (ws' := [(h0, .inr (0, [.ref ak, .ref ap, .ref ac, .ref ash, .ref alo, .int (iI n), .ref apc, .ref aps, .ref apl, .int (iI np), .int (iI md), .int (iI th), va_rf lc, .int (iI nc)])), (ak, aI (K 0) 24 (cpy gko gk 24)), (ap, aI (K 0) 24 (cpy gpo gp 24)), (ac, aI (K 0) 24 gc), (ash, aJ (K 1) 24 gs), (alo, aJ (K 1) 24 gl), (apc, aI (K 0) 30 gn), (aps, aJ (K 1) 30 gq), (apl, aJ (K 1) 30 gr), (h1, .inr (0, [.ref ako, .ref apo, .ref aco, .ref asho, .ref aloo, .int (iI (rso.length : Int)), .ref apco, .ref apso, .ref aplo, .int (iI (pso.length : Int)), .int (iI mdo), .int (iI tho), va_rf lco, .int (iI nco)])), (ako, aI (K 0) 24 gko), (apo, aI (K 0) 24 gpo), (aco, aI (K 0) 24 gco), (asho, aJ (K 1) 24 gso), (aloo, aJ (K 1) 24 glo), (apco, aI (K 0) 30 gno), (apso, aJ (K 1) 30 gqo), (aplo, aJ (K 1) 30 gro)]) rfl dX0_copyFrom_27 (fun H locs G => ?_)
  refine lv_aload_n F.1 F.2.1 dX0_copyFrom_30 rfl (lv_at hl 1 rfl) ?_
  refine ad_get F G fl_X0_18 9 rfl rfl dX0_copyFrom_31 ?_
  refine ad_iconst F dX0_copyFrom_34 ?_
  refine lv_aload_n F.1 F.2.1 dX0_copyFrom_35 rfl (lv_at hl 0 rfl) ?_
  refine ad_get F G fl_X0_18 0 rfl rfl dX0_copyFrom_36 ?_
  refine ad_iconst F dX0_copyFrom_39 ?_
  refine ad_bipush F dX0_copyFrom_40 (by decide) ?_
  refine ad_copyi F G sc_X0_57 hl.1 12 3 rfl rfl (n := 24) (by decide) (Nat.le_of_ble_eq_true rfl) (Nat.le_of_ble_eq_true rfl) (ws' := [(h0, .inr (0, [.ref ak, .ref ap, .ref ac, .ref ash, .ref alo, .int (iI n), .ref apc, .ref aps, .ref apl, .int (iI np), .int (iI md), .int (iI th), va_rf lc, .int (iI nc)])), (ak, aI (K 0) 24 (cpy gko gk 24)), (ap, aI (K 0) 24 (cpy gpo gp 24)), (ac, aI (K 0) 24 (cpy gco gc 24)), (ash, aJ (K 1) 24 gs), (alo, aJ (K 1) 24 gl), (apc, aI (K 0) 30 gn), (aps, aJ (K 1) 30 gq), (apl, aJ (K 1) 30 gr), (h1, .inr (0, [.ref ako, .ref apo, .ref aco, .ref asho, .ref aloo, .int (iI (rso.length : Int)), .ref apco, .ref apso, .ref aplo, .int (iI (pso.length : Int)), .int (iI mdo), .int (iI tho), va_rf lco, .int (iI nco)])), (ako, aI (K 0) 24 gko), (apo, aI (K 0) 24 gpo), (aco, aI (K 0) 24 gco), (asho, aJ (K 1) 24 gso), (aloo, aJ (K 1) 24 glo), (apco, aI (K 0) 30 gno), (apso, aJ (K 1) 30 gqo), (aplo, aJ (K 1) 30 gro)]) rfl dX0_copyFrom_42 (fun H locs G => ?_)
  refine lv_aload_n F.1 F.2.1 dX0_copyFrom_45 rfl (lv_at hl 1 rfl) ?_
  refine ad_get F G fl_X0_21 9 rfl rfl dX0_copyFrom_46 ?_
  refine ad_iconst F dX0_copyFrom_49 ?_
  refine lv_aload_n F.1 F.2.1 dX0_copyFrom_50 rfl (lv_at hl 0 rfl) ?_
  refine ad_get F G fl_X0_21 0 rfl rfl dX0_copyFrom_51 ?_
  refine ad_iconst F dX0_copyFrom_54 ?_
  refine ad_bipush F dX0_copyFrom_55 (by decide) ?_
  refine ad_copyl F G sc_X0_57 hl.1 13 4 rfl rfl (n := 24) (by decide) (Nat.le_of_ble_eq_true rfl) (Nat.le_of_ble_eq_true rfl) (ws' := [(h0, .inr (0, [.ref ak, .ref ap, .ref ac, .ref ash, .ref alo, .int (iI n), .ref apc, .ref aps, .ref apl, .int (iI np), .int (iI md), .int (iI th), va_rf lc, .int (iI nc)])), (ak, aI (K 0) 24 (cpy gko gk 24)), (ap, aI (K 0) 24 (cpy gpo gp 24)), (ac, aI (K 0) 24 (cpy gco gc 24)), (ash, aJ (K 1) 24 (cpy gso gs 24)), (alo, aJ (K 1) 24 gl), (apc, aI (K 0) 30 gn), (aps, aJ (K 1) 30 gq), (apl, aJ (K 1) 30 gr), (h1, .inr (0, [.ref ako, .ref apo, .ref aco, .ref asho, .ref aloo, .int (iI (rso.length : Int)), .ref apco, .ref apso, .ref aplo, .int (iI (pso.length : Int)), .int (iI mdo), .int (iI tho), va_rf lco, .int (iI nco)])), (ako, aI (K 0) 24 gko), (apo, aI (K 0) 24 gpo), (aco, aI (K 0) 24 gco), (asho, aJ (K 1) 24 gso), (aloo, aJ (K 1) 24 glo), (apco, aI (K 0) 30 gno), (apso, aJ (K 1) 30 gqo), (aplo, aJ (K 1) 30 gro)]) rfl dX0_copyFrom_57 (fun H locs G => ?_)
  refine lv_aload_n F.1 F.2.1 dX0_copyFrom_60 rfl (lv_at hl 1 rfl) ?_
  refine ad_get F G fl_X0_25 9 rfl rfl dX0_copyFrom_61 ?_
  refine ad_iconst F dX0_copyFrom_64 ?_
  refine lv_aload_n F.1 F.2.1 dX0_copyFrom_65 rfl (lv_at hl 0 rfl) ?_
  refine ad_get F G fl_X0_25 0 rfl rfl dX0_copyFrom_66 ?_
  refine ad_iconst F dX0_copyFrom_69 ?_
  refine ad_bipush F dX0_copyFrom_70 (by decide) ?_
  refine ad_copyl F G sc_X0_57 hl.1 14 5 rfl rfl (n := 24) (by decide) (Nat.le_of_ble_eq_true rfl) (Nat.le_of_ble_eq_true rfl) (ws' := [(h0, .inr (0, [.ref ak, .ref ap, .ref ac, .ref ash, .ref alo, .int (iI n), .ref apc, .ref aps, .ref apl, .int (iI np), .int (iI md), .int (iI th), va_rf lc, .int (iI nc)])), (ak, aI (K 0) 24 (cpy gko gk 24)), (ap, aI (K 0) 24 (cpy gpo gp 24)), (ac, aI (K 0) 24 (cpy gco gc 24)), (ash, aJ (K 1) 24 (cpy gso gs 24)), (alo, aJ (K 1) 24 (cpy glo gl 24)), (apc, aI (K 0) 30 gn), (aps, aJ (K 1) 30 gq), (apl, aJ (K 1) 30 gr), (h1, .inr (0, [.ref ako, .ref apo, .ref aco, .ref asho, .ref aloo, .int (iI (rso.length : Int)), .ref apco, .ref apso, .ref aplo, .int (iI (pso.length : Int)), .int (iI mdo), .int (iI tho), va_rf lco, .int (iI nco)])), (ako, aI (K 0) 24 gko), (apo, aI (K 0) 24 gpo), (aco, aI (K 0) 24 gco), (asho, aJ (K 1) 24 gso), (aloo, aJ (K 1) 24 glo), (apco, aI (K 0) 30 gno), (apso, aJ (K 1) 30 gqo), (aplo, aJ (K 1) 30 gro)]) rfl dX0_copyFrom_72 (fun H locs G => ?_)
  refine lv_aload_n F.1 F.2.1 dX0_copyFrom_75 rfl (lv_at hl 0 rfl) ?_
  refine lv_aload_n F.1 F.2.1 dX0_copyFrom_76 rfl (lv_at hl 1 rfl) ?_
  refine ad_get F G fl_X0_44 9 rfl rfl dX0_copyFrom_77 ?_
  refine ad_put F G fl_X0_44 0 rfl rfl rfl (Nat.le_of_ble_eq_true rfl) (ws' := [(h0, .inr (0, [.ref ak, .ref ap, .ref ac, .ref ash, .ref alo, .int (iI (rso.length : Int)), .ref apc, .ref aps, .ref apl, .int (iI np), .int (iI md), .int (iI th), va_rf lc, .int (iI nc)])), (ak, aI (K 0) 24 (cpy gko gk 24)), (ap, aI (K 0) 24 (cpy gpo gp 24)), (ac, aI (K 0) 24 (cpy gco gc 24)), (ash, aJ (K 1) 24 (cpy gso gs 24)), (alo, aJ (K 1) 24 (cpy glo gl 24)), (apc, aI (K 0) 30 gn), (aps, aJ (K 1) 30 gq), (apl, aJ (K 1) 30 gr), (h1, .inr (0, [.ref ako, .ref apo, .ref aco, .ref asho, .ref aloo, .int (iI (rso.length : Int)), .ref apco, .ref apso, .ref aplo, .int (iI (pso.length : Int)), .int (iI mdo), .int (iI tho), va_rf lco, .int (iI nco)])), (ako, aI (K 0) 24 gko), (apo, aI (K 0) 24 gpo), (aco, aI (K 0) 24 gco), (asho, aJ (K 1) 24 gso), (aloo, aJ (K 1) 24 glo), (apco, aI (K 0) 30 gno), (apso, aJ (K 1) 30 gqo), (aplo, aJ (K 1) 30 gro)]) rfl dX0_copyFrom_80 (fun H locs G => ?_)
  refine lv_aload_n F.1 F.2.1 dX0_copyFrom_83 rfl (lv_at hl 1 rfl) ?_
  refine ad_get F G fl_X0_28 9 rfl rfl dX0_copyFrom_84 ?_
  refine ad_iconst F dX0_copyFrom_87 ?_
  refine lv_aload_n F.1 F.2.1 dX0_copyFrom_88 rfl (lv_at hl 0 rfl) ?_
  refine ad_get F G fl_X0_28 0 rfl rfl dX0_copyFrom_89 ?_
  refine ad_iconst F dX0_copyFrom_92 ?_
  refine ad_bipush F dX0_copyFrom_93 (by decide) ?_
  refine ad_copyi F G sc_X0_57 hl.1 15 6 rfl rfl (n := 30) (by decide) (Nat.le_of_ble_eq_true rfl) (Nat.le_of_ble_eq_true rfl) (ws' := [(h0, .inr (0, [.ref ak, .ref ap, .ref ac, .ref ash, .ref alo, .int (iI (rso.length : Int)), .ref apc, .ref aps, .ref apl, .int (iI np), .int (iI md), .int (iI th), va_rf lc, .int (iI nc)])), (ak, aI (K 0) 24 (cpy gko gk 24)), (ap, aI (K 0) 24 (cpy gpo gp 24)), (ac, aI (K 0) 24 (cpy gco gc 24)), (ash, aJ (K 1) 24 (cpy gso gs 24)), (alo, aJ (K 1) 24 (cpy glo gl 24)), (apc, aI (K 0) 30 (cpy gno gn 30)), (aps, aJ (K 1) 30 gq), (apl, aJ (K 1) 30 gr), (h1, .inr (0, [.ref ako, .ref apo, .ref aco, .ref asho, .ref aloo, .int (iI (rso.length : Int)), .ref apco, .ref apso, .ref aplo, .int (iI (pso.length : Int)), .int (iI mdo), .int (iI tho), va_rf lco, .int (iI nco)])), (ako, aI (K 0) 24 gko), (apo, aI (K 0) 24 gpo), (aco, aI (K 0) 24 gco), (asho, aJ (K 1) 24 gso), (aloo, aJ (K 1) 24 glo), (apco, aI (K 0) 30 gno), (apso, aJ (K 1) 30 gqo), (aplo, aJ (K 1) 30 gro)]) rfl dX0_copyFrom_95 (fun H locs G => ?_)
  refine lv_aload_n F.1 F.2.1 dX0_copyFrom_98 rfl (lv_at hl 1 rfl) ?_
  refine ad_get F G fl_X0_31 9 rfl rfl dX0_copyFrom_99 ?_
  refine ad_iconst F dX0_copyFrom_102 ?_
  refine lv_aload_n F.1 F.2.1 dX0_copyFrom_103 rfl (lv_at hl 0 rfl) ?_
  refine ad_get F G fl_X0_31 0 rfl rfl dX0_copyFrom_104 ?_
  refine ad_iconst F dX0_copyFrom_107 ?_
  refine ad_bipush F dX0_copyFrom_108 (by decide) ?_
  refine ad_copyl F G sc_X0_57 hl.1 16 7 rfl rfl (n := 30) (by decide) (Nat.le_of_ble_eq_true rfl) (Nat.le_of_ble_eq_true rfl) (ws' := [(h0, .inr (0, [.ref ak, .ref ap, .ref ac, .ref ash, .ref alo, .int (iI (rso.length : Int)), .ref apc, .ref aps, .ref apl, .int (iI np), .int (iI md), .int (iI th), va_rf lc, .int (iI nc)])), (ak, aI (K 0) 24 (cpy gko gk 24)), (ap, aI (K 0) 24 (cpy gpo gp 24)), (ac, aI (K 0) 24 (cpy gco gc 24)), (ash, aJ (K 1) 24 (cpy gso gs 24)), (alo, aJ (K 1) 24 (cpy glo gl 24)), (apc, aI (K 0) 30 (cpy gno gn 30)), (aps, aJ (K 1) 30 (cpy gqo gq 30)), (apl, aJ (K 1) 30 gr), (h1, .inr (0, [.ref ako, .ref apo, .ref aco, .ref asho, .ref aloo, .int (iI (rso.length : Int)), .ref apco, .ref apso, .ref aplo, .int (iI (pso.length : Int)), .int (iI mdo), .int (iI tho), va_rf lco, .int (iI nco)])), (ako, aI (K 0) 24 gko), (apo, aI (K 0) 24 gpo), (aco, aI (K 0) 24 gco), (asho, aJ (K 1) 24 gso), (aloo, aJ (K 1) 24 glo), (apco, aI (K 0) 30 gno), (apso, aJ (K 1) 30 gqo), (aplo, aJ (K 1) 30 gro)]) rfl dX0_copyFrom_110 (fun H locs G => ?_)
  refine lv_aload_n F.1 F.2.1 dX0_copyFrom_113 rfl (lv_at hl 1 rfl) ?_
  refine ad_get F G fl_X0_34 9 rfl rfl dX0_copyFrom_114 ?_
  refine ad_iconst F dX0_copyFrom_117 ?_
  refine lv_aload_n F.1 F.2.1 dX0_copyFrom_118 rfl (lv_at hl 0 rfl) ?_
  refine ad_get F G fl_X0_34 0 rfl rfl dX0_copyFrom_119 ?_
  refine ad_iconst F dX0_copyFrom_122 ?_
  refine ad_bipush F dX0_copyFrom_123 (by decide) ?_
  refine ad_copyl F G sc_X0_57 hl.1 17 8 rfl rfl (n := 30) (by decide) (Nat.le_of_ble_eq_true rfl) (Nat.le_of_ble_eq_true rfl) (ws' := [(h0, .inr (0, [.ref ak, .ref ap, .ref ac, .ref ash, .ref alo, .int (iI (rso.length : Int)), .ref apc, .ref aps, .ref apl, .int (iI np), .int (iI md), .int (iI th), va_rf lc, .int (iI nc)])), (ak, aI (K 0) 24 (cpy gko gk 24)), (ap, aI (K 0) 24 (cpy gpo gp 24)), (ac, aI (K 0) 24 (cpy gco gc 24)), (ash, aJ (K 1) 24 (cpy gso gs 24)), (alo, aJ (K 1) 24 (cpy glo gl 24)), (apc, aI (K 0) 30 (cpy gno gn 30)), (aps, aJ (K 1) 30 (cpy gqo gq 30)), (apl, aJ (K 1) 30 (cpy gro gr 30)), (h1, .inr (0, [.ref ako, .ref apo, .ref aco, .ref asho, .ref aloo, .int (iI (rso.length : Int)), .ref apco, .ref apso, .ref aplo, .int (iI (pso.length : Int)), .int (iI mdo), .int (iI tho), va_rf lco, .int (iI nco)])), (ako, aI (K 0) 24 gko), (apo, aI (K 0) 24 gpo), (aco, aI (K 0) 24 gco), (asho, aJ (K 1) 24 gso), (aloo, aJ (K 1) 24 glo), (apco, aI (K 0) 30 gno), (apso, aJ (K 1) 30 gqo), (aplo, aJ (K 1) 30 gro)]) rfl dX0_copyFrom_125 (fun H locs G => ?_)
  refine lv_aload_n F.1 F.2.1 dX0_copyFrom_128 rfl (lv_at hl 0 rfl) ?_
  refine lv_aload_n F.1 F.2.1 dX0_copyFrom_129 rfl (lv_at hl 1 rfl) ?_
  refine ad_get F G fl_X0_47 9 rfl rfl dX0_copyFrom_130 ?_
  refine ad_put F G fl_X0_47 0 rfl rfl rfl (Nat.le_of_ble_eq_true rfl) (ws' := [(h0, .inr (0, [.ref ak, .ref ap, .ref ac, .ref ash, .ref alo, .int (iI (rso.length : Int)), .ref apc, .ref aps, .ref apl, .int (iI (pso.length : Int)), .int (iI md), .int (iI th), va_rf lc, .int (iI nc)])), (ak, aI (K 0) 24 (cpy gko gk 24)), (ap, aI (K 0) 24 (cpy gpo gp 24)), (ac, aI (K 0) 24 (cpy gco gc 24)), (ash, aJ (K 1) 24 (cpy gso gs 24)), (alo, aJ (K 1) 24 (cpy glo gl 24)), (apc, aI (K 0) 30 (cpy gno gn 30)), (aps, aJ (K 1) 30 (cpy gqo gq 30)), (apl, aJ (K 1) 30 (cpy gro gr 30)), (h1, .inr (0, [.ref ako, .ref apo, .ref aco, .ref asho, .ref aloo, .int (iI (rso.length : Int)), .ref apco, .ref apso, .ref aplo, .int (iI (pso.length : Int)), .int (iI mdo), .int (iI tho), va_rf lco, .int (iI nco)])), (ako, aI (K 0) 24 gko), (apo, aI (K 0) 24 gpo), (aco, aI (K 0) 24 gco), (asho, aJ (K 1) 24 gso), (aloo, aJ (K 1) 24 glo), (apco, aI (K 0) 30 gno), (apso, aJ (K 1) 30 gqo), (aplo, aJ (K 1) 30 gro)]) rfl dX0_copyFrom_133 (fun H locs G => ?_)
  refine lv_aload_n F.1 F.2.1 dX0_copyFrom_136 rfl (lv_at hl 0 rfl) ?_
  refine lv_aload_n F.1 F.2.1 dX0_copyFrom_137 rfl (lv_at hl 1 rfl) ?_
  refine ad_get F G fl_X0_37 9 rfl rfl dX0_copyFrom_138 ?_
  refine ad_put F G fl_X0_37 0 rfl rfl rfl (Nat.le_of_ble_eq_true rfl) (ws' := [(h0, .inr (0, [.ref ak, .ref ap, .ref ac, .ref ash, .ref alo, .int (iI (rso.length : Int)), .ref apc, .ref aps, .ref apl, .int (iI (pso.length : Int)), .int (iI mdo), .int (iI th), va_rf lc, .int (iI nc)])), (ak, aI (K 0) 24 (cpy gko gk 24)), (ap, aI (K 0) 24 (cpy gpo gp 24)), (ac, aI (K 0) 24 (cpy gco gc 24)), (ash, aJ (K 1) 24 (cpy gso gs 24)), (alo, aJ (K 1) 24 (cpy glo gl 24)), (apc, aI (K 0) 30 (cpy gno gn 30)), (aps, aJ (K 1) 30 (cpy gqo gq 30)), (apl, aJ (K 1) 30 (cpy gro gr 30)), (h1, .inr (0, [.ref ako, .ref apo, .ref aco, .ref asho, .ref aloo, .int (iI (rso.length : Int)), .ref apco, .ref apso, .ref aplo, .int (iI (pso.length : Int)), .int (iI mdo), .int (iI tho), va_rf lco, .int (iI nco)])), (ako, aI (K 0) 24 gko), (apo, aI (K 0) 24 gpo), (aco, aI (K 0) 24 gco), (asho, aJ (K 1) 24 gso), (aloo, aJ (K 1) 24 glo), (apco, aI (K 0) 30 gno), (apso, aJ (K 1) 30 gqo), (aplo, aJ (K 1) 30 gro)]) rfl dX0_copyFrom_141 (fun H locs G => ?_)
  refine lv_aload_n F.1 F.2.1 dX0_copyFrom_144 rfl (lv_at hl 0 rfl) ?_
  refine lv_aload_n F.1 F.2.1 dX0_copyFrom_145 rfl (lv_at hl 1 rfl) ?_
  refine ad_get F G fl_X0_41 9 rfl rfl dX0_copyFrom_146 ?_
  refine ad_put F G fl_X0_41 0 rfl rfl rfl (Nat.le_of_ble_eq_true rfl) (ws' := [(h0, .inr (0, [.ref ak, .ref ap, .ref ac, .ref ash, .ref alo, .int (iI (rso.length : Int)), .ref apc, .ref aps, .ref apl, .int (iI (pso.length : Int)), .int (iI mdo), .int (iI tho), va_rf lc, .int (iI nc)])), (ak, aI (K 0) 24 (cpy gko gk 24)), (ap, aI (K 0) 24 (cpy gpo gp 24)), (ac, aI (K 0) 24 (cpy gco gc 24)), (ash, aJ (K 1) 24 (cpy gso gs 24)), (alo, aJ (K 1) 24 (cpy glo gl 24)), (apc, aI (K 0) 30 (cpy gno gn 30)), (aps, aJ (K 1) 30 (cpy gqo gq 30)), (apl, aJ (K 1) 30 (cpy gro gr 30)), (h1, .inr (0, [.ref ako, .ref apo, .ref aco, .ref asho, .ref aloo, .int (iI (rso.length : Int)), .ref apco, .ref apso, .ref aplo, .int (iI (pso.length : Int)), .int (iI mdo), .int (iI tho), va_rf lco, .int (iI nco)])), (ako, aI (K 0) 24 gko), (apo, aI (K 0) 24 gpo), (aco, aI (K 0) 24 gco), (asho, aJ (K 1) 24 gso), (aloo, aJ (K 1) 24 glo), (apco, aI (K 0) 30 gno), (apso, aJ (K 1) 30 gqo), (aplo, aJ (K 1) 30 gro)]) rfl dX0_copyFrom_149 (fun H locs G => ?_)
  refine lv_aload_n F.1 F.2.1 dX0_copyFrom_152 rfl (lv_at hl 0 rfl) ?_
  refine lv_aload_n F.1 F.2.1 dX0_copyFrom_153 rfl (lv_at hl 1 rfl) ?_
  refine ad_get F G fl_X0_50 9 rfl rfl dX0_copyFrom_154 ?_
  refine ad_put F G fl_X0_50 0 rfl (ad_qN _).1 (ad_qN _).2 (Nat.le_of_ble_eq_true rfl) (ws' := [(h0, .inr (0, [.ref ak, .ref ap, .ref ac, .ref ash, .ref alo, .int (iI (rso.length : Int)), .ref apc, .ref aps, .ref apl, .int (iI (pso.length : Int)), .int (iI mdo), .int (iI tho), va_rf lco, .int (iI nc)])), (ak, aI (K 0) 24 (cpy gko gk 24)), (ap, aI (K 0) 24 (cpy gpo gp 24)), (ac, aI (K 0) 24 (cpy gco gc 24)), (ash, aJ (K 1) 24 (cpy gso gs 24)), (alo, aJ (K 1) 24 (cpy glo gl 24)), (apc, aI (K 0) 30 (cpy gno gn 30)), (aps, aJ (K 1) 30 (cpy gqo gq 30)), (apl, aJ (K 1) 30 (cpy gro gr 30)), (h1, .inr (0, [.ref ako, .ref apo, .ref aco, .ref asho, .ref aloo, .int (iI (rso.length : Int)), .ref apco, .ref apso, .ref aplo, .int (iI (pso.length : Int)), .int (iI mdo), .int (iI tho), va_rf lco, .int (iI nco)])), (ako, aI (K 0) 24 gko), (apo, aI (K 0) 24 gpo), (aco, aI (K 0) 24 gco), (asho, aJ (K 1) 24 gso), (aloo, aJ (K 1) 24 glo), (apco, aI (K 0) 30 gno), (apso, aJ (K 1) 30 gqo), (aplo, aJ (K 1) 30 gro)]) rfl dX0_copyFrom_157 (fun H locs G => ?_)
  refine lv_aload_n F.1 F.2.1 dX0_copyFrom_160 rfl (lv_at hl 0 rfl) ?_
  refine lv_aload_n F.1 F.2.1 dX0_copyFrom_161 rfl (lv_at hl 1 rfl) ?_
  refine ad_get F G fl_X0_54 9 rfl rfl dX0_copyFrom_162 ?_
  refine ad_put F G fl_X0_54 0 rfl rfl rfl (Nat.le_of_ble_eq_true rfl) (ws' := [(h0, .inr (0, [.ref ak, .ref ap, .ref ac, .ref ash, .ref alo, .int (iI (rso.length : Int)), .ref apc, .ref aps, .ref apl, .int (iI (pso.length : Int)), .int (iI mdo), .int (iI tho), va_rf lco, .int (iI nco)])), (ak, aI (K 0) 24 (cpy gko gk 24)), (ap, aI (K 0) 24 (cpy gpo gp 24)), (ac, aI (K 0) 24 (cpy gco gc 24)), (ash, aJ (K 1) 24 (cpy gso gs 24)), (alo, aJ (K 1) 24 (cpy glo gl 24)), (apc, aI (K 0) 30 (cpy gno gn 30)), (aps, aJ (K 1) 30 (cpy gqo gq 30)), (apl, aJ (K 1) 30 (cpy gro gr 30)), (h1, .inr (0, [.ref ako, .ref apo, .ref aco, .ref asho, .ref aloo, .int (iI (rso.length : Int)), .ref apco, .ref apso, .ref aplo, .int (iI (pso.length : Int)), .int (iI mdo), .int (iI tho), va_rf lco, .int (iI nco)])), (ako, aI (K 0) 24 gko), (apo, aI (K 0) 24 gpo), (aco, aI (K 0) 24 gco), (asho, aJ (K 1) 24 gso), (aloo, aJ (K 1) 24 glo), (apco, aI (K 0) 30 gno), (apso, aJ (K 1) 30 gqo), (aplo, aJ (K 1) 30 gro)]) rfl dX0_copyFrom_165 (fun H locs G => ?_)
  exact ad_vreturn F G hR rfl (Nat.le_of_ble_eq_true rfl) (Nat.le_of_ble_eq_true rfl) ⟨cpy gko gk 24, cpy gpo gp 24, cpy gco gc 24, cpy gso gs 24, cpy glo gl 24, cpy gno gn 30, cpy gqo gq 30, cpy gro gr 30, rfl, (cpy_BRep hBo hWo), (cpy_PRep hPo hVo), rfl⟩ dX0_copyFrom_168

def rm_X0_init : Room := { frames := 1, cells := 8, slots := 210, locals := 20 }
set_option maxHeartbeats 4000000 in
set_option maxRecDepth 100000 in
theorem c_X0_init (l : Launch) (D : va_G) (K : Nat → ClassId) (z0 : Nat) (h0 : Nat) : CT l D K z0 yX0_init cX0_init 1 none rm_X0_init [.ref h0] [(h0, .inr (0, [.null, .null, .null, .null, .null, .int (iI 0), .null, .null, .null, .int (iI 0), .int (iI 0), .int (iI 0), .null, .int (iI 0)]))] (fun v9 u9 => ∃ (ak1 : Nat), ∃ (ap1 : Nat), ∃ (ac1 : Nat), ∃ (ash1 : Nat), ∃ (alo1 : Nat), ∃ (apc1 : Nat), ∃ (aps1 : Nat), ∃ (apl1 : Nat), v9 = none ∧ u9 = [(h0, .inr (0, [.ref ak1, .ref ap1, .ref ac1, .ref ash1, .ref alo1, .int (iI 0), .ref apc1, .ref aps1, .ref apl1, .int (iI 0), .int (iI 1), .int (iI 2), va_rf none, .int (iI 0)])), (ak1, aI (K 0) 24 (fun _ => 0)), (ap1, aI (K 0) 24 (fun _ => 0)), (ac1, aI (K 0) 24 (fun _ => 0)), (ash1, aJ (K 1) 24 (fun _ => 0)), (alo1, aJ (K 1) 24 (fun _ => 0)), (apc1, aI (K 0) 30 (fun _ => 0)), (aps1, aJ (K 1) 30 (fun _ => 0)), (apl1, aJ (K 1) 30 (fun _ => 0))]) := by
  refine CT.start RX0 "<init>" (by decide) rfl rfl (Nat.le_of_ble_eq_true rfl) ?_
  intro p9 e9 s9 m9 ag9 bl9 mt9 c9 A9 Q9 ls F G hR hl
  have hl : lv_has ls 1 [(0, .ref h0)] := hl
  refine lv_aload_n F.1 F.2.1 dX0_init_0 rfl (lv_at hl 0 rfl) ?_
  refine ad_obji F oi_X0_3 hl.1 (Nat.le_of_ble_eq_true rfl) (Nat.le_of_ble_eq_true rfl) dX0_init_1 ?_
  refine lv_aload_n F.1 F.2.1 dX0_init_4 rfl (lv_at hl 0 rfl) ?_
  refine ad_bipush F dX0_init_5 (by decide) ?_
  refine ad_newa F G (ty := .int) rfl ac_int (t0 := 0) (cA := K 0) rfl (fun _ h => by cases h) (n := 24) (a0 := aI0 24 (fun _ => 0)) (fun _ => rfl) (by omega) (Nat.le_of_ble_eq_true rfl) (Nat.le_of_ble_eq_true rfl) (Nat.le_of_ble_eq_true rfl) dX0_init_7 (fun q_1 H G => ?_)
  replace G := G.eq (ws' := [(h0, .inr (0, [.null, .null, .null, .null, .null, .int (iI 0), .null, .null, .null, .int (iI 0), .int (iI 0), .int (iI 0), .null, .int (iI 0)])), (q_1, aI (K 0) 24 (fun _ => 0))]) rfl
  refine ad_wid (k := 1) (n := 24) rfl rfl ?_
  refine ad_putF F G fl_X0_9 rfl 0 rfl rfl rfl (Nat.le_of_ble_eq_true rfl) (ws' := [(h0, .inr (0, [.ref q_1, .null, .null, .null, .null, .int (iI 0), .null, .null, .null, .int (iI 0), .int (iI 0), .int (iI 0), .null, .int (iI 0)])), (q_1, aI (K 0) 24 (fun _ => 0))]) rfl dX0_init_9 (fun H locs G => ?_)
  refine lv_aload_n F.1 F.2.1 dX0_init_12 rfl (lv_at hl 0 rfl) ?_
  refine ad_bipush F dX0_init_13 (by decide) ?_
  refine ad_newa F G (ty := .int) rfl ac_int (t0 := 0) (cA := K 0) rfl (fun _ h => by cases h) (n := 24) (a0 := aI0 24 (fun _ => 0)) (fun _ => rfl) (by omega) (Nat.le_of_ble_eq_true rfl) (Nat.le_of_ble_eq_true rfl) (Nat.le_of_ble_eq_true rfl) dX0_init_15 (fun q_2 H G => ?_)
  replace G := G.eq (ws' := [(h0, .inr (0, [.ref q_1, .null, .null, .null, .null, .int (iI 0), .null, .null, .null, .int (iI 0), .int (iI 0), .int (iI 0), .null, .int (iI 0)])), (q_1, aI (K 0) 24 (fun _ => 0)), (q_2, aI (K 0) 24 (fun _ => 0))]) rfl
  refine ad_wid (k := 2) (n := 48) rfl rfl ?_
  refine ad_putF F G fl_X0_15 rfl 0 rfl rfl rfl (Nat.le_of_ble_eq_true rfl) (ws' := [(h0, .inr (0, [.ref q_1, .ref q_2, .null, .null, .null, .int (iI 0), .null, .null, .null, .int (iI 0), .int (iI 0), .int (iI 0), .null, .int (iI 0)])), (q_1, aI (K 0) 24 (fun _ => 0)), (q_2, aI (K 0) 24 (fun _ => 0))]) rfl dX0_init_17 (fun H locs G => ?_)
  refine lv_aload_n F.1 F.2.1 dX0_init_20 rfl (lv_at hl 0 rfl) ?_
  refine ad_bipush F dX0_init_21 (by decide) ?_
  refine ad_newa F G (ty := .int) rfl ac_int (t0 := 0) (cA := K 0) rfl (fun _ h => by cases h) (n := 24) (a0 := aI0 24 (fun _ => 0)) (fun _ => rfl) (by omega) (Nat.le_of_ble_eq_true rfl) (Nat.le_of_ble_eq_true rfl) (Nat.le_of_ble_eq_true rfl) dX0_init_23 (fun q_3 H G => ?_)
  replace G := G.eq (ws' := [(h0, .inr (0, [.ref q_1, .ref q_2, .null, .null, .null, .int (iI 0), .null, .null, .null, .int (iI 0), .int (iI 0), .int (iI 0), .null, .int (iI 0)])), (q_1, aI (K 0) 24 (fun _ => 0)), (q_2, aI (K 0) 24 (fun _ => 0)), (q_3, aI (K 0) 24 (fun _ => 0))]) rfl
  refine ad_wid (k := 3) (n := 72) rfl rfl ?_
  refine ad_putF F G fl_X0_18 rfl 0 rfl rfl rfl (Nat.le_of_ble_eq_true rfl) (ws' := [(h0, .inr (0, [.ref q_1, .ref q_2, .ref q_3, .null, .null, .int (iI 0), .null, .null, .null, .int (iI 0), .int (iI 0), .int (iI 0), .null, .int (iI 0)])), (q_1, aI (K 0) 24 (fun _ => 0)), (q_2, aI (K 0) 24 (fun _ => 0)), (q_3, aI (K 0) 24 (fun _ => 0))]) rfl dX0_init_25 (fun H locs G => ?_)
  refine lv_aload_n F.1 F.2.1 dX0_init_28 rfl (lv_at hl 0 rfl) ?_
  refine ad_bipush F dX0_init_29 (by decide) ?_
  refine ad_newa F G (ty := .long) rfl ac_long (t0 := 1) (cA := K 1) rfl (fun _ h => by cases h) (n := 24) (a0 := aJ0 24 (fun _ => 0)) (fun _ => rfl) (by omega) (Nat.le_of_ble_eq_true rfl) (Nat.le_of_ble_eq_true rfl) (Nat.le_of_ble_eq_true rfl) dX0_init_31 (fun q_4 H G => ?_)
  replace G := G.eq (ws' := [(h0, .inr (0, [.ref q_1, .ref q_2, .ref q_3, .null, .null, .int (iI 0), .null, .null, .null, .int (iI 0), .int (iI 0), .int (iI 0), .null, .int (iI 0)])), (q_1, aI (K 0) 24 (fun _ => 0)), (q_2, aI (K 0) 24 (fun _ => 0)), (q_3, aI (K 0) 24 (fun _ => 0)), (q_4, aJ (K 1) 24 (fun _ => 0))]) rfl
  refine ad_wid (k := 4) (n := 96) rfl rfl ?_
  refine ad_putF F G fl_X0_21 rfl 0 rfl rfl rfl (Nat.le_of_ble_eq_true rfl) (ws' := [(h0, .inr (0, [.ref q_1, .ref q_2, .ref q_3, .ref q_4, .null, .int (iI 0), .null, .null, .null, .int (iI 0), .int (iI 0), .int (iI 0), .null, .int (iI 0)])), (q_1, aI (K 0) 24 (fun _ => 0)), (q_2, aI (K 0) 24 (fun _ => 0)), (q_3, aI (K 0) 24 (fun _ => 0)), (q_4, aJ (K 1) 24 (fun _ => 0))]) rfl dX0_init_33 (fun H locs G => ?_)
  refine lv_aload_n F.1 F.2.1 dX0_init_36 rfl (lv_at hl 0 rfl) ?_
  refine ad_bipush F dX0_init_37 (by decide) ?_
  refine ad_newa F G (ty := .long) rfl ac_long (t0 := 1) (cA := K 1) rfl (fun _ h => by cases h) (n := 24) (a0 := aJ0 24 (fun _ => 0)) (fun _ => rfl) (by omega) (Nat.le_of_ble_eq_true rfl) (Nat.le_of_ble_eq_true rfl) (Nat.le_of_ble_eq_true rfl) dX0_init_39 (fun q_5 H G => ?_)
  replace G := G.eq (ws' := [(h0, .inr (0, [.ref q_1, .ref q_2, .ref q_3, .ref q_4, .null, .int (iI 0), .null, .null, .null, .int (iI 0), .int (iI 0), .int (iI 0), .null, .int (iI 0)])), (q_1, aI (K 0) 24 (fun _ => 0)), (q_2, aI (K 0) 24 (fun _ => 0)), (q_3, aI (K 0) 24 (fun _ => 0)), (q_4, aJ (K 1) 24 (fun _ => 0)), (q_5, aJ (K 1) 24 (fun _ => 0))]) rfl
  refine ad_wid (k := 5) (n := 120) rfl rfl ?_
  refine ad_putF F G fl_X0_25 rfl 0 rfl rfl rfl (Nat.le_of_ble_eq_true rfl) (ws' := [(h0, .inr (0, [.ref q_1, .ref q_2, .ref q_3, .ref q_4, .ref q_5, .int (iI 0), .null, .null, .null, .int (iI 0), .int (iI 0), .int (iI 0), .null, .int (iI 0)])), (q_1, aI (K 0) 24 (fun _ => 0)), (q_2, aI (K 0) 24 (fun _ => 0)), (q_3, aI (K 0) 24 (fun _ => 0)), (q_4, aJ (K 1) 24 (fun _ => 0)), (q_5, aJ (K 1) 24 (fun _ => 0))]) rfl dX0_init_41 (fun H locs G => ?_)
  refine lv_aload_n F.1 F.2.1 dX0_init_44 rfl (lv_at hl 0 rfl) ?_
  refine ad_bipush F dX0_init_45 (by decide) ?_
  refine ad_newa F G (ty := .int) rfl ac_int (t0 := 0) (cA := K 0) rfl (fun _ h => by cases h) (n := 30) (a0 := aI0 30 (fun _ => 0)) (fun _ => rfl) (by omega) (Nat.le_of_ble_eq_true rfl) (Nat.le_of_ble_eq_true rfl) (Nat.le_of_ble_eq_true rfl) dX0_init_47 (fun q_6 H G => ?_)
  replace G := G.eq (ws' := [(h0, .inr (0, [.ref q_1, .ref q_2, .ref q_3, .ref q_4, .ref q_5, .int (iI 0), .null, .null, .null, .int (iI 0), .int (iI 0), .int (iI 0), .null, .int (iI 0)])), (q_1, aI (K 0) 24 (fun _ => 0)), (q_2, aI (K 0) 24 (fun _ => 0)), (q_3, aI (K 0) 24 (fun _ => 0)), (q_4, aJ (K 1) 24 (fun _ => 0)), (q_5, aJ (K 1) 24 (fun _ => 0)), (q_6, aI (K 0) 30 (fun _ => 0))]) rfl
  refine ad_wid (k := 6) (n := 150) rfl rfl ?_
  refine ad_putF F G fl_X0_28 rfl 0 rfl rfl rfl (Nat.le_of_ble_eq_true rfl) (ws' := [(h0, .inr (0, [.ref q_1, .ref q_2, .ref q_3, .ref q_4, .ref q_5, .int (iI 0), .ref q_6, .null, .null, .int (iI 0), .int (iI 0), .int (iI 0), .null, .int (iI 0)])), (q_1, aI (K 0) 24 (fun _ => 0)), (q_2, aI (K 0) 24 (fun _ => 0)), (q_3, aI (K 0) 24 (fun _ => 0)), (q_4, aJ (K 1) 24 (fun _ => 0)), (q_5, aJ (K 1) 24 (fun _ => 0)), (q_6, aI (K 0) 30 (fun _ => 0))]) rfl dX0_init_49 (fun H locs G => ?_)
  refine lv_aload_n F.1 F.2.1 dX0_init_52 rfl (lv_at hl 0 rfl) ?_
  refine ad_bipush F dX0_init_53 (by decide) ?_
  refine ad_newa F G (ty := .long) rfl ac_long (t0 := 1) (cA := K 1) rfl (fun _ h => by cases h) (n := 30) (a0 := aJ0 30 (fun _ => 0)) (fun _ => rfl) (by omega) (Nat.le_of_ble_eq_true rfl) (Nat.le_of_ble_eq_true rfl) (Nat.le_of_ble_eq_true rfl) dX0_init_55 (fun q_7 H G => ?_)
  replace G := G.eq (ws' := [(h0, .inr (0, [.ref q_1, .ref q_2, .ref q_3, .ref q_4, .ref q_5, .int (iI 0), .ref q_6, .null, .null, .int (iI 0), .int (iI 0), .int (iI 0), .null, .int (iI 0)])), (q_1, aI (K 0) 24 (fun _ => 0)), (q_2, aI (K 0) 24 (fun _ => 0)), (q_3, aI (K 0) 24 (fun _ => 0)), (q_4, aJ (K 1) 24 (fun _ => 0)), (q_5, aJ (K 1) 24 (fun _ => 0)), (q_6, aI (K 0) 30 (fun _ => 0)), (q_7, aJ (K 1) 30 (fun _ => 0))]) rfl
  refine ad_wid (k := 7) (n := 180) rfl rfl ?_
  refine ad_putF F G fl_X0_31 rfl 0 rfl rfl rfl (Nat.le_of_ble_eq_true rfl) (ws' := [(h0, .inr (0, [.ref q_1, .ref q_2, .ref q_3, .ref q_4, .ref q_5, .int (iI 0), .ref q_6, .ref q_7, .null, .int (iI 0), .int (iI 0), .int (iI 0), .null, .int (iI 0)])), (q_1, aI (K 0) 24 (fun _ => 0)), (q_2, aI (K 0) 24 (fun _ => 0)), (q_3, aI (K 0) 24 (fun _ => 0)), (q_4, aJ (K 1) 24 (fun _ => 0)), (q_5, aJ (K 1) 24 (fun _ => 0)), (q_6, aI (K 0) 30 (fun _ => 0)), (q_7, aJ (K 1) 30 (fun _ => 0))]) rfl dX0_init_57 (fun H locs G => ?_)
  refine lv_aload_n F.1 F.2.1 dX0_init_60 rfl (lv_at hl 0 rfl) ?_
  refine ad_bipush F dX0_init_61 (by decide) ?_
  refine ad_newa F G (ty := .long) rfl ac_long (t0 := 1) (cA := K 1) rfl (fun _ h => by cases h) (n := 30) (a0 := aJ0 30 (fun _ => 0)) (fun _ => rfl) (by omega) (Nat.le_of_ble_eq_true rfl) (Nat.le_of_ble_eq_true rfl) (Nat.le_of_ble_eq_true rfl) dX0_init_63 (fun q_8 H G => ?_)
  replace G := G.eq (ws' := [(h0, .inr (0, [.ref q_1, .ref q_2, .ref q_3, .ref q_4, .ref q_5, .int (iI 0), .ref q_6, .ref q_7, .null, .int (iI 0), .int (iI 0), .int (iI 0), .null, .int (iI 0)])), (q_1, aI (K 0) 24 (fun _ => 0)), (q_2, aI (K 0) 24 (fun _ => 0)), (q_3, aI (K 0) 24 (fun _ => 0)), (q_4, aJ (K 1) 24 (fun _ => 0)), (q_5, aJ (K 1) 24 (fun _ => 0)), (q_6, aI (K 0) 30 (fun _ => 0)), (q_7, aJ (K 1) 30 (fun _ => 0)), (q_8, aJ (K 1) 30 (fun _ => 0))]) rfl
  refine ad_wid (k := 8) (n := 210) rfl rfl ?_
  refine ad_putF F G fl_X0_34 rfl 0 rfl rfl rfl (Nat.le_of_ble_eq_true rfl) (ws' := [(h0, .inr (0, [.ref q_1, .ref q_2, .ref q_3, .ref q_4, .ref q_5, .int (iI 0), .ref q_6, .ref q_7, .ref q_8, .int (iI 0), .int (iI 0), .int (iI 0), .null, .int (iI 0)])), (q_1, aI (K 0) 24 (fun _ => 0)), (q_2, aI (K 0) 24 (fun _ => 0)), (q_3, aI (K 0) 24 (fun _ => 0)), (q_4, aJ (K 1) 24 (fun _ => 0)), (q_5, aJ (K 1) 24 (fun _ => 0)), (q_6, aI (K 0) 30 (fun _ => 0)), (q_7, aJ (K 1) 30 (fun _ => 0)), (q_8, aJ (K 1) 30 (fun _ => 0))]) rfl dX0_init_65 (fun H locs G => ?_)
  refine lv_aload_n F.1 F.2.1 dX0_init_68 rfl (lv_at hl 0 rfl) ?_
  refine ad_iconst F dX0_init_69 ?_
  refine ad_put F G fl_X0_37 0 rfl rfl rfl (Nat.le_of_ble_eq_true rfl) (ws' := [(h0, .inr (0, [.ref q_1, .ref q_2, .ref q_3, .ref q_4, .ref q_5, .int (iI 0), .ref q_6, .ref q_7, .ref q_8, .int (iI 0), .int (iI 1), .int (iI 0), .null, .int (iI 0)])), (q_1, aI (K 0) 24 (fun _ => 0)), (q_2, aI (K 0) 24 (fun _ => 0)), (q_3, aI (K 0) 24 (fun _ => 0)), (q_4, aJ (K 1) 24 (fun _ => 0)), (q_5, aJ (K 1) 24 (fun _ => 0)), (q_6, aI (K 0) 30 (fun _ => 0)), (q_7, aJ (K 1) 30 (fun _ => 0)), (q_8, aJ (K 1) 30 (fun _ => 0))]) rfl dX0_init_70 (fun H locs G => ?_)
  refine lv_aload_n F.1 F.2.1 dX0_init_73 rfl (lv_at hl 0 rfl) ?_
  refine ad_iconst F dX0_init_74 ?_
  refine ad_put F G fl_X0_41 0 rfl rfl rfl (Nat.le_of_ble_eq_true rfl) (ws' := [(h0, .inr (0, [.ref q_1, .ref q_2, .ref q_3, .ref q_4, .ref q_5, .int (iI 0), .ref q_6, .ref q_7, .ref q_8, .int (iI 0), .int (iI 1), .int (iI 2), .null, .int (iI 0)])), (q_1, aI (K 0) 24 (fun _ => 0)), (q_2, aI (K 0) 24 (fun _ => 0)), (q_3, aI (K 0) 24 (fun _ => 0)), (q_4, aJ (K 1) 24 (fun _ => 0)), (q_5, aJ (K 1) 24 (fun _ => 0)), (q_6, aI (K 0) 30 (fun _ => 0)), (q_7, aJ (K 1) 30 (fun _ => 0)), (q_8, aJ (K 1) 30 (fun _ => 0))]) rfl dX0_init_75 (fun H locs G => ?_)
  exact ad_vreturn F G hR rfl (Nat.le_of_ble_eq_true rfl) (Nat.le_of_ble_eq_true rfl) ⟨q_1, q_2, q_3, q_4, q_5, q_6, q_7, q_8, rfl, rfl⟩ dX0_init_78
