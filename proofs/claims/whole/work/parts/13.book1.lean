def rm_X0_priorityOf : Room := { frames := 1, cells := 0, slots := 0, locals := 12 }
set_option maxHeartbeats 4000000 in
set_option maxRecDepth 100000 in
theorem c_X0_priorityOf (l : Launch) (D : va_G) (K : Nat → ClassId) (z0 : Nat) (h0 : Nat) (ak : Nat) (ap : Nat) (ac : Nat) (ash : Nat) (alo : Nat) (apc : Nat) (aps : Nat) (apl : Nat) (lc : Option Nat) (gk : Nat → Int) (gp : Nat → Int) (gc : Nat → Int) (gs : Nat → Int64) (gl : Nat → Int64) (rs : List Rl) (np : Int) (md : Int) (th : Int) (nc : Int) (z : Int) (hB : BRep gk gp gc gs gl rs) (hW : RW rs) (hz : 0 ≤ z ∧ z < rs.length) : CT l D K z0 yX0_priorityOf cX0_priorityOf 2 (some .int) rm_X0_priorityOf [.ref h0, .int (iI z)] [(h0, .inr (0, [.ref ak, .ref ap, .ref ac, .ref ash, .ref alo, .int (iI (rs.length : Int)), .ref apc, .ref aps, .ref apl, .int (iI np), .int (iI md), .int (iI th), va_rf lc, .int (iI nc)])), (ap, aI (K 0) 24 gp)] (fun v9 u9 => v9 = some (.int (iI ((rget rs z).2.1))) ∧ u9 = [(h0, .inr (0, [.ref ak, .ref ap, .ref ac, .ref ash, .ref alo, .int (iI (rs.length : Int)), .ref apc, .ref aps, .ref apl, .int (iI np), .int (iI md), .int (iI th), va_rf lc, .int (iI nc)])), (ap, aI (K 0) 24 gp)]) := by
  refine CT.start RX0 "priorityOf" (by decide) rfl rfl (Nat.le_of_ble_eq_true rfl) ?_
  intro p9 e9 s9 m9 ag9 bl9 mt9 c9 A9 Q9 ls F G hR hl
  have hl : lv_has ls 2 [(0, .ref h0), (1, .int (iI z))] := hl
  have hn := hW.1
  refine lv_iload_n F.1 F.2.1 dX0_priorityOf_0 rfl (lv_at hl 1 rfl) ?_
  refine ad_if_lt (tgt := 21) F (by omega) dX0_priorityOf_1 (by decide) (fun cc_1 => ?_) (fun cc_1 => ?_)
  · exact absurd cc_1 (by omega)
  · refine lv_iload_n F.1 F.2.1 dX0_priorityOf_4 rfl (lv_at hl 1 rfl) ?_
    refine lv_aload_n F.1 F.2.1 dX0_priorityOf_5 rfl (lv_at hl 0 rfl) ?_
    refine ad_get F G fl_X0_44 0 rfl rfl dX0_priorityOf_6 ?_
    refine ad_icmp_ge (tgt := 21) F (by omega) dX0_priorityOf_9 (by decide) (fun cc_2 => ?_) (fun cc_2 => ?_)
    · exact absurd cc_2 (by omega)
    · refine lv_aload_n F.1 F.2.1 dX0_priorityOf_12 rfl (lv_at hl 0 rfl) ?_
      refine ad_get F G fl_X0_15 0 rfl rfl dX0_priorityOf_13 ?_
      refine lv_iload_n F.1 F.2.1 dX0_priorityOf_16 rfl (lv_at hl 1 rfl) ?_
      refine ad_iald F G 1 rfl (w := (rget rs z).2.1) (by omega) (hB z (by omega) (by omega)).2.1 dX0_priorityOf_17 ?_
      refine lv_goto (tgt := 22) F.1 F.2.1 dX0_priorityOf_18 (by decide) ?_
      exact ad_ireturn F G hR rfl (Nat.le_of_ble_eq_true rfl) (Nat.le_of_ble_eq_true rfl) ⟨rfl, rfl⟩ dX0_priorityOf_22

def rm_X0_formOf : Room := { frames := 1, cells := 0, slots := 0, locals := 12 }
set_option maxHeartbeats 4000000 in
set_option maxRecDepth 100000 in
theorem c_X0_formOf (l : Launch) (D : va_G) (K : Nat → ClassId) (z0 : Nat) (h0 : Nat) (ak : Nat) (ap : Nat) (ac : Nat) (ash : Nat) (alo : Nat) (apc : Nat) (aps : Nat) (apl : Nat) (lc : Option Nat) (gk : Nat → Int) (gp : Nat → Int) (gc : Nat → Int) (gs : Nat → Int64) (gl : Nat → Int64) (rs : List Rl) (np : Int) (md : Int) (th : Int) (nc : Int) (z : Int) (b : Int) (hB : BRep gk gp gc gs gl rs) (hW : RW rs) (hz : -2147483648 ≤ z ∧ z < 2147483648) (hb : b = 0 ∨ b = 1) : CT l D K z0 yX0_formOf cX0_formOf 3 (some .long) rm_X0_formOf [.ref h0, .int (iI z), .int (iI b)] [(h0, .inr (0, [.ref ak, .ref ap, .ref ac, .ref ash, .ref alo, .int (iI (rs.length : Int)), .ref apc, .ref aps, .ref apl, .int (iI np), .int (iI md), .int (iI th), va_rf lc, .int (iI nc)])), (ash, aJ (K 1) 24 gs), (alo, aJ (K 1) 24 gl)] (fun v9 u9 => v9 = some (.long (enc (fmo (rget rs z) b))) ∧ u9 = [(h0, .inr (0, [.ref ak, .ref ap, .ref ac, .ref ash, .ref alo, .int (iI (rs.length : Int)), .ref apc, .ref aps, .ref apl, .int (iI np), .int (iI md), .int (iI th), va_rf lc, .int (iI nc)])), (ash, aJ (K 1) 24 gs), (alo, aJ (K 1) 24 gl)]) := by
  refine CT.start RX0 "formOf" (by decide) rfl rfl (Nat.le_of_ble_eq_true rfl) ?_
  intro p9 e9 s9 m9 ag9 bl9 mt9 c9 A9 Q9 ls F G hR hl
  have hl : lv_has ls 3 [(0, .ref h0), (1, .int (iI z)), (2, .int (iI b))] := hl
  have hn := hW.1
  refine lv_iload_n F.1 F.2.1 dX0_formOf_0 rfl (lv_at hl 1 rfl) ?_
  refine ad_if_lt (tgt := 12) F (by omega) dX0_formOf_1 (by decide) (fun cc_1 => ?_) (fun cc_1 => ?_)
  · refine lv_lconst (v := 0) F.1 F.2.1 dX0_formOf_12 (by decide) ?_
    exact ad_lreturn F G hR rfl (Nat.le_of_ble_eq_true rfl) (Nat.le_of_ble_eq_true rfl) ⟨(ad_eql (by rw [rget_out (by omega), fmo_RD])), rfl⟩ dX0_formOf_13
  · refine lv_iload_n F.1 F.2.1 dX0_formOf_4 rfl (lv_at hl 1 rfl) ?_
    refine lv_aload_n F.1 F.2.1 dX0_formOf_5 rfl (lv_at hl 0 rfl) ?_
    refine ad_get F G fl_X0_44 0 rfl rfl dX0_formOf_6 ?_
    refine ad_icmp_lt (tgt := 14) F (by omega) dX0_formOf_9 (by decide) (fun cc_2 => ?_) (fun cc_2 => ?_)
    · refine lv_iload_n F.1 F.2.1 dX0_formOf_14 rfl (lv_at hl 2 rfl) ?_
      refine ad_if_eq (tgt := 27) F (by omega) dX0_formOf_15 (by decide) (fun cc_3 => ?_) (fun cc_3 => ?_)
      · refine lv_aload_n F.1 F.2.1 dX0_formOf_27 rfl (lv_at hl 0 rfl) ?_
        refine ad_get F G fl_X0_21 0 rfl rfl dX0_formOf_28 ?_
        refine lv_iload_n F.1 F.2.1 dX0_formOf_31 rfl (lv_at hl 1 rfl) ?_
        refine ad_lald F G 1 rfl (w := enc (fmo (rget rs z) b)) (by omega) (by rw [show b = 0 by omega]; exact (hB z (by omega) (by omega)).2.2.2.1) dX0_formOf_32 ?_
        exact ad_lreturn F G hR rfl (Nat.le_of_ble_eq_true rfl) (Nat.le_of_ble_eq_true rfl) ⟨rfl, rfl⟩ dX0_formOf_33
      · refine lv_aload_n F.1 F.2.1 dX0_formOf_18 rfl (lv_at hl 0 rfl) ?_
        refine ad_get F G fl_X0_25 0 rfl rfl dX0_formOf_19 ?_
        refine lv_iload_n F.1 F.2.1 dX0_formOf_22 rfl (lv_at hl 1 rfl) ?_
        refine ad_lald F G 2 rfl (w := enc (fmo (rget rs z) b)) (by omega) (by rw [show b = 1 by omega]; exact (hB z (by omega) (by omega)).2.2.2.2) dX0_formOf_23 ?_
        refine lv_goto (tgt := 33) F.1 F.2.1 dX0_formOf_24 (by decide) ?_
        exact ad_lreturn F G hR rfl (Nat.le_of_ble_eq_true rfl) (Nat.le_of_ble_eq_true rfl) ⟨rfl, rfl⟩ dX0_formOf_33
    · refine lv_lconst (v := 0) F.1 F.2.1 dX0_formOf_12 (by decide) ?_
      exact ad_lreturn F G hR rfl (Nat.le_of_ble_eq_true rfl) (Nat.le_of_ble_eq_true rfl) ⟨(ad_eql (by rw [rget_out (by omega), fmo_RD])), rfl⟩ dX0_formOf_13

def rm_X0_isOfKind : Room := { frames := 1, cells := 0, slots := 0, locals := 12 }
set_option maxHeartbeats 4000000 in
set_option maxRecDepth 100000 in
theorem c_X0_isOfKind (l : Launch) (D : va_G) (K : Nat → ClassId) (z0 : Nat) (h0 : Nat) (ak : Nat) (ap : Nat) (ac : Nat) (ash : Nat) (alo : Nat) (apc : Nat) (aps : Nat) (apl : Nat) (lc : Option Nat) (gk : Nat → Int) (gp : Nat → Int) (gc : Nat → Int) (gs : Nat → Int64) (gl : Nat → Int64) (rs : List Rl) (np : Int) (md : Int) (th : Int) (nc : Int) (z : Int) (k : Int) (hB : BRep gk gp gc gs gl rs) (hW : RW rs) (hz : -2147483648 ≤ z ∧ z < 2147483648) (hk : 0 ≤ k ∧ k ≤ 2) : CT l D K z0 yX0_isOfKind cX0_isOfKind 3 (some .boolean) rm_X0_isOfKind [.ref h0, .int (iI z), .int (iI k)] [(h0, .inr (0, [.ref ak, .ref ap, .ref ac, .ref ash, .ref alo, .int (iI (rs.length : Int)), .ref apc, .ref aps, .ref apl, .int (iI np), .int (iI md), .int (iI th), va_rf lc, .int (iI nc)])), (ak, aI (K 0) 24 gk)] (fun v9 u9 => (v9 = some (.int (iI 1)) ∧ ((rget rs z).1 = k) ∧ u9 = [(h0, .inr (0, [.ref ak, .ref ap, .ref ac, .ref ash, .ref alo, .int (iI (rs.length : Int)), .ref apc, .ref aps, .ref apl, .int (iI np), .int (iI md), .int (iI th), va_rf lc, .int (iI nc)])), (ak, aI (K 0) 24 gk)]) ∨ (v9 = some (.int (iI 0)) ∧ ((rget rs z).1 ≠ k) ∧ u9 = [(h0, .inr (0, [.ref ak, .ref ap, .ref ac, .ref ash, .ref alo, .int (iI (rs.length : Int)), .ref apc, .ref aps, .ref apl, .int (iI np), .int (iI md), .int (iI th), va_rf lc, .int (iI nc)])), (ak, aI (K 0) 24 gk)])) := by
  refine CT.start RX0 "isOfKind" (by decide) rfl rfl (Nat.le_of_ble_eq_true rfl) ?_
  intro p9 e9 s9 m9 ag9 bl9 mt9 c9 A9 Q9 ls F G hR hl
  have hl : lv_has ls 3 [(0, .ref h0), (1, .int (iI z)), (2, .int (iI k))] := hl
  have hn := hW.1
  refine lv_iload_n F.1 F.2.1 dX0_isOfKind_0 rfl (lv_at hl 1 rfl) ?_
  refine ad_if_lt (tgt := 26) F (by omega) dX0_isOfKind_1 (by decide) (fun cc_1 => ?_) (fun cc_1 => ?_)
  · refine ad_iconst F dX0_isOfKind_26 ?_
    exact ad_zreturn F G hR rfl (Nat.le_of_ble_eq_true rfl) (Nat.le_of_ble_eq_true rfl) rfl (Or.inr (⟨rfl, (by rw [rget_out (by omega)]; simp only [RD]; omega), rfl⟩)) dX0_isOfKind_27
  · refine lv_iload_n F.1 F.2.1 dX0_isOfKind_4 rfl (lv_at hl 1 rfl) ?_
    refine lv_aload_n F.1 F.2.1 dX0_isOfKind_5 rfl (lv_at hl 0 rfl) ?_
    refine ad_get F G fl_X0_44 0 rfl rfl dX0_isOfKind_6 ?_
    refine ad_icmp_ge (tgt := 26) F (by omega) dX0_isOfKind_9 (by decide) (fun cc_2 => ?_) (fun cc_2 => ?_)
    · refine ad_iconst F dX0_isOfKind_26 ?_
      exact ad_zreturn F G hR rfl (Nat.le_of_ble_eq_true rfl) (Nat.le_of_ble_eq_true rfl) rfl (Or.inr (⟨rfl, (by rw [rget_out (by omega)]; simp only [RD]; omega), rfl⟩)) dX0_isOfKind_27
    · refine lv_aload_n F.1 F.2.1 dX0_isOfKind_12 rfl (lv_at hl 0 rfl) ?_
      refine ad_get F G fl_X0_9 0 rfl rfl dX0_isOfKind_13 ?_
      refine lv_iload_n F.1 F.2.1 dX0_isOfKind_16 rfl (lv_at hl 1 rfl) ?_
      refine ad_iald F G 1 rfl (w := (rget rs z).1) (by omega) (hB z (by omega) (by omega)).1 dX0_isOfKind_17 ?_
      refine lv_iload_n F.1 F.2.1 dX0_isOfKind_18 rfl (lv_at hl 2 rfl) ?_
      refine ad_icmp_ne (tgt := 26) F (by have := hW.bd (z := z) (by omega) (by omega); omega) dX0_isOfKind_19 (by decide) (fun cc_3 => ?_) (fun cc_3 => ?_)
      · refine ad_iconst F dX0_isOfKind_26 ?_
        exact ad_zreturn F G hR rfl (Nat.le_of_ble_eq_true rfl) (Nat.le_of_ble_eq_true rfl) rfl (Or.inr (⟨rfl, cc_3, rfl⟩)) dX0_isOfKind_27
      · refine ad_iconst F dX0_isOfKind_22 ?_
        refine lv_goto (tgt := 27) F.1 F.2.1 dX0_isOfKind_23 (by decide) ?_
        exact ad_zreturn F G hR rfl (Nat.le_of_ble_eq_true rfl) (Nat.le_of_ble_eq_true rfl) rfl (Or.inl ⟨rfl, cc_3, rfl⟩) dX0_isOfKind_27

def rm_X0_placesOfRule : Room := { frames := 1, cells := 0, slots := 0, locals := 12 }
set_option maxHeartbeats 4000000 in
set_option maxRecDepth 100000 in
theorem c_X0_placesOfRule (l : Launch) (D : va_G) (K : Nat → ClassId) (z0 : Nat) (h0 : Nat) (ak : Nat) (ap : Nat) (ac : Nat) (ash : Nat) (alo : Nat) (apc : Nat) (aps : Nat) (apl : Nat) (lc : Option Nat) (gk : Nat → Int) (gp : Nat → Int) (gc : Nat → Int) (gs : Nat → Int64) (gl : Nat → Int64) (rs : List Rl) (np : Int) (md : Int) (th : Int) (nc : Int) (z : Int) (hB : BRep gk gp gc gs gl rs) (hW : RW rs) (hz : 0 ≤ z ∧ z < rs.length) : CT l D K z0 yX0_placesOfRule cX0_placesOfRule 3 (some .int) rm_X0_placesOfRule [.ref h0, .int (iI z)] [(h0, .inr (0, [.ref ak, .ref ap, .ref ac, .ref ash, .ref alo, .int (iI (rs.length : Int)), .ref apc, .ref aps, .ref apl, .int (iI np), .int (iI md), .int (iI th), va_rf lc, .int (iI nc)])), (ac, aI (K 0) 24 gc)] (fun v9 u9 => v9 = some (.int (iI (plN (rget rs z).2.2.1 : Int))) ∧ u9 = [(h0, .inr (0, [.ref ak, .ref ap, .ref ac, .ref ash, .ref alo, .int (iI (rs.length : Int)), .ref apc, .ref aps, .ref apl, .int (iI np), .int (iI md), .int (iI th), va_rf lc, .int (iI nc)])), (ac, aI (K 0) 24 gc)]) := by
  refine CT.start RX0 "placesOfRule" (by decide) rfl rfl (Nat.le_of_ble_eq_true rfl) ?_
  intro p9 e9 s9 m9 ag9 bl9 mt9 c9 A9 Q9 ls F G hR hl
  have hl : lv_has ls 3 [(0, .ref h0), (1, .int (iI z))] := hl
  have hn := hW.1
  have hb := hW.bd hz.1 hz.2
  refine lv_iload_n F.1 F.2.1 dX0_placesOfRule_0 rfl (lv_at hl 1 rfl) ?_
  refine ad_if_lt (tgt := 21) F (by omega) dX0_placesOfRule_1 (by decide) (fun cc_1 => ?_) (fun cc_1 => ?_)
  · exact absurd cc_1 (by omega)
  · refine lv_iload_n F.1 F.2.1 dX0_placesOfRule_4 rfl (lv_at hl 1 rfl) ?_
    refine lv_aload_n F.1 F.2.1 dX0_placesOfRule_5 rfl (lv_at hl 0 rfl) ?_
    refine ad_get F G fl_X0_44 0 rfl rfl dX0_placesOfRule_6 ?_
    refine ad_icmp_ge (tgt := 21) F (by omega) dX0_placesOfRule_9 (by decide) (fun cc_2 => ?_) (fun cc_2 => ?_)
    · exact absurd cc_2 (by omega)
    · refine lv_aload_n F.1 F.2.1 dX0_placesOfRule_12 rfl (lv_at hl 0 rfl) ?_
      refine ad_get F G fl_X0_18 0 rfl rfl dX0_placesOfRule_13 ?_
      refine lv_iload_n F.1 F.2.1 dX0_placesOfRule_16 rfl (lv_at hl 1 rfl) ?_
      refine ad_iald F G 1 rfl (w := (rget rs z).2.2.1) (by omega) (hB z (by omega) (by omega)).2.2.1 dX0_placesOfRule_17 ?_
      refine lv_goto (tgt := 22) F.1 F.2.1 dX0_placesOfRule_18 (by decide) ?_
      refine lv_istore_n (lv' := [(2, .int (iI ((rget rs z).2.2.1))), (0, .ref h0), (1, .int (iI z))]) F.1 F.2.1 dX0_placesOfRule_22 rfl hl (by decide) rfl (fun ls hl => ?_)
      refine lv_iload_n F.1 F.2.1 dX0_placesOfRule_23 rfl (lv_at hl 0 rfl) ?_
      refine ad_if_lt (tgt := 43) F (by omega) dX0_placesOfRule_24 (by decide) (fun cc_3 => ?_) (fun cc_3 => ?_)
      · exact absurd cc_3 (by omega)
      · refine lv_iload_n F.1 F.2.1 dX0_placesOfRule_27 rfl (lv_at hl 0 rfl) ?_
        refine ad_placesN F G (host := "AbbreviationDesk") (List.mem_of_getElem? (i := 845) (by decide +kernel)) dX0_placesOfRule_28 (fun t_4 hT_5 => ?_)
        refine ad_tlen F G hT_5 dX0_placesOfRule_31 ?_
        refine ad_icmp_ge (tgt := 43) F (by omega) dX0_placesOfRule_32 (by decide) (fun cc_6 => ?_) (fun cc_6 => ?_)
        · exact absurd cc_6 (by omega)
        · refine ad_placesN F G (host := "AbbreviationDesk") (List.mem_of_getElem? (i := 845) (by decide +kernel)) dX0_placesOfRule_35 (fun t_7 hT_8 => ?_)
          refine lv_iload_n F.1 F.2.1 dX0_placesOfRule_38 rfl (lv_at hl 0 rfl) ?_
          refine ad_tld F G hT_8 (by omega) (w := (plN ((rget rs z).2.2.1) : Int)) rfl dX0_placesOfRule_39 ?_
          refine lv_goto (tgt := 44) F.1 F.2.1 dX0_placesOfRule_40 (by decide) ?_
          exact ad_ireturn F G hR rfl (Nat.le_of_ble_eq_true rfl) (Nat.le_of_ble_eq_true rfl) ⟨(ad_eqi (by omega)), rfl⟩ dX0_placesOfRule_44

def rm_X0_isBetter : Room := { frames := 2, cells := 0, slots := 0, locals := 34 }
set_option maxHeartbeats 4000000 in
set_option maxRecDepth 100000 in
theorem c_X0_isBetter (l : Launch) (D : va_G) (K : Nat → ClassId) (z0 : Nat) (h0 : Nat) (ak : Nat) (ap : Nat) (ac : Nat) (ash : Nat) (alo : Nat) (apc : Nat) (aps : Nat) (apl : Nat) (lc : Option Nat) (gk : Nat → Int) (gp : Nat → Int) (gc : Nat → Int) (gs : Nat → Int64) (gl : Nat → Int64) (rs : List Rl) (np : Int) (md : Int) (th : Int) (nc : Int) (x : Int) (y : Int) (hB : BRep gk gp gc gs gl rs) (hW : RW rs) (hx : 0 ≤ x ∧ x < rs.length) (hy : 0 ≤ y ∧ y < rs.length) : CT l D K z0 yX0_isBetter cX0_isBetter 4 (some .boolean) rm_X0_isBetter [.ref h0, .int (iI x), .int (iI y)] [(h0, .inr (0, [.ref ak, .ref ap, .ref ac, .ref ash, .ref alo, .int (iI (rs.length : Int)), .ref apc, .ref aps, .ref apl, .int (iI np), .int (iI md), .int (iI th), va_rf lc, .int (iI nc)])), (ap, aI (K 0) 24 gp), (ash, aJ (K 1) 24 gs), (alo, aJ (K 1) 24 gl)] (fun v9 u9 => (v9 = some (.int (iI 1)) ∧ (btr rs x y) ∧ u9 = [(h0, .inr (0, [.ref ak, .ref ap, .ref ac, .ref ash, .ref alo, .int (iI (rs.length : Int)), .ref apc, .ref aps, .ref apl, .int (iI np), .int (iI md), .int (iI th), va_rf lc, .int (iI nc)])), (ap, aI (K 0) 24 gp), (ash, aJ (K 1) 24 gs), (alo, aJ (K 1) 24 gl)]) ∨ (v9 = some (.int (iI 0)) ∧ (¬ btr rs x y) ∧ u9 = [(h0, .inr (0, [.ref ak, .ref ap, .ref ac, .ref ash, .ref alo, .int (iI (rs.length : Int)), .ref apc, .ref aps, .ref apl, .int (iI np), .int (iI md), .int (iI th), va_rf lc, .int (iI nc)])), (ap, aI (K 0) 24 gp), (ash, aJ (K 1) 24 gs), (alo, aJ (K 1) 24 gl)])) := by
  refine CT.start RX0 "isBetter" (by decide) rfl rfl (Nat.le_of_ble_eq_true rfl) ?_
  intro p9 e9 s9 m9 ag9 bl9 mt9 c9 A9 Q9 ls F G hR hl
  have hl : lv_has ls 4 [(0, .ref h0), (1, .int (iI x)), (2, .int (iI y))] := hl
  have hn := hW.1
  have b1 := hW.bd hx.1 hx.2
  have b2 := hW.bd hy.1 hy.2
  refine lv_aload_n F.1 F.2.1 dX0_isBetter_0 rfl (lv_at hl 0 rfl) ?_
  refine lv_iload_n F.1 F.2.1 dX0_isBetter_1 rfl (lv_at hl 1 rfl) ?_
  refine ad_callV (As := [.int (iI x)]) (rest := []) F G (c_X0_priorityOf l D K z0 h0 ak ap ac ash alo apc aps apl lc gk gp gc gs gl rs np md th nc x hB hW hx) my_X0_priorityOf mv_X0_93 (wr := [(ash, aJ (K 1) 24 gs), (alo, aJ (K 1) 24 gl)]) (isC := [0, 1]) (isR := [2, 3]) ⟨rfl, rfl, rfl, rfl, by decide⟩ 0 0 rfl rfl rfl rfl ⟨Nat.le_of_ble_eq_true rfl, Nat.le_of_ble_eq_true rfl⟩ ⟨Nat.le_of_ble_eq_true rfl, Nat.le_of_ble_eq_true rfl⟩ (Nat.le_of_ble_eq_true rfl) hl.1 (cells9 := 0) (slots9 := 0) ⟨rfl, rfl⟩ dX0_isBetter_2 (fun v u H locs hw_1 G => ?_)
  obtain ⟨rfl, rfl⟩ := hw_1
  replace G := G.perm (ws' := [(h0, .inr (0, [.ref ak, .ref ap, .ref ac, .ref ash, .ref alo, .int (iI (rs.length : Int)), .ref apc, .ref aps, .ref apl, .int (iI np), .int (iI md), .int (iI th), va_rf lc, .int (iI nc)])), (ap, aI (K 0) 24 gp), (ash, aJ (K 1) 24 gs), (alo, aJ (K 1) 24 gl)]) [2, 3, 0, 1] rfl rfl
  refine W.eq (g2 := F0 m9 5 ls [.int (iI ((rget rs x).2.1))]) rfl ?_
  refine lv_aload_n F.1 F.2.1 dX0_isBetter_5 rfl (lv_at hl 0 rfl) ?_
  refine lv_iload_n F.1 F.2.1 dX0_isBetter_6 rfl (lv_at hl 2 rfl) ?_
  refine ad_callV (As := [.int (iI y)]) (rest := [.int (iI ((rget rs x).2.1))]) F G (c_X0_priorityOf l D K z0 h0 ak ap ac ash alo apc aps apl lc gk gp gc gs gl rs np md th nc y hB hW hy) my_X0_priorityOf mv_X0_93 (wr := [(ash, aJ (K 1) 24 gs), (alo, aJ (K 1) 24 gl)]) (isC := [0, 1]) (isR := [2, 3]) ⟨rfl, rfl, rfl, rfl, by decide⟩ 0 0 rfl rfl rfl rfl ⟨Nat.le_of_ble_eq_true rfl, Nat.le_of_ble_eq_true rfl⟩ ⟨Nat.le_of_ble_eq_true rfl, Nat.le_of_ble_eq_true rfl⟩ (Nat.le_of_ble_eq_true rfl) hl.1 (cells9 := 0) (slots9 := 0) ⟨rfl, rfl⟩ dX0_isBetter_7 (fun v u H locs hw_2 G => ?_)
  obtain ⟨rfl, rfl⟩ := hw_2
  replace G := G.perm (ws' := [(h0, .inr (0, [.ref ak, .ref ap, .ref ac, .ref ash, .ref alo, .int (iI (rs.length : Int)), .ref apc, .ref aps, .ref apl, .int (iI np), .int (iI md), .int (iI th), va_rf lc, .int (iI nc)])), (ap, aI (K 0) 24 gp), (ash, aJ (K 1) 24 gs), (alo, aJ (K 1) 24 gl)]) [2, 3, 0, 1] rfl rfl
  refine W.eq (g2 := F0 m9 10 ls [.int (iI ((rget rs y).2.1)), .int (iI ((rget rs x).2.1))]) rfl ?_
  refine ad_isub F dX0_isBetter_10 ?_
  refine lv_istore_n (lv' := [(3, .int (iI (((rget rs x).2.1) - ((rget rs y).2.1)))), (0, .ref h0), (1, .int (iI x)), (2, .int (iI y))]) F.1 F.2.1 dX0_isBetter_11 rfl hl (by decide) rfl (fun ls hl => ?_)
  refine lv_iload_n F.1 F.2.1 dX0_isBetter_12 rfl (lv_at hl 0 rfl) ?_
  refine ad_if_ne (tgt := 36) F (by omega) dX0_isBetter_13 (by decide) (fun cc_3 => ?_) (fun cc_3 => ?_)
  · refine lv_iload_n F.1 F.2.1 dX0_isBetter_36 rfl (lv_at hl 0 rfl) ?_
    refine ad_if_ne (tgt := 53) F (by omega) dX0_isBetter_37 (by decide) (fun cc_4 => ?_) (fun cc_4 => ?_)
    · refine lv_iload_n F.1 F.2.1 dX0_isBetter_53 rfl (lv_at hl 0 rfl) ?_
      refine ad_if_le (tgt := 61) F (by omega) dX0_isBetter_54 (by decide) (fun cc_5 => ?_) (fun cc_5 => ?_)
      · refine ad_iconst F dX0_isBetter_61 ?_
        exact ad_zreturn F G hR rfl (Nat.le_of_ble_eq_true rfl) (Nat.le_of_ble_eq_true rfl) rfl (Or.inr (⟨rfl, (by unfold btr; omega), rfl⟩)) dX0_isBetter_62
      · refine ad_iconst F dX0_isBetter_57 ?_
        refine lv_goto (tgt := 62) F.1 F.2.1 dX0_isBetter_58 (by decide) ?_
        exact ad_zreturn F G hR rfl (Nat.le_of_ble_eq_true rfl) (Nat.le_of_ble_eq_true rfl) rfl (Or.inl ⟨rfl, (by unfold btr; omega), rfl⟩) dX0_isBetter_62
    · refine lv_iload_n F.1 F.2.1 dX0_isBetter_40 rfl (lv_at hl 2 rfl) ?_
      refine lv_iload_n F.1 F.2.1 dX0_isBetter_41 rfl (lv_at hl 3 rfl) ?_
      refine ad_icmp_ge (tgt := 49) F (by omega) dX0_isBetter_42 (by decide) (fun cc_6 => ?_) (fun cc_6 => ?_)
      · refine ad_iconst F dX0_isBetter_49 ?_
        refine lv_goto (tgt := 62) F.1 F.2.1 dX0_isBetter_50 (by decide) ?_
        exact ad_zreturn F G hR rfl (Nat.le_of_ble_eq_true rfl) (Nat.le_of_ble_eq_true rfl) rfl (Or.inr (⟨rfl, (by unfold btr; omega), rfl⟩)) dX0_isBetter_62
      · refine ad_iconst F dX0_isBetter_45 ?_
        refine lv_goto (tgt := 62) F.1 F.2.1 dX0_isBetter_46 (by decide) ?_
        exact ad_zreturn F G hR rfl (Nat.le_of_ble_eq_true rfl) (Nat.le_of_ble_eq_true rfl) rfl (Or.inl ⟨rfl, (by unfold btr; omega), rfl⟩) dX0_isBetter_62
  · refine lv_aload_n F.1 F.2.1 dX0_isBetter_16 rfl (lv_at hl 1 rfl) ?_
    refine lv_iload_n F.1 F.2.1 dX0_isBetter_17 rfl (lv_at hl 2 rfl) ?_
    refine ad_iconst F dX0_isBetter_18 ?_
    refine ad_callV (As := [.int (iI x), .int (iI 1)]) (rest := []) F G (c_X0_formOf l D K z0 h0 ak ap ac ash alo apc aps apl lc gk gp gc gs gl rs np md th nc x 1 hB hW (by omega) (by omega)) my_X0_formOf mv_X0_96 (wr := [(ap, aI (K 0) 24 gp)]) (isC := [0, 2, 3]) (isR := [1]) ⟨rfl, rfl, rfl, rfl, by decide⟩ 0 0 rfl rfl rfl rfl ⟨Nat.le_of_ble_eq_true rfl, Nat.le_of_ble_eq_true rfl⟩ ⟨Nat.le_of_ble_eq_true rfl, Nat.le_of_ble_eq_true rfl⟩ (Nat.le_of_ble_eq_true rfl) hl.1 (cells9 := 0) (slots9 := 0) ⟨rfl, rfl⟩ dX0_isBetter_19 (fun v u H locs hw_7 G => ?_)
    obtain ⟨rfl, rfl⟩ := hw_7
    replace G := G.perm (ws' := [(h0, .inr (0, [.ref ak, .ref ap, .ref ac, .ref ash, .ref alo, .int (iI (rs.length : Int)), .ref apc, .ref aps, .ref apl, .int (iI np), .int (iI md), .int (iI th), va_rf lc, .int (iI nc)])), (ap, aI (K 0) 24 gp), (ash, aJ (K 1) 24 gs), (alo, aJ (K 1) 24 gl)]) [1, 0, 2, 3] rfl rfl
    refine W.eq (g2 := F0 m9 22 ls [.long (enc (fmo (rget rs x) 1))]) rfl ?_
    refine ad_callS (As := [.long (enc (fmo (rget rs x) 1))]) (rest := []) F G (c_X2_lengthOf l D K z0 (fmo (rget rs x) 1) (fmo_Fw hW _ _)) my_X2_lengthOf ms_X0_100 (wr := [(h0, .inr (0, [.ref ak, .ref ap, .ref ac, .ref ash, .ref alo, .int (iI (rs.length : Int)), .ref apc, .ref aps, .ref apl, .int (iI np), .int (iI md), .int (iI th), va_rf lc, .int (iI nc)])), (ap, aI (K 0) 24 gp), (ash, aJ (K 1) 24 gs), (alo, aJ (K 1) 24 gl)]) (isC := []) (isR := [0, 1, 2, 3]) ⟨rfl, rfl, rfl, rfl, by decide⟩ rfl rfl ⟨Nat.le_of_ble_eq_true rfl, Nat.le_of_ble_eq_true rfl⟩ ⟨Nat.le_of_ble_eq_true rfl, Nat.le_of_ble_eq_true rfl⟩ (Nat.le_of_ble_eq_true rfl) hl.1 (cells9 := 0) (slots9 := 0) ⟨rfl, rfl⟩ dX0_isBetter_22 (fun v u H locs hw_8 G => ?_)
    obtain ⟨rfl, rfl⟩ := hw_8
    replace G := G.perm (ws' := [(h0, .inr (0, [.ref ak, .ref ap, .ref ac, .ref ash, .ref alo, .int (iI (rs.length : Int)), .ref apc, .ref aps, .ref apl, .int (iI np), .int (iI md), .int (iI th), va_rf lc, .int (iI nc)])), (ap, aI (K 0) 24 gp), (ash, aJ (K 1) 24 gs), (alo, aJ (K 1) 24 gl)]) [0, 1, 2, 3] rfl rfl
    refine W.eq (g2 := F0 m9 25 ls [.int (iI ((fmo (rget rs x) 1).length : Int))]) rfl ?_
    refine ad_topi (y := ((rget rs x).2.2.2.2.length : Int)) rfl ?_
    refine lv_aload_n F.1 F.2.1 dX0_isBetter_25 rfl (lv_at hl 1 rfl) ?_
    refine lv_iload_n F.1 F.2.1 dX0_isBetter_26 rfl (lv_at hl 3 rfl) ?_
    refine ad_iconst F dX0_isBetter_27 ?_
    refine ad_callV (As := [.int (iI y), .int (iI 1)]) (rest := [.int (iI ((rget rs x).2.2.2.2.length : Int))]) F G (c_X0_formOf l D K z0 h0 ak ap ac ash alo apc aps apl lc gk gp gc gs gl rs np md th nc y 1 hB hW (by omega) (by omega)) my_X0_formOf mv_X0_96 (wr := [(ap, aI (K 0) 24 gp)]) (isC := [0, 2, 3]) (isR := [1]) ⟨rfl, rfl, rfl, rfl, by decide⟩ 0 0 rfl rfl rfl rfl ⟨Nat.le_of_ble_eq_true rfl, Nat.le_of_ble_eq_true rfl⟩ ⟨Nat.le_of_ble_eq_true rfl, Nat.le_of_ble_eq_true rfl⟩ (Nat.le_of_ble_eq_true rfl) hl.1 (cells9 := 0) (slots9 := 0) ⟨rfl, rfl⟩ dX0_isBetter_28 (fun v u H locs hw_9 G => ?_)
    obtain ⟨rfl, rfl⟩ := hw_9
    replace G := G.perm (ws' := [(h0, .inr (0, [.ref ak, .ref ap, .ref ac, .ref ash, .ref alo, .int (iI (rs.length : Int)), .ref apc, .ref aps, .ref apl, .int (iI np), .int (iI md), .int (iI th), va_rf lc, .int (iI nc)])), (ap, aI (K 0) 24 gp), (ash, aJ (K 1) 24 gs), (alo, aJ (K 1) 24 gl)]) [1, 0, 2, 3] rfl rfl
    refine W.eq (g2 := F0 m9 31 ls [.long (enc (fmo (rget rs y) 1)), .int (iI ((rget rs x).2.2.2.2.length : Int))]) rfl ?_
    refine ad_callS (As := [.long (enc (fmo (rget rs y) 1))]) (rest := [.int (iI ((rget rs x).2.2.2.2.length : Int))]) F G (c_X2_lengthOf l D K z0 (fmo (rget rs y) 1) (fmo_Fw hW _ _)) my_X2_lengthOf ms_X0_100 (wr := [(h0, .inr (0, [.ref ak, .ref ap, .ref ac, .ref ash, .ref alo, .int (iI (rs.length : Int)), .ref apc, .ref aps, .ref apl, .int (iI np), .int (iI md), .int (iI th), va_rf lc, .int (iI nc)])), (ap, aI (K 0) 24 gp), (ash, aJ (K 1) 24 gs), (alo, aJ (K 1) 24 gl)]) (isC := []) (isR := [0, 1, 2, 3]) ⟨rfl, rfl, rfl, rfl, by decide⟩ rfl rfl ⟨Nat.le_of_ble_eq_true rfl, Nat.le_of_ble_eq_true rfl⟩ ⟨Nat.le_of_ble_eq_true rfl, Nat.le_of_ble_eq_true rfl⟩ (Nat.le_of_ble_eq_true rfl) hl.1 (cells9 := 0) (slots9 := 0) ⟨rfl, rfl⟩ dX0_isBetter_31 (fun v u H locs hw_10 G => ?_)
    obtain ⟨rfl, rfl⟩ := hw_10
    replace G := G.perm (ws' := [(h0, .inr (0, [.ref ak, .ref ap, .ref ac, .ref ash, .ref alo, .int (iI (rs.length : Int)), .ref apc, .ref aps, .ref apl, .int (iI np), .int (iI md), .int (iI th), va_rf lc, .int (iI nc)])), (ap, aI (K 0) 24 gp), (ash, aJ (K 1) 24 gs), (alo, aJ (K 1) 24 gl)]) [0, 1, 2, 3] rfl rfl
    refine W.eq (g2 := F0 m9 34 ls [.int (iI ((fmo (rget rs y) 1).length : Int)), .int (iI ((rget rs x).2.2.2.2.length : Int))]) rfl ?_
    refine ad_topi (y := ((rget rs y).2.2.2.2.length : Int)) rfl ?_
    refine ad_isub F dX0_isBetter_34 ?_
    refine lv_istore_n (lv' := [(3, .int (iI (((rget rs x).2.2.2.2.length : Int) - ((rget rs y).2.2.2.2.length : Int)))), (0, .ref h0), (1, .int (iI x)), (2, .int (iI y))]) F.1 F.2.1 dX0_isBetter_35 rfl hl (by decide) rfl (fun ls hl => ?_)
    refine lv_iload_n F.1 F.2.1 dX0_isBetter_36 rfl (lv_at hl 0 rfl) ?_
    refine ad_if_ne (tgt := 53) F (by omega) dX0_isBetter_37 (by decide) (fun cc_11 => ?_) (fun cc_11 => ?_)
    · refine lv_iload_n F.1 F.2.1 dX0_isBetter_53 rfl (lv_at hl 0 rfl) ?_
      refine ad_if_le (tgt := 61) F (by omega) dX0_isBetter_54 (by decide) (fun cc_12 => ?_) (fun cc_12 => ?_)
      · refine ad_iconst F dX0_isBetter_61 ?_
        exact ad_zreturn F G hR rfl (Nat.le_of_ble_eq_true rfl) (Nat.le_of_ble_eq_true rfl) rfl (Or.inr (⟨rfl, (by unfold btr; omega), rfl⟩)) dX0_isBetter_62
      · refine ad_iconst F dX0_isBetter_57 ?_
        refine lv_goto (tgt := 62) F.1 F.2.1 dX0_isBetter_58 (by decide) ?_
        exact ad_zreturn F G hR rfl (Nat.le_of_ble_eq_true rfl) (Nat.le_of_ble_eq_true rfl) rfl (Or.inl ⟨rfl, (by unfold btr; omega), rfl⟩) dX0_isBetter_62
    · refine lv_iload_n F.1 F.2.1 dX0_isBetter_40 rfl (lv_at hl 2 rfl) ?_
      refine lv_iload_n F.1 F.2.1 dX0_isBetter_41 rfl (lv_at hl 3 rfl) ?_
      refine ad_icmp_ge (tgt := 49) F (by omega) dX0_isBetter_42 (by decide) (fun cc_13 => ?_) (fun cc_13 => ?_)
      · refine ad_iconst F dX0_isBetter_49 ?_
        refine lv_goto (tgt := 62) F.1 F.2.1 dX0_isBetter_50 (by decide) ?_
        exact ad_zreturn F G hR rfl (Nat.le_of_ble_eq_true rfl) (Nat.le_of_ble_eq_true rfl) rfl (Or.inr (⟨rfl, (by unfold btr; omega), rfl⟩)) dX0_isBetter_62
      · refine ad_iconst F dX0_isBetter_45 ?_
        refine lv_goto (tgt := 62) F.1 F.2.1 dX0_isBetter_46 (by decide) ?_
        exact ad_zreturn F G hR rfl (Nat.le_of_ble_eq_true rfl) (Nat.le_of_ble_eq_true rfl) rfl (Or.inl ⟨rfl, (by unfold btr; omega), rfl⟩) dX0_isBetter_62
