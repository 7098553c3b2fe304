def rm_X0_insertRule : Room := { frames := 1, cells := 0, slots := 0, locals := 12 }
set_option maxHeartbeats 4000000 in
set_option maxRecDepth 100000 in
theorem c_X0_insertRule (l : Launch) (D : va_G) (K : Nat → ClassId) (z0 : Nat) (h0 : Nat) (ak : Nat) (ap : Nat) (ac : Nat) (ash : Nat) (alo : Nat) (apc : Nat) (aps : Nat) (apl : Nat) (lc : Option Nat) (gk : Nat → Int) (gp : Nat → Int) (gc : Nat → Int) (gs : Nat → Int64) (gl : Nat → Int64) (rs : List Rl) (np : Int) (md : Int) (th : Int) (nc : Int) (k : Int) (p : Int) (c : Int) (u : List Int) (v : List Int) (hB : BRep gk gp gc gs gl rs) (hW : RW rs) (hr : RO (k, p, c, u, v)) : CT l D K z0 yX0_insertRule cX0_insertRule 8 none rm_X0_insertRule [.ref h0, .int (iI k), .int (iI p), .int (iI c), .long (enc u), .long (enc v)] [(h0, .inr (0, [.ref ak, .ref ap, .ref ac, .ref ash, .ref alo, .int (iI (rs.length : Int)), .ref apc, .ref aps, .ref apl, .int (iI np), .int (iI md), .int (iI th), va_rf lc, .int (iI nc)])), (ak, aI (K 0) 24 gk), (ap, aI (K 0) 24 gp), (ac, aI (K 0) 24 gc), (ash, aJ (K 1) 24 gs), (alo, aJ (K 1) 24 gl)] (fun v9 u9 => ∃ (gk2 : Nat → Int), ∃ (gp2 : Nat → Int), ∃ (gc2 : Nat → Int), ∃ (gs2 : Nat → Int64), ∃ (gl2 : Nat → Int64), ∃ (rs2 : List Rl), v9 = none ∧ (rs2 = (if rs.length < 24 then rs ++ [(k, p, c, u, v)] else rs)) ∧ (BRep gk2 gp2 gc2 gs2 gl2 rs2) ∧ u9 = [(h0, .inr (0, [.ref ak, .ref ap, .ref ac, .ref ash, .ref alo, .int (iI (rs2.length : Int)), .ref apc, .ref aps, .ref apl, .int (iI np), .int (iI md), .int (iI th), va_rf lc, .int (iI nc)])), (ak, aI (K 0) 24 gk2), (ap, aI (K 0) 24 gp2), (ac, aI (K 0) 24 gc2), (ash, aJ (K 1) 24 gs2), (alo, aJ (K 1) 24 gl2)]) := by
  refine CT.start RX0 "insertRule" (by decide) rfl rfl (Nat.le_of_ble_eq_true rfl) ?_
  intro p9 e9 s9 m9 ag9 bl9 mt9 c9 A9 Q9 ls F G hR hl
  have hl : lv_has ls 8 [(0, .ref h0), (1, .int (iI k)), (2, .int (iI p)), (3, .int (iI c)), (4, .long (enc u)), (6, .long (enc v))] := hl
  have hn := hW.1
  refine lv_aload_n F.1 F.2.1 dX0_insertRule_0 rfl (lv_at hl 0 rfl) ?_
  refine ad_get F G fl_X0_44 0 rfl rfl dX0_insertRule_1 ?_
  refine ad_bipush F dX0_insertRule_4 (by decide) ?_
  refine ad_icmp_ge (tgt := 71) F (by omega) dX0_insertRule_6 (by decide) (fun cc_1 => ?_) (fun cc_1 => ?_)
  · exact ad_vreturn F G hR rfl (Nat.le_of_ble_eq_true rfl) (Nat.le_of_ble_eq_true rfl) ⟨gk, gp, gc, gs, gl, rs, rfl, (by rw [if_neg (by omega)]), hB, rfl⟩ dX0_insertRule_71
  · refine lv_aload_n F.1 F.2.1 dX0_insertRule_9 rfl (lv_at hl 0 rfl) ?_
    refine ad_get F G fl_X0_9 0 rfl rfl dX0_insertRule_10 ?_
    refine lv_aload_n F.1 F.2.1 dX0_insertRule_13 rfl (lv_at hl 0 rfl) ?_
    refine ad_get F G fl_X0_44 0 rfl rfl dX0_insertRule_14 ?_
    refine lv_iload_n F.1 F.2.1 dX0_insertRule_17 rfl (lv_at hl 1 rfl) ?_
    refine ad_iast F G 1 rfl (by omega) (ws' := [(h0, .inr (0, [.ref ak, .ref ap, .ref ac, .ref ash, .ref alo, .int (iI (rs.length : Int)), .ref apc, .ref aps, .ref apl, .int (iI np), .int (iI md), .int (iI th), va_rf lc, .int (iI nc)])), (ak, aI (K 0) 24 (va_up gk (rs.length : Int).toNat k)), (ap, aI (K 0) 24 gp), (ac, aI (K 0) 24 gc), (ash, aJ (K 1) 24 gs), (alo, aJ (K 1) 24 gl)]) rfl dX0_insertRule_18 (fun H locs G => ?_)
    refine lv_aload_n F.1 F.2.1 dX0_insertRule_19 rfl (lv_at hl 0 rfl) ?_
    refine ad_get F G fl_X0_15 0 rfl rfl dX0_insertRule_20 ?_
    refine lv_aload_n F.1 F.2.1 dX0_insertRule_23 rfl (lv_at hl 0 rfl) ?_
    refine ad_get F G fl_X0_44 0 rfl rfl dX0_insertRule_24 ?_
    refine lv_iload_n F.1 F.2.1 dX0_insertRule_27 rfl (lv_at hl 2 rfl) ?_
    refine ad_iast F G 2 rfl (by omega) (ws' := [(h0, .inr (0, [.ref ak, .ref ap, .ref ac, .ref ash, .ref alo, .int (iI (rs.length : Int)), .ref apc, .ref aps, .ref apl, .int (iI np), .int (iI md), .int (iI th), va_rf lc, .int (iI nc)])), (ak, aI (K 0) 24 (va_up gk (rs.length : Int).toNat k)), (ap, aI (K 0) 24 (va_up gp (rs.length : Int).toNat p)), (ac, aI (K 0) 24 gc), (ash, aJ (K 1) 24 gs), (alo, aJ (K 1) 24 gl)]) rfl dX0_insertRule_28 (fun H locs G => ?_)
    refine lv_aload_n F.1 F.2.1 dX0_insertRule_29 rfl (lv_at hl 0 rfl) ?_
    refine ad_get F G fl_X0_18 0 rfl rfl dX0_insertRule_30 ?_
    refine lv_aload_n F.1 F.2.1 dX0_insertRule_33 rfl (lv_at hl 0 rfl) ?_
    refine ad_get F G fl_X0_44 0 rfl rfl dX0_insertRule_34 ?_
    refine lv_iload_n F.1 F.2.1 dX0_insertRule_37 rfl (lv_at hl 3 rfl) ?_
    refine ad_iast F G 3 rfl (by omega) (ws' := [(h0, .inr (0, [.ref ak, .ref ap, .ref ac, .ref ash, .ref alo, .int (iI (rs.length : Int)), .ref apc, .ref aps, .ref apl, .int (iI np), .int (iI md), .int (iI th), va_rf lc, .int (iI nc)])), (ak, aI (K 0) 24 (va_up gk (rs.length : Int).toNat k)), (ap, aI (K 0) 24 (va_up gp (rs.length : Int).toNat p)), (ac, aI (K 0) 24 (va_up gc (rs.length : Int).toNat c)), (ash, aJ (K 1) 24 gs), (alo, aJ (K 1) 24 gl)]) rfl dX0_insertRule_38 (fun H locs G => ?_)
    refine lv_aload_n F.1 F.2.1 dX0_insertRule_39 rfl (lv_at hl 0 rfl) ?_
    refine ad_get F G fl_X0_21 0 rfl rfl dX0_insertRule_40 ?_
    refine lv_aload_n F.1 F.2.1 dX0_insertRule_43 rfl (lv_at hl 0 rfl) ?_
    refine ad_get F G fl_X0_44 0 rfl rfl dX0_insertRule_44 ?_
    refine lv_lload F.1 F.2.1 dX0_insertRule_47 (lv_at hl 4 rfl) ?_
    refine ad_last F G 4 rfl (by omega) (ws' := [(h0, .inr (0, [.ref ak, .ref ap, .ref ac, .ref ash, .ref alo, .int (iI (rs.length : Int)), .ref apc, .ref aps, .ref apl, .int (iI np), .int (iI md), .int (iI th), va_rf lc, .int (iI nc)])), (ak, aI (K 0) 24 (va_up gk (rs.length : Int).toNat k)), (ap, aI (K 0) 24 (va_up gp (rs.length : Int).toNat p)), (ac, aI (K 0) 24 (va_up gc (rs.length : Int).toNat c)), (ash, aJ (K 1) 24 (va_up gs (rs.length : Int).toNat (enc u))), (alo, aJ (K 1) 24 gl)]) rfl dX0_insertRule_49 (fun H locs G => ?_)
    refine lv_aload_n F.1 F.2.1 dX0_insertRule_50 rfl (lv_at hl 0 rfl) ?_
    refine ad_get F G fl_X0_25 0 rfl rfl dX0_insertRule_51 ?_
    refine lv_aload_n F.1 F.2.1 dX0_insertRule_54 rfl (lv_at hl 0 rfl) ?_
    refine ad_get F G fl_X0_44 0 rfl rfl dX0_insertRule_55 ?_
    refine lv_lload F.1 F.2.1 dX0_insertRule_58 (lv_at hl 5 rfl) ?_
    refine ad_last F G 5 rfl (by omega) (ws' := [(h0, .inr (0, [.ref ak, .ref ap, .ref ac, .ref ash, .ref alo, .int (iI (rs.length : Int)), .ref apc, .ref aps, .ref apl, .int (iI np), .int (iI md), .int (iI th), va_rf lc, .int (iI nc)])), (ak, aI (K 0) 24 (va_up gk (rs.length : Int).toNat k)), (ap, aI (K 0) 24 (va_up gp (rs.length : Int).toNat p)), (ac, aI (K 0) 24 (va_up gc (rs.length : Int).toNat c)), (ash, aJ (K 1) 24 (va_up gs (rs.length : Int).toNat (enc u))), (alo, aJ (K 1) 24 (va_up gl (rs.length : Int).toNat (enc v)))]) rfl dX0_insertRule_60 (fun H locs G => ?_)
    refine lv_aload_n F.1 F.2.1 dX0_insertRule_61 rfl (lv_at hl 0 rfl) ?_
    refine lv_dup F.1 F.2.1 dX0_insertRule_62 rfl ?_
    refine ad_get F G fl_X0_44 0 rfl rfl dX0_insertRule_63 ?_
    refine ad_iconst F dX0_insertRule_66 ?_
    refine ad_iadd F dX0_insertRule_67 ?_
    refine ad_topi (y := ((rs ++ [(k, p, c, u, v)]).length : Int)) (by simp) ?_
    refine ad_put F G fl_X0_44 0 rfl rfl rfl (Nat.le_of_ble_eq_true rfl) (ws' := [(h0, .inr (0, [.ref ak, .ref ap, .ref ac, .ref ash, .ref alo, .int (iI ((rs ++ [(k, p, c, u, v)]).length : Int)), .ref apc, .ref aps, .ref apl, .int (iI np), .int (iI md), .int (iI th), va_rf lc, .int (iI nc)])), (ak, aI (K 0) 24 (va_up gk (rs.length : Int).toNat k)), (ap, aI (K 0) 24 (va_up gp (rs.length : Int).toNat p)), (ac, aI (K 0) 24 (va_up gc (rs.length : Int).toNat c)), (ash, aJ (K 1) 24 (va_up gs (rs.length : Int).toNat (enc u))), (alo, aJ (K 1) 24 (va_up gl (rs.length : Int).toNat (enc v)))]) rfl dX0_insertRule_68 (fun H locs G => ?_)
    exact ad_vreturn F G hR rfl (Nat.le_of_ble_eq_true rfl) (Nat.le_of_ble_eq_true rfl) ⟨va_up gk (rs.length : Int).toNat k, va_up gp (rs.length : Int).toNat p, va_up gc (rs.length : Int).toNat c, va_up gs (rs.length : Int).toNat (enc u), va_up gl (rs.length : Int).toNat (enc v), rs ++ [(k, p, c, u, v)], rfl, (by rw [if_pos (by omega)]), (BRep_push hB k p c u v), rfl⟩ dX0_insertRule_71

def rm_X0_dropRule : Room := { frames := 1, cells := 0, slots := 0, locals := 12 }
set_option maxHeartbeats 4000000 in
set_option maxRecDepth 100000 in
theorem c_X0_dropRule (l : Launch) (D : va_G) (K : Nat → ClassId) (z0 : Nat) (h0 : Nat) (ak : Nat) (ap : Nat) (ac : Nat) (ash : Nat) (alo : Nat) (apc : Nat) (aps : Nat) (apl : Nat) (lc : Option Nat) (gk : Nat → Int) (gp : Nat → Int) (gc : Nat → Int) (gs : Nat → Int64) (gl : Nat → Int64) (rs : List Rl) (np : Int) (md : Int) (th : Int) (nc : Int) (z : Int) (hB : BRep gk gp gc gs gl rs) (hW : RW rs) (hz : 0 ≤ z ∧ z < rs.length) : CT l D K z0 yX0_dropRule cX0_dropRule 3 none rm_X0_dropRule [.ref h0, .int (iI z)] [(h0, .inr (0, [.ref ak, .ref ap, .ref ac, .ref ash, .ref alo, .int (iI (rs.length : Int)), .ref apc, .ref aps, .ref apl, .int (iI np), .int (iI md), .int (iI th), va_rf lc, .int (iI nc)])), (ak, aI (K 0) 24 gk), (ap, aI (K 0) 24 gp), (ac, aI (K 0) 24 gc), (ash, aJ (K 1) 24 gs), (alo, aJ (K 1) 24 gl)] (fun v9 u9 => ∃ (gk2 : Nat → Int), ∃ (gp2 : Nat → Int), ∃ (gc2 : Nat → Int), ∃ (gs2 : Nat → Int64), ∃ (gl2 : Nat → Int64), ∃ (rs2 : List Rl), v9 = none ∧ (rs2 = rs.eraseIdx z.toNat) ∧ (BRep gk2 gp2 gc2 gs2 gl2 rs2) ∧ u9 = [(h0, .inr (0, [.ref ak, .ref ap, .ref ac, .ref ash, .ref alo, .int (iI (rs2.length : Int)), .ref apc, .ref aps, .ref apl, .int (iI np), .int (iI md), .int (iI th), va_rf lc, .int (iI nc)])), (ak, aI (K 0) 24 gk2), (ap, aI (K 0) 24 gp2), (ac, aI (K 0) 24 gc2), (ash, aJ (K 1) 24 gs2), (alo, aJ (K 1) 24 gl2)]) := by
  refine CT.start RX0 "dropRule" (by decide) rfl rfl (Nat.le_of_ble_eq_true rfl) ?_
  intro p9 e9 s9 m9 ag9 bl9 mt9 c9 A9 Q9 ls F G hR hl
  have hl : lv_has ls 3 [(0, .ref h0), (1, .int (iI z))] := hl
  have hn := hW.1
  have hel : ((rs.eraseIdx z.toNat).length : Int) = rs.length - 1 := by rw [List.length_eraseIdx, if_pos (by omega)]; omega
  refine lv_iload_n F.1 F.2.1 dX0_dropRule_0 rfl (lv_at hl 1 rfl) ?_
  refine ad_if_lt (tgt := 12) F (by omega) dX0_dropRule_1 (by decide) (fun cc_1 => ?_) (fun cc_1 => ?_)
  · exact absurd cc_1 (by omega)
  · refine lv_iload_n F.1 F.2.1 dX0_dropRule_4 rfl (lv_at hl 1 rfl) ?_
    refine lv_aload_n F.1 F.2.1 dX0_dropRule_5 rfl (lv_at hl 0 rfl) ?_
    refine ad_get F G fl_X0_44 0 rfl rfl dX0_dropRule_6 ?_
    refine ad_icmp_lt (tgt := 13) F (by omega) dX0_dropRule_9 (by decide) (fun cc_2 => ?_) (fun cc_2 => ?_)
    · refine lv_aload_n F.1 F.2.1 dX0_dropRule_13 rfl (lv_at hl 0 rfl) ?_
      refine lv_dup F.1 F.2.1 dX0_dropRule_14 rfl ?_
      refine ad_get F G fl_X0_44 0 rfl rfl dX0_dropRule_15 ?_
      refine ad_iconst F dX0_dropRule_18 ?_
      refine ad_isub F dX0_dropRule_19 ?_
      refine ad_topi (y := ((rs.eraseIdx z.toNat).length : Int)) (by omega) ?_
      refine ad_put F G fl_X0_44 0 rfl rfl rfl (Nat.le_of_ble_eq_true rfl) (ws' := [(h0, .inr (0, [.ref ak, .ref ap, .ref ac, .ref ash, .ref alo, .int (iI ((rs.eraseIdx z.toNat).length : Int)), .ref apc, .ref aps, .ref apl, .int (iI np), .int (iI md), .int (iI th), va_rf lc, .int (iI nc)])), (ak, aI (K 0) 24 gk), (ap, aI (K 0) 24 gp), (ac, aI (K 0) 24 gc), (ash, aJ (K 1) 24 gs), (alo, aJ (K 1) 24 gl)]) rfl dX0_dropRule_20 (fun H locs G => ?_)
      refine lv_iload_n F.1 F.2.1 dX0_dropRule_23 rfl (lv_at hl 1 rfl) ?_
      refine lv_istore_n (lv' := [(2, .int (iI z)), (0, .ref h0), (1, .int (iI z))]) F.1 F.2.1 dX0_dropRule_24 rfl hl (by decide) rfl (fun ls hl => ?_)
      have lp25 : ∀ (n25 : Nat) (i : Int) (k1 : Nat → Int) (p1 : Nat → Int) (c1 : Nat → Int) (t1 : Nat → Int64) (l1 : Nat → Int64) (H : Heap) (locs : List Loc) (ls : Array Slot), (z ≤ i ∧ i ≤ ((rs.eraseIdx z.toNat).length : Int)) → (Shf gk k1 z i) → (Shf gp p1 z i) → (Shf gc c1 z i) → (Shf gs t1 z i) → (Shf gl l1 z i) → (((rs.eraseIdx z.toNat).length : Int) - i) < (n25 : Int) → ad_G D A9 s9.heap H locs [(h0, .inr (0, [.ref ak, .ref ap, .ref ac, .ref ash, .ref alo, .int (iI ((rs.eraseIdx z.toNat).length : Int)), .ref apc, .ref aps, .ref apl, .int (iI np), .int (iI md), .int (iI th), va_rf lc, .int (iI nc)])), (ak, aI (K 0) 24 k1), (ap, aI (K 0) 24 p1), (ac, aI (K 0) 24 c1), (ash, aJ (K 1) 24 t1), (alo, aJ (K 1) 24 l1)] → lv_has ls 3 [(0, .ref h0), (1, .int (iI z)), (2, .int (iI i))] → W p9 l e9 rm_X0_dropRule s9 m9 ag9 bl9 mt9 c9 H locs 0 0 Q9 (F0 m9 25 ls []) := by
        intro n25
        induction n25 with
        | zero =>
          intro i k1 p1 c1 t1 l1 H locs ls hi s1 s2 s3 s4 s5 hm25
          exact absurd hm25 (by omega)
        | succ n25 ih25 =>
          intro i k1 p1 c1 t1 l1 H locs ls hi s1 s2 s3 s4 s5 hm25 G hl
          refine lv_iload_n F.1 F.2.1 dX0_dropRule_25 rfl (lv_at hl 2 rfl) ?_
          refine lv_aload_n F.1 F.2.1 dX0_dropRule_26 rfl (lv_at hl 0 rfl) ?_
          refine ad_get F G fl_X0_44 0 rfl rfl dX0_dropRule_27 ?_
          refine ad_icmp_ge (tgt := 109) F (by omega) dX0_dropRule_30 (by decide) (fun cc_3 => ?_) (fun cc_3 => ?_)
          · exact ad_vreturn F G hR rfl (Nat.le_of_ble_eq_true rfl) (Nat.le_of_ble_eq_true rfl) ⟨k1, p1, c1, t1, l1, rs.eraseIdx z.toNat, rfl, rfl, (BRep_erase hB hz.1 hz.2 (by omega) s1 s2 s3 s4 s5), rfl⟩ dX0_dropRule_109
          · refine lv_aload_n F.1 F.2.1 dX0_dropRule_33 rfl (lv_at hl 0 rfl) ?_
            refine ad_get F G fl_X0_9 0 rfl rfl dX0_dropRule_34 ?_
            refine lv_iload_n F.1 F.2.1 dX0_dropRule_37 rfl (lv_at hl 2 rfl) ?_
            refine lv_aload_n F.1 F.2.1 dX0_dropRule_38 rfl (lv_at hl 0 rfl) ?_
            refine ad_get F G fl_X0_9 0 rfl rfl dX0_dropRule_39 ?_
            refine lv_iload_n F.1 F.2.1 dX0_dropRule_42 rfl (lv_at hl 2 rfl) ?_
            refine ad_iconst F dX0_dropRule_43 ?_
            refine ad_iadd F dX0_dropRule_44 ?_
            refine ad_iald F G 1 rfl (w := k1 (i + 1).toNat) (by omega) rfl dX0_dropRule_45 ?_
            refine ad_iast F G 1 rfl (by omega) (ws' := [(h0, .inr (0, [.ref ak, .ref ap, .ref ac, .ref ash, .ref alo, .int (iI ((rs.eraseIdx z.toNat).length : Int)), .ref apc, .ref aps, .ref apl, .int (iI np), .int (iI md), .int (iI th), va_rf lc, .int (iI nc)])), (ak, aI (K 0) 24 (va_up k1 i.toNat (k1 (i + 1).toNat))), (ap, aI (K 0) 24 p1), (ac, aI (K 0) 24 c1), (ash, aJ (K 1) 24 t1), (alo, aJ (K 1) 24 l1)]) rfl dX0_dropRule_46 (fun H locs G => ?_)
            refine lv_aload_n F.1 F.2.1 dX0_dropRule_47 rfl (lv_at hl 0 rfl) ?_
            refine ad_get F G fl_X0_15 0 rfl rfl dX0_dropRule_48 ?_
            refine lv_iload_n F.1 F.2.1 dX0_dropRule_51 rfl (lv_at hl 2 rfl) ?_
            refine lv_aload_n F.1 F.2.1 dX0_dropRule_52 rfl (lv_at hl 0 rfl) ?_
            refine ad_get F G fl_X0_15 0 rfl rfl dX0_dropRule_53 ?_
            refine lv_iload_n F.1 F.2.1 dX0_dropRule_56 rfl (lv_at hl 2 rfl) ?_
            refine ad_iconst F dX0_dropRule_57 ?_
            refine ad_iadd F dX0_dropRule_58 ?_
            refine ad_iald F G 2 rfl (w := p1 (i + 1).toNat) (by omega) rfl dX0_dropRule_59 ?_
            refine ad_iast F G 2 rfl (by omega) (ws' := [(h0, .inr (0, [.ref ak, .ref ap, .ref ac, .ref ash, .ref alo, .int (iI ((rs.eraseIdx z.toNat).length : Int)), .ref apc, .ref aps, .ref apl, .int (iI np), .int (iI md), .int (iI th), va_rf lc, .int (iI nc)])), (ak, aI (K 0) 24 (va_up k1 i.toNat (k1 (i + 1).toNat))), (ap, aI (K 0) 24 (va_up p1 i.toNat (p1 (i + 1).toNat))), (ac, aI (K 0) 24 c1), (ash, aJ (K 1) 24 t1), (alo, aJ (K 1) 24 l1)]) rfl dX0_dropRule_60 (fun H locs G => ?_)
            refine lv_aload_n F.1 F.2.1 dX0_dropRule_61 rfl (lv_at hl 0 rfl) ?_
            refine ad_get F G fl_X0_18 0 rfl rfl dX0_dropRule_62 ?_
            refine lv_iload_n F.1 F.2.1 dX0_dropRule_65 rfl (lv_at hl 2 rfl) ?_
            refine lv_aload_n F.1 F.2.1 dX0_dropRule_66 rfl (lv_at hl 0 rfl) ?_
            refine ad_get F G fl_X0_18 0 rfl rfl dX0_dropRule_67 ?_
            refine lv_iload_n F.1 F.2.1 dX0_dropRule_70 rfl (lv_at hl 2 rfl) ?_
            refine ad_iconst F dX0_dropRule_71 ?_
            refine ad_iadd F dX0_dropRule_72 ?_
            refine ad_iald F G 3 rfl (w := c1 (i + 1).toNat) (by omega) rfl dX0_dropRule_73 ?_
            refine ad_iast F G 3 rfl (by omega) (ws' := [(h0, .inr (0, [.ref ak, .ref ap, .ref ac, .ref ash, .ref alo, .int (iI ((rs.eraseIdx z.toNat).length : Int)), .ref apc, .ref aps, .ref apl, .int (iI np), .int (iI md), .int (iI th), va_rf lc, .int (iI nc)])), (ak, aI (K 0) 24 (va_up k1 i.toNat (k1 (i + 1).toNat))), (ap, aI (K 0) 24 (va_up p1 i.toNat (p1 (i + 1).toNat))), (ac, aI (K 0) 24 (va_up c1 i.toNat (c1 (i + 1).toNat))), (ash, aJ (K 1) 24 t1), (alo, aJ (K 1) 24 l1)]) rfl dX0_dropRule_74 (fun H locs G => ?_)
            refine lv_aload_n F.1 F.2.1 dX0_dropRule_75 rfl (lv_at hl 0 rfl) ?_
            refine ad_get F G fl_X0_21 0 rfl rfl dX0_dropRule_76 ?_
            refine lv_iload_n F.1 F.2.1 dX0_dropRule_79 rfl (lv_at hl 2 rfl) ?_
            refine lv_aload_n F.1 F.2.1 dX0_dropRule_80 rfl (lv_at hl 0 rfl) ?_
            refine ad_get F G fl_X0_21 0 rfl rfl dX0_dropRule_81 ?_
            refine lv_iload_n F.1 F.2.1 dX0_dropRule_84 rfl (lv_at hl 2 rfl) ?_
            refine ad_iconst F dX0_dropRule_85 ?_
            refine ad_iadd F dX0_dropRule_86 ?_
            refine ad_lald F G 4 rfl (w := t1 (i + 1).toNat) (by omega) rfl dX0_dropRule_87 ?_
            refine ad_last F G 4 rfl (by omega) (ws' := [(h0, .inr (0, [.ref ak, .ref ap, .ref ac, .ref ash, .ref alo, .int (iI ((rs.eraseIdx z.toNat).length : Int)), .ref apc, .ref aps, .ref apl, .int (iI np), .int (iI md), .int (iI th), va_rf lc, .int (iI nc)])), (ak, aI (K 0) 24 (va_up k1 i.toNat (k1 (i + 1).toNat))), (ap, aI (K 0) 24 (va_up p1 i.toNat (p1 (i + 1).toNat))), (ac, aI (K 0) 24 (va_up c1 i.toNat (c1 (i + 1).toNat))), (ash, aJ (K 1) 24 (va_up t1 i.toNat (t1 (i + 1).toNat))), (alo, aJ (K 1) 24 l1)]) rfl dX0_dropRule_88 (fun H locs G => ?_)
            refine lv_aload_n F.1 F.2.1 dX0_dropRule_89 rfl (lv_at hl 0 rfl) ?_
            refine ad_get F G fl_X0_25 0 rfl rfl dX0_dropRule_90 ?_
            refine lv_iload_n F.1 F.2.1 dX0_dropRule_93 rfl (lv_at hl 2 rfl) ?_
            refine lv_aload_n F.1 F.2.1 dX0_dropRule_94 rfl (lv_at hl 0 rfl) ?_
            refine ad_get F G fl_X0_25 0 rfl rfl dX0_dropRule_95 ?_
            refine lv_iload_n F.1 F.2.1 dX0_dropRule_98 rfl (lv_at hl 2 rfl) ?_
            refine ad_iconst F dX0_dropRule_99 ?_
            refine ad_iadd F dX0_dropRule_100 ?_
            refine ad_lald F G 5 rfl (w := l1 (i + 1).toNat) (by omega) rfl dX0_dropRule_101 ?_
            refine ad_last F G 5 rfl (by omega) (ws' := [(h0, .inr (0, [.ref ak, .ref ap, .ref ac, .ref ash, .ref alo, .int (iI ((rs.eraseIdx z.toNat).length : Int)), .ref apc, .ref aps, .ref apl, .int (iI np), .int (iI md), .int (iI th), va_rf lc, .int (iI nc)])), (ak, aI (K 0) 24 (va_up k1 i.toNat (k1 (i + 1).toNat))), (ap, aI (K 0) 24 (va_up p1 i.toNat (p1 (i + 1).toNat))), (ac, aI (K 0) 24 (va_up c1 i.toNat (c1 (i + 1).toNat))), (ash, aJ (K 1) 24 (va_up t1 i.toNat (t1 (i + 1).toNat))), (alo, aJ (K 1) 24 (va_up l1 i.toNat (l1 (i + 1).toNat)))]) rfl dX0_dropRule_102 (fun H locs G => ?_)
            refine ad_iinc (lv' := [(2, .int (iI (i + 1))), (0, .ref h0), (1, .int (iI z))]) F dX0_dropRule_103 hl (k := 2) rfl (by decide) rfl (fun ls hl => ?_)
            refine lv_goto (tgt := 25) F.1 F.2.1 dX0_dropRule_106 (by decide) ?_
            exact ih25 (i + 1) (va_up k1 i.toNat (k1 (i + 1).toNat)) (va_up p1 i.toNat (p1 (i + 1).toNat)) (va_up c1 i.toNat (c1 (i + 1).toNat)) (va_up t1 i.toNat (t1 (i + 1).toNat)) (va_up l1 i.toNat (l1 (i + 1).toNat)) _ _ _ (by omega) (Shf_s s1 hz.1 hi.1) (Shf_s s2 hz.1 hi.1) (Shf_s s3 hz.1 hi.1) (Shf_s s4 hz.1 hi.1) (Shf_s s5 hz.1 hi.1) (by omega) (G.perm (ws' := [(h0, .inr (0, [.ref ak, .ref ap, .ref ac, .ref ash, .ref alo, .int (iI ((rs.eraseIdx z.toNat).length : Int)), .ref apc, .ref aps, .ref apl, .int (iI np), .int (iI md), .int (iI th), va_rf lc, .int (iI nc)])), (ak, aI (K 0) 24 (va_up k1 i.toNat (k1 (i + 1).toNat))), (ap, aI (K 0) 24 (va_up p1 i.toNat (p1 (i + 1).toNat))), (ac, aI (K 0) 24 (va_up c1 i.toNat (c1 (i + 1).toNat))), (ash, aJ (K 1) 24 (va_up t1 i.toNat (t1 (i + 1).toNat))), (alo, aJ (K 1) 24 (va_up l1 i.toNat (l1 (i + 1).toNat)))]) [0, 1, 2, 3, 4, 5] rfl rfl) (lv_sub hl [1, 2, 0] rfl)
      exact lp25 ((((((rs.eraseIdx z.toNat).length : Int) - z : Int)) + 1).toNat) z gk gp gc gs gl _ _ _ (by omega) Shf_0 Shf_0 Shf_0 Shf_0 Shf_0 (by omega) (G.perm (ws' := [(h0, .inr (0, [.ref ak, .ref ap, .ref ac, .ref ash, .ref alo, .int (iI ((rs.eraseIdx z.toNat).length : Int)), .ref apc, .ref aps, .ref apl, .int (iI np), .int (iI md), .int (iI th), va_rf lc, .int (iI nc)])), (ak, aI (K 0) 24 gk), (ap, aI (K 0) 24 gp), (ac, aI (K 0) 24 gc), (ash, aJ (K 1) 24 gs), (alo, aJ (K 1) 24 gl)]) [0, 1, 2, 3, 4, 5] rfl rfl) (lv_sub hl [1, 2, 0] rfl)
    · exact absurd cc_2 (by omega)

def rm_X0_changePriority : Room := { frames := 1, cells := 0, slots := 0, locals := 12 }
set_option maxHeartbeats 4000000 in
set_option maxRecDepth 100000 in
theorem c_X0_changePriority (l : Launch) (D : va_G) (K : Nat → ClassId) (z0 : Nat) (h0 : Nat) (ak : Nat) (ap : Nat) (ac : Nat) (ash : Nat) (alo : Nat) (apc : Nat) (aps : Nat) (apl : Nat) (lc : Option Nat) (gk : Nat → Int) (gp : Nat → Int) (gc : Nat → Int) (gs : Nat → Int64) (gl : Nat → Int64) (rs : List Rl) (np : Int) (md : Int) (th : Int) (nc : Int) (z : Int) (v : Int) (hB : BRep gk gp gc gs gl rs) (hW : RW rs) (hz : 0 ≤ z ∧ z < rs.length) : CT l D K z0 yX0_changePriority cX0_changePriority 3 none rm_X0_changePriority [.ref h0, .int (iI z), .int (iI v)] [(h0, .inr (0, [.ref ak, .ref ap, .ref ac, .ref ash, .ref alo, .int (iI (rs.length : Int)), .ref apc, .ref aps, .ref apl, .int (iI np), .int (iI md), .int (iI th), va_rf lc, .int (iI nc)])), (ap, aI (K 0) 24 gp)] (fun v9 u9 => ∃ (gp2 : Nat → Int), v9 = none ∧ (BRep gk gp2 gc gs gl (rsetp rs z v)) ∧ u9 = [(h0, .inr (0, [.ref ak, .ref ap, .ref ac, .ref ash, .ref alo, .int (iI (rs.length : Int)), .ref apc, .ref aps, .ref apl, .int (iI np), .int (iI md), .int (iI th), va_rf lc, .int (iI nc)])), (ap, aI (K 0) 24 gp2)]) := by
  refine CT.start RX0 "changePriority" (by decide) rfl rfl (Nat.le_of_ble_eq_true rfl) ?_
  intro p9 e9 s9 m9 ag9 bl9 mt9 c9 A9 Q9 ls F G hR hl
  have hl : lv_has ls 3 [(0, .ref h0), (1, .int (iI z)), (2, .int (iI v))] := hl
  have hn := hW.1
  refine lv_iload_n F.1 F.2.1 dX0_changePriority_0 rfl (lv_at hl 1 rfl) ?_
  refine ad_if_lt (tgt := 19) F (by omega) dX0_changePriority_1 (by decide) (fun cc_1 => ?_) (fun cc_1 => ?_)
  · exact absurd cc_1 (by omega)
  · refine lv_iload_n F.1 F.2.1 dX0_changePriority_4 rfl (lv_at hl 1 rfl) ?_
    refine lv_aload_n F.1 F.2.1 dX0_changePriority_5 rfl (lv_at hl 0 rfl) ?_
    refine ad_get F G fl_X0_44 0 rfl rfl dX0_changePriority_6 ?_
    refine ad_icmp_ge (tgt := 19) F (by omega) dX0_changePriority_9 (by decide) (fun cc_2 => ?_) (fun cc_2 => ?_)
    · exact absurd cc_2 (by omega)
    · refine lv_aload_n F.1 F.2.1 dX0_changePriority_12 rfl (lv_at hl 0 rfl) ?_
      refine ad_get F G fl_X0_15 0 rfl rfl dX0_changePriority_13 ?_
      refine lv_iload_n F.1 F.2.1 dX0_changePriority_16 rfl (lv_at hl 1 rfl) ?_
      refine lv_iload_n F.1 F.2.1 dX0_changePriority_17 rfl (lv_at hl 2 rfl) ?_
      refine ad_iast F G 1 rfl (by omega) (ws' := [(h0, .inr (0, [.ref ak, .ref ap, .ref ac, .ref ash, .ref alo, .int (iI (rs.length : Int)), .ref apc, .ref aps, .ref apl, .int (iI np), .int (iI md), .int (iI th), va_rf lc, .int (iI nc)])), (ap, aI (K 0) 24 (va_up gp z.toNat v))]) rfl dX0_changePriority_18 (fun H locs G => ?_)
      exact ad_vreturn F G hR rfl (Nat.le_of_ble_eq_true rfl) (Nat.le_of_ble_eq_true rfl) ⟨va_up gp z.toNat v, rfl, (BRep_setp hB hz.1 hz.2), rfl⟩ dX0_changePriority_19

def rm_X0_changeContext : Room := { frames := 1, cells := 0, slots := 0, locals := 12 }
set_option maxHeartbeats 4000000 in
set_option maxRecDepth 100000 in
theorem c_X0_changeContext (l : Launch) (D : va_G) (K : Nat → ClassId) (z0 : Nat) (h0 : Nat) (ak : Nat) (ap : Nat) (ac : Nat) (ash : Nat) (alo : Nat) (apc : Nat) (aps : Nat) (apl : Nat) (lc : Option Nat) (gk : Nat → Int) (gp : Nat → Int) (gc : Nat → Int) (gs : Nat → Int64) (gl : Nat → Int64) (rs : List Rl) (np : Int) (md : Int) (th : Int) (nc : Int) (z : Int) (v : Int) (hB : BRep gk gp gc gs gl rs) (hW : RW rs) (hz : 0 ≤ z ∧ z < rs.length) : CT l D K z0 yX0_changeContext cX0_changeContext 3 none rm_X0_changeContext [.ref h0, .int (iI z), .int (iI v)] [(h0, .inr (0, [.ref ak, .ref ap, .ref ac, .ref ash, .ref alo, .int (iI (rs.length : Int)), .ref apc, .ref aps, .ref apl, .int (iI np), .int (iI md), .int (iI th), va_rf lc, .int (iI nc)])), (ac, aI (K 0) 24 gc)] (fun v9 u9 => ∃ (gc2 : Nat → Int), v9 = none ∧ (BRep gk gp gc2 gs gl (rsetc rs z v)) ∧ u9 = [(h0, .inr (0, [.ref ak, .ref ap, .ref ac, .ref ash, .ref alo, .int (iI (rs.length : Int)), .ref apc, .ref aps, .ref apl, .int (iI np), .int (iI md), .int (iI th), va_rf lc, .int (iI nc)])), (ac, aI (K 0) 24 gc2)]) := by
  refine CT.start RX0 "changeContext" (by decide) rfl rfl (Nat.le_of_ble_eq_true rfl) ?_
  intro p9 e9 s9 m9 ag9 bl9 mt9 c9 A9 Q9 ls F G hR hl
  have hl : lv_has ls 3 [(0, .ref h0), (1, .int (iI z)), (2, .int (iI v))] := hl
  have hn := hW.1
  refine lv_iload_n F.1 F.2.1 dX0_changeContext_0 rfl (lv_at hl 1 rfl) ?_
  refine ad_if_lt (tgt := 19) F (by omega) dX0_changeContext_1 (by decide) (fun cc_1 => ?_) (fun cc_1 => ?_)
  · exact absurd cc_1 (by omega)
  · refine lv_iload_n F.1 F.2.1 dX0_changeContext_4 rfl (lv_at hl 1 rfl) ?_
    refine lv_aload_n F.1 F.2.1 dX0_changeContext_5 rfl (lv_at hl 0 rfl) ?_
    refine ad_get F G fl_X0_44 0 rfl rfl dX0_changeContext_6 ?_
    refine ad_icmp_ge (tgt := 19) F (by omega) dX0_changeContext_9 (by decide) (fun cc_2 => ?_) (fun cc_2 => ?_)
    · exact absurd cc_2 (by omega)
    · refine lv_aload_n F.1 F.2.1 dX0_changeContext_12 rfl (lv_at hl 0 rfl) ?_
      refine ad_get F G fl_X0_18 0 rfl rfl dX0_changeContext_13 ?_
      refine lv_iload_n F.1 F.2.1 dX0_changeContext_16 rfl (lv_at hl 1 rfl) ?_
      refine lv_iload_n F.1 F.2.1 dX0_changeContext_17 rfl (lv_at hl 2 rfl) ?_
      refine ad_iast F G 1 rfl (by omega) (ws' := [(h0, .inr (0, [.ref ak, .ref ap, .ref ac, .ref ash, .ref alo, .int (iI (rs.length : Int)), .ref apc, .ref aps, .ref apl, .int (iI np), .int (iI md), .int (iI th), va_rf lc, .int (iI nc)])), (ac, aI (K 0) 24 (va_up gc z.toNat v))]) rfl dX0_changeContext_18 (fun H locs G => ?_)
      exact ad_vreturn F G hR rfl (Nat.le_of_ble_eq_true rfl) (Nat.le_of_ble_eq_true rfl) ⟨va_up gc z.toNat v, rfl, (BRep_setc hB hz.1 hz.2), rfl⟩ dX0_changeContext_19

def rm_X0_note : Room := { frames := 1, cells := 0, slots := 0, locals := 12 }
set_option maxHeartbeats 4000000 in
set_option maxRecDepth 100000 in
theorem c_X0_note (l : Launch) (D : va_G) (K : Nat → ClassId) (z0 : Nat) (h0 : Nat) (ak : Nat) (ap : Nat) (ac : Nat) (ash : Nat) (alo : Nat) (apc : Nat) (aps : Nat) (apl : Nat) (lc : Option Nat) (n : Int) (np : Int) (md : Int) (th : Int) (nc : Int) (cq : Nat) (hc : 0 ≤ nc ∧ nc < 512) : CT l D K z0 yX0_note cX0_note 2 none rm_X0_note [.ref h0, .ref cq] [(h0, .inr (0, [.ref ak, .ref ap, .ref ac, .ref ash, .ref alo, .int (iI n), .ref apc, .ref aps, .ref apl, .int (iI np), .int (iI md), .int (iI th), va_rf lc, .int (iI nc)]))] (fun v9 u9 => v9 = none ∧ u9 = [(h0, .inr (0, [.ref ak, .ref ap, .ref ac, .ref ash, .ref alo, .int (iI n), .ref apc, .ref aps, .ref apl, .int (iI np), .int (iI md), .int (iI th), va_rf (some cq), .int (iI (nc + 1))]))]) := by
  refine CT.start RX0 "note" (by decide) rfl rfl (Nat.le_of_ble_eq_true rfl) ?_
  intro p9 e9 s9 m9 ag9 bl9 mt9 c9 A9 Q9 ls F G hR hl
  have hl : lv_has ls 2 [(0, .ref h0), (1, .ref cq)] := hl
  refine lv_aload_n F.1 F.2.1 dX0_note_0 rfl (lv_at hl 0 rfl) ?_
  refine ad_get F G fl_X0_54 0 rfl rfl dX0_note_1 ?_
  refine ad_sipush F dX0_note_4 (by decide) ?_
  refine ad_icmp_ge (tgt := 25) F (by omega) dX0_note_7 (by decide) (fun cc_1 => ?_) (fun cc_1 => ?_)
  · exact absurd cc_1 (by omega)
  · refine lv_aload_n F.1 F.2.1 dX0_note_10 rfl (lv_at hl 0 rfl) ?_
    refine lv_aload_n F.1 F.2.1 dX0_note_11 rfl (lv_at hl 1 rfl) ?_
    refine ad_put F G fl_X0_50 0 rfl rfl rfl (Nat.le_of_ble_eq_true rfl) (ws' := [(h0, .inr (0, [.ref ak, .ref ap, .ref ac, .ref ash, .ref alo, .int (iI n), .ref apc, .ref aps, .ref apl, .int (iI np), .int (iI md), .int (iI th), .ref cq, .int (iI nc)]))]) rfl dX0_note_12 (fun H locs G => ?_)
    refine lv_aload_n F.1 F.2.1 dX0_note_15 rfl (lv_at hl 0 rfl) ?_
    refine lv_dup F.1 F.2.1 dX0_note_16 rfl ?_
    refine ad_get F G fl_X0_54 0 rfl rfl dX0_note_17 ?_
    refine ad_iconst F dX0_note_20 ?_
    refine ad_iadd F dX0_note_21 ?_
    refine ad_put F G fl_X0_54 0 rfl rfl rfl (Nat.le_of_ble_eq_true rfl) (ws' := [(h0, .inr (0, [.ref ak, .ref ap, .ref ac, .ref ash, .ref alo, .int (iI n), .ref apc, .ref aps, .ref apl, .int (iI np), .int (iI md), .int (iI th), .ref cq, .int (iI (nc + 1))]))]) rfl dX0_note_22 (fun H locs G => ?_)
    exact ad_vreturn F G hR rfl (Nat.le_of_ble_eq_true rfl) (Nat.le_of_ble_eq_true rfl) ⟨rfl, rfl⟩ dX0_note_25

def rm_X0_startAgain : Room := { frames := 1, cells := 0, slots := 0, locals := 12 }
set_option maxHeartbeats 4000000 in
set_option maxRecDepth 100000 in
theorem c_X0_startAgain (l : Launch) (D : va_G) (K : Nat → ClassId) (z0 : Nat) (h0 : Nat) (ak : Nat) (ap : Nat) (ac : Nat) (ash : Nat) (alo : Nat) (apc : Nat) (aps : Nat) (apl : Nat) (lc : Option Nat) (n : Int) (np : Int) (md : Int) (th : Int) (nc : Int) : CT l D K z0 yX0_startAgain cX0_startAgain 1 none rm_X0_startAgain [.ref h0] [(h0, .inr (0, [.ref ak, .ref ap, .ref ac, .ref ash, .ref alo, .int (iI n), .ref apc, .ref aps, .ref apl, .int (iI np), .int (iI md), .int (iI th), va_rf lc, .int (iI nc)]))] (fun v9 u9 => v9 = none ∧ u9 = [(h0, .inr (0, [.ref ak, .ref ap, .ref ac, .ref ash, .ref alo, .int (iI 0), .ref apc, .ref aps, .ref apl, .int (iI 0), .int (iI 1), .int (iI 2), va_rf none, .int (iI 0)]))]) := by
  refine CT.start RX0 "startAgain" (by decide) rfl rfl (Nat.le_of_ble_eq_true rfl) ?_
  intro p9 e9 s9 m9 ag9 bl9 mt9 c9 A9 Q9 ls F G hR hl
  have hl : lv_has ls 1 [(0, .ref h0)] := hl
  refine lv_aload_n F.1 F.2.1 dX0_startAgain_0 rfl (lv_at hl 0 rfl) ?_
  refine ad_iconst F dX0_startAgain_1 ?_
  refine ad_put F G fl_X0_44 0 rfl rfl rfl (Nat.le_of_ble_eq_true rfl) (ws' := [(h0, .inr (0, [.ref ak, .ref ap, .ref ac, .ref ash, .ref alo, .int (iI 0), .ref apc, .ref aps, .ref apl, .int (iI np), .int (iI md), .int (iI th), va_rf lc, .int (iI nc)]))]) rfl dX0_startAgain_2 (fun H locs G => ?_)
  refine lv_aload_n F.1 F.2.1 dX0_startAgain_5 rfl (lv_at hl 0 rfl) ?_
  refine ad_iconst F dX0_startAgain_6 ?_
  refine ad_put F G fl_X0_47 0 rfl rfl rfl (Nat.le_of_ble_eq_true rfl) (ws' := [(h0, .inr (0, [.ref ak, .ref ap, .ref ac, .ref ash, .ref alo, .int (iI 0), .ref apc, .ref aps, .ref apl, .int (iI 0), .int (iI md), .int (iI th), va_rf lc, .int (iI nc)]))]) rfl dX0_startAgain_7 (fun H locs G => ?_)
  refine lv_aload_n F.1 F.2.1 dX0_startAgain_10 rfl (lv_at hl 0 rfl) ?_
  refine ad_iconst F dX0_startAgain_11 ?_
  refine ad_put F G fl_X0_37 0 rfl rfl rfl (Nat.le_of_ble_eq_true rfl) (ws' := [(h0, .inr (0, [.ref ak, .ref ap, .ref ac, .ref ash, .ref alo, .int (iI 0), .ref apc, .ref aps, .ref apl, .int (iI 0), .int (iI 1), .int (iI th), va_rf lc, .int (iI nc)]))]) rfl dX0_startAgain_12 (fun H locs G => ?_)
  refine lv_aload_n F.1 F.2.1 dX0_startAgain_15 rfl (lv_at hl 0 rfl) ?_
  refine ad_iconst F dX0_startAgain_16 ?_
  refine ad_put F G fl_X0_41 0 rfl rfl rfl (Nat.le_of_ble_eq_true rfl) (ws' := [(h0, .inr (0, [.ref ak, .ref ap, .ref ac, .ref ash, .ref alo, .int (iI 0), .ref apc, .ref aps, .ref apl, .int (iI 0), .int (iI 1), .int (iI 2), va_rf lc, .int (iI nc)]))]) rfl dX0_startAgain_17 (fun H locs G => ?_)
  refine lv_aload_n F.1 F.2.1 dX0_startAgain_20 rfl (lv_at hl 0 rfl) ?_
  refine lv_null F.1 F.2.1 dX0_startAgain_21 ?_
  refine ad_put F G fl_X0_50 0 rfl rfl rfl (Nat.le_of_ble_eq_true rfl) (ws' := [(h0, .inr (0, [.ref ak, .ref ap, .ref ac, .ref ash, .ref alo, .int (iI 0), .ref apc, .ref aps, .ref apl, .int (iI 0), .int (iI 1), .int (iI 2), .null, .int (iI nc)]))]) rfl dX0_startAgain_22 (fun H locs G => ?_)
  refine lv_aload_n F.1 F.2.1 dX0_startAgain_25 rfl (lv_at hl 0 rfl) ?_
  refine ad_iconst F dX0_startAgain_26 ?_
  refine ad_put F G fl_X0_54 0 rfl rfl rfl (Nat.le_of_ble_eq_true rfl) (ws' := [(h0, .inr (0, [.ref ak, .ref ap, .ref ac, .ref ash, .ref alo, .int (iI 0), .ref apc, .ref aps, .ref apl, .int (iI 0), .int (iI 1), .int (iI 2), .null, .int (iI 0)]))]) rfl dX0_startAgain_27 (fun H locs G => ?_)
  exact ad_vreturn F G hR rfl (Nat.le_of_ble_eq_true rfl) (Nat.le_of_ble_eq_true rfl) ⟨rfl, rfl⟩ dX0_startAgain_30

def rm_X0_pairWith : Room := { frames := 1, cells := 0, slots := 0, locals := 12 }
set_option maxHeartbeats 4000000 in
set_option maxRecDepth 100000 in
theorem c_X0_pairWith (l : Launch) (D : va_G) (K : Nat → ClassId) (z0 : Nat) (h0 : Nat) (ak : Nat) (ap : Nat) (ac : Nat) (ash : Nat) (alo : Nat) (apc : Nat) (aps : Nat) (apl : Nat) (lc : Option Nat) (n : Int) (gn : Nat → Int) (gq : Nat → Int64) (gr : Nat → Int64) (ps : List Pr) (md : Int) (th : Int) (nc : Int) (u : List Int) (v : List Int) (B : Int) (hP : PRep gn gq gr ps) (hV : PW ps B) (hu : Fw u) (hv : Fw v) : CT l D K z0 yX0_pairWith cX0_pairWith 6 (some .int) rm_X0_pairWith [.ref h0, .long (enc u), .long (enc v)] [(h0, .inr (0, [.ref ak, .ref ap, .ref ac, .ref ash, .ref alo, .int (iI n), .ref apc, .ref aps, .ref apl, .int (iI (ps.length : Int)), .int (iI md), .int (iI th), va_rf lc, .int (iI nc)])), (aps, aJ (K 1) 30 gq), (apl, aJ (K 1) 30 gr)] (fun v9 u9 => v9 = some (.int (iI (pfi ps u v))) ∧ u9 = [(h0, .inr (0, [.ref ak, .ref ap, .ref ac, .ref ash, .ref alo, .int (iI n), .ref apc, .ref aps, .ref apl, .int (iI (ps.length : Int)), .int (iI md), .int (iI th), va_rf lc, .int (iI nc)])), (aps, aJ (K 1) 30 gq), (apl, aJ (K 1) 30 gr)]) := by
  refine CT.start RX0 "pairWith" (by decide) rfl rfl (Nat.le_of_ble_eq_true rfl) ?_
  intro p9 e9 s9 m9 ag9 bl9 mt9 c9 A9 Q9 ls F G hR hl
  have hl : lv_has ls 6 [(0, .ref h0), (1, .long (enc u)), (3, .long (enc v))] := hl
  have hn := hV.1
  refine ad_iconst F dX0_pairWith_0 ?_
  refine lv_istore (lv' := [(5, .int (iI 0)), (0, .ref h0), (1, .long (enc u)), (3, .long (enc v))]) F.1 F.2.1 dX0_pairWith_1 hl (by decide) rfl (fun ls hl => ?_)
  have lp3 : ∀ (n3 : Nat) (i : Int) (H : Heap) (locs : List Loc) (ls : Array Slot), (0 ≤ i ∧ i ≤ ps.length) → (∀ j : Int, 0 ≤ j → j < i → ¬ pm ps u v j) → (ps.length - i) < (n3 : Int) → ad_G D A9 s9.heap H locs [(h0, .inr (0, [.ref ak, .ref ap, .ref ac, .ref ash, .ref alo, .int (iI n), .ref apc, .ref aps, .ref apl, .int (iI (ps.length : Int)), .int (iI md), .int (iI th), va_rf lc, .int (iI nc)])), (aps, aJ (K 1) 30 gq), (apl, aJ (K 1) 30 gr)] → lv_has ls 6 [(0, .ref h0), (1, .long (enc u)), (3, .long (enc v)), (5, .int (iI i))] → W p9 l e9 rm_X0_pairWith s9 m9 ag9 bl9 mt9 c9 H locs 0 0 Q9 (F0 m9 3 ls []) := by
    intro n3
    induction n3 with
    | zero =>
      intro i H locs ls hi hno hm3
      exact absurd hm3 (by omega)
    | succ n3 ih3 =>
      intro i H locs ls hi hno hm3 G hl
      refine lv_iload F.1 F.2.1 dX0_pairWith_3 (lv_at hl 3 rfl) ?_
      refine lv_aload_n F.1 F.2.1 dX0_pairWith_5 rfl (lv_at hl 0 rfl) ?_
      refine ad_get F G fl_X0_47 0 rfl rfl dX0_pairWith_6 ?_
      refine ad_icmp_ge (tgt := 45) F (by omega) dX0_pairWith_9 (by decide) (fun cc_1 => ?_) (fun cc_1 => ?_)
      · refine lv_aload_n F.1 F.2.1 dX0_pairWith_45 rfl (lv_at hl 0 rfl) ?_
        refine ad_get F G fl_X0_47 0 rfl rfl dX0_pairWith_46 ?_
        exact ad_ireturn F G hR rfl (Nat.le_of_ble_eq_true rfl) (Nat.le_of_ble_eq_true rfl) ⟨(ad_eqi (pfi_no (fun j h1 h2 => hno j h1 (by omega))).symm), rfl⟩ dX0_pairWith_49
      · refine lv_aload_n F.1 F.2.1 dX0_pairWith_12 rfl (lv_at hl 0 rfl) ?_
        refine ad_get F G fl_X0_31 0 rfl rfl dX0_pairWith_13 ?_
        refine lv_iload F.1 F.2.1 dX0_pairWith_16 (lv_at hl 3 rfl) ?_
        refine ad_lald F G 1 rfl (w := enc (pget ps i).2.1) (by omega) (hP i (by omega) (by omega)).2.1 dX0_pairWith_18 ?_
        refine lv_lload_n F.1 F.2.1 dX0_pairWith_19 rfl (lv_at hl 1 rfl) ?_
        refine ad_lcmp_ne (tgt := 39) F dX0_pairWith_20 dX0_pairWith_21 (by decide) (fun cc_2 => ?_) (fun cc_2 => ?_)
        · refine ad_iinc (lv' := [(5, .int (iI (i + 1))), (0, .ref h0), (1, .long (enc u)), (3, .long (enc v))]) F dX0_pairWith_39 hl (k := 3) rfl (by decide) rfl (fun ls hl => ?_)
          refine lv_goto (tgt := 3) F.1 F.2.1 dX0_pairWith_42 (by decide) ?_
          exact ih3 (i + 1) _ _ _ (by omega) (fun j h1 h2 => (show j = i ∨ j < i by omega).elim (fun h => by rw [h]; exact (fun q => cc_2 (congrArg enc q.1))) (fun h => hno j h1 h)) (by omega) (G.perm (ws' := [(h0, .inr (0, [.ref ak, .ref ap, .ref ac, .ref ash, .ref alo, .int (iI n), .ref apc, .ref aps, .ref apl, .int (iI (ps.length : Int)), .int (iI md), .int (iI th), va_rf lc, .int (iI nc)])), (aps, aJ (K 1) 30 gq), (apl, aJ (K 1) 30 gr)]) [0, 1, 2] rfl rfl) (lv_sub hl [1, 2, 3, 0] rfl)
        · refine lv_aload_n F.1 F.2.1 dX0_pairWith_24 rfl (lv_at hl 0 rfl) ?_
          refine ad_get F G fl_X0_34 0 rfl rfl dX0_pairWith_25 ?_
          refine lv_iload F.1 F.2.1 dX0_pairWith_28 (lv_at hl 3 rfl) ?_
          refine ad_lald F G 2 rfl (w := enc (pget ps i).2.2) (by omega) (hP i (by omega) (by omega)).2.2 dX0_pairWith_30 ?_
          refine lv_lload_n F.1 F.2.1 dX0_pairWith_31 rfl (lv_at hl 2 rfl) ?_
          refine ad_lcmp_ne (tgt := 39) F dX0_pairWith_32 dX0_pairWith_33 (by decide) (fun cc_3 => ?_) (fun cc_3 => ?_)
          · refine ad_iinc (lv' := [(5, .int (iI (i + 1))), (0, .ref h0), (1, .long (enc u)), (3, .long (enc v))]) F dX0_pairWith_39 hl (k := 3) rfl (by decide) rfl (fun ls hl => ?_)
            refine lv_goto (tgt := 3) F.1 F.2.1 dX0_pairWith_42 (by decide) ?_
            exact ih3 (i + 1) _ _ _ (by omega) (fun j h1 h2 => (show j = i ∨ j < i by omega).elim (fun h => by rw [h]; exact (fun q => cc_3 (congrArg enc q.2))) (fun h => hno j h1 h)) (by omega) (G.perm (ws' := [(h0, .inr (0, [.ref ak, .ref ap, .ref ac, .ref ash, .ref alo, .int (iI n), .ref apc, .ref aps, .ref apl, .int (iI (ps.length : Int)), .int (iI md), .int (iI th), va_rf lc, .int (iI nc)])), (aps, aJ (K 1) 30 gq), (apl, aJ (K 1) 30 gr)]) [0, 1, 2] rfl rfl) (lv_sub hl [1, 2, 3, 0] rfl)
          · refine lv_iload F.1 F.2.1 dX0_pairWith_36 (lv_at hl 3 rfl) ?_
            exact ad_ireturn F G hR rfl (Nat.le_of_ble_eq_true rfl) (Nat.le_of_ble_eq_true rfl) ⟨(ad_eqi (pfi_at (by omega) (by omega) ⟨(enc_inj (hV.at (by omega) (by omega)).2.2.1 hu).mp cc_2, (enc_inj (hV.at (by omega) (by omega)).2.2.2.1 hv).mp cc_3⟩ hno).symm), rfl⟩ dX0_pairWith_38
  exact lp3 ((((ps.length - 0 : Int)) + 1).toNat) 0 _ _ _ (by omega) (fun j h1 h2 => by omega) (by omega) (G.perm (ws' := [(h0, .inr (0, [.ref ak, .ref ap, .ref ac, .ref ash, .ref alo, .int (iI n), .ref apc, .ref aps, .ref apl, .int (iI (ps.length : Int)), .int (iI md), .int (iI th), va_rf lc, .int (iI nc)])), (aps, aJ (K 1) 30 gq), (apl, aJ (K 1) 30 gr)]) [0, 1, 2] rfl rfl) (lv_sub hl [1, 2, 3, 0] rfl)

def rm_X0_learnForms : Room := { frames := 2, cells := 0, slots := 0, locals := 39 }
set_option maxHeartbeats 4000000 in
set_option maxRecDepth 100000 in
theorem c_X0_learnForms (l : Launch) (D : va_G) (K : Nat → ClassId) (z0 : Nat) (h0 : Nat) (ak : Nat) (ap : Nat) (ac : Nat) (ash : Nat) (alo : Nat) (apc : Nat) (aps : Nat) (apl : Nat) (lc : Option Nat) (gk : Nat → Int) (gp : Nat → Int) (gc : Nat → Int) (gs : Nat → Int64) (gl : Nat → Int64) (rs : List Rl) (gn : Nat → Int) (gq : Nat → Int64) (gr : Nat → Int64) (ps : List Pr) (md : Int) (th : Int) (nc : Int) (u : List Int) (v : List Int) (B : Int) (hB : BRep gk gp gc gs gl rs) (hW : RW rs) (hP : PRep gn gq gr ps) (hV : PW ps B) (hf : PF u v) (ht : 1 ≤ th ∧ th ≤ 9) (hBB : 0 ≤ B ∧ B + 1 ≤ 1000000) : CT l D K z0 yX0_learnForms cX0_learnForms 6 none rm_X0_learnForms [.ref h0, .long (enc u), .long (enc v)] [(h0, .inr (0, [.ref ak, .ref ap, .ref ac, .ref ash, .ref alo, .int (iI (rs.length : Int)), .ref apc, .ref aps, .ref apl, .int (iI (ps.length : Int)), .int (iI md), .int (iI th), va_rf lc, .int (iI nc)])), (ak, aI (K 0) 24 gk), (ap, aI (K 0) 24 gp), (ac, aI (K 0) 24 gc), (ash, aJ (K 1) 24 gs), (alo, aJ (K 1) 24 gl), (apc, aI (K 0) 30 gn), (aps, aJ (K 1) 30 gq), (apl, aJ (K 1) 30 gr)] (fun v9 u9 => ∃ (gk2 : Nat → Int), ∃ (gp2 : Nat → Int), ∃ (gc2 : Nat → Int), ∃ (gs2 : Nat → Int64), ∃ (gl2 : Nat → Int64), ∃ (rs2 : List Rl), ∃ (gn2 : Nat → Int), ∃ (gq2 : Nat → Int64), ∃ (gr2 : Nat → Int64), ∃ (ps2 : List Pr), v9 = none ∧ (rs2 = lrnR rs ps th u v) ∧ (ps2 = lrnP ps u v) ∧ (BRep gk2 gp2 gc2 gs2 gl2 rs2) ∧ (PRep gn2 gq2 gr2 ps2) ∧ u9 = [(h0, .inr (0, [.ref ak, .ref ap, .ref ac, .ref ash, .ref alo, .int (iI (rs2.length : Int)), .ref apc, .ref aps, .ref apl, .int (iI (ps2.length : Int)), .int (iI md), .int (iI th), va_rf lc, .int (iI nc)])), (ak, aI (K 0) 24 gk2), (ap, aI (K 0) 24 gp2), (ac, aI (K 0) 24 gc2), (ash, aJ (K 1) 24 gs2), (alo, aJ (K 1) 24 gl2), (apc, aI (K 0) 30 gn2), (aps, aJ (K 1) 30 gq2), (apl, aJ (K 1) 30 gr2)]) := by
  refine CT.start RX0 "learnForms" (by decide) rfl rfl (Nat.le_of_ble_eq_true rfl) ?_
  intro p9 e9 s9 m9 ag9 bl9 mt9 c9 A9 Q9 ls F G hR hl
  have hl : lv_has ls 6 [(0, .ref h0), (1, .long (enc u)), (3, .long (enc v))] := hl
  have hn := hW.1
  have hpn := hV.1
  have hpb := pfi_b ps u v
  have hlc := lcn_b hV hBB.1 u v
  have hli := lps_in hV (u := u) (v := v)
  have hwb := wfi_b rs u v
  refine lv_aload_n F.1 F.2.1 dX0_learnForms_0 rfl (lv_at hl 0 rfl) ?_
  refine lv_lload_n F.1 F.2.1 dX0_learnForms_1 rfl (lv_at hl 1 rfl) ?_
  refine lv_lload_n F.1 F.2.1 dX0_learnForms_2 rfl (lv_at hl 2 rfl) ?_
  refine ad_callV (As := [.long (enc u), .long (enc v)]) (rest := []) F G (c_X0_pairWith l D K z0 h0 ak ap ac ash alo apc aps apl lc (rs.length : Int) gn gq gr ps md th nc u v B hP hV hf.1 hf.2.1) my_X0_pairWith mv_X0_135 (wr := [(ak, aI (K 0) 24 gk), (ap, aI (K 0) 24 gp), (ac, aI (K 0) 24 gc), (ash, aJ (K 1) 24 gs), (alo, aJ (K 1) 24 gl), (apc, aI (K 0) 30 gn)]) (isC := [0, 7, 8]) (isR := [1, 2, 3, 4, 5, 6]) ⟨rfl, rfl, rfl, rfl, by decide⟩ 0 0 rfl rfl rfl rfl ⟨Nat.le_of_ble_eq_true rfl, Nat.le_of_ble_eq_true rfl⟩ ⟨Nat.le_of_ble_eq_true rfl, Nat.le_of_ble_eq_true rfl⟩ (Nat.le_of_ble_eq_true rfl) hl.1 (cells9 := 0) (slots9 := 0) ⟨rfl, rfl⟩ dX0_learnForms_3 (fun v u H locs hw_1 G => ?_)
  obtain ⟨rfl, rfl⟩ := hw_1
  replace G := G.perm (ws' := [(h0, .inr (0, [.ref ak, .ref ap, .ref ac, .ref ash, .ref alo, .int (iI (rs.length : Int)), .ref apc, .ref aps, .ref apl, .int (iI (ps.length : Int)), .int (iI md), .int (iI th), va_rf lc, .int (iI nc)])), (ak, aI (K 0) 24 gk), (ap, aI (K 0) 24 gp), (ac, aI (K 0) 24 gc), (ash, aJ (K 1) 24 gs), (alo, aJ (K 1) 24 gl), (apc, aI (K 0) 30 gn), (aps, aJ (K 1) 30 gq), (apl, aJ (K 1) 30 gr)]) [6, 0, 1, 2, 3, 4, 5, 7, 8] rfl rfl
  refine W.eq (g2 := F0 m9 6 ls [.int (iI (pfi ps u v))]) rfl ?_
  refine lv_istore (lv' := [(5, .int (iI (pfi ps u v))), (0, .ref h0), (1, .long (enc u)), (3, .long (enc v))]) F.1 F.2.1 dX0_learnForms_6 hl (by decide) rfl (fun ls hl => ?_)
  refine lv_iload F.1 F.2.1 dX0_learnForms_8 (lv_at hl 0 rfl) ?_
  refine ad_bipush F dX0_learnForms_10 (by decide) ?_
  refine ad_icmp_lt (tgt := 16) F (by omega) dX0_learnForms_12 (by decide) (fun cc_2 => ?_) (fun cc_2 => ?_)
  · refine lv_iload F.1 F.2.1 dX0_learnForms_16 (lv_at hl 0 rfl) ?_
    refine lv_aload_n F.1 F.2.1 dX0_learnForms_18 rfl (lv_at hl 1 rfl) ?_
    refine ad_get F G fl_X0_47 0 rfl rfl dX0_learnForms_19 ?_
    refine ad_icmp_ne (tgt := 59) F (by omega) dX0_learnForms_22 (by decide) (fun cc_3 => ?_) (fun cc_3 => ?_)
    · have hps : lps ps u v = ps := if_neg cc_3
      have hP1 : PRep gn gq gr (lps ps u v) := by rw [hps]; exact hP
      have hll : ((lps ps u v).length : Int) = ps.length := by rw [hps]
      refine lv_aload_n F.1 F.2.1 dX0_learnForms_59 rfl (lv_at hl 1 rfl) ?_
      refine ad_get F G fl_X0_28 0 rfl rfl dX0_learnForms_60 ?_
      refine lv_iload F.1 F.2.1 dX0_learnForms_63 (lv_at hl 0 rfl) ?_
      refine lv_dup2_11 F.1 F.2.1 dX0_learnForms_65 rfl rfl ?_
      refine ad_iald F G 6 rfl (w := (pget (lps ps u v) (pfi ps u v)).1) (by omega) (hP1 _ hpb.1 (by omega)).1 dX0_learnForms_66 ?_
      refine ad_iconst F dX0_learnForms_67 ?_
      refine ad_iadd F dX0_learnForms_68 ?_
      refine ad_topi (y := lcn ps u v) rfl ?_
      refine ad_iast F G 6 rfl (by omega) (ws' := [(h0, .inr (0, [.ref ak, .ref ap, .ref ac, .ref ash, .ref alo, .int (iI (rs.length : Int)), .ref apc, .ref aps, .ref apl, .int (iI (ps.length : Int)), .int (iI md), .int (iI th), va_rf lc, .int (iI nc)])), (ak, aI (K 0) 24 gk), (ap, aI (K 0) 24 gp), (ac, aI (K 0) 24 gc), (ash, aJ (K 1) 24 gs), (alo, aJ (K 1) 24 gl), (apc, aI (K 0) 30 (va_up gn (pfi ps u v).toNat (lcn ps u v))), (aps, aJ (K 1) 30 gq), (apl, aJ (K 1) 30 gr)]) rfl dX0_learnForms_69 (fun H locs G => ?_)
      have hP2 : PRep (va_up gn (pfi ps u v).toNat (lcn ps u v)) gq gr (lrnP ps u v) := by unfold lrnP; rw [if_neg (by omega)]; exact PRep_cnt hP1 hpb.1 _
      have hl2 : ((lrnP ps u v).length : Int) = (lps ps u v).length := by unfold lrnP psetn; rw [if_neg (by omega), List.length_set]
      replace G := G.eq (ws' := [(h0, .inr (0, [.ref ak, .ref ap, .ref ac, .ref ash, .ref alo, .int (iI (rs.length : Int)), .ref apc, .ref aps, .ref apl, .int (iI ((lrnP ps u v).length : Int)), .int (iI md), .int (iI th), va_rf lc, .int (iI nc)])), (ak, aI (K 0) 24 gk), (ap, aI (K 0) 24 gp), (ac, aI (K 0) 24 gc), (ash, aJ (K 1) 24 gs), (alo, aJ (K 1) 24 gl), (apc, aI (K 0) 30 (va_up gn (pfi ps u v).toNat (lcn ps u v))), (aps, aJ (K 1) 30 gq), (apl, aJ (K 1) 30 gr)]) (by rw [show (((lrnP ps u v).length : Int)) = (ps.length : Int) by omega])
      refine lv_aload_n F.1 F.2.1 dX0_learnForms_70 rfl (lv_at hl 1 rfl) ?_
      refine ad_get F G fl_X0_28 0 rfl rfl dX0_learnForms_71 ?_
      refine lv_iload F.1 F.2.1 dX0_learnForms_74 (lv_at hl 0 rfl) ?_
      refine ad_iald F G 6 rfl (w := lcn ps u v) (by omega) (by rw [va_upI hpb.1 hpb.1, if_pos rfl]) dX0_learnForms_76 ?_
      refine lv_aload_n F.1 F.2.1 dX0_learnForms_77 rfl (lv_at hl 1 rfl) ?_
      refine ad_get F G fl_X0_41 0 rfl rfl dX0_learnForms_78 ?_
      refine ad_icmp_ne (tgt := 108) F (by omega) dX0_learnForms_81 (by decide) (fun cc_4 => ?_) (fun cc_4 => ?_)
      · exact ad_vreturn F G hR rfl (Nat.le_of_ble_eq_true rfl) (Nat.le_of_ble_eq_true rfl) ⟨gk, gp, gc, gs, gl, rs, va_up gn (pfi ps u v).toNat (lcn ps u v), gq, gr, lrnP ps u v, rfl, (by unfold lrnR; rw [if_neg (by omega), if_neg (fun q => cc_4 q.1)]), rfl, hB, hP2, rfl⟩ dX0_learnForms_108
      · refine lv_aload_n F.1 F.2.1 dX0_learnForms_84 rfl (lv_at hl 1 rfl) ?_
        refine lv_lload_n F.1 F.2.1 dX0_learnForms_85 rfl (lv_at hl 2 rfl) ?_
        refine lv_lload_n F.1 F.2.1 dX0_learnForms_86 rfl (lv_at hl 3 rfl) ?_
        refine ad_callV (As := [.long (enc u), .long (enc v)]) (rest := []) F G (c_X0_wordRule l D K z0 h0 ak ap ac ash alo apc aps apl lc gk gp gc gs gl rs ((lrnP ps u v).length : Int) md th nc u v hB hW hf.1 hf.2.1) my_X0_wordRule mv_X0_139 (wr := [(ap, aI (K 0) 24 gp), (ac, aI (K 0) 24 gc), (apc, aI (K 0) 30 (va_up gn (pfi ps u v).toNat (lcn ps u v))), (aps, aJ (K 1) 30 gq), (apl, aJ (K 1) 30 gr)]) (isC := [0, 1, 4, 5]) (isR := [2, 3, 6, 7, 8]) ⟨rfl, rfl, rfl, rfl, by decide⟩ 0 0 rfl rfl rfl rfl ⟨Nat.le_of_ble_eq_true rfl, Nat.le_of_ble_eq_true rfl⟩ ⟨Nat.le_of_ble_eq_true rfl, Nat.le_of_ble_eq_true rfl⟩ (Nat.le_of_ble_eq_true rfl) hl.1 (cells9 := 0) (slots9 := 0) ⟨rfl, rfl⟩ dX0_learnForms_87 (fun v u H locs hw_5 G => ?_)
        obtain ⟨rfl, rfl⟩ := hw_5
        replace G := G.perm (ws' := [(h0, .inr (0, [.ref ak, .ref ap, .ref ac, .ref ash, .ref alo, .int (iI (rs.length : Int)), .ref apc, .ref aps, .ref apl, .int (iI ((lrnP ps u v).length : Int)), .int (iI md), .int (iI th), va_rf lc, .int (iI nc)])), (ak, aI (K 0) 24 gk), (ap, aI (K 0) 24 gp), (ac, aI (K 0) 24 gc), (ash, aJ (K 1) 24 gs), (alo, aJ (K 1) 24 gl), (apc, aI (K 0) 30 (va_up gn (pfi ps u v).toNat (lcn ps u v))), (aps, aJ (K 1) 30 gq), (apl, aJ (K 1) 30 gr)]) [5, 6, 0, 1, 7, 8, 2, 3, 4] rfl rfl
        refine W.eq (g2 := F0 m9 90 ls [.int (iI (wfi rs u v))]) rfl ?_
        refine ad_if_ge (tgt := 108) F (by omega) dX0_learnForms_90 (by decide) (fun cc_6 => ?_) (fun cc_6 => ?_)
        · exact ad_vreturn F G hR rfl (Nat.le_of_ble_eq_true rfl) (Nat.le_of_ble_eq_true rfl) ⟨gk, gp, gc, gs, gl, rs, va_up gn (pfi ps u v).toNat (lcn ps u v), gq, gr, lrnP ps u v, rfl, (by unfold lrnR; rw [if_neg (by omega), if_neg (fun q => absurd q.2 (by omega))]), rfl, hB, hP2, rfl⟩ dX0_learnForms_108
        · refine lv_aload_n F.1 F.2.1 dX0_learnForms_93 rfl (lv_at hl 1 rfl) ?_
          refine ad_iconst F dX0_learnForms_94 ?_
          refine ad_bipush F dX0_learnForms_95 (by decide) ?_
          refine lv_aload_n F.1 F.2.1 dX0_learnForms_97 rfl (lv_at hl 1 rfl) ?_
          refine ad_get F G fl_X0_41 0 rfl rfl dX0_learnForms_98 ?_
          refine ad_imul F dX0_learnForms_101 ?_
          refine ad_iconst F dX0_learnForms_102 ?_
          refine lv_lload_n F.1 F.2.1 dX0_learnForms_103 rfl (lv_at hl 2 rfl) ?_
          refine lv_lload_n F.1 F.2.1 dX0_learnForms_104 rfl (lv_at hl 3 rfl) ?_
          refine ad_callV (As := [.int (iI 0), .int (iI (10 * th)), .int (iI 0), .long (enc u), .long (enc v)]) (rest := []) F G (c_X0_insertRule l D K z0 h0 ak ap ac ash alo apc aps apl lc gk gp gc gs gl rs ((lrnP ps u v).length : Int) md th nc 0 (10 * th) 0 u v hB hW ⟨by simp, by simp only; omega, by simp, hf.1, hf.2.1, hf.2.2⟩) my_X0_insertRule mv_X0_86 (wr := [(apc, aI (K 0) 30 (va_up gn (pfi ps u v).toNat (lcn ps u v))), (aps, aJ (K 1) 30 gq), (apl, aJ (K 1) 30 gr)]) (isC := [0, 1, 2, 3, 4, 5]) (isR := [6, 7, 8]) ⟨rfl, rfl, rfl, rfl, by decide⟩ 0 0 rfl rfl rfl rfl ⟨Nat.le_of_ble_eq_true rfl, Nat.le_of_ble_eq_true rfl⟩ ⟨Nat.le_of_ble_eq_true rfl, Nat.le_of_ble_eq_true rfl⟩ (Nat.le_of_ble_eq_true rfl) hl.1 (cells9 := 0) (slots9 := 0) ⟨rfl, rfl⟩ dX0_learnForms_105 (fun v u H locs hw_7 G => ?_)
          obtain ⟨gk2_8, gp2_9, gc2_10, gs2_11, gl2_12, rs2_13, rfl, hc_14, hc_15, rfl⟩ := hw_7
          replace G := G.perm (ws' := [(h0, .inr (0, [.ref ak, .ref ap, .ref ac, .ref ash, .ref alo, .int (iI (rs2_13.length : Int)), .ref apc, .ref aps, .ref apl, .int (iI ((lrnP ps u v).length : Int)), .int (iI md), .int (iI th), va_rf lc, .int (iI nc)])), (ak, aI (K 0) 24 gk2_8), (ap, aI (K 0) 24 gp2_9), (ac, aI (K 0) 24 gc2_10), (ash, aJ (K 1) 24 gs2_11), (alo, aJ (K 1) 24 gl2_12), (apc, aI (K 0) 30 (va_up gn (pfi ps u v).toNat (lcn ps u v))), (aps, aJ (K 1) 30 gq), (apl, aJ (K 1) 30 gr)]) [3, 4, 5, 6, 7, 8, 0, 1, 2] rfl rfl
          refine W.eq (g2 := F0 m9 108 ls []) rfl ?_
          exact ad_vreturn F G hR rfl (Nat.le_of_ble_eq_true rfl) (Nat.le_of_ble_eq_true rfl) ⟨gk2_8, gp2_9, gc2_10, gs2_11, gl2_12, rs2_13, va_up gn (pfi ps u v).toNat (lcn ps u v), gq, gr, lrnP ps u v, rfl, (by unfold lrnR; rw [if_neg (by omega), if_pos ⟨cc_4, cc_6⟩]; exact hc_14), rfl, hc_15, hP2, rfl⟩ dX0_learnForms_108
    · refine lv_aload_n F.1 F.2.1 dX0_learnForms_25 rfl (lv_at hl 1 rfl) ?_
      refine ad_get F G fl_X0_31 0 rfl rfl dX0_learnForms_26 ?_
      refine lv_iload F.1 F.2.1 dX0_learnForms_29 (lv_at hl 0 rfl) ?_
      refine lv_lload_n F.1 F.2.1 dX0_learnForms_31 rfl (lv_at hl 2 rfl) ?_
      refine ad_last F G 7 rfl (by omega) (ws' := [(h0, .inr (0, [.ref ak, .ref ap, .ref ac, .ref ash, .ref alo, .int (iI (rs.length : Int)), .ref apc, .ref aps, .ref apl, .int (iI (ps.length : Int)), .int (iI md), .int (iI th), va_rf lc, .int (iI nc)])), (ak, aI (K 0) 24 gk), (ap, aI (K 0) 24 gp), (ac, aI (K 0) 24 gc), (ash, aJ (K 1) 24 gs), (alo, aJ (K 1) 24 gl), (apc, aI (K 0) 30 gn), (aps, aJ (K 1) 30 (va_up gq (pfi ps u v).toNat (enc u))), (apl, aJ (K 1) 30 gr)]) rfl dX0_learnForms_32 (fun H locs G => ?_)
      refine lv_aload_n F.1 F.2.1 dX0_learnForms_33 rfl (lv_at hl 1 rfl) ?_
      refine ad_get F G fl_X0_34 0 rfl rfl dX0_learnForms_34 ?_
      refine lv_iload F.1 F.2.1 dX0_learnForms_37 (lv_at hl 0 rfl) ?_
      refine lv_lload_n F.1 F.2.1 dX0_learnForms_39 rfl (lv_at hl 3 rfl) ?_
      refine ad_last F G 8 rfl (by omega) (ws' := [(h0, .inr (0, [.ref ak, .ref ap, .ref ac, .ref ash, .ref alo, .int (iI (rs.length : Int)), .ref apc, .ref aps, .ref apl, .int (iI (ps.length : Int)), .int (iI md), .int (iI th), va_rf lc, .int (iI nc)])), (ak, aI (K 0) 24 gk), (ap, aI (K 0) 24 gp), (ac, aI (K 0) 24 gc), (ash, aJ (K 1) 24 gs), (alo, aJ (K 1) 24 gl), (apc, aI (K 0) 30 gn), (aps, aJ (K 1) 30 (va_up gq (pfi ps u v).toNat (enc u))), (apl, aJ (K 1) 30 (va_up gr (pfi ps u v).toNat (enc v)))]) rfl dX0_learnForms_40 (fun H locs G => ?_)
      refine lv_aload_n F.1 F.2.1 dX0_learnForms_41 rfl (lv_at hl 1 rfl) ?_
      refine ad_get F G fl_X0_28 0 rfl rfl dX0_learnForms_42 ?_
      refine lv_iload F.1 F.2.1 dX0_learnForms_45 (lv_at hl 0 rfl) ?_
      refine ad_iconst F dX0_learnForms_47 ?_
      refine ad_iast F G 6 rfl (by omega) (ws' := [(h0, .inr (0, [.ref ak, .ref ap, .ref ac, .ref ash, .ref alo, .int (iI (rs.length : Int)), .ref apc, .ref aps, .ref apl, .int (iI (ps.length : Int)), .int (iI md), .int (iI th), va_rf lc, .int (iI nc)])), (ak, aI (K 0) 24 gk), (ap, aI (K 0) 24 gp), (ac, aI (K 0) 24 gc), (ash, aJ (K 1) 24 gs), (alo, aJ (K 1) 24 gl), (apc, aI (K 0) 30 (va_up gn (pfi ps u v).toNat 0)), (aps, aJ (K 1) 30 (va_up gq (pfi ps u v).toNat (enc u))), (apl, aJ (K 1) 30 (va_up gr (pfi ps u v).toNat (enc v)))]) rfl dX0_learnForms_48 (fun H locs G => ?_)
      refine lv_aload_n F.1 F.2.1 dX0_learnForms_49 rfl (lv_at hl 1 rfl) ?_
      refine lv_dup F.1 F.2.1 dX0_learnForms_50 rfl ?_
      refine ad_get F G fl_X0_47 0 rfl rfl dX0_learnForms_51 ?_
      refine ad_iconst F dX0_learnForms_54 ?_
      refine ad_iadd F dX0_learnForms_55 ?_
      refine ad_put F G fl_X0_47 0 rfl rfl rfl (Nat.le_of_ble_eq_true rfl) (ws' := [(h0, .inr (0, [.ref ak, .ref ap, .ref ac, .ref ash, .ref alo, .int (iI (rs.length : Int)), .ref apc, .ref aps, .ref apl, .int (iI ((ps.length : Int) + 1)), .int (iI md), .int (iI th), va_rf lc, .int (iI nc)])), (ak, aI (K 0) 24 gk), (ap, aI (K 0) 24 gp), (ac, aI (K 0) 24 gc), (ash, aJ (K 1) 24 gs), (alo, aJ (K 1) 24 gl), (apc, aI (K 0) 30 (va_up gn (pfi ps u v).toNat 0)), (aps, aJ (K 1) 30 (va_up gq (pfi ps u v).toNat (enc u))), (apl, aJ (K 1) 30 (va_up gr (pfi ps u v).toNat (enc v)))]) rfl dX0_learnForms_56 (fun H locs G => ?_)
      have hpush := PRep_push hP 0 u v
      rw [← cc_3] at hpush
      have hps : lps ps u v = ps ++ [(0, u, v)] := if_pos cc_3
      rw [← hps] at hpush
      have hP1 : PRep (va_up gn (pfi ps u v).toNat 0) (va_up gq (pfi ps u v).toNat (enc u)) (va_up gr (pfi ps u v).toNat (enc v)) (lps ps u v) := hpush
      have hll : ((lps ps u v).length : Int) = ps.length + 1 := by rw [hps]; simp
      refine lv_aload_n F.1 F.2.1 dX0_learnForms_59 rfl (lv_at hl 1 rfl) ?_
      refine ad_get F G fl_X0_28 0 rfl rfl dX0_learnForms_60 ?_
      refine lv_iload F.1 F.2.1 dX0_learnForms_63 (lv_at hl 0 rfl) ?_
      refine lv_dup2_11 F.1 F.2.1 dX0_learnForms_65 rfl rfl ?_
      refine ad_iald F G 6 rfl (w := (pget (lps ps u v) (pfi ps u v)).1) (by omega) (hP1 _ hpb.1 (by omega)).1 dX0_learnForms_66 ?_
      refine ad_iconst F dX0_learnForms_67 ?_
      refine ad_iadd F dX0_learnForms_68 ?_
      refine ad_topi (y := lcn ps u v) rfl ?_
      refine ad_iast F G 6 rfl (by omega) (ws' := [(h0, .inr (0, [.ref ak, .ref ap, .ref ac, .ref ash, .ref alo, .int (iI (rs.length : Int)), .ref apc, .ref aps, .ref apl, .int (iI ((ps.length : Int) + 1)), .int (iI md), .int (iI th), va_rf lc, .int (iI nc)])), (ak, aI (K 0) 24 gk), (ap, aI (K 0) 24 gp), (ac, aI (K 0) 24 gc), (ash, aJ (K 1) 24 gs), (alo, aJ (K 1) 24 gl), (apc, aI (K 0) 30 (va_up (va_up gn (pfi ps u v).toNat 0) (pfi ps u v).toNat (lcn ps u v))), (aps, aJ (K 1) 30 (va_up gq (pfi ps u v).toNat (enc u))), (apl, aJ (K 1) 30 (va_up gr (pfi ps u v).toNat (enc v)))]) rfl dX0_learnForms_69 (fun H locs G => ?_)
      have hP2 : PRep (va_up (va_up gn (pfi ps u v).toNat 0) (pfi ps u v).toNat (lcn ps u v)) (va_up gq (pfi ps u v).toNat (enc u)) (va_up gr (pfi ps u v).toNat (enc v)) (lrnP ps u v) := by unfold lrnP; rw [if_neg (by omega)]; exact PRep_cnt hP1 hpb.1 _
      have hl2 : ((lrnP ps u v).length : Int) = (lps ps u v).length := by unfold lrnP psetn; rw [if_neg (by omega), List.length_set]
      replace G := G.eq (ws' := [(h0, .inr (0, [.ref ak, .ref ap, .ref ac, .ref ash, .ref alo, .int (iI (rs.length : Int)), .ref apc, .ref aps, .ref apl, .int (iI ((lrnP ps u v).length : Int)), .int (iI md), .int (iI th), va_rf lc, .int (iI nc)])), (ak, aI (K 0) 24 gk), (ap, aI (K 0) 24 gp), (ac, aI (K 0) 24 gc), (ash, aJ (K 1) 24 gs), (alo, aJ (K 1) 24 gl), (apc, aI (K 0) 30 (va_up (va_up gn (pfi ps u v).toNat 0) (pfi ps u v).toNat (lcn ps u v))), (aps, aJ (K 1) 30 (va_up gq (pfi ps u v).toNat (enc u))), (apl, aJ (K 1) 30 (va_up gr (pfi ps u v).toNat (enc v)))]) (by rw [show (((lrnP ps u v).length : Int)) = (ps.length : Int) + 1 by omega])
      refine lv_aload_n F.1 F.2.1 dX0_learnForms_70 rfl (lv_at hl 1 rfl) ?_
      refine ad_get F G fl_X0_28 0 rfl rfl dX0_learnForms_71 ?_
      refine lv_iload F.1 F.2.1 dX0_learnForms_74 (lv_at hl 0 rfl) ?_
      refine ad_iald F G 6 rfl (w := lcn ps u v) (by omega) (by rw [va_upI hpb.1 hpb.1, if_pos rfl]) dX0_learnForms_76 ?_
      refine lv_aload_n F.1 F.2.1 dX0_learnForms_77 rfl (lv_at hl 1 rfl) ?_
      refine ad_get F G fl_X0_41 0 rfl rfl dX0_learnForms_78 ?_
      refine ad_icmp_ne (tgt := 108) F (by omega) dX0_learnForms_81 (by decide) (fun cc_16 => ?_) (fun cc_16 => ?_)
      · exact ad_vreturn F G hR rfl (Nat.le_of_ble_eq_true rfl) (Nat.le_of_ble_eq_true rfl) ⟨gk, gp, gc, gs, gl, rs, va_up (va_up gn (pfi ps u v).toNat 0) (pfi ps u v).toNat (lcn ps u v), va_up gq (pfi ps u v).toNat (enc u), va_up gr (pfi ps u v).toNat (enc v), lrnP ps u v, rfl, (by unfold lrnR; rw [if_neg (by omega), if_neg (fun q => cc_16 q.1)]), rfl, hB, hP2, rfl⟩ dX0_learnForms_108
      · refine lv_aload_n F.1 F.2.1 dX0_learnForms_84 rfl (lv_at hl 1 rfl) ?_
        refine lv_lload_n F.1 F.2.1 dX0_learnForms_85 rfl (lv_at hl 2 rfl) ?_
        refine lv_lload_n F.1 F.2.1 dX0_learnForms_86 rfl (lv_at hl 3 rfl) ?_
        refine ad_callV (As := [.long (enc u), .long (enc v)]) (rest := []) F G (c_X0_wordRule l D K z0 h0 ak ap ac ash alo apc aps apl lc gk gp gc gs gl rs ((lrnP ps u v).length : Int) md th nc u v hB hW hf.1 hf.2.1) my_X0_wordRule mv_X0_139 (wr := [(ap, aI (K 0) 24 gp), (ac, aI (K 0) 24 gc), (apc, aI (K 0) 30 (va_up (va_up gn (pfi ps u v).toNat 0) (pfi ps u v).toNat (lcn ps u v))), (aps, aJ (K 1) 30 (va_up gq (pfi ps u v).toNat (enc u))), (apl, aJ (K 1) 30 (va_up gr (pfi ps u v).toNat (enc v)))]) (isC := [0, 1, 4, 5]) (isR := [2, 3, 6, 7, 8]) ⟨rfl, rfl, rfl, rfl, by decide⟩ 0 0 rfl rfl rfl rfl ⟨Nat.le_of_ble_eq_true rfl, Nat.le_of_ble_eq_true rfl⟩ ⟨Nat.le_of_ble_eq_true rfl, Nat.le_of_ble_eq_true rfl⟩ (Nat.le_of_ble_eq_true rfl) hl.1 (cells9 := 0) (slots9 := 0) ⟨rfl, rfl⟩ dX0_learnForms_87 (fun v u H locs hw_17 G => ?_)
        obtain ⟨rfl, rfl⟩ := hw_17
        replace G := G.perm (ws' := [(h0, .inr (0, [.ref ak, .ref ap, .ref ac, .ref ash, .ref alo, .int (iI (rs.length : Int)), .ref apc, .ref aps, .ref apl, .int (iI ((lrnP ps u v).length : Int)), .int (iI md), .int (iI th), va_rf lc, .int (iI nc)])), (ak, aI (K 0) 24 gk), (ap, aI (K 0) 24 gp), (ac, aI (K 0) 24 gc), (ash, aJ (K 1) 24 gs), (alo, aJ (K 1) 24 gl), (apc, aI (K 0) 30 (va_up (va_up gn (pfi ps u v).toNat 0) (pfi ps u v).toNat (lcn ps u v))), (aps, aJ (K 1) 30 (va_up gq (pfi ps u v).toNat (enc u))), (apl, aJ (K 1) 30 (va_up gr (pfi ps u v).toNat (enc v)))]) [5, 6, 0, 1, 7, 8, 2, 3, 4] rfl rfl
        refine W.eq (g2 := F0 m9 90 ls [.int (iI (wfi rs u v))]) rfl ?_
        refine ad_if_ge (tgt := 108) F (by omega) dX0_learnForms_90 (by decide) (fun cc_18 => ?_) (fun cc_18 => ?_)
        · exact ad_vreturn F G hR rfl (Nat.le_of_ble_eq_true rfl) (Nat.le_of_ble_eq_true rfl) ⟨gk, gp, gc, gs, gl, rs, va_up (va_up gn (pfi ps u v).toNat 0) (pfi ps u v).toNat (lcn ps u v), va_up gq (pfi ps u v).toNat (enc u), va_up gr (pfi ps u v).toNat (enc v), lrnP ps u v, rfl, (by unfold lrnR; rw [if_neg (by omega), if_neg (fun q => absurd q.2 (by omega))]), rfl, hB, hP2, rfl⟩ dX0_learnForms_108
        · refine lv_aload_n F.1 F.2.1 dX0_learnForms_93 rfl (lv_at hl 1 rfl) ?_
          refine ad_iconst F dX0_learnForms_94 ?_
          refine ad_bipush F dX0_learnForms_95 (by decide) ?_
          refine lv_aload_n F.1 F.2.1 dX0_learnForms_97 rfl (lv_at hl 1 rfl) ?_
          refine ad_get F G fl_X0_41 0 rfl rfl dX0_learnForms_98 ?_
          refine ad_imul F dX0_learnForms_101 ?_
          refine ad_iconst F dX0_learnForms_102 ?_
          refine lv_lload_n F.1 F.2.1 dX0_learnForms_103 rfl (lv_at hl 2 rfl) ?_
          refine lv_lload_n F.1 F.2.1 dX0_learnForms_104 rfl (lv_at hl 3 rfl) ?_
          refine ad_callV (As := [.int (iI 0), .int (iI (10 * th)), .int (iI 0), .long (enc u), .long (enc v)]) (rest := []) F G (c_X0_insertRule l D K z0 h0 ak ap ac ash alo apc aps apl lc gk gp gc gs gl rs ((lrnP ps u v).length : Int) md th nc 0 (10 * th) 0 u v hB hW ⟨by simp, by simp only; omega, by simp, hf.1, hf.2.1, hf.2.2⟩) my_X0_insertRule mv_X0_86 (wr := [(apc, aI (K 0) 30 (va_up (va_up gn (pfi ps u v).toNat 0) (pfi ps u v).toNat (lcn ps u v))), (aps, aJ (K 1) 30 (va_up gq (pfi ps u v).toNat (enc u))), (apl, aJ (K 1) 30 (va_up gr (pfi ps u v).toNat (enc v)))]) (isC := [0, 1, 2, 3, 4, 5]) (isR := [6, 7, 8]) ⟨rfl, rfl, rfl, rfl, by decide⟩ 0 0 rfl rfl rfl rfl ⟨Nat.le_of_ble_eq_true rfl, Nat.le_of_ble_eq_true rfl⟩ ⟨Nat.le_of_ble_eq_true rfl, Nat.le_of_ble_eq_true rfl⟩ (Nat.le_of_ble_eq_true rfl) hl.1 (cells9 := 0) (slots9 := 0) ⟨rfl, rfl⟩ dX0_learnForms_105 (fun v u H locs hw_19 G => ?_)
          obtain ⟨gk2_20, gp2_21, gc2_22, gs2_23, gl2_24, rs2_25, rfl, hc_26, hc_27, rfl⟩ := hw_19
          replace G := G.perm (ws' := [(h0, .inr (0, [.ref ak, .ref ap, .ref ac, .ref ash, .ref alo, .int (iI (rs2_25.length : Int)), .ref apc, .ref aps, .ref apl, .int (iI ((lrnP ps u v).length : Int)), .int (iI md), .int (iI th), va_rf lc, .int (iI nc)])), (ak, aI (K 0) 24 gk2_20), (ap, aI (K 0) 24 gp2_21), (ac, aI (K 0) 24 gc2_22), (ash, aJ (K 1) 24 gs2_23), (alo, aJ (K 1) 24 gl2_24), (apc, aI (K 0) 30 (va_up (va_up gn (pfi ps u v).toNat 0) (pfi ps u v).toNat (lcn ps u v))), (aps, aJ (K 1) 30 (va_up gq (pfi ps u v).toNat (enc u))), (apl, aJ (K 1) 30 (va_up gr (pfi ps u v).toNat (enc v)))]) [3, 4, 5, 6, 7, 8, 0, 1, 2] rfl rfl
          refine W.eq (g2 := F0 m9 108 ls []) rfl ?_
          exact ad_vreturn F G hR rfl (Nat.le_of_ble_eq_true rfl) (Nat.le_of_ble_eq_true rfl) ⟨gk2_20, gp2_21, gc2_22, gs2_23, gl2_24, rs2_25, va_up (va_up gn (pfi ps u v).toNat 0) (pfi ps u v).toNat (lcn ps u v), va_up gq (pfi ps u v).toNat (enc u), va_up gr (pfi ps u v).toNat (enc v), lrnP ps u v, rfl, (by unfold lrnR; rw [if_neg (by omega), if_pos ⟨cc_16, cc_18⟩]; exact hc_26), rfl, hc_27, hP2, rfl⟩ dX0_learnForms_108
  · exact ad_vreturn F G hR rfl (Nat.le_of_ble_eq_true rfl) (Nat.le_of_ble_eq_true rfl) ⟨gk, gp, gc, gs, gl, rs, gn, gq, gr, ps, rfl, (by unfold lrnR; rw [if_pos (by omega)]), (by unfold lrnP; rw [if_pos (by omega)]), hB, hP, rfl⟩ dX0_learnForms_15
