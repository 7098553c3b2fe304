def rm_X0_betterRules : Room := { frames := 3, cells := 0, slots := 0, locals := 57 }
set_option maxHeartbeats 4000000 in
set_option maxRecDepth 100000 in
theorem c_X0_betterRules (l : Launch) (D : va_G) (K : Nat → ClassId) (z0 : Nat) (h0 : Nat) (ak : Nat) (ap : Nat) (ac : Nat) (ash : Nat) (alo : Nat) (apc : Nat) (aps : Nat) (apl : Nat) (lc : Option Nat) (gk : Nat → Int) (gp : Nat → Int) (gc : Nat → Int) (gs : Nat → Int64) (gl : Nat → Int64) (rs : List Rl) (np : Int) (md : Int) (th : Int) (nc : Int) (z : Int) (hB : BRep gk gp gc gs gl rs) (hW : RW rs) (hz : 0 ≤ z ∧ z < rs.length) : CT l D K z0 yX0_betterRules cX0_betterRules 4 (some .int) rm_X0_betterRules [.ref h0, .int (iI z)] [(h0, .inr (0, [.ref ak, .ref ap, .ref ac, .ref ash, .ref alo, .int (iI (rs.length : Int)), .ref apc, .ref aps, .ref apl, .int (iI np), .int (iI md), .int (iI th), va_rf lc, .int (iI nc)])), (ap, aI (K 0) 24 gp), (ash, aJ (K 1) 24 gs), (alo, aJ (K 1) 24 gl)] (fun v9 u9 => v9 = some (.int (iI (cntb (fun o => btb rs o z) rs.length))) ∧ u9 = [(h0, .inr (0, [.ref ak, .ref ap, .ref ac, .ref ash, .ref alo, .int (iI (rs.length : Int)), .ref apc, .ref aps, .ref apl, .int (iI np), .int (iI md), .int (iI th), va_rf lc, .int (iI nc)])), (ap, aI (K 0) 24 gp), (ash, aJ (K 1) 24 gs), (alo, aJ (K 1) 24 gl)]) := by
  refine CT.start RX0 "betterRules" (by decide) rfl rfl (Nat.le_of_ble_eq_true rfl) ?_
  intro p9 e9 s9 m9 ag9 bl9 mt9 c9 A9 Q9 ls F G hR hl
  have hl : lv_has ls 4 [(0, .ref h0), (1, .int (iI z))] := hl
  have hn := hW.1
  refine ad_iconst F dX0_betterRules_0 ?_
  refine lv_istore_n (lv' := [(2, .int (iI 0)), (0, .ref h0), (1, .int (iI z))]) F.1 F.2.1 dX0_betterRules_1 rfl hl (by decide) rfl (fun ls hl => ?_)
  refine ad_iconst F dX0_betterRules_2 ?_
  refine lv_istore_n (lv' := [(3, .int (iI 0)), (2, .int (iI 0)), (0, .ref h0), (1, .int (iI z))]) F.1 F.2.1 dX0_betterRules_3 rfl hl (by decide) rfl (fun ls hl => ?_)
  have lp4 : ∀ (n4 : Nat) (i : Int) (k : Int) (H : Heap) (locs : List Loc) (ls : Array Slot), (0 ≤ i ∧ i ≤ rs.length) → (k = cntb (fun o => btb rs o z) i.toNat) → (rs.length - i) < (n4 : Int) → ad_G D A9 s9.heap H locs [(h0, .inr (0, [.ref ak, .ref ap, .ref ac, .ref ash, .ref alo, .int (iI (rs.length : Int)), .ref apc, .ref aps, .ref apl, .int (iI np), .int (iI md), .int (iI th), va_rf lc, .int (iI nc)])), (ap, aI (K 0) 24 gp), (ash, aJ (K 1) 24 gs), (alo, aJ (K 1) 24 gl)] → lv_has ls 4 [(0, .ref h0), (1, .int (iI z)), (2, .int (iI k)), (3, .int (iI i))] → W p9 l e9 rm_X0_betterRules s9 m9 ag9 bl9 mt9 c9 H locs 0 0 Q9 (F0 m9 4 ls []) := by
    intro n4
    induction n4 with
    | zero =>
      intro i k H locs ls hi hk hm4
      exact absurd hm4 (by omega)
    | succ n4 ih4 =>
      intro i k H locs ls hi hk hm4 G hl
      refine lv_iload_n F.1 F.2.1 dX0_betterRules_4 rfl (lv_at hl 3 rfl) ?_
      refine lv_aload_n F.1 F.2.1 dX0_betterRules_5 rfl (lv_at hl 0 rfl) ?_
      refine ad_get F G fl_X0_44 0 rfl rfl dX0_betterRules_6 ?_
      refine ad_icmp_ge (tgt := 30) F (by omega) dX0_betterRules_9 (by decide) (fun cc_1 => ?_) (fun cc_1 => ?_)
      · refine lv_iload_n F.1 F.2.1 dX0_betterRules_30 rfl (lv_at hl 2 rfl) ?_
        exact ad_ireturn F G hR rfl (Nat.le_of_ble_eq_true rfl) (Nat.le_of_ble_eq_true rfl) ⟨(ad_eqi (by rw [hk, show i = rs.length by omega]; rfl)), rfl⟩ dX0_betterRules_31
      · refine lv_aload_n F.1 F.2.1 dX0_betterRules_12 rfl (lv_at hl 0 rfl) ?_
        refine lv_iload_n F.1 F.2.1 dX0_betterRules_13 rfl (lv_at hl 3 rfl) ?_
        refine lv_iload_n F.1 F.2.1 dX0_betterRules_14 rfl (lv_at hl 1 rfl) ?_
        refine ad_callV (As := [.int (iI i), .int (iI z)]) (rest := []) F G (c_X0_isBetter l D K z0 h0 ak ap ac ash alo apc aps apl lc gk gp gc gs gl rs np md th nc i z hB hW (by omega) hz) my_X0_isBetter mv_X0_104 (wr := []) (isC := [0, 1, 2, 3]) (isR := []) ⟨rfl, rfl, rfl, rfl, by decide⟩ 0 0 rfl rfl rfl rfl ⟨Nat.le_of_ble_eq_true rfl, Nat.le_of_ble_eq_true rfl⟩ ⟨Nat.le_of_ble_eq_true rfl, Nat.le_of_ble_eq_true rfl⟩ (Nat.le_of_ble_eq_true rfl) hl.1 (cells9 := 0) (slots9 := 0) ⟨rfl, rfl⟩ dX0_betterRules_15 (fun v u H locs hw_2 G => ?_)
        rcases hw_2 with ⟨rfl, hc_3, rfl⟩ | ⟨rfl, hc_4, rfl⟩
        · replace G := G.perm (ws' := [(h0, .inr (0, [.ref ak, .ref ap, .ref ac, .ref ash, .ref alo, .int (iI (rs.length : Int)), .ref apc, .ref aps, .ref apl, .int (iI np), .int (iI md), .int (iI th), va_rf lc, .int (iI nc)])), (ap, aI (K 0) 24 gp), (ash, aJ (K 1) 24 gs), (alo, aJ (K 1) 24 gl)]) [0, 1, 2, 3] rfl rfl
          refine W.eq (g2 := F0 m9 18 ls [.int (iI 1)]) rfl ?_
          refine ad_if_eq (tgt := 24) F (by decide) dX0_betterRules_18 (by decide) (fun cc_5 => absurd cc_5 (by decide)) (fun _ => ?_)
          refine ad_iinc (lv' := [(2, .int (iI (k + 1))), (0, .ref h0), (1, .int (iI z)), (3, .int (iI i))]) F dX0_betterRules_21 hl (k := 2) rfl (by decide) rfl (fun ls hl => ?_)
          refine ad_iinc (lv' := [(3, .int (iI (i + 1))), (2, .int (iI (k + 1))), (0, .ref h0), (1, .int (iI z))]) F dX0_betterRules_24 hl (k := 3) rfl (by decide) rfl (fun ls hl => ?_)
          refine lv_goto (tgt := 4) F.1 F.2.1 dX0_betterRules_27 (by decide) ?_
          exact ih4 (i + 1) (k + 1) _ _ _ (by omega) (by rw [cntb_s (by omega), ← hk, if_pos (btb_iff.mpr hc_3)]) (by omega) (G.perm (ws' := [(h0, .inr (0, [.ref ak, .ref ap, .ref ac, .ref ash, .ref alo, .int (iI (rs.length : Int)), .ref apc, .ref aps, .ref apl, .int (iI np), .int (iI md), .int (iI th), va_rf lc, .int (iI nc)])), (ap, aI (K 0) 24 gp), (ash, aJ (K 1) 24 gs), (alo, aJ (K 1) 24 gl)]) [0, 1, 2, 3] rfl rfl) (lv_sub hl [2, 3, 1, 0] rfl)
        · replace G := G.perm (ws' := [(h0, .inr (0, [.ref ak, .ref ap, .ref ac, .ref ash, .ref alo, .int (iI (rs.length : Int)), .ref apc, .ref aps, .ref apl, .int (iI np), .int (iI md), .int (iI th), va_rf lc, .int (iI nc)])), (ap, aI (K 0) 24 gp), (ash, aJ (K 1) 24 gs), (alo, aJ (K 1) 24 gl)]) [0, 1, 2, 3] rfl rfl
          refine W.eq (g2 := F0 m9 18 ls [.int (iI 0)]) rfl ?_
          refine ad_if_eq (tgt := 24) F (by decide) dX0_betterRules_18 (by decide) (fun _ => ?_) (fun cc_6 => absurd cc_6 (by decide))
          refine ad_iinc (lv' := [(3, .int (iI (i + 1))), (0, .ref h0), (1, .int (iI z)), (2, .int (iI k))]) F dX0_betterRules_24 hl (k := 3) rfl (by decide) rfl (fun ls hl => ?_)
          refine lv_goto (tgt := 4) F.1 F.2.1 dX0_betterRules_27 (by decide) ?_
          exact ih4 (i + 1) k _ _ _ (by omega) (by rw [cntb_s (by omega), ← hk, if_neg (fun q => hc_4 (btb_iff.mp q))]; omega) (by omega) (G.perm (ws' := [(h0, .inr (0, [.ref ak, .ref ap, .ref ac, .ref ash, .ref alo, .int (iI (rs.length : Int)), .ref apc, .ref aps, .ref apl, .int (iI np), .int (iI md), .int (iI th), va_rf lc, .int (iI nc)])), (ap, aI (K 0) 24 gp), (ash, aJ (K 1) 24 gs), (alo, aJ (K 1) 24 gl)]) [0, 1, 2, 3] rfl rfl) (lv_sub hl [1, 2, 3, 0] rfl)
  exact lp4 ((((rs.length - 0 : Int)) + 1).toNat) 0 0 _ _ _ (by omega) rfl (by omega) (G.perm (ws' := [(h0, .inr (0, [.ref ak, .ref ap, .ref ac, .ref ash, .ref alo, .int (iI (rs.length : Int)), .ref apc, .ref aps, .ref apl, .int (iI np), .int (iI md), .int (iI th), va_rf lc, .int (iI nc)])), (ap, aI (K 0) 24 gp), (ash, aJ (K 1) 24 gs), (alo, aJ (K 1) 24 gl)]) [0, 1, 2, 3] rfl rfl) (lv_sub hl [2, 3, 1, 0] rfl)

def rm_X0_haveSameKind : Room := { frames := 2, cells := 0, slots := 0, locals := 34 }
set_option maxHeartbeats 4000000 in
set_option maxRecDepth 100000 in
theorem c_X0_haveSameKind (l : Launch) (D : va_G) (K : Nat → ClassId) (z0 : Nat) (h0 : Nat) (ak : Nat) (ap : Nat) (ac : Nat) (ash : Nat) (alo : Nat) (apc : Nat) (aps : Nat) (apl : Nat) (lc : Option Nat) (gk : Nat → Int) (gp : Nat → Int) (gc : Nat → Int) (gs : Nat → Int64) (gl : Nat → Int64) (rs : List Rl) (np : Int) (md : Int) (th : Int) (nc : Int) (x : Int) (y : Int) (hB : BRep gk gp gc gs gl rs) (hW : RW rs) (hx : 0 ≤ x ∧ x < rs.length) (hy : 0 ≤ y ∧ y < rs.length) : CT l D K z0 yX0_haveSameKind cX0_haveSameKind 3 (some .boolean) rm_X0_haveSameKind [.ref h0, .int (iI x), .int (iI y)] [(h0, .inr (0, [.ref ak, .ref ap, .ref ac, .ref ash, .ref alo, .int (iI (rs.length : Int)), .ref apc, .ref aps, .ref apl, .int (iI np), .int (iI md), .int (iI th), va_rf lc, .int (iI nc)])), (ak, aI (K 0) 24 gk)] (fun v9 u9 => (v9 = some (.int (iI 1)) ∧ ((rget rs y).1 = (rget rs x).1) ∧ u9 = [(h0, .inr (0, [.ref ak, .ref ap, .ref ac, .ref ash, .ref alo, .int (iI (rs.length : Int)), .ref apc, .ref aps, .ref apl, .int (iI np), .int (iI md), .int (iI th), va_rf lc, .int (iI nc)])), (ak, aI (K 0) 24 gk)]) ∨ (v9 = some (.int (iI 0)) ∧ ((rget rs y).1 ≠ (rget rs x).1) ∧ u9 = [(h0, .inr (0, [.ref ak, .ref ap, .ref ac, .ref ash, .ref alo, .int (iI (rs.length : Int)), .ref apc, .ref aps, .ref apl, .int (iI np), .int (iI md), .int (iI th), va_rf lc, .int (iI nc)])), (ak, aI (K 0) 24 gk)])) := by
  refine CT.start RX0 "haveSameKind" (by decide) rfl rfl (Nat.le_of_ble_eq_true rfl) ?_
  intro p9 e9 s9 m9 ag9 bl9 mt9 c9 A9 Q9 ls F G hR hl
  have hl : lv_has ls 3 [(0, .ref h0), (1, .int (iI x)), (2, .int (iI y))] := hl
  have hn := hW.1
  have b1 := hW.bd hx.1 hx.2
  refine lv_iload_n F.1 F.2.1 dX0_haveSameKind_0 rfl (lv_at hl 1 rfl) ?_
  refine ad_if_lt (tgt := 30) F (by omega) dX0_haveSameKind_1 (by decide) (fun cc_1 => ?_) (fun cc_1 => ?_)
  · exact absurd cc_1 (by omega)
  · refine lv_iload_n F.1 F.2.1 dX0_haveSameKind_4 rfl (lv_at hl 1 rfl) ?_
    refine lv_aload_n F.1 F.2.1 dX0_haveSameKind_5 rfl (lv_at hl 0 rfl) ?_
    refine ad_get F G fl_X0_44 0 rfl rfl dX0_haveSameKind_6 ?_
    refine ad_icmp_ge (tgt := 30) F (by omega) dX0_haveSameKind_9 (by decide) (fun cc_2 => ?_) (fun cc_2 => ?_)
    · exact absurd cc_2 (by omega)
    · refine lv_aload_n F.1 F.2.1 dX0_haveSameKind_12 rfl (lv_at hl 0 rfl) ?_
      refine lv_iload_n F.1 F.2.1 dX0_haveSameKind_13 rfl (lv_at hl 2 rfl) ?_
      refine lv_aload_n F.1 F.2.1 dX0_haveSameKind_14 rfl (lv_at hl 0 rfl) ?_
      refine ad_get F G fl_X0_9 0 rfl rfl dX0_haveSameKind_15 ?_
      refine lv_iload_n F.1 F.2.1 dX0_haveSameKind_18 rfl (lv_at hl 1 rfl) ?_
      refine ad_iald F G 1 rfl (w := (rget rs x).1) (by omega) (hB x (by omega) (by omega)).1 dX0_haveSameKind_19 ?_
      refine ad_callV (As := [.int (iI y), .int (iI ((rget rs x).1))]) (rest := []) F G (c_X0_isOfKind l D K z0 h0 ak ap ac ash alo apc aps apl lc gk gp gc gs gl rs np md th nc y ((rget rs x).1) hB hW (by omega) (by omega)) my_X0_isOfKind mv_X0_114 (wr := []) (isC := [0, 1]) (isR := []) ⟨rfl, rfl, rfl, rfl, by decide⟩ 0 0 rfl rfl rfl rfl ⟨Nat.le_of_ble_eq_true rfl, Nat.le_of_ble_eq_true rfl⟩ ⟨Nat.le_of_ble_eq_true rfl, Nat.le_of_ble_eq_true rfl⟩ (Nat.le_of_ble_eq_true rfl) hl.1 (cells9 := 0) (slots9 := 0) ⟨rfl, rfl⟩ dX0_haveSameKind_20 (fun v u H locs hw_3 G => ?_)
      rcases hw_3 with ⟨rfl, hc_4, rfl⟩ | ⟨rfl, hc_5, rfl⟩
      · replace G := G.perm (ws' := [(h0, .inr (0, [.ref ak, .ref ap, .ref ac, .ref ash, .ref alo, .int (iI (rs.length : Int)), .ref apc, .ref aps, .ref apl, .int (iI np), .int (iI md), .int (iI th), va_rf lc, .int (iI nc)])), (ak, aI (K 0) 24 gk)]) [0, 1] rfl rfl
        refine W.eq (g2 := F0 m9 23 ls [.int (iI 1)]) rfl ?_
        refine ad_if_eq (tgt := 30) F (by decide) dX0_haveSameKind_23 (by decide) (fun cc_6 => absurd cc_6 (by decide)) (fun _ => ?_)
        refine ad_iconst F dX0_haveSameKind_26 ?_
        refine lv_goto (tgt := 31) F.1 F.2.1 dX0_haveSameKind_27 (by decide) ?_
        exact ad_zreturn F G hR rfl (Nat.le_of_ble_eq_true rfl) (Nat.le_of_ble_eq_true rfl) rfl (Or.inl ⟨rfl, hc_4, rfl⟩) dX0_haveSameKind_31
      · replace G := G.perm (ws' := [(h0, .inr (0, [.ref ak, .ref ap, .ref ac, .ref ash, .ref alo, .int (iI (rs.length : Int)), .ref apc, .ref aps, .ref apl, .int (iI np), .int (iI md), .int (iI th), va_rf lc, .int (iI nc)])), (ak, aI (K 0) 24 gk)]) [0, 1] rfl rfl
        refine W.eq (g2 := F0 m9 23 ls [.int (iI 0)]) rfl ?_
        refine ad_if_eq (tgt := 30) F (by decide) dX0_haveSameKind_23 (by decide) (fun _ => ?_) (fun cc_7 => absurd cc_7 (by decide))
        refine ad_iconst F dX0_haveSameKind_30 ?_
        exact ad_zreturn F G hR rfl (Nat.le_of_ble_eq_true rfl) (Nat.le_of_ble_eq_true rfl) rfl (Or.inr (⟨rfl, hc_5, rfl⟩)) dX0_haveSameKind_31

def rm_X0_collide : Room := { frames := 3, cells := 0, slots := 0, locals := 56 }
set_option maxHeartbeats 4000000 in
set_option maxRecDepth 100000 in
theorem c_X0_collide (l : Launch) (D : va_G) (K : Nat → ClassId) (z0 : Nat) (h0 : Nat) (ak : Nat) (ap : Nat) (ac : Nat) (ash : Nat) (alo : Nat) (apc : Nat) (aps : Nat) (apl : Nat) (lc : Option Nat) (gk : Nat → Int) (gp : Nat → Int) (gc : Nat → Int) (gs : Nat → Int64) (gl : Nat → Int64) (rs : List Rl) (np : Int) (md : Int) (th : Int) (nc : Int) (x : Int) (y : Int) (hB : BRep gk gp gc gs gl rs) (hW : RW rs) (hx : 0 ≤ x ∧ x < rs.length) (hy : 0 ≤ y ∧ y < rs.length) : CT l D K z0 yX0_collide cX0_collide 3 (some .boolean) rm_X0_collide [.ref h0, .int (iI x), .int (iI y)] [(h0, .inr (0, [.ref ak, .ref ap, .ref ac, .ref ash, .ref alo, .int (iI (rs.length : Int)), .ref apc, .ref aps, .ref apl, .int (iI np), .int (iI md), .int (iI th), va_rf lc, .int (iI nc)])), (ak, aI (K 0) 24 gk), (ac, aI (K 0) 24 gc), (ash, aJ (K 1) 24 gs), (alo, aJ (K 1) 24 gl)] (fun v9 u9 => (v9 = some (.int (iI 1)) ∧ (cold rs x y) ∧ u9 = [(h0, .inr (0, [.ref ak, .ref ap, .ref ac, .ref ash, .ref alo, .int (iI (rs.length : Int)), .ref apc, .ref aps, .ref apl, .int (iI np), .int (iI md), .int (iI th), va_rf lc, .int (iI nc)])), (ak, aI (K 0) 24 gk), (ac, aI (K 0) 24 gc), (ash, aJ (K 1) 24 gs), (alo, aJ (K 1) 24 gl)]) ∨ (v9 = some (.int (iI 0)) ∧ (¬ cold rs x y) ∧ u9 = [(h0, .inr (0, [.ref ak, .ref ap, .ref ac, .ref ash, .ref alo, .int (iI (rs.length : Int)), .ref apc, .ref aps, .ref apl, .int (iI np), .int (iI md), .int (iI th), va_rf lc, .int (iI nc)])), (ak, aI (K 0) 24 gk), (ac, aI (K 0) 24 gc), (ash, aJ (K 1) 24 gs), (alo, aJ (K 1) 24 gl)])) := by
  refine CT.start RX0 "collide" (by decide) rfl rfl (Nat.le_of_ble_eq_true rfl) ?_
  intro p9 e9 s9 m9 ag9 bl9 mt9 c9 A9 Q9 ls F G hR hl
  have hl : lv_has ls 3 [(0, .ref h0), (1, .int (iI x)), (2, .int (iI y))] := hl
  have hn := hW.1
  have b1 := hW.bd hx.1 hx.2
  have b2 := hW.bd hy.1 hy.2
  have d1 := plN_le (rget rs x).2.2.1
  have d2 := plN_le (rget rs y).2.2.1
  refine lv_aload_n F.1 F.2.1 dX0_collide_0 rfl (lv_at hl 0 rfl) ?_
  refine lv_iload_n F.1 F.2.1 dX0_collide_1 rfl (lv_at hl 1 rfl) ?_
  refine lv_iload_n F.1 F.2.1 dX0_collide_2 rfl (lv_at hl 2 rfl) ?_
  refine ad_callV (As := [.int (iI x), .int (iI y)]) (rest := []) F G (c_X0_haveSameKind l D K z0 h0 ak ap ac ash alo apc aps apl lc gk gp gc gs gl rs np md th nc x y hB hW hx hy) my_X0_haveSameKind mv_X0_111 (wr := [(ac, aI (K 0) 24 gc), (ash, aJ (K 1) 24 gs), (alo, aJ (K 1) 24 gl)]) (isC := [0, 1]) (isR := [2, 3, 4]) ⟨rfl, rfl, rfl, rfl, by decide⟩ 0 0 rfl rfl rfl rfl ⟨Nat.le_of_ble_eq_true rfl, Nat.le_of_ble_eq_true rfl⟩ ⟨Nat.le_of_ble_eq_true rfl, Nat.le_of_ble_eq_true rfl⟩ (Nat.le_of_ble_eq_true rfl) hl.1 (cells9 := 0) (slots9 := 0) ⟨rfl, rfl⟩ dX0_collide_3 (fun v u H locs hw_1 G => ?_)
  rcases hw_1 with ⟨rfl, hc_2, rfl⟩ | ⟨rfl, hc_3, rfl⟩
  · replace G := G.perm (ws' := [(h0, .inr (0, [.ref ak, .ref ap, .ref ac, .ref ash, .ref alo, .int (iI (rs.length : Int)), .ref apc, .ref aps, .ref apl, .int (iI np), .int (iI md), .int (iI th), va_rf lc, .int (iI nc)])), (ak, aI (K 0) 24 gk), (ac, aI (K 0) 24 gc), (ash, aJ (K 1) 24 gs), (alo, aJ (K 1) 24 gl)]) [3, 4, 0, 1, 2] rfl rfl
    refine W.eq (g2 := F0 m9 6 ls [.int (iI 1)]) rfl ?_
    refine ad_if_eq (tgt := 59) F (by decide) dX0_collide_6 (by decide) (fun cc_4 => absurd cc_4 (by decide)) (fun _ => ?_)
    refine lv_aload_n F.1 F.2.1 dX0_collide_9 rfl (lv_at hl 0 rfl) ?_
    refine lv_iload_n F.1 F.2.1 dX0_collide_10 rfl (lv_at hl 1 rfl) ?_
    refine ad_iconst F dX0_collide_11 ?_
    refine ad_callV (As := [.int (iI x), .int (iI 0)]) (rest := []) F G (c_X0_formOf l D K z0 h0 ak ap ac ash alo apc aps apl lc gk gp gc gs gl rs np md th nc x 0 hB hW (by omega) (by omega)) my_X0_formOf mv_X0_96 (wr := [(ak, aI (K 0) 24 gk), (ac, aI (K 0) 24 gc)]) (isC := [0, 3, 4]) (isR := [1, 2]) ⟨rfl, rfl, rfl, rfl, by decide⟩ 0 0 rfl rfl rfl rfl ⟨Nat.le_of_ble_eq_true rfl, Nat.le_of_ble_eq_true rfl⟩ ⟨Nat.le_of_ble_eq_true rfl, Nat.le_of_ble_eq_true rfl⟩ (Nat.le_of_ble_eq_true rfl) hl.1 (cells9 := 0) (slots9 := 0) ⟨rfl, rfl⟩ dX0_collide_12 (fun v u H locs hw_5 G => ?_)
    obtain ⟨rfl, rfl⟩ := hw_5
    replace G := G.perm (ws' := [(h0, .inr (0, [.ref ak, .ref ap, .ref ac, .ref ash, .ref alo, .int (iI (rs.length : Int)), .ref apc, .ref aps, .ref apl, .int (iI np), .int (iI md), .int (iI th), va_rf lc, .int (iI nc)])), (ak, aI (K 0) 24 gk), (ac, aI (K 0) 24 gc), (ash, aJ (K 1) 24 gs), (alo, aJ (K 1) 24 gl)]) [2, 0, 1, 3, 4] rfl rfl
    refine W.eq (g2 := F0 m9 15 ls [.long (enc (fmo (rget rs x) 0))]) rfl ?_
    refine lv_aload_n F.1 F.2.1 dX0_collide_15 rfl (lv_at hl 0 rfl) ?_
    refine lv_iload_n F.1 F.2.1 dX0_collide_16 rfl (lv_at hl 2 rfl) ?_
    refine ad_iconst F dX0_collide_17 ?_
    refine ad_callV (As := [.int (iI y), .int (iI 0)]) (rest := [.long (enc (fmo (rget rs x) 0))]) F G (c_X0_formOf l D K z0 h0 ak ap ac ash alo apc aps apl lc gk gp gc gs gl rs np md th nc y 0 hB hW (by omega) (by omega)) my_X0_formOf mv_X0_96 (wr := [(ak, aI (K 0) 24 gk), (ac, aI (K 0) 24 gc)]) (isC := [0, 3, 4]) (isR := [1, 2]) ⟨rfl, rfl, rfl, rfl, by decide⟩ 0 0 rfl rfl rfl rfl ⟨Nat.le_of_ble_eq_true rfl, Nat.le_of_ble_eq_true rfl⟩ ⟨Nat.le_of_ble_eq_true rfl, Nat.le_of_ble_eq_true rfl⟩ (Nat.le_of_ble_eq_true rfl) hl.1 (cells9 := 0) (slots9 := 0) ⟨rfl, rfl⟩ dX0_collide_18 (fun v u H locs hw_6 G => ?_)
    obtain ⟨rfl, rfl⟩ := hw_6
    replace G := G.perm (ws' := [(h0, .inr (0, [.ref ak, .ref ap, .ref ac, .ref ash, .ref alo, .int (iI (rs.length : Int)), .ref apc, .ref aps, .ref apl, .int (iI np), .int (iI md), .int (iI th), va_rf lc, .int (iI nc)])), (ak, aI (K 0) 24 gk), (ac, aI (K 0) 24 gc), (ash, aJ (K 1) 24 gs), (alo, aJ (K 1) 24 gl)]) [2, 0, 1, 3, 4] rfl rfl
    refine W.eq (g2 := F0 m9 21 ls [.long (enc (fmo (rget rs y) 0)), .long (enc (fmo (rget rs x) 0))]) rfl ?_
    refine ad_lcmp_ne (tgt := 59) F dX0_collide_21 dX0_collide_22 (by decide) (fun cc_7 => ?_) (fun cc_7 => ?_)
    · refine ad_iconst F dX0_collide_59 ?_
      exact ad_zreturn F G hR rfl (Nat.le_of_ble_eq_true rfl) (Nat.le_of_ble_eq_true rfl) rfl (Or.inr (⟨rfl, (fun q => cc_7 (congrArg enc (show fmo (rget rs x) 0 = fmo (rget rs y) 0 from q.2.1))), rfl⟩)) dX0_collide_60
    · refine lv_aload_n F.1 F.2.1 dX0_collide_25 rfl (lv_at hl 0 rfl) ?_
      refine lv_iload_n F.1 F.2.1 dX0_collide_26 rfl (lv_at hl 1 rfl) ?_
      refine ad_iconst F dX0_collide_27 ?_
      refine ad_callV (As := [.int (iI x), .int (iI 1)]) (rest := []) F G (c_X0_formOf l D K z0 h0 ak ap ac ash alo apc aps apl lc gk gp gc gs gl rs np md th nc x 1 hB hW (by omega) (by omega)) my_X0_formOf mv_X0_96 (wr := [(ak, aI (K 0) 24 gk), (ac, aI (K 0) 24 gc)]) (isC := [0, 3, 4]) (isR := [1, 2]) ⟨rfl, rfl, rfl, rfl, by decide⟩ 0 0 rfl rfl rfl rfl ⟨Nat.le_of_ble_eq_true rfl, Nat.le_of_ble_eq_true rfl⟩ ⟨Nat.le_of_ble_eq_true rfl, Nat.le_of_ble_eq_true rfl⟩ (Nat.le_of_ble_eq_true rfl) hl.1 (cells9 := 0) (slots9 := 0) ⟨rfl, rfl⟩ dX0_collide_28 (fun v u H locs hw_8 G => ?_)
      obtain ⟨rfl, rfl⟩ := hw_8
      replace G := G.perm (ws' := [(h0, .inr (0, [.ref ak, .ref ap, .ref ac, .ref ash, .ref alo, .int (iI (rs.length : Int)), .ref apc, .ref aps, .ref apl, .int (iI np), .int (iI md), .int (iI th), va_rf lc, .int (iI nc)])), (ak, aI (K 0) 24 gk), (ac, aI (K 0) 24 gc), (ash, aJ (K 1) 24 gs), (alo, aJ (K 1) 24 gl)]) [2, 0, 1, 3, 4] rfl rfl
      refine W.eq (g2 := F0 m9 31 ls [.long (enc (fmo (rget rs x) 1))]) rfl ?_
      refine lv_aload_n F.1 F.2.1 dX0_collide_31 rfl (lv_at hl 0 rfl) ?_
      refine lv_iload_n F.1 F.2.1 dX0_collide_32 rfl (lv_at hl 2 rfl) ?_
      refine ad_iconst F dX0_collide_33 ?_
      refine ad_callV (As := [.int (iI y), .int (iI 1)]) (rest := [.long (enc (fmo (rget rs x) 1))]) F G (c_X0_formOf l D K z0 h0 ak ap ac ash alo apc aps apl lc gk gp gc gs gl rs np md th nc y 1 hB hW (by omega) (by omega)) my_X0_formOf mv_X0_96 (wr := [(ak, aI (K 0) 24 gk), (ac, aI (K 0) 24 gc)]) (isC := [0, 3, 4]) (isR := [1, 2]) ⟨rfl, rfl, rfl, rfl, by decide⟩ 0 0 rfl rfl rfl rfl ⟨Nat.le_of_ble_eq_true rfl, Nat.le_of_ble_eq_true rfl⟩ ⟨Nat.le_of_ble_eq_true rfl, Nat.le_of_ble_eq_true rfl⟩ (Nat.le_of_ble_eq_true rfl) hl.1 (cells9 := 0) (slots9 := 0) ⟨rfl, rfl⟩ dX0_collide_34 (fun v u H locs hw_9 G => ?_)
      obtain ⟨rfl, rfl⟩ := hw_9
      replace G := G.perm (ws' := [(h0, .inr (0, [.ref ak, .ref ap, .ref ac, .ref ash, .ref alo, .int (iI (rs.length : Int)), .ref apc, .ref aps, .ref apl, .int (iI np), .int (iI md), .int (iI th), va_rf lc, .int (iI nc)])), (ak, aI (K 0) 24 gk), (ac, aI (K 0) 24 gc), (ash, aJ (K 1) 24 gs), (alo, aJ (K 1) 24 gl)]) [2, 0, 1, 3, 4] rfl rfl
      refine W.eq (g2 := F0 m9 37 ls [.long (enc (fmo (rget rs y) 1)), .long (enc (fmo (rget rs x) 1))]) rfl ?_
      refine ad_lcmp_eq (tgt := 59) F dX0_collide_37 dX0_collide_38 (by decide) (fun cc_10 => ?_) (fun cc_10 => ?_)
      · refine ad_iconst F dX0_collide_59 ?_
        exact ad_zreturn F G hR rfl (Nat.le_of_ble_eq_true rfl) (Nat.le_of_ble_eq_true rfl) rfl (Or.inr (⟨rfl, (fun q => q.2.2.1 ((enc_inj (fmo_Fw hW _ _) (fmo_Fw hW _ _)).mp cc_10)), rfl⟩)) dX0_collide_60
      · refine lv_aload_n F.1 F.2.1 dX0_collide_41 rfl (lv_at hl 0 rfl) ?_
        refine lv_iload_n F.1 F.2.1 dX0_collide_42 rfl (lv_at hl 1 rfl) ?_
        refine ad_callV (As := [.int (iI x)]) (rest := []) F G (c_X0_placesOfRule l D K z0 h0 ak ap ac ash alo apc aps apl lc gk gp gc gs gl rs np md th nc x hB hW hx) my_X0_placesOfRule mv_X0_108 (wr := [(ak, aI (K 0) 24 gk), (ash, aJ (K 1) 24 gs), (alo, aJ (K 1) 24 gl)]) (isC := [0, 2]) (isR := [1, 3, 4]) ⟨rfl, rfl, rfl, rfl, by decide⟩ 0 0 rfl rfl rfl rfl ⟨Nat.le_of_ble_eq_true rfl, Nat.le_of_ble_eq_true rfl⟩ ⟨Nat.le_of_ble_eq_true rfl, Nat.le_of_ble_eq_true rfl⟩ (Nat.le_of_ble_eq_true rfl) hl.1 (cells9 := 0) (slots9 := 0) ⟨rfl, rfl⟩ dX0_collide_43 (fun v u H locs hw_11 G => ?_)
        obtain ⟨rfl, rfl⟩ := hw_11
        replace G := G.perm (ws' := [(h0, .inr (0, [.ref ak, .ref ap, .ref ac, .ref ash, .ref alo, .int (iI (rs.length : Int)), .ref apc, .ref aps, .ref apl, .int (iI np), .int (iI md), .int (iI th), va_rf lc, .int (iI nc)])), (ak, aI (K 0) 24 gk), (ac, aI (K 0) 24 gc), (ash, aJ (K 1) 24 gs), (alo, aJ (K 1) 24 gl)]) [3, 0, 4, 1, 2] rfl rfl
        refine W.eq (g2 := F0 m9 46 ls [.int (iI (plN (rget rs x).2.2.1 : Int))]) rfl ?_
        refine lv_aload_n F.1 F.2.1 dX0_collide_46 rfl (lv_at hl 0 rfl) ?_
        refine lv_iload_n F.1 F.2.1 dX0_collide_47 rfl (lv_at hl 2 rfl) ?_
        refine ad_callV (As := [.int (iI y)]) (rest := [.int (iI (plN (rget rs x).2.2.1 : Int))]) F G (c_X0_placesOfRule l D K z0 h0 ak ap ac ash alo apc aps apl lc gk gp gc gs gl rs np md th nc y hB hW hy) my_X0_placesOfRule mv_X0_108 (wr := [(ak, aI (K 0) 24 gk), (ash, aJ (K 1) 24 gs), (alo, aJ (K 1) 24 gl)]) (isC := [0, 2]) (isR := [1, 3, 4]) ⟨rfl, rfl, rfl, rfl, by decide⟩ 0 0 rfl rfl rfl rfl ⟨Nat.le_of_ble_eq_true rfl, Nat.le_of_ble_eq_true rfl⟩ ⟨Nat.le_of_ble_eq_true rfl, Nat.le_of_ble_eq_true rfl⟩ (Nat.le_of_ble_eq_true rfl) hl.1 (cells9 := 0) (slots9 := 0) ⟨rfl, rfl⟩ dX0_collide_48 (fun v u H locs hw_12 G => ?_)
        obtain ⟨rfl, rfl⟩ := hw_12
        replace G := G.perm (ws' := [(h0, .inr (0, [.ref ak, .ref ap, .ref ac, .ref ash, .ref alo, .int (iI (rs.length : Int)), .ref apc, .ref aps, .ref apl, .int (iI np), .int (iI md), .int (iI th), va_rf lc, .int (iI nc)])), (ak, aI (K 0) 24 gk), (ac, aI (K 0) 24 gc), (ash, aJ (K 1) 24 gs), (alo, aJ (K 1) 24 gl)]) [3, 0, 4, 1, 2] rfl rfl
        refine W.eq (g2 := F0 m9 51 ls [.int (iI (plN (rget rs y).2.2.1 : Int)), .int (iI (plN (rget rs x).2.2.1 : Int))]) rfl ?_
        refine ad_iand8 F (plN_le _) (plN_le _) dX0_collide_51 ?_
        refine ad_if_eq (tgt := 59) F (by have := and_le7 _ (plN (rget rs y).2.2.1) d1; omega) dX0_collide_52 (by decide) (fun cc_13 => ?_) (fun cc_13 => ?_)
        · refine ad_iconst F dX0_collide_59 ?_
          exact ad_zreturn F G hR rfl (Nat.le_of_ble_eq_true rfl) (Nat.le_of_ble_eq_true rfl) rfl (Or.inr (⟨rfl, (fun q => q.2.2.2 (by have := cc_13; omega)), rfl⟩)) dX0_collide_60
        · refine ad_iconst F dX0_collide_55 ?_
          refine lv_goto (tgt := 60) F.1 F.2.1 dX0_collide_56 (by decide) ?_
          exact ad_zreturn F G hR rfl (Nat.le_of_ble_eq_true rfl) (Nat.le_of_ble_eq_true rfl) rfl (Or.inl ⟨rfl, ⟨hc_2, (enc_inj (fmo_Fw hW _ _) (fmo_Fw hW _ _)).mp cc_7, fun q => cc_10 (congrArg enc (show fmo (rget rs x) 1 = fmo (rget rs y) 1 from q)), fun q => cc_13 (by rw [q]; rfl)⟩, rfl⟩) dX0_collide_60
  · replace G := G.perm (ws' := [(h0, .inr (0, [.ref ak, .ref ap, .ref ac, .ref ash, .ref alo, .int (iI (rs.length : Int)), .ref apc, .ref aps, .ref apl, .int (iI np), .int (iI md), .int (iI th), va_rf lc, .int (iI nc)])), (ak, aI (K 0) 24 gk), (ac, aI (K 0) 24 gc), (ash, aJ (K 1) 24 gs), (alo, aJ (K 1) 24 gl)]) [3, 4, 0, 1, 2] rfl rfl
    refine W.eq (g2 := F0 m9 6 ls [.int (iI 0)]) rfl ?_
    refine ad_if_eq (tgt := 59) F (by decide) dX0_collide_6 (by decide) (fun _ => ?_) (fun cc_14 => absurd cc_14 (by decide))
    refine ad_iconst F dX0_collide_59 ?_
    exact ad_zreturn F G hR rfl (Nat.le_of_ble_eq_true rfl) (Nat.le_of_ble_eq_true rfl) rfl (Or.inr (⟨rfl, (fun q => hc_3 q.1), rfl⟩)) dX0_collide_60

def rm_X0_isShadowedBy : Room := { frames := 3, cells := 0, slots := 0, locals := 57 }
set_option maxHeartbeats 4000000 in
set_option maxRecDepth 100000 in
theorem c_X0_isShadowedBy (l : Launch) (D : va_G) (K : Nat → ClassId) (z0 : Nat) (h0 : Nat) (ak : Nat) (ap : Nat) (ac : Nat) (ash : Nat) (alo : Nat) (apc : Nat) (aps : Nat) (apl : Nat) (lc : Option Nat) (gk : Nat → Int) (gp : Nat → Int) (gc : Nat → Int) (gs : Nat → Int64) (gl : Nat → Int64) (rs : List Rl) (np : Int) (md : Int) (th : Int) (nc : Int) (x : Int) (y : Int) (b : Int) (hB : BRep gk gp gc gs gl rs) (hW : RW rs) (hx : 0 ≤ x ∧ x < rs.length) (hy : 0 ≤ y ∧ y < rs.length) (hb : b = 0 ∨ b = 1) : CT l D K z0 yX0_isShadowedBy cX0_isShadowedBy 5 (some .boolean) rm_X0_isShadowedBy [.ref h0, .int (iI x), .int (iI y), .int (iI b)] [(h0, .inr (0, [.ref ak, .ref ap, .ref ac, .ref ash, .ref alo, .int (iI (rs.length : Int)), .ref apc, .ref aps, .ref apl, .int (iI np), .int (iI md), .int (iI th), va_rf lc, .int (iI nc)])), (ak, aI (K 0) 24 gk), (ap, aI (K 0) 24 gp), (ac, aI (K 0) 24 gc), (ash, aJ (K 1) 24 gs), (alo, aJ (K 1) 24 gl)] (fun v9 u9 => (v9 = some (.int (iI 1)) ∧ (shd rs x y b) ∧ u9 = [(h0, .inr (0, [.ref ak, .ref ap, .ref ac, .ref ash, .ref alo, .int (iI (rs.length : Int)), .ref apc, .ref aps, .ref apl, .int (iI np), .int (iI md), .int (iI th), va_rf lc, .int (iI nc)])), (ak, aI (K 0) 24 gk), (ap, aI (K 0) 24 gp), (ac, aI (K 0) 24 gc), (ash, aJ (K 1) 24 gs), (alo, aJ (K 1) 24 gl)]) ∨ (v9 = some (.int (iI 0)) ∧ (¬ shd rs x y b) ∧ u9 = [(h0, .inr (0, [.ref ak, .ref ap, .ref ac, .ref ash, .ref alo, .int (iI (rs.length : Int)), .ref apc, .ref aps, .ref apl, .int (iI np), .int (iI md), .int (iI th), va_rf lc, .int (iI nc)])), (ak, aI (K 0) 24 gk), (ap, aI (K 0) 24 gp), (ac, aI (K 0) 24 gc), (ash, aJ (K 1) 24 gs), (alo, aJ (K 1) 24 gl)])) := by
  refine CT.start RX0 "isShadowedBy" (by decide) rfl rfl (Nat.le_of_ble_eq_true rfl) ?_
  intro p9 e9 s9 m9 ag9 bl9 mt9 c9 A9 Q9 ls F G hR hl
  have hl : lv_has ls 5 [(0, .ref h0), (1, .int (iI x)), (2, .int (iI y)), (3, .int (iI b))] := hl
  have hn := hW.1
  have b1 := hW.bd hx.1 hx.2
  have b2 := hW.bd hy.1 hy.2
  have d1 := plN_le (rget rs x).2.2.1
  have d2 := plN_le (rget rs y).2.2.1
  refine lv_aload_n F.1 F.2.1 dX0_isShadowedBy_0 rfl (lv_at hl 0 rfl) ?_
  refine lv_iload_n F.1 F.2.1 dX0_isShadowedBy_1 rfl (lv_at hl 1 rfl) ?_
  refine ad_callV (As := [.int (iI x)]) (rest := []) F G (c_X0_placesOfRule l D K z0 h0 ak ap ac ash alo apc aps apl lc gk gp gc gs gl rs np md th nc x hB hW hx) my_X0_placesOfRule mv_X0_108 (wr := [(ak, aI (K 0) 24 gk), (ap, aI (K 0) 24 gp), (ash, aJ (K 1) 24 gs), (alo, aJ (K 1) 24 gl)]) (isC := [0, 3]) (isR := [1, 2, 4, 5]) ⟨rfl, rfl, rfl, rfl, by decide⟩ 0 0 rfl rfl rfl rfl ⟨Nat.le_of_ble_eq_true rfl, Nat.le_of_ble_eq_true rfl⟩ ⟨Nat.le_of_ble_eq_true rfl, Nat.le_of_ble_eq_true rfl⟩ (Nat.le_of_ble_eq_true rfl) hl.1 (cells9 := 0) (slots9 := 0) ⟨rfl, rfl⟩ dX0_isShadowedBy_2 (fun v u H locs hw_1 G => ?_)
  obtain ⟨rfl, rfl⟩ := hw_1
  replace G := G.perm (ws' := [(h0, .inr (0, [.ref ak, .ref ap, .ref ac, .ref ash, .ref alo, .int (iI (rs.length : Int)), .ref apc, .ref aps, .ref apl, .int (iI np), .int (iI md), .int (iI th), va_rf lc, .int (iI nc)])), (ak, aI (K 0) 24 gk), (ap, aI (K 0) 24 gp), (ac, aI (K 0) 24 gc), (ash, aJ (K 1) 24 gs), (alo, aJ (K 1) 24 gl)]) [4, 0, 1, 5, 2, 3] rfl rfl
  refine W.eq (g2 := F0 m9 5 ls [.int (iI (plN (rget rs x).2.2.1 : Int))]) rfl ?_
  refine ad_bipush F dX0_isShadowedBy_5 (by decide) ?_
  refine lv_aload_n F.1 F.2.1 dX0_isShadowedBy_7 rfl (lv_at hl 0 rfl) ?_
  refine lv_iload_n F.1 F.2.1 dX0_isShadowedBy_8 rfl (lv_at hl 2 rfl) ?_
  refine ad_callV (As := [.int (iI y)]) (rest := [.int (iI 7), .int (iI (plN (rget rs x).2.2.1 : Int))]) F G (c_X0_placesOfRule l D K z0 h0 ak ap ac ash alo apc aps apl lc gk gp gc gs gl rs np md th nc y hB hW hy) my_X0_placesOfRule mv_X0_108 (wr := [(ak, aI (K 0) 24 gk), (ap, aI (K 0) 24 gp), (ash, aJ (K 1) 24 gs), (alo, aJ (K 1) 24 gl)]) (isC := [0, 3]) (isR := [1, 2, 4, 5]) ⟨rfl, rfl, rfl, rfl, by decide⟩ 0 0 rfl rfl rfl rfl ⟨Nat.le_of_ble_eq_true rfl, Nat.le_of_ble_eq_true rfl⟩ ⟨Nat.le_of_ble_eq_true rfl, Nat.le_of_ble_eq_true rfl⟩ (Nat.le_of_ble_eq_true rfl) hl.1 (cells9 := 0) (slots9 := 0) ⟨rfl, rfl⟩ dX0_isShadowedBy_9 (fun v u H locs hw_2 G => ?_)
  obtain ⟨rfl, rfl⟩ := hw_2
  replace G := G.perm (ws' := [(h0, .inr (0, [.ref ak, .ref ap, .ref ac, .ref ash, .ref alo, .int (iI (rs.length : Int)), .ref apc, .ref aps, .ref apl, .int (iI np), .int (iI md), .int (iI th), va_rf lc, .int (iI nc)])), (ak, aI (K 0) 24 gk), (ap, aI (K 0) 24 gp), (ac, aI (K 0) 24 gc), (ash, aJ (K 1) 24 gs), (alo, aJ (K 1) 24 gl)]) [4, 0, 1, 5, 2, 3] rfl rfl
  refine W.eq (g2 := F0 m9 12 ls [.int (iI (plN (rget rs y).2.2.1 : Int)), .int (iI 7), .int (iI (plN (rget rs x).2.2.1 : Int))]) rfl ?_
  refine ad_isub F dX0_isShadowedBy_12 ?_
  refine ad_topi (y := ((7 - plN (rget rs y).2.2.1 : Nat) : Int)) (by omega) ?_
  refine ad_iand8 F (plN_le _) (by omega) dX0_isShadowedBy_13 ?_
  refine lv_istore (lv' := [(4, .int (iI ((plN (rget rs x).2.2.1 &&& (7 - plN (rget rs y).2.2.1) : Nat) : Int))), (0, .ref h0), (1, .int (iI x)), (2, .int (iI y)), (3, .int (iI b))]) F.1 F.2.1 dX0_isShadowedBy_14 hl (by decide) rfl (fun ls hl => ?_)
  refine lv_aload_n F.1 F.2.1 dX0_isShadowedBy_16 rfl (lv_at hl 1 rfl) ?_
  refine lv_iload_n F.1 F.2.1 dX0_isShadowedBy_17 rfl (lv_at hl 2 rfl) ?_
  refine lv_iload_n F.1 F.2.1 dX0_isShadowedBy_18 rfl (lv_at hl 3 rfl) ?_
  refine ad_callV (As := [.int (iI x), .int (iI y)]) (rest := []) F G (c_X0_haveSameKind l D K z0 h0 ak ap ac ash alo apc aps apl lc gk gp gc gs gl rs np md th nc x y hB hW hx hy) my_X0_haveSameKind mv_X0_111 (wr := [(ap, aI (K 0) 24 gp), (ac, aI (K 0) 24 gc), (ash, aJ (K 1) 24 gs), (alo, aJ (K 1) 24 gl)]) (isC := [0, 1]) (isR := [2, 3, 4, 5]) ⟨rfl, rfl, rfl, rfl, by decide⟩ 0 0 rfl rfl rfl rfl ⟨Nat.le_of_ble_eq_true rfl, Nat.le_of_ble_eq_true rfl⟩ ⟨Nat.le_of_ble_eq_true rfl, Nat.le_of_ble_eq_true rfl⟩ (Nat.le_of_ble_eq_true rfl) hl.1 (cells9 := 0) (slots9 := 0) ⟨rfl, rfl⟩ dX0_isShadowedBy_19 (fun v u H locs hw_3 G => ?_)
  rcases hw_3 with ⟨rfl, hc_4, rfl⟩ | ⟨rfl, hc_5, rfl⟩
  · replace G := G.perm (ws' := [(h0, .inr (0, [.ref ak, .ref ap, .ref ac, .ref ash, .ref alo, .int (iI (rs.length : Int)), .ref apc, .ref aps, .ref apl, .int (iI np), .int (iI md), .int (iI th), va_rf lc, .int (iI nc)])), (ak, aI (K 0) 24 gk), (ap, aI (K 0) 24 gp), (ac, aI (K 0) 24 gc), (ash, aJ (K 1) 24 gs), (alo, aJ (K 1) 24 gl)]) [4, 5, 0, 1, 2, 3] rfl rfl
    refine W.eq (g2 := F0 m9 22 ls [.int (iI 1)]) rfl ?_
    refine ad_if_eq (tgt := 59) F (by decide) dX0_isShadowedBy_22 (by decide) (fun cc_6 => absurd cc_6 (by decide)) (fun _ => ?_)
    refine lv_aload_n F.1 F.2.1 dX0_isShadowedBy_25 rfl (lv_at hl 1 rfl) ?_
    refine lv_iload_n F.1 F.2.1 dX0_isShadowedBy_26 rfl (lv_at hl 3 rfl) ?_
    refine lv_iload_n F.1 F.2.1 dX0_isShadowedBy_27 rfl (lv_at hl 2 rfl) ?_
    refine ad_callV (As := [.int (iI y), .int (iI x)]) (rest := []) F G (c_X0_isBetter l D K z0 h0 ak ap ac ash alo apc aps apl lc gk gp gc gs gl rs np md th nc y x hB hW hy hx) my_X0_isBetter mv_X0_104 (wr := [(ak, aI (K 0) 24 gk), (ac, aI (K 0) 24 gc)]) (isC := [0, 2, 4, 5]) (isR := [1, 3]) ⟨rfl, rfl, rfl, rfl, by decide⟩ 0 0 rfl rfl rfl rfl ⟨Nat.le_of_ble_eq_true rfl, Nat.le_of_ble_eq_true rfl⟩ ⟨Nat.le_of_ble_eq_true rfl, Nat.le_of_ble_eq_true rfl⟩ (Nat.le_of_ble_eq_true rfl) hl.1 (cells9 := 0) (slots9 := 0) ⟨rfl, rfl⟩ dX0_isShadowedBy_28 (fun v u H locs hw_7 G => ?_)
    rcases hw_7 with ⟨rfl, hc_8, rfl⟩ | ⟨rfl, hc_9, rfl⟩
    · replace G := G.perm (ws' := [(h0, .inr (0, [.ref ak, .ref ap, .ref ac, .ref ash, .ref alo, .int (iI (rs.length : Int)), .ref apc, .ref aps, .ref apl, .int (iI np), .int (iI md), .int (iI th), va_rf lc, .int (iI nc)])), (ak, aI (K 0) 24 gk), (ap, aI (K 0) 24 gp), (ac, aI (K 0) 24 gc), (ash, aJ (K 1) 24 gs), (alo, aJ (K 1) 24 gl)]) [2, 0, 3, 1, 4, 5] rfl rfl
      refine W.eq (g2 := F0 m9 31 ls [.int (iI 1)]) rfl ?_
      refine ad_if_eq (tgt := 59) F (by decide) dX0_isShadowedBy_31 (by decide) (fun cc_10 => absurd cc_10 (by decide)) (fun _ => ?_)
      refine lv_aload_n F.1 F.2.1 dX0_isShadowedBy_34 rfl (lv_at hl 1 rfl) ?_
      refine lv_iload_n F.1 F.2.1 dX0_isShadowedBy_35 rfl (lv_at hl 2 rfl) ?_
      refine lv_iload_n F.1 F.2.1 dX0_isShadowedBy_36 rfl (lv_at hl 4 rfl) ?_
      refine ad_callV (As := [.int (iI x), .int (iI b)]) (rest := []) F G (c_X0_formOf l D K z0 h0 ak ap ac ash alo apc aps apl lc gk gp gc gs gl rs np md th nc x b hB hW (by omega) hb) my_X0_formOf mv_X0_96 (wr := [(ak, aI (K 0) 24 gk), (ap, aI (K 0) 24 gp), (ac, aI (K 0) 24 gc)]) (isC := [0, 4, 5]) (isR := [1, 2, 3]) ⟨rfl, rfl, rfl, rfl, by decide⟩ 0 0 rfl rfl rfl rfl ⟨Nat.le_of_ble_eq_true rfl, Nat.le_of_ble_eq_true rfl⟩ ⟨Nat.le_of_ble_eq_true rfl, Nat.le_of_ble_eq_true rfl⟩ (Nat.le_of_ble_eq_true rfl) hl.1 (cells9 := 0) (slots9 := 0) ⟨rfl, rfl⟩ dX0_isShadowedBy_37 (fun v u H locs hw_11 G => ?_)
      obtain ⟨rfl, rfl⟩ := hw_11
      replace G := G.perm (ws' := [(h0, .inr (0, [.ref ak, .ref ap, .ref ac, .ref ash, .ref alo, .int (iI (rs.length : Int)), .ref apc, .ref aps, .ref apl, .int (iI np), .int (iI md), .int (iI th), va_rf lc, .int (iI nc)])), (ak, aI (K 0) 24 gk), (ap, aI (K 0) 24 gp), (ac, aI (K 0) 24 gc), (ash, aJ (K 1) 24 gs), (alo, aJ (K 1) 24 gl)]) [3, 0, 1, 2, 4, 5] rfl rfl
      refine W.eq (g2 := F0 m9 40 ls [.long (enc (fmo (rget rs x) b))]) rfl ?_
      refine lv_aload_n F.1 F.2.1 dX0_isShadowedBy_40 rfl (lv_at hl 1 rfl) ?_
      refine lv_iload_n F.1 F.2.1 dX0_isShadowedBy_41 rfl (lv_at hl 3 rfl) ?_
      refine lv_iload_n F.1 F.2.1 dX0_isShadowedBy_42 rfl (lv_at hl 4 rfl) ?_
      refine ad_callV (As := [.int (iI y), .int (iI b)]) (rest := [.long (enc (fmo (rget rs x) b))]) F G (c_X0_formOf l D K z0 h0 ak ap ac ash alo apc aps apl lc gk gp gc gs gl rs np md th nc y b hB hW (by omega) hb) my_X0_formOf mv_X0_96 (wr := [(ak, aI (K 0) 24 gk), (ap, aI (K 0) 24 gp), (ac, aI (K 0) 24 gc)]) (isC := [0, 4, 5]) (isR := [1, 2, 3]) ⟨rfl, rfl, rfl, rfl, by decide⟩ 0 0 rfl rfl rfl rfl ⟨Nat.le_of_ble_eq_true rfl, Nat.le_of_ble_eq_true rfl⟩ ⟨Nat.le_of_ble_eq_true rfl, Nat.le_of_ble_eq_true rfl⟩ (Nat.le_of_ble_eq_true rfl) hl.1 (cells9 := 0) (slots9 := 0) ⟨rfl, rfl⟩ dX0_isShadowedBy_43 (fun v u H locs hw_12 G => ?_)
      obtain ⟨rfl, rfl⟩ := hw_12
      replace G := G.perm (ws' := [(h0, .inr (0, [.ref ak, .ref ap, .ref ac, .ref ash, .ref alo, .int (iI (rs.length : Int)), .ref apc, .ref aps, .ref apl, .int (iI np), .int (iI md), .int (iI th), va_rf lc, .int (iI nc)])), (ak, aI (K 0) 24 gk), (ap, aI (K 0) 24 gp), (ac, aI (K 0) 24 gc), (ash, aJ (K 1) 24 gs), (alo, aJ (K 1) 24 gl)]) [3, 0, 1, 2, 4, 5] rfl rfl
      refine W.eq (g2 := F0 m9 46 ls [.long (enc (fmo (rget rs y) b)), .long (enc (fmo (rget rs x) b))]) rfl ?_
      refine ad_lcmp_ne (tgt := 59) F dX0_isShadowedBy_46 dX0_isShadowedBy_47 (by decide) (fun cc_13 => ?_) (fun cc_13 => ?_)
      · refine ad_iconst F dX0_isShadowedBy_59 ?_
        exact ad_zreturn F G hR rfl (Nat.le_of_ble_eq_true rfl) (Nat.le_of_ble_eq_true rfl) rfl (Or.inr (⟨rfl, (fun q => cc_13 (congrArg enc q.2.2.1)), rfl⟩)) dX0_isShadowedBy_60
      · refine lv_iload F.1 F.2.1 dX0_isShadowedBy_50 (lv_at hl 0 rfl) ?_
        refine ad_if_ne (tgt := 59) F (by have := and_le7 _ (7 - plN (rget rs y).2.2.1) d1; omega) dX0_isShadowedBy_52 (by decide) (fun cc_14 => ?_) (fun cc_14 => ?_)
        · refine ad_iconst F dX0_isShadowedBy_59 ?_
          exact ad_zreturn F G hR rfl (Nat.le_of_ble_eq_true rfl) (Nat.le_of_ble_eq_true rfl) rfl (Or.inr (⟨rfl, (fun q => cc_14 (by rw [q.2.2.2]; rfl)), rfl⟩)) dX0_isShadowedBy_60
        · refine ad_iconst F dX0_isShadowedBy_55 ?_
          refine lv_goto (tgt := 60) F.1 F.2.1 dX0_isShadowedBy_56 (by decide) ?_
          exact ad_zreturn F G hR rfl (Nat.le_of_ble_eq_true rfl) (Nat.le_of_ble_eq_true rfl) rfl (Or.inl ⟨rfl, ⟨hc_4, hc_8, (enc_inj (fmo_Fw hW _ _) (fmo_Fw hW _ _)).mp cc_13, by have := cc_14; omega⟩, rfl⟩) dX0_isShadowedBy_60
    · replace G := G.perm (ws' := [(h0, .inr (0, [.ref ak, .ref ap, .ref ac, .ref ash, .ref alo, .int (iI (rs.length : Int)), .ref apc, .ref aps, .ref apl, .int (iI np), .int (iI md), .int (iI th), va_rf lc, .int (iI nc)])), (ak, aI (K 0) 24 gk), (ap, aI (K 0) 24 gp), (ac, aI (K 0) 24 gc), (ash, aJ (K 1) 24 gs), (alo, aJ (K 1) 24 gl)]) [2, 0, 3, 1, 4, 5] rfl rfl
      refine W.eq (g2 := F0 m9 31 ls [.int (iI 0)]) rfl ?_
      refine ad_if_eq (tgt := 59) F (by decide) dX0_isShadowedBy_31 (by decide) (fun _ => ?_) (fun cc_15 => absurd cc_15 (by decide))
      refine ad_iconst F dX0_isShadowedBy_59 ?_
      exact ad_zreturn F G hR rfl (Nat.le_of_ble_eq_true rfl) (Nat.le_of_ble_eq_true rfl) rfl (Or.inr (⟨rfl, (fun q => hc_9 q.2.1), rfl⟩)) dX0_isShadowedBy_60
  · replace G := G.perm (ws' := [(h0, .inr (0, [.ref ak, .ref ap, .ref ac, .ref ash, .ref alo, .int (iI (rs.length : Int)), .ref apc, .ref aps, .ref apl, .int (iI np), .int (iI md), .int (iI th), va_rf lc, .int (iI nc)])), (ak, aI (K 0) 24 gk), (ap, aI (K 0) 24 gp), (ac, aI (K 0) 24 gc), (ash, aJ (K 1) 24 gs), (alo, aJ (K 1) 24 gl)]) [4, 5, 0, 1, 2, 3] rfl rfl
    refine W.eq (g2 := F0 m9 22 ls [.int (iI 0)]) rfl ?_
    refine ad_if_eq (tgt := 59) F (by decide) dX0_isShadowedBy_22 (by decide) (fun _ => ?_) (fun cc_16 => absurd cc_16 (by decide))
    refine ad_iconst F dX0_isShadowedBy_59 ?_
    exact ad_zreturn F G hR rfl (Nat.le_of_ble_eq_true rfl) (Nat.le_of_ble_eq_true rfl) rfl (Or.inr (⟨rfl, (fun q => hc_5 q.1), rfl⟩)) dX0_isShadowedBy_60

def rm_X0_collisions : Room := { frames := 4, cells := 0, slots := 0, locals := 78 }
set_option maxHeartbeats 4000000 in
set_option maxRecDepth 100000 in
theorem c_X0_collisions (l : Launch) (D : va_G) (K : Nat → ClassId) (z0 : Nat) (h0 : Nat) (ak : Nat) (ap : Nat) (ac : Nat) (ash : Nat) (alo : Nat) (apc : Nat) (aps : Nat) (apl : Nat) (lc : Option Nat) (gk : Nat → Int) (gp : Nat → Int) (gc : Nat → Int) (gs : Nat → Int64) (gl : Nat → Int64) (rs : List Rl) (np : Int) (md : Int) (th : Int) (nc : Int) (hB : BRep gk gp gc gs gl rs) (hW : RW rs) : CT l D K z0 yX0_collisions cX0_collisions 4 (some .int) rm_X0_collisions [.ref h0] [(h0, .inr (0, [.ref ak, .ref ap, .ref ac, .ref ash, .ref alo, .int (iI (rs.length : Int)), .ref apc, .ref aps, .ref apl, .int (iI np), .int (iI md), .int (iI th), va_rf lc, .int (iI nc)])), (ak, aI (K 0) 24 gk), (ac, aI (K 0) 24 gc), (ash, aJ (K 1) 24 gs), (alo, aJ (K 1) 24 gl)] (fun v9 u9 => v9 = some (.int (iI ((colO rs rs.length).length : Int))) ∧ u9 = [(h0, .inr (0, [.ref ak, .ref ap, .ref ac, .ref ash, .ref alo, .int (iI (rs.length : Int)), .ref apc, .ref aps, .ref apl, .int (iI np), .int (iI md), .int (iI th), va_rf lc, .int (iI nc)])), (ak, aI (K 0) 24 gk), (ac, aI (K 0) 24 gc), (ash, aJ (K 1) 24 gs), (alo, aJ (K 1) 24 gl)]) := by
  refine CT.start RX0 "collisions" (by decide) rfl rfl (Nat.le_of_ble_eq_true rfl) ?_
  intro p9 e9 s9 m9 ag9 bl9 mt9 c9 A9 Q9 ls F G hR hl
  have hl : lv_has ls 4 [(0, .ref h0)] := hl
  have hn := hW.1
  have hcb := colO_len rs rs.length
  refine ad_iconst F dX0_collisions_0 ?_
  refine lv_istore_n (lv' := [(1, .int (iI 0)), (0, .ref h0)]) F.1 F.2.1 dX0_collisions_1 rfl hl (by decide) rfl (fun ls hl => ?_)
  refine ad_iconst F dX0_collisions_2 ?_
  refine lv_istore_n (lv' := [(2, .int (iI 0)), (1, .int (iI 0)), (0, .ref h0)]) F.1 F.2.1 dX0_collisions_3 rfl hl (by decide) rfl (fun ls hl => ?_)
  have lp4 : ∀ (n4 : Nat) (i : Int) (k : Int) (H : Heap) (locs : List Loc) (ls : Array Slot), (0 ≤ i ∧ i ≤ rs.length) → (k = (colO rs i.toNat).length) → (rs.length - i) < (n4 : Int) → ad_G D A9 s9.heap H locs [(h0, .inr (0, [.ref ak, .ref ap, .ref ac, .ref ash, .ref alo, .int (iI (rs.length : Int)), .ref apc, .ref aps, .ref apl, .int (iI np), .int (iI md), .int (iI th), va_rf lc, .int (iI nc)])), (ak, aI (K 0) 24 gk), (ac, aI (K 0) 24 gc), (ash, aJ (K 1) 24 gs), (alo, aJ (K 1) 24 gl)] → lv_has ls 4 [(0, .ref h0), (1, .int (iI k)), (2, .int (iI i))] → W p9 l e9 rm_X0_collisions s9 m9 ag9 bl9 mt9 c9 H locs 0 0 Q9 (F0 m9 4 ls []) := by
    intro n4
    induction n4 with
    | zero =>
      intro i k H locs ls hi hk hm4
      exact absurd hm4 (by omega)
    | succ n4 ih4 =>
      intro i k H locs ls hi hk hm4 G hl
      refine lv_iload_n F.1 F.2.1 dX0_collisions_4 rfl (lv_at hl 2 rfl) ?_
      refine lv_aload_n F.1 F.2.1 dX0_collisions_5 rfl (lv_at hl 0 rfl) ?_
      refine ad_get F G fl_X0_44 0 rfl rfl dX0_collisions_6 ?_
      refine ad_icmp_ge (tgt := 48) F (by omega) dX0_collisions_9 (by decide) (fun cc_1 => ?_) (fun cc_1 => ?_)
      · refine lv_iload_n F.1 F.2.1 dX0_collisions_48 rfl (lv_at hl 1 rfl) ?_
        exact ad_ireturn F G hR rfl (Nat.le_of_ble_eq_true rfl) (Nat.le_of_ble_eq_true rfl) ⟨(ad_eqi (by rw [hk, show i = rs.length by omega]; rfl)), rfl⟩ dX0_collisions_49
      · refine lv_iload_n F.1 F.2.1 dX0_collisions_12 rfl (lv_at hl 2 rfl) ?_
        refine ad_iconst F dX0_collisions_13 ?_
        refine ad_iadd F dX0_collisions_14 ?_
        refine lv_istore_n (lv' := [(3, .int (iI (i + 1))), (0, .ref h0), (1, .int (iI k)), (2, .int (iI i))]) F.1 F.2.1 dX0_collisions_15 rfl hl (by decide) rfl (fun ls hl => ?_)
        have lp16 : ∀ (n16 : Nat) (j : Int) (k2 : Int) (H : Heap) (locs : List Loc) (ls : Array Slot), (i < j ∧ j ≤ rs.length) → (k2 = (colO rs i.toNat).length + (colI rs i j.toNat).length) → (rs.length - j) < (n16 : Int) → ad_G D A9 s9.heap H locs [(h0, .inr (0, [.ref ak, .ref ap, .ref ac, .ref ash, .ref alo, .int (iI (rs.length : Int)), .ref apc, .ref aps, .ref apl, .int (iI np), .int (iI md), .int (iI th), va_rf lc, .int (iI nc)])), (ak, aI (K 0) 24 gk), (ac, aI (K 0) 24 gc), (ash, aJ (K 1) 24 gs), (alo, aJ (K 1) 24 gl)] → lv_has ls 4 [(0, .ref h0), (1, .int (iI k2)), (2, .int (iI i)), (3, .int (iI j))] → W p9 l e9 rm_X0_collisions s9 m9 ag9 bl9 mt9 c9 H locs 0 0 Q9 (F0 m9 16 ls []) := by
          intro n16
          induction n16 with
          | zero =>
            intro j k2 H locs ls hj hk2 hm16
            exact absurd hm16 (by omega)
          | succ n16 ih16 =>
            intro j k2 H locs ls hj hk2 hm16 G hl
            refine lv_iload_n F.1 F.2.1 dX0_collisions_16 rfl (lv_at hl 3 rfl) ?_
            refine lv_aload_n F.1 F.2.1 dX0_collisions_17 rfl (lv_at hl 0 rfl) ?_
            refine ad_get F G fl_X0_44 0 rfl rfl dX0_collisions_18 ?_
            refine ad_icmp_ge (tgt := 42) F (by omega) dX0_collisions_21 (by decide) (fun cc_2 => ?_) (fun cc_2 => ?_)
            · refine ad_iinc (lv' := [(2, .int (iI (i + 1))), (0, .ref h0), (1, .int (iI k2)), (3, .int (iI j))]) F dX0_collisions_42 hl (k := 2) rfl (by decide) rfl (fun ls hl => ?_)
              refine lv_goto (tgt := 4) F.1 F.2.1 dX0_collisions_45 (by decide) ?_
              exact ih4 (i + 1) k2 _ _ _ (by omega) (by rw [hk2, show j = rs.length by omega, colO_s (by omega), List.length_append]; simp only [Int.toNat_natCast]; omega) (by omega) (G.perm (ws' := [(h0, .inr (0, [.ref ak, .ref ap, .ref ac, .ref ash, .ref alo, .int (iI (rs.length : Int)), .ref apc, .ref aps, .ref apl, .int (iI np), .int (iI md), .int (iI th), va_rf lc, .int (iI nc)])), (ak, aI (K 0) 24 gk), (ac, aI (K 0) 24 gc), (ash, aJ (K 1) 24 gs), (alo, aJ (K 1) 24 gl)]) [0, 1, 2, 3, 4] rfl rfl) (lv_sub hl [1, 2, 0] rfl)
            · refine lv_aload_n F.1 F.2.1 dX0_collisions_24 rfl (lv_at hl 0 rfl) ?_
              refine lv_iload_n F.1 F.2.1 dX0_collisions_25 rfl (lv_at hl 2 rfl) ?_
              refine lv_iload_n F.1 F.2.1 dX0_collisions_26 rfl (lv_at hl 3 rfl) ?_
              refine ad_callV (As := [.int (iI i), .int (iI j)]) (rest := []) F G (c_X0_collide l D K z0 h0 ak ap ac ash alo apc aps apl lc gk gp gc gs gl rs np md th nc i j hB hW (by omega) (by omega)) my_X0_collide mv_X0_117 (wr := []) (isC := [0, 1, 2, 3, 4]) (isR := []) ⟨rfl, rfl, rfl, rfl, by decide⟩ 0 0 rfl rfl rfl rfl ⟨Nat.le_of_ble_eq_true rfl, Nat.le_of_ble_eq_true rfl⟩ ⟨Nat.le_of_ble_eq_true rfl, Nat.le_of_ble_eq_true rfl⟩ (Nat.le_of_ble_eq_true rfl) hl.1 (cells9 := 0) (slots9 := 0) ⟨rfl, rfl⟩ dX0_collisions_27 (fun v u H locs hw_3 G => ?_)
              rcases hw_3 with ⟨rfl, hc_4, rfl⟩ | ⟨rfl, hc_5, rfl⟩
              · replace G := G.perm (ws' := [(h0, .inr (0, [.ref ak, .ref ap, .ref ac, .ref ash, .ref alo, .int (iI (rs.length : Int)), .ref apc, .ref aps, .ref apl, .int (iI np), .int (iI md), .int (iI th), va_rf lc, .int (iI nc)])), (ak, aI (K 0) 24 gk), (ac, aI (K 0) 24 gc), (ash, aJ (K 1) 24 gs), (alo, aJ (K 1) 24 gl)]) [0, 1, 2, 3, 4] rfl rfl
                refine W.eq (g2 := F0 m9 30 ls [.int (iI 1)]) rfl ?_
                refine ad_if_eq (tgt := 36) F (by decide) dX0_collisions_30 (by decide) (fun cc_6 => absurd cc_6 (by decide)) (fun _ => ?_)
                refine ad_iinc (lv' := [(1, .int (iI (k2 + 1))), (0, .ref h0), (2, .int (iI i)), (3, .int (iI j))]) F dX0_collisions_33 hl (k := 1) rfl (by decide) rfl (fun ls hl => ?_)
                refine ad_iinc (lv' := [(3, .int (iI (j + 1))), (1, .int (iI (k2 + 1))), (0, .ref h0), (2, .int (iI i))]) F dX0_collisions_36 hl (k := 3) rfl (by decide) rfl (fun ls hl => ?_)
                refine lv_goto (tgt := 16) F.1 F.2.1 dX0_collisions_39 (by decide) ?_
                exact ih16 (j + 1) (k2 + 1) _ _ _ (by omega) (by rw [hk2, colI_s (by omega), if_pos ⟨by omega, cob_iff.mpr hc_4⟩, List.length_append]; simp only [List.length_cons, List.length_nil]; omega) (by omega) (G.perm (ws' := [(h0, .inr (0, [.ref ak, .ref ap, .ref ac, .ref ash, .ref alo, .int (iI (rs.length : Int)), .ref apc, .ref aps, .ref apl, .int (iI np), .int (iI md), .int (iI th), va_rf lc, .int (iI nc)])), (ak, aI (K 0) 24 gk), (ac, aI (K 0) 24 gc), (ash, aJ (K 1) 24 gs), (alo, aJ (K 1) 24 gl)]) [0, 1, 2, 3, 4] rfl rfl) (lv_sub hl [2, 1, 3, 0] rfl)
              · replace G := G.perm (ws' := [(h0, .inr (0, [.ref ak, .ref ap, .ref ac, .ref ash, .ref alo, .int (iI (rs.length : Int)), .ref apc, .ref aps, .ref apl, .int (iI np), .int (iI md), .int (iI th), va_rf lc, .int (iI nc)])), (ak, aI (K 0) 24 gk), (ac, aI (K 0) 24 gc), (ash, aJ (K 1) 24 gs), (alo, aJ (K 1) 24 gl)]) [0, 1, 2, 3, 4] rfl rfl
                refine W.eq (g2 := F0 m9 30 ls [.int (iI 0)]) rfl ?_
                refine ad_if_eq (tgt := 36) F (by decide) dX0_collisions_30 (by decide) (fun _ => ?_) (fun cc_7 => absurd cc_7 (by decide))
                refine ad_iinc (lv' := [(3, .int (iI (j + 1))), (0, .ref h0), (1, .int (iI k2)), (2, .int (iI i))]) F dX0_collisions_36 hl (k := 3) rfl (by decide) rfl (fun ls hl => ?_)
                refine lv_goto (tgt := 16) F.1 F.2.1 dX0_collisions_39 (by decide) ?_
                exact ih16 (j + 1) k2 _ _ _ (by omega) (by rw [hk2, colI_s (by omega), if_neg (fun q => hc_5 (cob_iff.mp q.2)), List.append_nil]) (by omega) (G.perm (ws' := [(h0, .inr (0, [.ref ak, .ref ap, .ref ac, .ref ash, .ref alo, .int (iI (rs.length : Int)), .ref apc, .ref aps, .ref apl, .int (iI np), .int (iI md), .int (iI th), va_rf lc, .int (iI nc)])), (ak, aI (K 0) 24 gk), (ac, aI (K 0) 24 gc), (ash, aJ (K 1) 24 gs), (alo, aJ (K 1) 24 gl)]) [0, 1, 2, 3, 4] rfl rfl) (lv_sub hl [1, 2, 3, 0] rfl)
        exact lp16 ((((rs.length - (i + 1) : Int)) + 1).toNat) (i + 1) k _ _ _ (by omega) (by rw [hk]; have := congrArg List.length (colI_z (rs := rs) (i := i) (i + 1).toNat (by omega)); simp only [List.length_nil] at this; omega) (by omega) (G.perm (ws' := [(h0, .inr (0, [.ref ak, .ref ap, .ref ac, .ref ash, .ref alo, .int (iI (rs.length : Int)), .ref apc, .ref aps, .ref apl, .int (iI np), .int (iI md), .int (iI th), va_rf lc, .int (iI nc)])), (ak, aI (K 0) 24 gk), (ac, aI (K 0) 24 gc), (ash, aJ (K 1) 24 gs), (alo, aJ (K 1) 24 gl)]) [0, 1, 2, 3, 4] rfl rfl) (lv_sub hl [1, 2, 3, 0] rfl)
  exact lp4 ((((rs.length - 0 : Int)) + 1).toNat) 0 0 _ _ _ (by omega) rfl (by omega) (G.perm (ws' := [(h0, .inr (0, [.ref ak, .ref ap, .ref ac, .ref ash, .ref alo, .int (iI (rs.length : Int)), .ref apc, .ref aps, .ref apl, .int (iI np), .int (iI md), .int (iI th), va_rf lc, .int (iI nc)])), (ak, aI (K 0) 24 gk), (ac, aI (K 0) 24 gc), (ash, aJ (K 1) 24 gs), (alo, aJ (K 1) 24 gl)]) [0, 1, 2, 3, 4] rfl rfl) (lv_sub hl [2, 1, 0] rfl)

def rm_X0_collidingRule : Room := { frames := 4, cells := 0, slots := 0, locals := 78 }
set_option maxHeartbeats 4000000 in
set_option maxRecDepth 100000 in
theorem c_X0_collidingRule (l : Launch) (D : va_G) (K : Nat → ClassId) (z0 : Nat) (h0 : Nat) (ak : Nat) (ap : Nat) (ac : Nat) (ash : Nat) (alo : Nat) (apc : Nat) (aps : Nat) (apl : Nat) (lc : Option Nat) (gk : Nat → Int) (gp : Nat → Int) (gc : Nat → Int) (gs : Nat → Int64) (gl : Nat → Int64) (rs : List Rl) (np : Int) (md : Int) (th : Int) (nc : Int) (z : Int) (b : Int) (hB : BRep gk gp gc gs gl rs) (hW : RW rs) (hz : -2147483648 ≤ z ∧ z < 2147483648) (hb : b = 0 ∨ b = 1) : CT l D K z0 yX0_collidingRule cX0_collidingRule 6 (some .int) rm_X0_collidingRule [.ref h0, .int (iI z), .int (iI b)] [(h0, .inr (0, [.ref ak, .ref ap, .ref ac, .ref ash, .ref alo, .int (iI (rs.length : Int)), .ref apc, .ref aps, .ref apl, .int (iI np), .int (iI md), .int (iI th), va_rf lc, .int (iI nc)])), (ak, aI (K 0) 24 gk), (ac, aI (K 0) 24 gc), (ash, aJ (K 1) 24 gs), (alo, aJ (K 1) 24 gl)] (fun v9 u9 => ∃ (r : Int), v9 = some (.int (iI r)) ∧ ((∃ x y : Int, 0 ≤ z ∧ (colO rs rs.length)[z.toNat]? = some (x, y) ∧ r = (if b = 1 then y else x) ∧ 0 ≤ r) ∨ (r = -1 ∧ (z < 0 ∨ ((colO rs rs.length).length : Int) ≤ z))) ∧ u9 = [(h0, .inr (0, [.ref ak, .ref ap, .ref ac, .ref ash, .ref alo, .int (iI (rs.length : Int)), .ref apc, .ref aps, .ref apl, .int (iI np), .int (iI md), .int (iI th), va_rf lc, .int (iI nc)])), (ak, aI (K 0) 24 gk), (ac, aI (K 0) 24 gc), (ash, aJ (K 1) 24 gs), (alo, aJ (K 1) 24 gl)]) := by
  refine CT.start RX0 "collidingRule" (by decide) rfl rfl (Nat.le_of_ble_eq_true rfl) ?_
  intro p9 e9 s9 m9 ag9 bl9 mt9 c9 A9 Q9 ls F G hR hl
  have hl : lv_has ls 6 [(0, .ref h0), (1, .int (iI z)), (2, .int (iI b))] := hl
  have hn := hW.1
  have hcb := colO_len rs rs.length
  refine ad_iconst F dX0_collidingRule_0 ?_
  refine lv_istore_n (lv' := [(3, .int (iI 0)), (0, .ref h0), (1, .int (iI z)), (2, .int (iI b))]) F.1 F.2.1 dX0_collidingRule_1 rfl hl (by decide) rfl (fun ls hl => ?_)
  refine ad_iconst F dX0_collidingRule_2 ?_
  refine lv_istore (lv' := [(4, .int (iI 0)), (3, .int (iI 0)), (0, .ref h0), (1, .int (iI z)), (2, .int (iI b))]) F.1 F.2.1 dX0_collidingRule_3 hl (by decide) rfl (fun ls hl => ?_)
  have lp5 : ∀ (n5 : Nat) (i : Int) (k : Int) (H : Heap) (locs : List Loc) (ls : Array Slot), (0 ≤ i ∧ i ≤ rs.length) → (k = (colO rs i.toNat).length) → (z < 0 ∨ k ≤ z) → (rs.length - i) < (n5 : Int) → ad_G D A9 s9.heap H locs [(h0, .inr (0, [.ref ak, .ref ap, .ref ac, .ref ash, .ref alo, .int (iI (rs.length : Int)), .ref apc, .ref aps, .ref apl, .int (iI np), .int (iI md), .int (iI th), va_rf lc, .int (iI nc)])), (ak, aI (K 0) 24 gk), (ac, aI (K 0) 24 gc), (ash, aJ (K 1) 24 gs), (alo, aJ (K 1) 24 gl)] → lv_has ls 6 [(0, .ref h0), (1, .int (iI z)), (2, .int (iI b)), (3, .int (iI k)), (4, .int (iI i))] → W p9 l e9 rm_X0_collidingRule s9 m9 ag9 bl9 mt9 c9 H locs 0 0 Q9 (F0 m9 5 ls []) := by
    intro n5
    induction n5 with
    | zero =>
      intro i k H locs ls hi hk hne hm5
      exact absurd hm5 (by omega)
    | succ n5 ih5 =>
      intro i k H locs ls hi hk hne hm5 G hl
      have hkb : k ≤ 576 := by have := colO_len rs i.toNat; have := Nat.mul_le_mul (show i.toNat ≤ 24 by omega) hn; omega
      refine lv_iload F.1 F.2.1 dX0_collidingRule_5 (lv_at hl 4 rfl) ?_
      refine lv_aload_n F.1 F.2.1 dX0_collidingRule_7 rfl (lv_at hl 0 rfl) ?_
      refine ad_get F G fl_X0_44 0 rfl rfl dX0_collidingRule_8 ?_
      refine ad_icmp_ge (tgt := 72) F (by omega) dX0_collidingRule_11 (by decide) (fun cc_1 => ?_) (fun cc_1 => ?_)
      · refine ad_iconst F dX0_collidingRule_72 ?_
        exact ad_ireturn F G hR rfl (Nat.le_of_ble_eq_true rfl) (Nat.le_of_ble_eq_true rfl) ⟨(-1), rfl, (Or.inr ⟨rfl, by rw [show i = rs.length by omega, Int.toNat_natCast] at hk; omega⟩), rfl⟩ dX0_collidingRule_73
      · refine lv_iload F.1 F.2.1 dX0_collidingRule_14 (lv_at hl 4 rfl) ?_
        refine ad_iconst F dX0_collidingRule_16 ?_
        refine ad_iadd F dX0_collidingRule_17 ?_
        refine lv_istore (lv' := [(5, .int (iI (i + 1))), (0, .ref h0), (1, .int (iI z)), (2, .int (iI b)), (3, .int (iI k)), (4, .int (iI i))]) F.1 F.2.1 dX0_collidingRule_18 hl (by decide) rfl (fun ls hl => ?_)
        have lp20 : ∀ (n20 : Nat) (j : Int) (k2 : Int) (H : Heap) (locs : List Loc) (ls : Array Slot), (i < j ∧ j ≤ rs.length) → (k2 = (colO rs i.toNat).length + (colI rs i j.toNat).length) → (z < 0 ∨ k2 ≤ z) → (rs.length - j) < (n20 : Int) → ad_G D A9 s9.heap H locs [(h0, .inr (0, [.ref ak, .ref ap, .ref ac, .ref ash, .ref alo, .int (iI (rs.length : Int)), .ref apc, .ref aps, .ref apl, .int (iI np), .int (iI md), .int (iI th), va_rf lc, .int (iI nc)])), (ak, aI (K 0) 24 gk), (ac, aI (K 0) 24 gc), (ash, aJ (K 1) 24 gs), (alo, aJ (K 1) 24 gl)] → lv_has ls 6 [(0, .ref h0), (1, .int (iI z)), (2, .int (iI b)), (3, .int (iI k2)), (4, .int (iI i)), (5, .int (iI j))] → W p9 l e9 rm_X0_collidingRule s9 m9 ag9 bl9 mt9 c9 H locs 0 0 Q9 (F0 m9 20 ls []) := by
          intro n20
          induction n20 with
          | zero =>
            intro j k2 H locs ls hj hk2 hne2 hm20
            exact absurd hm20 (by omega)
          | succ n20 ih20 =>
            intro j k2 H locs ls hj hk2 hne2 hm20 G hl
            have hkc : k2 ≤ 600 := by have := colI_len rs i j.toNat; omega
            refine lv_iload F.1 F.2.1 dX0_collidingRule_20 (lv_at hl 5 rfl) ?_
            refine lv_aload_n F.1 F.2.1 dX0_collidingRule_22 rfl (lv_at hl 0 rfl) ?_
            refine ad_get F G fl_X0_44 0 rfl rfl dX0_collidingRule_23 ?_
            refine ad_icmp_ge (tgt := 66) F (by omega) dX0_collidingRule_26 (by decide) (fun cc_2 => ?_) (fun cc_2 => ?_)
            · refine ad_iinc (lv' := [(4, .int (iI (i + 1))), (0, .ref h0), (1, .int (iI z)), (2, .int (iI b)), (3, .int (iI k2)), (5, .int (iI j))]) F dX0_collidingRule_66 hl (k := 4) rfl (by decide) rfl (fun ls hl => ?_)
              refine lv_goto (tgt := 5) F.1 F.2.1 dX0_collidingRule_69 (by decide) ?_
              exact ih5 (i + 1) k2 _ _ _ (by omega) (by rw [hk2, show j = rs.length by omega, colO_s (by omega), List.length_append]; simp only [Int.toNat_natCast]; omega) hne2 (by omega) (G.perm (ws' := [(h0, .inr (0, [.ref ak, .ref ap, .ref ac, .ref ash, .ref alo, .int (iI (rs.length : Int)), .ref apc, .ref aps, .ref apl, .int (iI np), .int (iI md), .int (iI th), va_rf lc, .int (iI nc)])), (ak, aI (K 0) 24 gk), (ac, aI (K 0) 24 gc), (ash, aJ (K 1) 24 gs), (alo, aJ (K 1) 24 gl)]) [0, 1, 2, 3, 4] rfl rfl) (lv_sub hl [1, 2, 3, 4, 0] rfl)
            · refine lv_aload_n F.1 F.2.1 dX0_collidingRule_29 rfl (lv_at hl 0 rfl) ?_
              refine lv_iload F.1 F.2.1 dX0_collidingRule_30 (lv_at hl 4 rfl) ?_
              refine lv_iload F.1 F.2.1 dX0_collidingRule_32 (lv_at hl 5 rfl) ?_
              refine ad_callV (As := [.int (iI i), .int (iI j)]) (rest := []) F G (c_X0_collide l D K z0 h0 ak ap ac ash alo apc aps apl lc gk gp gc gs gl rs np md th nc i j hB hW (by omega) (by omega)) my_X0_collide mv_X0_117 (wr := []) (isC := [0, 1, 2, 3, 4]) (isR := []) ⟨rfl, rfl, rfl, rfl, by decide⟩ 0 0 rfl rfl rfl rfl ⟨Nat.le_of_ble_eq_true rfl, Nat.le_of_ble_eq_true rfl⟩ ⟨Nat.le_of_ble_eq_true rfl, Nat.le_of_ble_eq_true rfl⟩ (Nat.le_of_ble_eq_true rfl) hl.1 (cells9 := 0) (slots9 := 0) ⟨rfl, rfl⟩ dX0_collidingRule_34 (fun v u H locs hw_3 G => ?_)
              rcases hw_3 with ⟨rfl, hc_4, rfl⟩ | ⟨rfl, hc_5, rfl⟩
              · replace G := G.perm (ws' := [(h0, .inr (0, [.ref ak, .ref ap, .ref ac, .ref ash, .ref alo, .int (iI (rs.length : Int)), .ref apc, .ref aps, .ref apl, .int (iI np), .int (iI md), .int (iI th), va_rf lc, .int (iI nc)])), (ak, aI (K 0) 24 gk), (ac, aI (K 0) 24 gc), (ash, aJ (K 1) 24 gs), (alo, aJ (K 1) 24 gl)]) [0, 1, 2, 3, 4] rfl rfl
                refine W.eq (g2 := F0 m9 37 ls [.int (iI 1)]) rfl ?_
                refine ad_if_eq (tgt := 60) F (by decide) dX0_collidingRule_37 (by decide) (fun cc_6 => absurd cc_6 (by decide)) (fun _ => ?_)
                refine lv_iload_n F.1 F.2.1 dX0_collidingRule_40 rfl (lv_at hl 3 rfl) ?_
                refine lv_iload_n F.1 F.2.1 dX0_collidingRule_41 rfl (lv_at hl 1 rfl) ?_
                refine ad_icmp_ne (tgt := 57) F (by omega) dX0_collidingRule_42 (by decide) (fun cc_7 => ?_) (fun cc_7 => ?_)
                · refine ad_iinc (lv' := [(3, .int (iI (k2 + 1))), (0, .ref h0), (1, .int (iI z)), (2, .int (iI b)), (4, .int (iI i)), (5, .int (iI j))]) F dX0_collidingRule_57 hl (k := 3) rfl (by decide) rfl (fun ls hl => ?_)
                  refine ad_iinc (lv' := [(5, .int (iI (j + 1))), (3, .int (iI (k2 + 1))), (0, .ref h0), (1, .int (iI z)), (2, .int (iI b)), (4, .int (iI i))]) F dX0_collidingRule_60 hl (k := 5) rfl (by decide) rfl (fun ls hl => ?_)
                  refine lv_goto (tgt := 20) F.1 F.2.1 dX0_collidingRule_63 (by decide) ?_
                  exact ih20 (j + 1) (k2 + 1) _ _ _ (by omega) (by rw [hk2, colI_s (by omega), if_pos ⟨by omega, cob_iff.mpr hc_4⟩, List.length_append]; simp only [List.length_cons, List.length_nil]; omega) (by omega) (by omega) (G.perm (ws' := [(h0, .inr (0, [.ref ak, .ref ap, .ref ac, .ref ash, .ref alo, .int (iI (rs.length : Int)), .ref apc, .ref aps, .ref apl, .int (iI np), .int (iI md), .int (iI th), va_rf lc, .int (iI nc)])), (ak, aI (K 0) 24 gk), (ac, aI (K 0) 24 gc), (ash, aJ (K 1) 24 gs), (alo, aJ (K 1) 24 gl)]) [0, 1, 2, 3, 4] rfl rfl) (lv_sub hl [2, 3, 4, 1, 5, 0] rfl)
                · refine lv_iload_n F.1 F.2.1 dX0_collidingRule_45 rfl (lv_at hl 2 rfl) ?_
                  refine ad_if_eq (tgt := 54) F (by omega) dX0_collidingRule_46 (by decide) (fun cc_8 => ?_) (fun cc_8 => ?_)
                  · refine lv_iload F.1 F.2.1 dX0_collidingRule_54 (lv_at hl 4 rfl) ?_
                    exact ad_ireturn F G hR rfl (Nat.le_of_ble_eq_true rfl) (Nat.le_of_ble_eq_true rfl) ⟨i, rfl, (Or.inl ⟨i, j, by omega, by rw [show z.toNat = (colO rs i.toNat).length + (colI rs i j.toNat).length by omega]; exact col_at hi.1 hj.1 (by omega) hc_4, by split <;> omega, by omega⟩), rfl⟩ dX0_collidingRule_56
                  · refine lv_iload F.1 F.2.1 dX0_collidingRule_49 (lv_at hl 5 rfl) ?_
                    refine lv_goto (tgt := 56) F.1 F.2.1 dX0_collidingRule_51 (by decide) ?_
                    exact ad_ireturn F G hR rfl (Nat.le_of_ble_eq_true rfl) (Nat.le_of_ble_eq_true rfl) ⟨j, rfl, (Or.inl ⟨i, j, by omega, by rw [show z.toNat = (colO rs i.toNat).length + (colI rs i j.toNat).length by omega]; exact col_at hi.1 hj.1 (by omega) hc_4, by split <;> omega, by omega⟩), rfl⟩ dX0_collidingRule_56
              · replace G := G.perm (ws' := [(h0, .inr (0, [.ref ak, .ref ap, .ref ac, .ref ash, .ref alo, .int (iI (rs.length : Int)), .ref apc, .ref aps, .ref apl, .int (iI np), .int (iI md), .int (iI th), va_rf lc, .int (iI nc)])), (ak, aI (K 0) 24 gk), (ac, aI (K 0) 24 gc), (ash, aJ (K 1) 24 gs), (alo, aJ (K 1) 24 gl)]) [0, 1, 2, 3, 4] rfl rfl
                refine W.eq (g2 := F0 m9 37 ls [.int (iI 0)]) rfl ?_
                refine ad_if_eq (tgt := 60) F (by decide) dX0_collidingRule_37 (by decide) (fun _ => ?_) (fun cc_9 => absurd cc_9 (by decide))
                refine ad_iinc (lv' := [(5, .int (iI (j + 1))), (0, .ref h0), (1, .int (iI z)), (2, .int (iI b)), (3, .int (iI k2)), (4, .int (iI i))]) F dX0_collidingRule_60 hl (k := 5) rfl (by decide) rfl (fun ls hl => ?_)
                refine lv_goto (tgt := 20) F.1 F.2.1 dX0_collidingRule_63 (by decide) ?_
                exact ih20 (j + 1) k2 _ _ _ (by omega) (by rw [hk2, colI_s (by omega), if_neg (fun q => hc_5 (cob_iff.mp q.2)), List.append_nil]) hne2 (by omega) (G.perm (ws' := [(h0, .inr (0, [.ref ak, .ref ap, .ref ac, .ref ash, .ref alo, .int (iI (rs.length : Int)), .ref apc, .ref aps, .ref apl, .int (iI np), .int (iI md), .int (iI th), va_rf lc, .int (iI nc)])), (ak, aI (K 0) 24 gk), (ac, aI (K 0) 24 gc), (ash, aJ (K 1) 24 gs), (alo, aJ (K 1) 24 gl)]) [0, 1, 2, 3, 4] rfl rfl) (lv_sub hl [1, 2, 3, 4, 5, 0] rfl)
        exact lp20 ((((rs.length - (i + 1) : Int)) + 1).toNat) (i + 1) k _ _ _ (by omega) (by rw [hk]; have := congrArg List.length (colI_z (rs := rs) (i := i) (i + 1).toNat (by omega)); simp only [List.length_nil] at this; omega) hne (by omega) (G.perm (ws' := [(h0, .inr (0, [.ref ak, .ref ap, .ref ac, .ref ash, .ref alo, .int (iI (rs.length : Int)), .ref apc, .ref aps, .ref apl, .int (iI np), .int (iI md), .int (iI th), va_rf lc, .int (iI nc)])), (ak, aI (K 0) 24 gk), (ac, aI (K 0) 24 gc), (ash, aJ (K 1) 24 gs), (alo, aJ (K 1) 24 gl)]) [0, 1, 2, 3, 4] rfl rfl) (lv_sub hl [1, 2, 3, 4, 5, 0] rfl)
  exact lp5 ((((rs.length - 0 : Int)) + 1).toNat) 0 0 _ _ _ (by omega) rfl (by omega) (by omega) (G.perm (ws' := [(h0, .inr (0, [.ref ak, .ref ap, .ref ac, .ref ash, .ref alo, .int (iI (rs.length : Int)), .ref apc, .ref aps, .ref apl, .int (iI np), .int (iI md), .int (iI th), va_rf lc, .int (iI nc)])), (ak, aI (K 0) 24 gk), (ac, aI (K 0) 24 gc), (ash, aJ (K 1) 24 gs), (alo, aJ (K 1) 24 gl)]) [0, 1, 2, 3, 4] rfl rfl) (lv_sub hl [2, 3, 4, 1, 0] rfl)

def rm_X0_savingOf : Room := { frames := 2, cells := 0, slots := 0, locals := 34 }
set_option maxHeartbeats 4000000 in
set_option maxRecDepth 100000 in
theorem c_X0_savingOf (l : Launch) (D : va_G) (K : Nat → ClassId) (z0 : Nat) (h0 : Nat) (ak : Nat) (ap : Nat) (ac : Nat) (ash : Nat) (alo : Nat) (apc : Nat) (aps : Nat) (apl : Nat) (lc : Option Nat) (gk : Nat → Int) (gp : Nat → Int) (gc : Nat → Int) (gs : Nat → Int64) (gl : Nat → Int64) (rs : List Rl) (np : Int) (md : Int) (th : Int) (nc : Int) (z : Int) (hB : BRep gk gp gc gs gl rs) (hW : RW rs) (hz : 0 ≤ z ∧ z < rs.length) : CT l D K z0 yX0_savingOf cX0_savingOf 3 (some .int) rm_X0_savingOf [.ref h0, .int (iI z)] [(h0, .inr (0, [.ref ak, .ref ap, .ref ac, .ref ash, .ref alo, .int (iI (rs.length : Int)), .ref apc, .ref aps, .ref apl, .int (iI np), .int (iI md), .int (iI th), va_rf lc, .int (iI nc)])), (ak, aI (K 0) 24 gk), (ash, aJ (K 1) 24 gs), (alo, aJ (K 1) 24 gl)] (fun v9 u9 => v9 = some (.int (iI (sav (rget rs z)))) ∧ u9 = [(h0, .inr (0, [.ref ak, .ref ap, .ref ac, .ref ash, .ref alo, .int (iI (rs.length : Int)), .ref apc, .ref aps, .ref apl, .int (iI np), .int (iI md), .int (iI th), va_rf lc, .int (iI nc)])), (ak, aI (K 0) 24 gk), (ash, aJ (K 1) 24 gs), (alo, aJ (K 1) 24 gl)]) := by
  refine CT.start RX0 "savingOf" (by decide) rfl rfl (Nat.le_of_ble_eq_true rfl) ?_
  intro p9 e9 s9 m9 ag9 bl9 mt9 c9 A9 Q9 ls F G hR hl
  have hl : lv_has ls 3 [(0, .ref h0), (1, .int (iI z))] := hl
  have hn := hW.1
  have b1 := hW.bd hz.1 hz.2
  refine lv_aload_n F.1 F.2.1 dX0_savingOf_0 rfl (lv_at hl 0 rfl) ?_
  refine lv_iload_n F.1 F.2.1 dX0_savingOf_1 rfl (lv_at hl 1 rfl) ?_
  refine ad_iconst F dX0_savingOf_2 ?_
  refine ad_callV (As := [.int (iI z), .int (iI 1)]) (rest := []) F G (c_X0_formOf l D K z0 h0 ak ap ac ash alo apc aps apl lc gk gp gc gs gl rs np md th nc z 1 hB hW (by omega) (by omega)) my_X0_formOf mv_X0_96 (wr := [(ak, aI (K 0) 24 gk)]) (isC := [0, 2, 3]) (isR := [1]) ⟨rfl, rfl, rfl, rfl, by decide⟩ 0 0 rfl rfl rfl rfl ⟨Nat.le_of_ble_eq_true rfl, Nat.le_of_ble_eq_true rfl⟩ ⟨Nat.le_of_ble_eq_true rfl, Nat.le_of_ble_eq_true rfl⟩ (Nat.le_of_ble_eq_true rfl) hl.1 (cells9 := 0) (slots9 := 0) ⟨rfl, rfl⟩ dX0_savingOf_3 (fun v u H locs hw_1 G => ?_)
  obtain ⟨rfl, rfl⟩ := hw_1
  replace G := G.perm (ws' := [(h0, .inr (0, [.ref ak, .ref ap, .ref ac, .ref ash, .ref alo, .int (iI (rs.length : Int)), .ref apc, .ref aps, .ref apl, .int (iI np), .int (iI md), .int (iI th), va_rf lc, .int (iI nc)])), (ak, aI (K 0) 24 gk), (ash, aJ (K 1) 24 gs), (alo, aJ (K 1) 24 gl)]) [1, 0, 2, 3] rfl rfl
  refine W.eq (g2 := F0 m9 6 ls [.long (enc (fmo (rget rs z) 1))]) rfl ?_
  refine ad_callS (As := [.long (enc (fmo (rget rs z) 1))]) (rest := []) F G (c_X2_lengthOf l D K z0 (fmo (rget rs z) 1) (fmo_Fw hW _ _)) my_X2_lengthOf ms_X0_100 (wr := [(h0, .inr (0, [.ref ak, .ref ap, .ref ac, .ref ash, .ref alo, .int (iI (rs.length : Int)), .ref apc, .ref aps, .ref apl, .int (iI np), .int (iI md), .int (iI th), va_rf lc, .int (iI nc)])), (ak, aI (K 0) 24 gk), (ash, aJ (K 1) 24 gs), (alo, aJ (K 1) 24 gl)]) (isC := []) (isR := [0, 1, 2, 3]) ⟨rfl, rfl, rfl, rfl, by decide⟩ rfl rfl ⟨Nat.le_of_ble_eq_true rfl, Nat.le_of_ble_eq_true rfl⟩ ⟨Nat.le_of_ble_eq_true rfl, Nat.le_of_ble_eq_true rfl⟩ (Nat.le_of_ble_eq_true rfl) hl.1 (cells9 := 0) (slots9 := 0) ⟨rfl, rfl⟩ dX0_savingOf_6 (fun v u H locs hw_2 G => ?_)
  obtain ⟨rfl, rfl⟩ := hw_2
  replace G := G.perm (ws' := [(h0, .inr (0, [.ref ak, .ref ap, .ref ac, .ref ash, .ref alo, .int (iI (rs.length : Int)), .ref apc, .ref aps, .ref apl, .int (iI np), .int (iI md), .int (iI th), va_rf lc, .int (iI nc)])), (ak, aI (K 0) 24 gk), (ash, aJ (K 1) 24 gs), (alo, aJ (K 1) 24 gl)]) [0, 1, 2, 3] rfl rfl
  refine W.eq (g2 := F0 m9 9 ls [.int (iI ((fmo (rget rs z) 1).length : Int))]) rfl ?_
  refine ad_topi (y := ((rget rs z).2.2.2.2.length : Int)) rfl ?_
  refine lv_aload_n F.1 F.2.1 dX0_savingOf_9 rfl (lv_at hl 0 rfl) ?_
  refine lv_iload_n F.1 F.2.1 dX0_savingOf_10 rfl (lv_at hl 1 rfl) ?_
  refine ad_iconst F dX0_savingOf_11 ?_
  refine ad_callV (As := [.int (iI z), .int (iI 0)]) (rest := [.int (iI ((rget rs z).2.2.2.2.length : Int))]) F G (c_X0_formOf l D K z0 h0 ak ap ac ash alo apc aps apl lc gk gp gc gs gl rs np md th nc z 0 hB hW (by omega) (by omega)) my_X0_formOf mv_X0_96 (wr := [(ak, aI (K 0) 24 gk)]) (isC := [0, 2, 3]) (isR := [1]) ⟨rfl, rfl, rfl, rfl, by decide⟩ 0 0 rfl rfl rfl rfl ⟨Nat.le_of_ble_eq_true rfl, Nat.le_of_ble_eq_true rfl⟩ ⟨Nat.le_of_ble_eq_true rfl, Nat.le_of_ble_eq_true rfl⟩ (Nat.le_of_ble_eq_true rfl) hl.1 (cells9 := 0) (slots9 := 0) ⟨rfl, rfl⟩ dX0_savingOf_12 (fun v u H locs hw_3 G => ?_)
  obtain ⟨rfl, rfl⟩ := hw_3
  replace G := G.perm (ws' := [(h0, .inr (0, [.ref ak, .ref ap, .ref ac, .ref ash, .ref alo, .int (iI (rs.length : Int)), .ref apc, .ref aps, .ref apl, .int (iI np), .int (iI md), .int (iI th), va_rf lc, .int (iI nc)])), (ak, aI (K 0) 24 gk), (ash, aJ (K 1) 24 gs), (alo, aJ (K 1) 24 gl)]) [1, 0, 2, 3] rfl rfl
  refine W.eq (g2 := F0 m9 15 ls [.long (enc (fmo (rget rs z) 0)), .int (iI ((rget rs z).2.2.2.2.length : Int))]) rfl ?_
  refine ad_callS (As := [.long (enc (fmo (rget rs z) 0))]) (rest := [.int (iI ((rget rs z).2.2.2.2.length : Int))]) F G (c_X2_lengthOf l D K z0 (fmo (rget rs z) 0) (fmo_Fw hW _ _)) my_X2_lengthOf ms_X0_100 (wr := [(h0, .inr (0, [.ref ak, .ref ap, .ref ac, .ref ash, .ref alo, .int (iI (rs.length : Int)), .ref apc, .ref aps, .ref apl, .int (iI np), .int (iI md), .int (iI th), va_rf lc, .int (iI nc)])), (ak, aI (K 0) 24 gk), (ash, aJ (K 1) 24 gs), (alo, aJ (K 1) 24 gl)]) (isC := []) (isR := [0, 1, 2, 3]) ⟨rfl, rfl, rfl, rfl, by decide⟩ rfl rfl ⟨Nat.le_of_ble_eq_true rfl, Nat.le_of_ble_eq_true rfl⟩ ⟨Nat.le_of_ble_eq_true rfl, Nat.le_of_ble_eq_true rfl⟩ (Nat.le_of_ble_eq_true rfl) hl.1 (cells9 := 0) (slots9 := 0) ⟨rfl, rfl⟩ dX0_savingOf_15 (fun v u H locs hw_4 G => ?_)
  obtain ⟨rfl, rfl⟩ := hw_4
  replace G := G.perm (ws' := [(h0, .inr (0, [.ref ak, .ref ap, .ref ac, .ref ash, .ref alo, .int (iI (rs.length : Int)), .ref apc, .ref aps, .ref apl, .int (iI np), .int (iI md), .int (iI th), va_rf lc, .int (iI nc)])), (ak, aI (K 0) 24 gk), (ash, aJ (K 1) 24 gs), (alo, aJ (K 1) 24 gl)]) [0, 1, 2, 3] rfl rfl
  refine W.eq (g2 := F0 m9 18 ls [.int (iI ((fmo (rget rs z) 0).length : Int)), .int (iI ((rget rs z).2.2.2.2.length : Int))]) rfl ?_
  refine ad_topi (y := ((rget rs z).2.2.2.1.length : Int)) rfl ?_
  refine ad_isub F dX0_savingOf_18 ?_
  refine lv_istore_n (lv' := [(2, .int (iI (((rget rs z).2.2.2.2.length : Int) - ((rget rs z).2.2.2.1.length : Int)))), (0, .ref h0), (1, .int (iI z))]) F.1 F.2.1 dX0_savingOf_19 rfl hl (by decide) rfl (fun ls hl => ?_)
  refine lv_aload_n F.1 F.2.1 dX0_savingOf_20 rfl (lv_at hl 1 rfl) ?_
  refine lv_iload_n F.1 F.2.1 dX0_savingOf_21 rfl (lv_at hl 2 rfl) ?_
  refine ad_iconst F dX0_savingOf_22 ?_
  refine ad_callV (As := [.int (iI z), .int (iI 0)]) (rest := []) F G (c_X0_isOfKind l D K z0 h0 ak ap ac ash alo apc aps apl lc gk gp gc gs gl rs np md th nc z 0 hB hW (by omega) (by omega)) my_X0_isOfKind mv_X0_114 (wr := [(ash, aJ (K 1) 24 gs), (alo, aJ (K 1) 24 gl)]) (isC := [0, 1]) (isR := [2, 3]) ⟨rfl, rfl, rfl, rfl, by decide⟩ 0 0 rfl rfl rfl rfl ⟨Nat.le_of_ble_eq_true rfl, Nat.le_of_ble_eq_true rfl⟩ ⟨Nat.le_of_ble_eq_true rfl, Nat.le_of_ble_eq_true rfl⟩ (Nat.le_of_ble_eq_true rfl) hl.1 (cells9 := 0) (slots9 := 0) ⟨rfl, rfl⟩ dX0_savingOf_23 (fun v u H locs hw_5 G => ?_)
  rcases hw_5 with ⟨rfl, hc_6, rfl⟩ | ⟨rfl, hc_7, rfl⟩
  · replace G := G.perm (ws' := [(h0, .inr (0, [.ref ak, .ref ap, .ref ac, .ref ash, .ref alo, .int (iI (rs.length : Int)), .ref apc, .ref aps, .ref apl, .int (iI np), .int (iI md), .int (iI th), va_rf lc, .int (iI nc)])), (ak, aI (K 0) 24 gk), (ash, aJ (K 1) 24 gs), (alo, aJ (K 1) 24 gl)]) [2, 3, 0, 1] rfl rfl
    refine W.eq (g2 := F0 m9 26 ls [.int (iI 1)]) rfl ?_
    refine ad_if_eq (tgt := 33) F (by decide) dX0_savingOf_26 (by decide) (fun cc_8 => absurd cc_8 (by decide)) (fun _ => ?_)
    refine lv_iload_n F.1 F.2.1 dX0_savingOf_29 rfl (lv_at hl 0 rfl) ?_
    refine lv_goto (tgt := 36) F.1 F.2.1 dX0_savingOf_30 (by decide) ?_
    exact ad_ireturn F G hR rfl (Nat.le_of_ble_eq_true rfl) (Nat.le_of_ble_eq_true rfl) ⟨(ad_eqi (by unfold sav; rw [if_pos hc_6])), rfl⟩ dX0_savingOf_36
  · replace G := G.perm (ws' := [(h0, .inr (0, [.ref ak, .ref ap, .ref ac, .ref ash, .ref alo, .int (iI (rs.length : Int)), .ref apc, .ref aps, .ref apl, .int (iI np), .int (iI md), .int (iI th), va_rf lc, .int (iI nc)])), (ak, aI (K 0) 24 gk), (ash, aJ (K 1) 24 gs), (alo, aJ (K 1) 24 gl)]) [2, 3, 0, 1] rfl rfl
    refine W.eq (g2 := F0 m9 26 ls [.int (iI 0)]) rfl ?_
    refine ad_if_eq (tgt := 33) F (by decide) dX0_savingOf_26 (by decide) (fun _ => ?_) (fun cc_9 => absurd cc_9 (by decide))
    refine ad_iconst F dX0_savingOf_33 ?_
    refine lv_iload_n F.1 F.2.1 dX0_savingOf_34 rfl (lv_at hl 0 rfl) ?_
    refine ad_imul F dX0_savingOf_35 ?_
    exact ad_ireturn F G hR rfl (Nat.le_of_ble_eq_true rfl) (Nat.le_of_ble_eq_true rfl) ⟨(ad_eqi (by unfold sav; rw [if_neg hc_7])), rfl⟩ dX0_savingOf_36

def rm_X0_wordRule : Room := { frames := 1, cells := 0, slots := 0, locals := 12 }
set_option maxHeartbeats 4000000 in
set_option maxRecDepth 100000 in
theorem c_X0_wordRule (l : Launch) (D : va_G) (K : Nat → ClassId) (z0 : Nat) (h0 : Nat) (ak : Nat) (ap : Nat) (ac : Nat) (ash : Nat) (alo : Nat) (apc : Nat) (aps : Nat) (apl : Nat) (lc : Option Nat) (gk : Nat → Int) (gp : Nat → Int) (gc : Nat → Int) (gs : Nat → Int64) (gl : Nat → Int64) (rs : List Rl) (np : Int) (md : Int) (th : Int) (nc : Int) (u : List Int) (v : List Int) (hB : BRep gk gp gc gs gl rs) (hW : RW rs) (hu : Fw u) (hv : Fw v) : CT l D K z0 yX0_wordRule cX0_wordRule 6 (some .int) rm_X0_wordRule [.ref h0, .long (enc u), .long (enc v)] [(h0, .inr (0, [.ref ak, .ref ap, .ref ac, .ref ash, .ref alo, .int (iI (rs.length : Int)), .ref apc, .ref aps, .ref apl, .int (iI np), .int (iI md), .int (iI th), va_rf lc, .int (iI nc)])), (ak, aI (K 0) 24 gk), (ash, aJ (K 1) 24 gs), (alo, aJ (K 1) 24 gl)] (fun v9 u9 => v9 = some (.int (iI (wfi rs u v))) ∧ u9 = [(h0, .inr (0, [.ref ak, .ref ap, .ref ac, .ref ash, .ref alo, .int (iI (rs.length : Int)), .ref apc, .ref aps, .ref apl, .int (iI np), .int (iI md), .int (iI th), va_rf lc, .int (iI nc)])), (ak, aI (K 0) 24 gk), (ash, aJ (K 1) 24 gs), (alo, aJ (K 1) 24 gl)]) := by
  refine CT.start RX0 "wordRule" (by decide) rfl rfl (Nat.le_of_ble_eq_true rfl) ?_
  intro p9 e9 s9 m9 ag9 bl9 mt9 c9 A9 Q9 ls F G hR hl
  have hl : lv_has ls 6 [(0, .ref h0), (1, .long (enc u)), (3, .long (enc v))] := hl
  have hn := hW.1
  refine ad_iconst F dX0_wordRule_0 ?_
  refine lv_istore (lv' := [(5, .int (iI 0)), (0, .ref h0), (1, .long (enc u)), (3, .long (enc v))]) F.1 F.2.1 dX0_wordRule_1 hl (by decide) rfl (fun ls hl => ?_)
  have lp3 : ∀ (n3 : Nat) (i : Int) (H : Heap) (locs : List Loc) (ls : Array Slot), (0 ≤ i ∧ i ≤ rs.length) → (∀ j : Int, 0 ≤ j → j < i → ¬ wm rs u v j) → (rs.length - i) < (n3 : Int) → ad_G D A9 s9.heap H locs [(h0, .inr (0, [.ref ak, .ref ap, .ref ac, .ref ash, .ref alo, .int (iI (rs.length : Int)), .ref apc, .ref aps, .ref apl, .int (iI np), .int (iI md), .int (iI th), va_rf lc, .int (iI nc)])), (ak, aI (K 0) 24 gk), (ash, aJ (K 1) 24 gs), (alo, aJ (K 1) 24 gl)] → lv_has ls 6 [(0, .ref h0), (1, .long (enc u)), (3, .long (enc v)), (5, .int (iI i))] → W p9 l e9 rm_X0_wordRule s9 m9 ag9 bl9 mt9 c9 H locs 0 0 Q9 (F0 m9 3 ls []) := by
    intro n3
    induction n3 with
    | zero =>
      intro i H locs ls hi hno hm3
      exact absurd hm3 (by omega)
    | succ n3 ih3 =>
      intro i H locs ls hi hno hm3 G hl
      refine lv_iload F.1 F.2.1 dX0_wordRule_3 (lv_at hl 3 rfl) ?_
      refine lv_aload_n F.1 F.2.1 dX0_wordRule_5 rfl (lv_at hl 0 rfl) ?_
      refine ad_get F G fl_X0_44 0 rfl rfl dX0_wordRule_6 ?_
      refine ad_icmp_ge (tgt := 55) F (by omega) dX0_wordRule_9 (by decide) (fun cc_1 => ?_) (fun cc_1 => ?_)
      · refine ad_iconst F dX0_wordRule_55 ?_
        exact ad_ireturn F G hR rfl (Nat.le_of_ble_eq_true rfl) (Nat.le_of_ble_eq_true rfl) ⟨(ad_eqi (wfi_no (fun j h1 h2 => hno j h1 (by omega))).symm), rfl⟩ dX0_wordRule_56
      · refine lv_aload_n F.1 F.2.1 dX0_wordRule_12 rfl (lv_at hl 0 rfl) ?_
        refine ad_get F G fl_X0_9 0 rfl rfl dX0_wordRule_13 ?_
        refine lv_iload F.1 F.2.1 dX0_wordRule_16 (lv_at hl 3 rfl) ?_
        refine ad_iald F G 1 rfl (w := (rget rs i).1) (by omega) (hB i (by omega) (by omega)).1 dX0_wordRule_18 ?_
        refine ad_if_ne (tgt := 49) F (by have := hW.bd (z := i) (by omega) (by omega); omega) dX0_wordRule_19 (by decide) (fun cc_2 => ?_) (fun cc_2 => ?_)
        · refine ad_iinc (lv' := [(5, .int (iI (i + 1))), (0, .ref h0), (1, .long (enc u)), (3, .long (enc v))]) F dX0_wordRule_49 hl (k := 3) rfl (by decide) rfl (fun ls hl => ?_)
          refine lv_goto (tgt := 3) F.1 F.2.1 dX0_wordRule_52 (by decide) ?_
          exact ih3 (i + 1) _ _ _ (by omega) (fun j h1 h2 => (show j = i ∨ j < i by omega).elim (fun h => by rw [h]; exact (fun q => cc_2 q.1)) (fun h => hno j h1 h)) (by omega) (G.perm (ws' := [(h0, .inr (0, [.ref ak, .ref ap, .ref ac, .ref ash, .ref alo, .int (iI (rs.length : Int)), .ref apc, .ref aps, .ref apl, .int (iI np), .int (iI md), .int (iI th), va_rf lc, .int (iI nc)])), (ak, aI (K 0) 24 gk), (ash, aJ (K 1) 24 gs), (alo, aJ (K 1) 24 gl)]) [0, 1, 2, 3] rfl rfl) (lv_sub hl [1, 2, 3, 0] rfl)
        · refine lv_aload_n F.1 F.2.1 dX0_wordRule_22 rfl (lv_at hl 0 rfl) ?_
          refine ad_get F G fl_X0_21 0 rfl rfl dX0_wordRule_23 ?_
          refine lv_iload F.1 F.2.1 dX0_wordRule_26 (lv_at hl 3 rfl) ?_
          refine ad_lald F G 2 rfl (w := enc (rget rs i).2.2.2.1) (by omega) (hB i (by omega) (by omega)).2.2.2.1 dX0_wordRule_28 ?_
          refine lv_lload_n F.1 F.2.1 dX0_wordRule_29 rfl (lv_at hl 1 rfl) ?_
          refine ad_lcmp_ne (tgt := 49) F dX0_wordRule_30 dX0_wordRule_31 (by decide) (fun cc_3 => ?_) (fun cc_3 => ?_)
          · refine ad_iinc (lv' := [(5, .int (iI (i + 1))), (0, .ref h0), (1, .long (enc u)), (3, .long (enc v))]) F dX0_wordRule_49 hl (k := 3) rfl (by decide) rfl (fun ls hl => ?_)
            refine lv_goto (tgt := 3) F.1 F.2.1 dX0_wordRule_52 (by decide) ?_
            exact ih3 (i + 1) _ _ _ (by omega) (fun j h1 h2 => (show j = i ∨ j < i by omega).elim (fun h => by rw [h]; exact (fun q => cc_3 (congrArg enc q.2.1))) (fun h => hno j h1 h)) (by omega) (G.perm (ws' := [(h0, .inr (0, [.ref ak, .ref ap, .ref ac, .ref ash, .ref alo, .int (iI (rs.length : Int)), .ref apc, .ref aps, .ref apl, .int (iI np), .int (iI md), .int (iI th), va_rf lc, .int (iI nc)])), (ak, aI (K 0) 24 gk), (ash, aJ (K 1) 24 gs), (alo, aJ (K 1) 24 gl)]) [0, 1, 2, 3] rfl rfl) (lv_sub hl [1, 2, 3, 0] rfl)
          · refine lv_aload_n F.1 F.2.1 dX0_wordRule_34 rfl (lv_at hl 0 rfl) ?_
            refine ad_get F G fl_X0_25 0 rfl rfl dX0_wordRule_35 ?_
            refine lv_iload F.1 F.2.1 dX0_wordRule_38 (lv_at hl 3 rfl) ?_
            refine ad_lald F G 3 rfl (w := enc (rget rs i).2.2.2.2) (by omega) (hB i (by omega) (by omega)).2.2.2.2 dX0_wordRule_40 ?_
            refine lv_lload_n F.1 F.2.1 dX0_wordRule_41 rfl (lv_at hl 2 rfl) ?_
            refine ad_lcmp_ne (tgt := 49) F dX0_wordRule_42 dX0_wordRule_43 (by decide) (fun cc_4 => ?_) (fun cc_4 => ?_)
            · refine ad_iinc (lv' := [(5, .int (iI (i + 1))), (0, .ref h0), (1, .long (enc u)), (3, .long (enc v))]) F dX0_wordRule_49 hl (k := 3) rfl (by decide) rfl (fun ls hl => ?_)
              refine lv_goto (tgt := 3) F.1 F.2.1 dX0_wordRule_52 (by decide) ?_
              exact ih3 (i + 1) _ _ _ (by omega) (fun j h1 h2 => (show j = i ∨ j < i by omega).elim (fun h => by rw [h]; exact (fun q => cc_4 (congrArg enc q.2.2))) (fun h => hno j h1 h)) (by omega) (G.perm (ws' := [(h0, .inr (0, [.ref ak, .ref ap, .ref ac, .ref ash, .ref alo, .int (iI (rs.length : Int)), .ref apc, .ref aps, .ref apl, .int (iI np), .int (iI md), .int (iI th), va_rf lc, .int (iI nc)])), (ak, aI (K 0) 24 gk), (ash, aJ (K 1) 24 gs), (alo, aJ (K 1) 24 gl)]) [0, 1, 2, 3] rfl rfl) (lv_sub hl [1, 2, 3, 0] rfl)
            · refine lv_iload F.1 F.2.1 dX0_wordRule_46 (lv_at hl 3 rfl) ?_
              exact ad_ireturn F G hR rfl (Nat.le_of_ble_eq_true rfl) (Nat.le_of_ble_eq_true rfl) ⟨(ad_eqi (wfi_at (by omega) (by omega) ⟨cc_2, (enc_inj (hW.at (by omega) (by omega)).2.2.2.1 hu).mp cc_3, (enc_inj (hW.at (by omega) (by omega)).2.2.2.2.1 hv).mp cc_4⟩ hno).symm), rfl⟩ dX0_wordRule_48
  exact lp3 ((((rs.length - 0 : Int)) + 1).toNat) 0 _ _ _ (by omega) (fun j h1 h2 => by omega) (by omega) (G.perm (ws' := [(h0, .inr (0, [.ref ak, .ref ap, .ref ac, .ref ash, .ref alo, .int (iI (rs.length : Int)), .ref apc, .ref aps, .ref apl, .int (iI np), .int (iI md), .int (iI th), va_rf lc, .int (iI nc)])), (ak, aI (K 0) 24 gk), (ash, aJ (K 1) 24 gs), (alo, aJ (K 1) 24 gl)]) [0, 1, 2, 3] rfl rfl) (lv_sub hl [1, 2, 3, 0] rfl)
