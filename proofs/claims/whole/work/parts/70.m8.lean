theorem MRow_pushP {g gB : Nat → Int} {rs : List Rl} {ps : List Pr} {md th nc x q : Int} {a b : List Int} (hm : MRow g rs ps md th nc) (hn : rs.length ≤ 24) (hq : q = 557 + (ps.length : Int) * 23) (hF : MForm gB q a b) (ho : ∀ j : Int, 0 ≤ j → j < q + 3 ∨ q + 23 ≤ j → gB j.toNat = g j.toNat) (hx : x = (ps.length : Int) + 1) : MRow (va_up (va_up gB (q + 0).toNat 0) (1 : Int).toNat x) rs (ps ++ [(0, a, b)]) md th nc := by
  subst hq
  have f : ∀ j : Int, 0 ≤ j → j ≠ 1 → j < 557 + (ps.length : Int) * 23 ∨ 557 + (ps.length : Int) * 23 + 23 ≤ j → va_up (va_up gB (557 + (ps.length : Int) * 23 + 0).toNat 0) (1 : Int).toNat x j.toNat = g j.toNat := fun j j0 j1 j2 => by
    rw [va_upO (by omega) j0 j1, va_upO (by omega) j0 (by omega), ho j j0 (by omega)]
  obtain ⟨h0, h1, h2, h3, h4⟩ := hm.1
  refine ⟨⟨(f 0 (by omega) (by omega) (by omega)).trans h0, ?_, (f 2 (by omega) (by omega) (by omega)).trans h2, (f 3 (by omega) (by omega) (by omega)).trans h3, (f 4 (by omega) (by omega) (by omega)).trans h4⟩, fun z z0 z1 => hm.rule1 z0 z1 (fun j j0 j1 => f j (by omega) (by omega) (by omega)), fun z z0 z1 => ?_⟩
  · rw [List.length_append, List.length_singleton]
    exact (va_upE (z := 1) rfl).trans (by omega)
  · rw [List.length_append, List.length_singleton] at z1
    rw [pget_push z0 (by omega)]
    by_cases e : z = ps.length
    · rw [if_pos e, e]
      refine ⟨by rw [va_upO (by omega) (by omega) (by omega), va_upE rfl], hF.cg (by omega) (fun j j0 j1 => by rw [va_upO (by omega) (by omega) (by omega), va_upO (by omega) (by omega) (by omega)])⟩
    · rw [if_neg e]
      obtain ⟨a, b⟩ := hm.2.2 z z0 (by omega)
      exact ⟨by rw [f _ (by omega) (by omega) (by omega)]; exact a, b.cg (by omega) (fun j j0 j1 => f j (by omega) (by omega) (by omega))⟩
theorem MRow_cnt {g : Nat → Int} {rs : List Rl} {ps : List Pr} {md th nc z c q : Int} (hm : MRow g rs ps md th nc) (hz : 0 ≤ z ∧ rs.length ≤ 24) (hz1 : z < ps.length) (hq : q = 557 + z * 23) : MRow (va_up g (q + 0).toNat c) rs (psetn ps z c) md th nc := by
  subst hq
  have f : ∀ j : Int, 0 ≤ j → j ≠ 557 + z * 23 → va_up g (557 + z * 23 + 0).toNat c j.toNat = g j.toNat := fun j j0 j1 => va_upO (by omega) j0 (by omega)
  have hl : (psetn ps z c).length = ps.length := by simp [psetn]
  obtain ⟨h0, h1, h2, h3, h4⟩ := hm.1
  refine ⟨⟨(f 0 (by omega) (by omega)).trans h0, (f 1 (by omega) (by omega)).trans (by rw [hl]; exact h1), (f 2 (by omega) (by omega)).trans h2, (f 3 (by omega) (by omega)).trans h3, (f 4 (by omega) (by omega)).trans h4⟩, fun x x0 x1 => hm.rule1 x0 x1 (fun j j0 j1 => f j (by omega) (by omega)), fun x x0 x1 => ?_⟩
  rw [hl] at x1
  obtain ⟨a, b⟩ := hm.2.2 x x0 x1
  unfold psetn
  rw [pget_set hz.1 x0 x1]
  by_cases e : x = z
  · rw [if_pos e, ← e]
    exact ⟨va_upE rfl, b.cg (by omega) (fun j j0 j1 => va_upO (by omega) (by omega) (by omega))⟩
  · rw [if_neg e]
    exact ⟨by rw [f _ (by omega) (by omega)]; exact a, b.cg (by omega) (fun j j0 j1 => f j (by omega) (by omega))⟩
theorem lrnP_get {ps : List Pr} {B : Int} (h : PW ps B) {u v : List Int} (hk : pfi ps u v < 30) : pget (lrnP ps u v) (pfi ps u v) = (lcn ps u v, u, v) := by
  have hb := pfi_b ps u v
  have hin := lps_in h (u := u) (v := v)
  unfold lrnP psetn
  rw [if_neg (by omega), pget_set hb.1 hb.1 hin, if_pos rfl]
  have h2 : (pget (lps ps u v) (pfi ps u v)).2 = (u, v) := by
    unfold lps
    split
    · rename_i e
      rw [pget_push hb.1 hb.2, if_pos e]
    · have := pfi_m (ps := ps) (a := u) (b := v) (by omega)
      exact Prod.ext this.1 this.2
  rw [h2]
theorem lrnP_in {ps : List Pr} {B : Int} (h : PW ps B) {u v : List Int} (hk : pfi ps u v < 30) : pfi ps u v < (lrnP ps u v).length := by
  have hin := lps_in h (u := u) (v := v)
  unfold lrnP psetn
  rw [if_neg (by omega), List.length_set]
  exact hin
theorem lrnR_no {rs : List Rl} {ps : List Pr} {th : Int} {u v : List Int} (h : ¬ (lcn ps u v = th ∧ wfi rs u v < 0 ∧ rs.length < 24)) : lrnR rs ps th u v = rs := by
  unfold lrnR
  split
  · rfl
  · split
    · split
      · rename_i a b; exact absurd ⟨a.1, a.2, b⟩ h
      · rfl
    · rfl
theorem lrnR_add {rs : List Rl} {ps : List Pr} {th : Int} {u v : List Int} (hk : pfi ps u v < 30) (h : lcn ps u v = th ∧ wfi rs u v < 0) (hn : rs.length < 24) : lrnR rs ps th u v = rs ++ [(0, 10 * th, 0, u, v)] := by
  unfold lrnR
  rw [if_neg (by omega), if_pos h, if_pos hn]
theorem CpM_s {gb gv : Nat → Int} {R P k : Int} (h : ∀ j : Int, 0 ≤ j → gv j.toNat = if R + 3 ≤ j ∧ j < R + k then gb (P + (j - R)).toNat else gb j.toNat) (h0 : 0 ≤ R) (h1 : 3 ≤ k) : ∀ j : Int, 0 ≤ j → va_up gv (R + k).toNat (gb (P + k).toNat) j.toNat = if R + 3 ≤ j ∧ j < R + (k + 1) then gb (P + (j - R)).toNat else gb j.toNat := by
  intro j j0
  by_cases q : j = R + k
  · rw [va_upE q, if_pos (by omega), show P + (j - R) = P + k by omega]
  · rw [va_upO (by omega) j0 q, h j j0]
    by_cases r : R + 3 ≤ j ∧ j < R + k
    · rw [if_pos r, if_pos (by omega)]
    · rw [if_neg r, if_neg (by omega)]
theorem MRow_addc {gb gv : Nat → Int} {rs : List Rl} {ps : List Pr} {md th nc p x R P k2 : Int} {a b : List Int} (hm : MRow gb rs ps md th nc) (hl : rs.length < 24) (hR : R = 5 + (rs.length : Int) * 23) (hF : MForm gb P a b) (hP : 557 ≤ P) (h : ∀ j : Int, 0 ≤ j → gv j.toNat = if R + 3 ≤ j ∧ j < R + k2 then gb (P + (j - R)).toNat else gb j.toNat) (hk2 : k2 = 23) (hp : p = 10 * th) (hx : x = (rs.length : Int) + 1) : MRow (va_up (va_up (va_up (va_up gv (R + 0).toNat 0) (R + 1).toNat p) (R + 2).toNat 0) (0 : Int).toNat x) (rs ++ [(0, 10 * th, 0, a, b)]) ps md th nc := by
  subst hp
  refine MRow_add hm hl hR (hF.sh (fun j j0 j1 => ?_)) (fun j j0 j1 => ?_) hx
  · rw [va_upO (by omega) (by omega) (by omega), va_upO (by omega) (by omega) (by omega), va_upO (by omega) (by omega) (by omega), h _ (by omega), if_pos (by omega), show P + (R + j - R) = P + j by omega]
  · have e := h j j0
    rw [if_neg (by omega)] at e
    by_cases q2 : j = R + 2
    · rw [va_upE q2, va_upE q2]
    · rw [va_upO (by omega) j0 q2, va_upO (by omega) j0 q2]
      by_cases q1 : j = R + 1
      · rw [va_upE q1, va_upE q1]
      · rw [va_upO (by omega) j0 q1, va_upO (by omega) j0 q1]
        by_cases q0 : j = R + 0
        · rw [va_upE q0, va_upE q0]
        · rw [va_upO (by omega) j0 q0, va_upO (by omega) j0 q0]; exact e
def rm_X11_isWordAt : Room := { frames := 1, cells := 0, slots := 0, locals := 12 }
set_option maxHeartbeats 4000000 in
set_option maxRecDepth 100000 in
theorem c_X11_isWordAt (l : Launch) (D : va_G) (K : Nat → ClassId) (z0 : Nat) (m0 : Nat) (M : Nat → Nat) (xth : Int) (xrm : Int) (xsv : Int) (xln : Int) (xat : Int) (xer : Int) (xwr : Int) (xwd : Int) (xlo : Int) (xhi : Int) (xwl : Int) (xml : Int) (xkl : Int) (xfi : Int) (xse : Int) (xdn : Int) (xon : Int) (xtw : Int) (xol : Int) (xrw : Int) (xgl : Int) (xus : Int) (xpr : Int) (xmk : Int) (xab : Int) (gbf : Nat → Int) (w : List Int) (gbg : Nat → Int) (gle : Nat → Int) (g : Nat → Int) (p : Int) (x : Int) (b1 : Int) (l1 : Int) (a : List Int) (u : List Int) (hT : Tx gbf w) (hC : Chs w) (hL : w.length ≤ 100) (hx : 0 ≤ x ∧ x < 60) (hgx : gbg x.toNat = b1 ∧ gle x.toNat = l1) (hrx : 0 ≤ b1 ∧ 0 ≤ l1 ∧ b1 + l1 ≤ w.length) (hux : sl w b1 (b1 + l1) = u) (hp : 0 ≤ p ∧ p + a.length ≤ 1247) (ha : Fw a) (hF : ∀ j : Int, 0 ≤ j → j < a.length → g (p + j).toNat = lat a j) : CT l D K z0 yX11_isWordAt cX11_isWordAt 6 (some .boolean) rm_X11_isWordAt [.ref m0, .int (iI p), .int (iI (a.length : Int)), .int (iI x)] [(m0, mO M xth xrm xsv xln xat xer xwr xwd xlo xhi xwl xml xkl xfi xse xdn xon xtw xol xrw xgl xus xpr xmk xab), (M 6, aI (K 2) 100 gbf), (M 11, aI (K 0) 60 gbg), (M 12, aI (K 0) 60 gle), (M 1, aI (K 0) 1247 g)] (fun v9 u9 => (v9 = some (.int (iI 1)) ∧ (a = u) ∧ u9 = [(m0, mO M xth xrm xsv xln xat xer xwr xwd xlo xhi xwl xml xkl xfi xse xdn xon xtw xol xrw xgl xus xpr xmk xab), (M 6, aI (K 2) 100 gbf), (M 11, aI (K 0) 60 gbg), (M 12, aI (K 0) 60 gle), (M 1, aI (K 0) 1247 g)]) ∨ (v9 = some (.int (iI 0)) ∧ (¬ a = u) ∧ u9 = [(m0, mO M xth xrm xsv xln xat xer xwr xwd xlo xhi xwl xml xkl xfi xse xdn xon xtw xol xrw xgl xus xpr xmk xab), (M 6, aI (K 2) 100 gbf), (M 11, aI (K 0) 60 gbg), (M 12, aI (K 0) 60 gle), (M 1, aI (K 0) 1247 g)])) := by
  refine CT.start RX11 "isWordAt" (by decide) rfl rfl (Nat.le_of_ble_eq_true rfl) ?_
  intro p9 e9 s9 m9 ag9 bl9 mt9 c9 A9 Q9 ls F G hR hl
  have hl : lv_has ls 6 [(0, .ref m0), (1, .int (iI p)), (2, .int (iI (a.length : Int))), (3, .int (iI x))] := hl
  have hlu : (u.length : Int) = l1 := by rw [← hux, sl_len (by omega) (by omega) (by omega)]; omega
  have h12 := ha.1
  refine lv_iload_n F.1 F.2.1 dX11_isWordAt_0 rfl (lv_at hl 2 rfl) ?_
  refine lv_aload_n F.1 F.2.1 dX11_isWordAt_1 rfl (lv_at hl 0 rfl) ?_
  refine ad_get F G fl_X11_32 0 rfl rfl dX11_isWordAt_2 ?_
  refine lv_iload_n F.1 F.2.1 dX11_isWordAt_5 rfl (lv_at hl 3 rfl) ?_
  refine ad_iald F G 3 rfl (w := l1) (by omega) hgx.2 dX11_isWordAt_6 ?_
  refine ad_icmp_ne (tgt := 14) F (by omega) dX11_isWordAt_7 (by decide) (fun cc_1 => ?_) (fun cc_1 => ?_)
  · refine ad_iconst F dX11_isWordAt_14 ?_
    refine lv_istore (lv' := [(4, .int (iI 0)), (0, .ref m0), (1, .int (iI p)), (2, .int (iI (a.length : Int))), (3, .int (iI x))]) F.1 F.2.1 dX11_isWordAt_15 hl (by decide) rfl (fun ls hl => ?_)
    refine ad_iconst F dX11_isWordAt_17 ?_
    refine lv_istore (lv' := [(5, .int (iI 0)), (4, .int (iI 0)), (0, .ref m0), (1, .int (iI p)), (2, .int (iI (a.length : Int))), (3, .int (iI x))]) F.1 F.2.1 dX11_isWordAt_18 hl (by decide) rfl (fun ls hl => ?_)
    have lp20 : ∀ (n20 : Nat) (sm : Int) (k : Int) (H : Heap) (locs : List Loc) (ls : Array Slot), (0 ≤ k ∧ k ≤ a.length) → ((sm = 1 ∧ (a.length : Int) = u.length ∧ ∀ j : Int, 0 ≤ j → j < k → lat a j = lat u j) ∨ (sm = 0 ∧ ¬ a = u)) → (a.length - k) < (n20 : Int) → ad_G D A9 s9.heap H locs [(m0, mO M xth xrm xsv xln xat xer xwr xwd xlo xhi xwl xml xkl xfi xse xdn xon xtw xol xrw xgl xus xpr xmk xab), (M 6, aI (K 2) 100 gbf), (M 11, aI (K 0) 60 gbg), (M 12, aI (K 0) 60 gle), (M 1, aI (K 0) 1247 g)] → lv_has ls 6 [(0, .ref m0), (1, .int (iI p)), (2, .int (iI (a.length : Int))), (3, .int (iI x)), (4, .int (iI sm)), (5, .int (iI k))] → W p9 l e9 rm_X11_isWordAt s9 m9 ag9 bl9 mt9 c9 H locs 0 0 Q9 (F0 m9 20 ls []) := by
      intro n20
      induction n20 with
      | zero =>
        intro sm k H locs ls hk hs hm20
        exact absurd hm20 (by omega)
      | succ n20 ih20 =>
        intro sm k H locs ls hk hs hm20 G hl
        have hsm : sm = 0 ∨ sm = 1 := hs.elim (fun q => Or.inr q.1) (fun q => Or.inl q.1)
        have hsl : sm = 1 → (a.length : Int) = u.length := fun q => hs.elim (fun q => q.2.1) (fun r => absurd r.1 (by omega))
        refine lv_iload F.1 F.2.1 dX11_isWordAt_20 (lv_at hl 4 rfl) ?_
        refine ad_if_eq (tgt := 70) F (by omega) dX11_isWordAt_22 (by decide) (fun cc_2 => ?_) (fun cc_2 => ?_)
        · refine lv_iload F.1 F.2.1 dX11_isWordAt_70 (lv_at hl 4 rfl) ?_
          exact ad_zreturn F G hR rfl (Nat.le_of_ble_eq_true rfl) (Nat.le_of_ble_eq_true rfl) (iI_boolN (by omega)).1 (Or.inr (⟨(ad_eqi (by omega)), (hs.elim (fun q => absurd q.1 (by omega)) (fun q => q.2)), rfl⟩)) dX11_isWordAt_72
        · refine lv_iload F.1 F.2.1 dX11_isWordAt_25 (lv_at hl 5 rfl) ?_
          refine lv_iload_n F.1 F.2.1 dX11_isWordAt_27 rfl (lv_at hl 2 rfl) ?_
          refine ad_icmp_ge (tgt := 70) F (by omega) dX11_isWordAt_28 (by decide) (fun cc_3 => ?_) (fun cc_3 => ?_)
          · refine lv_iload F.1 F.2.1 dX11_isWordAt_70 (lv_at hl 4 rfl) ?_
            exact ad_zreturn F G hR rfl (Nat.le_of_ble_eq_true rfl) (Nat.le_of_ble_eq_true rfl) (iI_boolN (by omega)).1 (Or.inl ⟨(ad_eqi (by omega)), (hs.elim (fun q => lat_eq q.2.1 (fun j h1 h2 => q.2.2 j h1 (by omega))) (fun q => absurd q.1 (by omega))), rfl⟩) dX11_isWordAt_72
          · refine lv_aload_n F.1 F.2.1 dX11_isWordAt_31 rfl (lv_at hl 0 rfl) ?_
            refine ad_get F G fl_X11_9 0 rfl rfl dX11_isWordAt_32 ?_
            refine lv_iload_n F.1 F.2.1 dX11_isWordAt_35 rfl (lv_at hl 1 rfl) ?_
            refine lv_iload F.1 F.2.1 dX11_isWordAt_36 (lv_at hl 5 rfl) ?_
            refine ad_iadd F dX11_isWordAt_38 ?_
            refine ad_iald F G 4 rfl (w := lat a k) (by omega) (hF k (by omega) (by omega)) dX11_isWordAt_39 ?_
            refine lv_aload_n F.1 F.2.1 dX11_isWordAt_40 rfl (lv_at hl 0 rfl) ?_
            refine ad_get F G fl_X11_21 0 rfl rfl dX11_isWordAt_41 ?_
            refine lv_aload_n F.1 F.2.1 dX11_isWordAt_44 rfl (lv_at hl 0 rfl) ?_
            refine ad_get F G fl_X11_29 0 rfl rfl dX11_isWordAt_45 ?_
            refine lv_iload_n F.1 F.2.1 dX11_isWordAt_48 rfl (lv_at hl 3 rfl) ?_
            refine ad_iald F G 2 rfl (w := b1) (by omega) hgx.1 dX11_isWordAt_49 ?_
            refine lv_iload F.1 F.2.1 dX11_isWordAt_50 (lv_at hl 5 rfl) ?_
            refine ad_iadd F dX11_isWordAt_52 ?_
            refine ad_cald F G 1 rfl (w := lat u k) (by omega) (by rw [Tx_at hT (by omega) (by omega), ← hux, sl_at (by omega) (by omega) (by omega)]) dX11_isWordAt_53 ?_
            have hq1 := lat_fw ha k
            have hq2 : (0 ≤ lat u k ∧ lat u k < 65536) := by rw [← hux]; exact lat_ch (Chs_sl hC _ _) k
            refine ad_icmp_ne (tgt := 61) F (by omega) dX11_isWordAt_54 (by decide) (fun cc_4 => ?_) (fun cc_4 => ?_)
            · refine ad_iconst F dX11_isWordAt_61 ?_
              refine lv_istore (lv' := [(4, .int (iI 0)), (0, .ref m0), (1, .int (iI p)), (2, .int (iI (a.length : Int))), (3, .int (iI x)), (5, .int (iI k))]) F.1 F.2.1 dX11_isWordAt_62 hl (by decide) rfl (fun ls hl => ?_)
              refine ad_iinc (lv' := [(5, .int (iI (k + 1))), (4, .int (iI 0)), (0, .ref m0), (1, .int (iI p)), (2, .int (iI (a.length : Int))), (3, .int (iI x))]) F dX11_isWordAt_64 hl (k := 5) rfl (by decide) rfl (fun ls hl => ?_)
              refine lv_goto (tgt := 20) F.1 F.2.1 dX11_isWordAt_67 (by decide) ?_
              exact ih20 0 (k + 1) _ _ _ (by omega) (Or.inr ⟨rfl, fun q => cc_4 (by rw [q])⟩) (by omega) (G.perm (ws' := [(m0, mO M xth xrm xsv xln xat xer xwr xwd xlo xhi xwl xml xkl xfi xse xdn xon xtw xol xrw xgl xus xpr xmk xab), (M 6, aI (K 2) 100 gbf), (M 11, aI (K 0) 60 gbg), (M 12, aI (K 0) 60 gle), (M 1, aI (K 0) 1247 g)]) [0, 1, 2, 3, 4] rfl rfl) (lv_sub hl [2, 3, 4, 5, 1, 0] rfl)
            · refine ad_iconst F dX11_isWordAt_57 ?_
              refine lv_goto (tgt := 62) F.1 F.2.1 dX11_isWordAt_58 (by decide) ?_
              refine lv_istore (lv' := [(4, .int (iI 1)), (0, .ref m0), (1, .int (iI p)), (2, .int (iI (a.length : Int))), (3, .int (iI x)), (5, .int (iI k))]) F.1 F.2.1 dX11_isWordAt_62 hl (by decide) rfl (fun ls hl => ?_)
              refine ad_iinc (lv' := [(5, .int (iI (k + 1))), (4, .int (iI 1)), (0, .ref m0), (1, .int (iI p)), (2, .int (iI (a.length : Int))), (3, .int (iI x))]) F dX11_isWordAt_64 hl (k := 5) rfl (by decide) rfl (fun ls hl => ?_)
              refine lv_goto (tgt := 20) F.1 F.2.1 dX11_isWordAt_67 (by decide) ?_
              exact ih20 1 (k + 1) _ _ _ (by omega) (Or.inl ⟨rfl, by omega, fun j h1 h2 => (show j < k ∨ j = k by omega).elim (fun h => (hs.elim (fun q => q.2.2) (fun q => absurd q.1 (by omega))) j h1 h) (fun h => by rw [h]; exact cc_4)⟩) (by omega) (G.perm (ws' := [(m0, mO M xth xrm xsv xln xat xer xwr xwd xlo xhi xwl xml xkl xfi xse xdn xon xtw xol xrw xgl xus xpr xmk xab), (M 6, aI (K 2) 100 gbf), (M 11, aI (K 0) 60 gbg), (M 12, aI (K 0) 60 gle), (M 1, aI (K 0) 1247 g)]) [0, 1, 2, 3, 4] rfl rfl) (lv_sub hl [2, 3, 4, 5, 1, 0] rfl)
    exact lp20 ((((a.length - 0 : Int)) + 1).toNat) 0 0 _ _ _ (by omega) (Or.inr ⟨rfl, fun q => absurd (congrArg List.length q) (by omega)⟩) (by omega) (G.perm (ws' := [(m0, mO M xth xrm xsv xln xat xer xwr xwd xlo xhi xwl xml xkl xfi xse xdn xon xtw xol xrw xgl xus xpr xmk xab), (M 6, aI (K 2) 100 gbf), (M 11, aI (K 0) 60 gbg), (M 12, aI (K 0) 60 gle), (M 1, aI (K 0) 1247 g)]) [0, 1, 2, 3, 4] rfl rfl) (lv_sub hl [2, 3, 4, 5, 1, 0] rfl)
  · refine ad_iconst F dX11_isWordAt_10 ?_
    refine lv_goto (tgt := 15) F.1 F.2.1 dX11_isWordAt_11 (by decide) ?_
    refine lv_istore (lv' := [(4, .int (iI 1)), (0, .ref m0), (1, .int (iI p)), (2, .int (iI (a.length : Int))), (3, .int (iI x))]) F.1 F.2.1 dX11_isWordAt_15 hl (by decide) rfl (fun ls hl => ?_)
    refine ad_iconst F dX11_isWordAt_17 ?_
    refine lv_istore (lv' := [(5, .int (iI 0)), (4, .int (iI 1)), (0, .ref m0), (1, .int (iI p)), (2, .int (iI (a.length : Int))), (3, .int (iI x))]) F.1 F.2.1 dX11_isWordAt_18 hl (by decide) rfl (fun ls hl => ?_)
    have lp20 : ∀ (n20 : Nat) (sm : Int) (k : Int) (H : Heap) (locs : List Loc) (ls : Array Slot), (0 ≤ k ∧ k ≤ a.length) → ((sm = 1 ∧ (a.length : Int) = u.length ∧ ∀ j : Int, 0 ≤ j → j < k → lat a j = lat u j) ∨ (sm = 0 ∧ ¬ a = u)) → (a.length - k) < (n20 : Int) → ad_G D A9 s9.heap H locs [(m0, mO M xth xrm xsv xln xat xer xwr xwd xlo xhi xwl xml xkl xfi xse xdn xon xtw xol xrw xgl xus xpr xmk xab), (M 6, aI (K 2) 100 gbf), (M 11, aI (K 0) 60 gbg), (M 12, aI (K 0) 60 gle), (M 1, aI (K 0) 1247 g)] → lv_has ls 6 [(0, .ref m0), (1, .int (iI p)), (2, .int (iI (a.length : Int))), (3, .int (iI x)), (4, .int (iI sm)), (5, .int (iI k))] → W p9 l e9 rm_X11_isWordAt s9 m9 ag9 bl9 mt9 c9 H locs 0 0 Q9 (F0 m9 20 ls []) := by
      intro n20
      induction n20 with
      | zero =>
        intro sm k H locs ls hk hs hm20
        exact absurd hm20 (by omega)
      | succ n20 ih20 =>
        intro sm k H locs ls hk hs hm20 G hl
        have hsm : sm = 0 ∨ sm = 1 := hs.elim (fun q => Or.inr q.1) (fun q => Or.inl q.1)
        have hsl : sm = 1 → (a.length : Int) = u.length := fun q => hs.elim (fun q => q.2.1) (fun r => absurd r.1 (by omega))
        refine lv_iload F.1 F.2.1 dX11_isWordAt_20 (lv_at hl 4 rfl) ?_
        refine ad_if_eq (tgt := 70) F (by omega) dX11_isWordAt_22 (by decide) (fun cc_5 => ?_) (fun cc_5 => ?_)
        · refine lv_iload F.1 F.2.1 dX11_isWordAt_70 (lv_at hl 4 rfl) ?_
          exact ad_zreturn F G hR rfl (Nat.le_of_ble_eq_true rfl) (Nat.le_of_ble_eq_true rfl) (iI_boolN (by omega)).1 (Or.inr (⟨(ad_eqi (by omega)), (hs.elim (fun q => absurd q.1 (by omega)) (fun q => q.2)), rfl⟩)) dX11_isWordAt_72
        · refine lv_iload F.1 F.2.1 dX11_isWordAt_25 (lv_at hl 5 rfl) ?_
          refine lv_iload_n F.1 F.2.1 dX11_isWordAt_27 rfl (lv_at hl 2 rfl) ?_
          refine ad_icmp_ge (tgt := 70) F (by omega) dX11_isWordAt_28 (by decide) (fun cc_6 => ?_) (fun cc_6 => ?_)
          · refine lv_iload F.1 F.2.1 dX11_isWordAt_70 (lv_at hl 4 rfl) ?_
            exact ad_zreturn F G hR rfl (Nat.le_of_ble_eq_true rfl) (Nat.le_of_ble_eq_true rfl) (iI_boolN (by omega)).1 (Or.inl ⟨(ad_eqi (by omega)), (hs.elim (fun q => lat_eq q.2.1 (fun j h1 h2 => q.2.2 j h1 (by omega))) (fun q => absurd q.1 (by omega))), rfl⟩) dX11_isWordAt_72
          · refine lv_aload_n F.1 F.2.1 dX11_isWordAt_31 rfl (lv_at hl 0 rfl) ?_
            refine ad_get F G fl_X11_9 0 rfl rfl dX11_isWordAt_32 ?_
            refine lv_iload_n F.1 F.2.1 dX11_isWordAt_35 rfl (lv_at hl 1 rfl) ?_
            refine lv_iload F.1 F.2.1 dX11_isWordAt_36 (lv_at hl 5 rfl) ?_
            refine ad_iadd F dX11_isWordAt_38 ?_
            refine ad_iald F G 4 rfl (w := lat a k) (by omega) (hF k (by omega) (by omega)) dX11_isWordAt_39 ?_
            refine lv_aload_n F.1 F.2.1 dX11_isWordAt_40 rfl (lv_at hl 0 rfl) ?_
            refine ad_get F G fl_X11_21 0 rfl rfl dX11_isWordAt_41 ?_
            refine lv_aload_n F.1 F.2.1 dX11_isWordAt_44 rfl (lv_at hl 0 rfl) ?_
            refine ad_get F G fl_X11_29 0 rfl rfl dX11_isWordAt_45 ?_
            refine lv_iload_n F.1 F.2.1 dX11_isWordAt_48 rfl (lv_at hl 3 rfl) ?_
            refine ad_iald F G 2 rfl (w := b1) (by omega) hgx.1 dX11_isWordAt_49 ?_
            refine lv_iload F.1 F.2.1 dX11_isWordAt_50 (lv_at hl 5 rfl) ?_
            refine ad_iadd F dX11_isWordAt_52 ?_
            refine ad_cald F G 1 rfl (w := lat u k) (by omega) (by rw [Tx_at hT (by omega) (by omega), ← hux, sl_at (by omega) (by omega) (by omega)]) dX11_isWordAt_53 ?_
            have hq1 := lat_fw ha k
            have hq2 : (0 ≤ lat u k ∧ lat u k < 65536) := by rw [← hux]; exact lat_ch (Chs_sl hC _ _) k
            refine ad_icmp_ne (tgt := 61) F (by omega) dX11_isWordAt_54 (by decide) (fun cc_7 => ?_) (fun cc_7 => ?_)
            · refine ad_iconst F dX11_isWordAt_61 ?_
              refine lv_istore (lv' := [(4, .int (iI 0)), (0, .ref m0), (1, .int (iI p)), (2, .int (iI (a.length : Int))), (3, .int (iI x)), (5, .int (iI k))]) F.1 F.2.1 dX11_isWordAt_62 hl (by decide) rfl (fun ls hl => ?_)
              refine ad_iinc (lv' := [(5, .int (iI (k + 1))), (4, .int (iI 0)), (0, .ref m0), (1, .int (iI p)), (2, .int (iI (a.length : Int))), (3, .int (iI x))]) F dX11_isWordAt_64 hl (k := 5) rfl (by decide) rfl (fun ls hl => ?_)
              refine lv_goto (tgt := 20) F.1 F.2.1 dX11_isWordAt_67 (by decide) ?_
              exact ih20 0 (k + 1) _ _ _ (by omega) (Or.inr ⟨rfl, fun q => cc_7 (by rw [q])⟩) (by omega) (G.perm (ws' := [(m0, mO M xth xrm xsv xln xat xer xwr xwd xlo xhi xwl xml xkl xfi xse xdn xon xtw xol xrw xgl xus xpr xmk xab), (M 6, aI (K 2) 100 gbf), (M 11, aI (K 0) 60 gbg), (M 12, aI (K 0) 60 gle), (M 1, aI (K 0) 1247 g)]) [0, 1, 2, 3, 4] rfl rfl) (lv_sub hl [2, 3, 4, 5, 1, 0] rfl)
            · refine ad_iconst F dX11_isWordAt_57 ?_
              refine lv_goto (tgt := 62) F.1 F.2.1 dX11_isWordAt_58 (by decide) ?_
              refine lv_istore (lv' := [(4, .int (iI 1)), (0, .ref m0), (1, .int (iI p)), (2, .int (iI (a.length : Int))), (3, .int (iI x)), (5, .int (iI k))]) F.1 F.2.1 dX11_isWordAt_62 hl (by decide) rfl (fun ls hl => ?_)
              refine ad_iinc (lv' := [(5, .int (iI (k + 1))), (4, .int (iI 1)), (0, .ref m0), (1, .int (iI p)), (2, .int (iI (a.length : Int))), (3, .int (iI x))]) F dX11_isWordAt_64 hl (k := 5) rfl (by decide) rfl (fun ls hl => ?_)
              refine lv_goto (tgt := 20) F.1 F.2.1 dX11_isWordAt_67 (by decide) ?_
              exact ih20 1 (k + 1) _ _ _ (by omega) (Or.inl ⟨rfl, by omega, fun j h1 h2 => (show j < k ∨ j = k by omega).elim (fun h => (hs.elim (fun q => q.2.2) (fun q => absurd q.1 (by omega))) j h1 h) (fun h => by rw [h]; exact cc_7)⟩) (by omega) (G.perm (ws' := [(m0, mO M xth xrm xsv xln xat xer xwr xwd xlo xhi xwl xml xkl xfi xse xdn xon xtw xol xrw xgl xus xpr xmk xab), (M 6, aI (K 2) 100 gbf), (M 11, aI (K 0) 60 gbg), (M 12, aI (K 0) 60 gle), (M 1, aI (K 0) 1247 g)]) [0, 1, 2, 3, 4] rfl rfl) (lv_sub hl [2, 3, 4, 5, 1, 0] rfl)
    exact lp20 ((((a.length - 0 : Int)) + 1).toNat) 1 0 _ _ _ (by omega) (Or.inl ⟨rfl, by omega, fun j h1 h2 => by omega⟩) (by omega) (G.perm (ws' := [(m0, mO M xth xrm xsv xln xat xer xwr xwd xlo xhi xwl xml xkl xfi xse xdn xon xtw xol xrw xgl xus xpr xmk xab), (M 6, aI (K 2) 100 gbf), (M 11, aI (K 0) 60 gbg), (M 12, aI (K 0) 60 gle), (M 1, aI (K 0) 1247 g)]) [0, 1, 2, 3, 4] rfl rfl) (lv_sub hl [2, 3, 4, 5, 1, 0] rfl)

def rm_X11_isPairOf : Room := { frames := 2, cells := 0, slots := 0, locals := 37 }
set_option maxHeartbeats 4000000 in
set_option maxRecDepth 100000 in
theorem c_X11_isPairOf (l : Launch) (D : va_G) (K : Nat → ClassId) (z0 : Nat) (m0 : Nat) (M : Nat → Nat) (xth : Int) (xrm : Int) (xsv : Int) (xln : Int) (xat : Int) (xer : Int) (xwr : Int) (xwd : Int) (xlo : Int) (xhi : Int) (xwl : Int) (xml : Int) (xkl : Int) (xfi : Int) (xse : Int) (xdn : Int) (xon : Int) (xtw : Int) (xol : Int) (xrw : Int) (xgl : Int) (xus : Int) (xpr : Int) (xmk : Int) (xab : Int) (gbf : Nat → Int) (w : List Int) (gbg : Nat → Int) (gle : Nat → Int) (g : Nat → Int) (rs : List Rl) (ps : List Pr) (md : Int) (th : Int) (nc : Int) (B : Int) (z : Int) (x : Int) (y : Int) (b1 : Int) (l1 : Int) (b2 : Int) (l2 : Int) (u : List Int) (v : List Int) (hT : Tx gbf w) (hC : Chs w) (hL : w.length ≤ 100) (hx : 0 ≤ x ∧ x < 60) (hgx : gbg x.toNat = b1 ∧ gle x.toNat = l1) (hrx : 0 ≤ b1 ∧ 0 ≤ l1 ∧ b1 + l1 ≤ w.length) (hux : sl w b1 (b1 + l1) = u) (hy : 0 ≤ y ∧ y < 60) (hgy : gbg y.toNat = b2 ∧ gle y.toNat = l2) (hry : 0 ≤ b2 ∧ 0 ≤ l2 ∧ b2 + l2 ≤ w.length) (huy : sl w b2 (b2 + l2) = v) (hM : MRow g rs ps md th nc) (hV : PW ps B) (hz : 0 ≤ z ∧ z < ps.length) : CT l D K z0 yX11_isPairOf cX11_isPairOf 5 (some .boolean) rm_X11_isPairOf [.ref m0, .int (iI z), .int (iI x), .int (iI y)] [(m0, mO M xth xrm xsv xln xat xer xwr xwd xlo xhi xwl xml xkl xfi xse xdn xon xtw xol xrw xgl xus xpr xmk xab), (M 6, aI (K 2) 100 gbf), (M 11, aI (K 0) 60 gbg), (M 12, aI (K 0) 60 gle), (M 1, aI (K 0) 1247 g)] (fun v9 u9 => (v9 = some (.int (iI 1)) ∧ ((pget ps z).2.1 = u ∧ (pget ps z).2.2 = v) ∧ u9 = [(m0, mO M xth xrm xsv xln xat xer xwr xwd xlo xhi xwl xml xkl xfi xse xdn xon xtw xol xrw xgl xus xpr xmk xab), (M 6, aI (K 2) 100 gbf), (M 11, aI (K 0) 60 gbg), (M 12, aI (K 0) 60 gle), (M 1, aI (K 0) 1247 g)]) ∨ (v9 = some (.int (iI 0)) ∧ (¬ ((pget ps z).2.1 = u ∧ (pget ps z).2.2 = v)) ∧ u9 = [(m0, mO M xth xrm xsv xln xat xer xwr xwd xlo xhi xwl xml xkl xfi xse xdn xon xtw xol xrw xgl xus xpr xmk xab), (M 6, aI (K 2) 100 gbf), (M 11, aI (K 0) 60 gbg), (M 12, aI (K 0) 60 gle), (M 1, aI (K 0) 1247 g)])) := by
  refine CT.start RX11 "isPairOf" (by decide) rfl rfl (Nat.le_of_ble_eq_true rfl) ?_
  intro p9 e9 s9 m9 ag9 bl9 mt9 c9 A9 Q9 ls F G hR hl
  have hl : lv_has ls 5 [(0, .ref m0), (1, .int (iI z)), (2, .int (iI x)), (3, .int (iI y))] := hl
  have hpn := hV.1
  have hpo := hV.at hz.1 hz.2
  have hpb := hV.bd hz.1 hz.2
  refine ad_sipush F dX11_isPairOf_0 (by decide) ?_
  refine lv_iload_n F.1 F.2.1 dX11_isPairOf_3 rfl (lv_at hl 1 rfl) ?_
  refine ad_bipush F dX11_isPairOf_4 (by decide) ?_
  refine ad_imul F dX11_isPairOf_6 ?_
  refine ad_iadd F dX11_isPairOf_7 ?_
  refine lv_istore (lv' := [(4, .int (iI (557 + (z * 23)))), (0, .ref m0), (1, .int (iI z)), (2, .int (iI x)), (3, .int (iI y))]) F.1 F.2.1 dX11_isPairOf_8 hl (by decide) rfl (fun ls hl => ?_)
  refine lv_aload_n F.1 F.2.1 dX11_isPairOf_10 rfl (lv_at hl 1 rfl) ?_
  refine lv_iload F.1 F.2.1 dX11_isPairOf_11 (lv_at hl 0 rfl) ?_
  refine ad_iconst F dX11_isPairOf_13 ?_
  refine ad_iadd F dX11_isPairOf_14 ?_
  refine lv_aload_n F.1 F.2.1 dX11_isPairOf_15 rfl (lv_at hl 1 rfl) ?_
  refine ad_get F G fl_X11_9 0 rfl rfl dX11_isPairOf_16 ?_
  refine lv_iload F.1 F.2.1 dX11_isPairOf_19 (lv_at hl 0 rfl) ?_
  refine ad_iconst F dX11_isPairOf_21 ?_
  refine ad_iadd F dX11_isPairOf_22 ?_
  refine ad_iald F G 4 rfl (w := ((pget ps z).2.1.length : Int)) (by omega) (hM.2.2 z hz.1 hz.2).2.1 dX11_isPairOf_23 ?_
  refine lv_iload_n F.1 F.2.1 dX11_isPairOf_24 rfl (lv_at hl 3 rfl) ?_
  refine ad_callV (As := [.int (iI ((557 + (z * 23)) + 5)), .int (iI ((pget ps z).2.1.length : Int)), .int (iI x)]) (rest := []) F G (c_X11_isWordAt l D K z0 m0 M xth xrm xsv xln xat xer xwr xwd xlo xhi xwl xml xkl xfi xse xdn xon xtw xol xrw xgl xus xpr xmk xab gbf w gbg gle g ((557 + (z * 23)) + 5) x b1 l1 ((pget ps z).2.1) u hT hC hL hx hgx hrx hux (by omega) hpo.2.2.1 (fun j h0 h1 => (hM.2.2 z hz.1 hz.2).2.2.2.1 j h0 (by omega))) my_X11_isWordAt mv_X11_224 (wr := []) (isC := [0, 1, 2, 3, 4]) (isR := []) ⟨rfl, rfl, rfl, rfl, by decide⟩ 11 0 rfl rfl rfl rfl ⟨Nat.le_of_ble_eq_true rfl, Nat.le_of_ble_eq_true rfl⟩ ⟨Nat.le_of_ble_eq_true rfl, Nat.le_of_ble_eq_true rfl⟩ (Nat.le_of_ble_eq_true rfl) hl.1 (cells9 := 0) (slots9 := 0) ⟨rfl, rfl⟩ dX11_isPairOf_25 (fun v u H locs hw_1 G => ?_)
  rcases hw_1 with ⟨rfl, hc_2, rfl⟩ | ⟨rfl, hc_3, rfl⟩
  · replace G := G.perm (ws' := [(m0, mO M xth xrm xsv xln xat xer xwr xwd xlo xhi xwl xml xkl xfi xse xdn xon xtw xol xrw xgl xus xpr xmk xab), (M 6, aI (K 2) 100 gbf), (M 11, aI (K 0) 60 gbg), (M 12, aI (K 0) 60 gle), (M 1, aI (K 0) 1247 g)]) [0, 1, 2, 3, 4] rfl rfl
    refine W.eq (g2 := F0 m9 28 ls [.int (iI 1)]) rfl ?_
    refine ad_if_eq (tgt := 59) F (by decide) dX11_isPairOf_28 (by decide) (fun cc_4 => absurd cc_4 (by decide)) (fun _ => ?_)
    refine lv_aload_n F.1 F.2.1 dX11_isPairOf_31 rfl (lv_at hl 1 rfl) ?_
    refine lv_iload F.1 F.2.1 dX11_isPairOf_32 (lv_at hl 0 rfl) ?_
    refine ad_iconst F dX11_isPairOf_34 ?_
    refine ad_iadd F dX11_isPairOf_35 ?_
    refine ad_bipush F dX11_isPairOf_36 (by decide) ?_
    refine ad_iadd F dX11_isPairOf_38 ?_
    refine lv_aload_n F.1 F.2.1 dX11_isPairOf_39 rfl (lv_at hl 1 rfl) ?_
    refine ad_get F G fl_X11_9 0 rfl rfl dX11_isPairOf_40 ?_
    refine lv_iload F.1 F.2.1 dX11_isPairOf_43 (lv_at hl 0 rfl) ?_
    refine ad_iconst F dX11_isPairOf_45 ?_
    refine ad_iadd F dX11_isPairOf_46 ?_
    refine ad_iald F G 4 rfl (w := ((pget ps z).2.2.length : Int)) (by omega) (hM.2.2 z hz.1 hz.2).2.2.1 dX11_isPairOf_47 ?_
    refine lv_iload_n F.1 F.2.1 dX11_isPairOf_48 rfl (lv_at hl 4 rfl) ?_
    refine ad_callV (As := [.int (iI (((557 + (z * 23)) + 5) + 6)), .int (iI ((pget ps z).2.2.length : Int)), .int (iI y)]) (rest := []) F G (c_X11_isWordAt l D K z0 m0 M xth xrm xsv xln xat xer xwr xwd xlo xhi xwl xml xkl xfi xse xdn xon xtw xol xrw xgl xus xpr xmk xab gbf w gbg gle g (((557 + (z * 23)) + 5) + 6) y b2 l2 ((pget ps z).2.2) v hT hC hL hy hgy hry huy (by omega) hpo.2.2.2.1 (fun j h0 h1 => (hM.2.2 z hz.1 hz.2).2.2.2.2 j h0 (by omega))) my_X11_isWordAt mv_X11_224 (wr := []) (isC := [0, 1, 2, 3, 4]) (isR := []) ⟨rfl, rfl, rfl, rfl, by decide⟩ 11 0 rfl rfl rfl rfl ⟨Nat.le_of_ble_eq_true rfl, Nat.le_of_ble_eq_true rfl⟩ ⟨Nat.le_of_ble_eq_true rfl, Nat.le_of_ble_eq_true rfl⟩ (Nat.le_of_ble_eq_true rfl) hl.1 (cells9 := 0) (slots9 := 0) ⟨rfl, rfl⟩ dX11_isPairOf_49 (fun v u H locs hw_5 G => ?_)
    rcases hw_5 with ⟨rfl, hc_6, rfl⟩ | ⟨rfl, hc_7, rfl⟩
    · replace G := G.perm (ws' := [(m0, mO M xth xrm xsv xln xat xer xwr xwd xlo xhi xwl xml xkl xfi xse xdn xon xtw xol xrw xgl xus xpr xmk xab), (M 6, aI (K 2) 100 gbf), (M 11, aI (K 0) 60 gbg), (M 12, aI (K 0) 60 gle), (M 1, aI (K 0) 1247 g)]) [0, 1, 2, 3, 4] rfl rfl
      refine W.eq (g2 := F0 m9 52 ls [.int (iI 1)]) rfl ?_
      refine ad_if_eq (tgt := 59) F (by decide) dX11_isPairOf_52 (by decide) (fun cc_8 => absurd cc_8 (by decide)) (fun _ => ?_)
      refine ad_iconst F dX11_isPairOf_55 ?_
      refine lv_goto (tgt := 60) F.1 F.2.1 dX11_isPairOf_56 (by decide) ?_
      exact ad_zreturn F G hR rfl (Nat.le_of_ble_eq_true rfl) (Nat.le_of_ble_eq_true rfl) rfl (Or.inl ⟨rfl, ⟨hc_2, hc_6⟩, rfl⟩) dX11_isPairOf_60
    · replace G := G.perm (ws' := [(m0, mO M xth xrm xsv xln xat xer xwr xwd xlo xhi xwl xml xkl xfi xse xdn xon xtw xol xrw xgl xus xpr xmk xab), (M 6, aI (K 2) 100 gbf), (M 11, aI (K 0) 60 gbg), (M 12, aI (K 0) 60 gle), (M 1, aI (K 0) 1247 g)]) [0, 1, 2, 3, 4] rfl rfl
      refine W.eq (g2 := F0 m9 52 ls [.int (iI 0)]) rfl ?_
      refine ad_if_eq (tgt := 59) F (by decide) dX11_isPairOf_52 (by decide) (fun _ => ?_) (fun cc_9 => absurd cc_9 (by decide))
      refine ad_iconst F dX11_isPairOf_59 ?_
      exact ad_zreturn F G hR rfl (Nat.le_of_ble_eq_true rfl) (Nat.le_of_ble_eq_true rfl) rfl (Or.inr (⟨rfl, (fun q => hc_7 q.2), rfl⟩)) dX11_isPairOf_60
  · replace G := G.perm (ws' := [(m0, mO M xth xrm xsv xln xat xer xwr xwd xlo xhi xwl xml xkl xfi xse xdn xon xtw xol xrw xgl xus xpr xmk xab), (M 6, aI (K 2) 100 gbf), (M 11, aI (K 0) 60 gbg), (M 12, aI (K 0) 60 gle), (M 1, aI (K 0) 1247 g)]) [0, 1, 2, 3, 4] rfl rfl
    refine W.eq (g2 := F0 m9 28 ls [.int (iI 0)]) rfl ?_
    refine ad_if_eq (tgt := 59) F (by decide) dX11_isPairOf_28 (by decide) (fun _ => ?_) (fun cc_10 => absurd cc_10 (by decide))
    refine ad_iconst F dX11_isPairOf_59 ?_
    exact ad_zreturn F G hR rfl (Nat.le_of_ble_eq_true rfl) (Nat.le_of_ble_eq_true rfl) rfl (Or.inr (⟨rfl, (fun q => hc_3 q.1), rfl⟩)) dX11_isPairOf_60

def rm_X11_learnPair : Room := { frames := 3, cells := 0, slots := 0, locals := 61 }
set_option maxHeartbeats 4000000 in
set_option maxRecDepth 100000 in
theorem c_X11_learnPair (l : Launch) (D : va_G) (K : Nat → ClassId) (z0 : Nat) (m0 : Nat) (M : Nat → Nat) (xth : Int) (xrm : Int) (xsv : Int) (xln : Int) (xat : Int) (xer : Int) (xwr : Int) (xwd : Int) (xlo : Int) (xhi : Int) (xwl : Int) (xml : Int) (xkl : Int) (xfi : Int) (xse : Int) (xdn : Int) (xon : Int) (xtw : Int) (xol : Int) (xrw : Int) (xgl : Int) (xus : Int) (xpr : Int) (xmk : Int) (xab : Int) (gbf : Nat → Int) (w : List Int) (gbg : Nat → Int) (gle : Nat → Int) (g : Nat → Int) (rs : List Rl) (ps : List Pr) (md : Int) (th : Int) (nc : Int) (B : Int) (x : Int) (y : Int) (b1 : Int) (l1 : Int) (b2 : Int) (l2 : Int) (u : List Int) (v : List Int) (hT : Tx gbf w) (hC : Chs w) (hL : w.length ≤ 100) (hx : 0 ≤ x ∧ x < 60) (hgx : gbg x.toNat = b1 ∧ gle x.toNat = l1) (hrx : 0 ≤ b1 ∧ 0 ≤ l1 ∧ b1 + l1 ≤ w.length) (hux : sl w b1 (b1 + l1) = u) (hy : 0 ≤ y ∧ y < 60) (hgy : gbg y.toNat = b2 ∧ gle y.toNat = l2) (hry : 0 ≤ b2 ∧ 0 ≤ l2 ∧ b2 + l2 ≤ w.length) (huy : sl w b2 (b2 + l2) = v) (hM : MRow g rs ps md th nc) (hW : RW rs) (hV : PW ps B) (hB0 : 0 ≤ B) (hB1 : B + 1 ≤ 1000000) (ht : 1 ≤ th ∧ th ≤ 9) (hPF : PF u v) : CT l D K z0 yX11_learnPair cX11_learnPair 7 (some .boolean) rm_X11_learnPair [.ref m0, .int (iI x), .int (iI y)] [(m0, mO M xth xrm xsv xln xat xer xwr xwd xlo xhi xwl xml xkl xfi xse xdn xon xtw xol xrw xgl xus xpr xmk xab), (M 6, aI (K 2) 100 gbf), (M 11, aI (K 0) 60 gbg), (M 12, aI (K 0) 60 gle), (M 1, aI (K 0) 1247 g)] (fun v9 u9 => (∃ (g2 : Nat → Int), v9 = some (.int (iI 1)) ∧ (MRow g2 (lrnR rs ps th u v) (lrnP ps u v) md th nc) ∧ (((lrnR rs ps th u v).length : Int) = rs.length + 1) ∧ u9 = [(m0, mO M xth xrm xsv xln xat xer xwr xwd xlo xhi xwl xml xkl xfi xse xdn xon xtw xol xrw xgl xus xpr xmk xab), (M 6, aI (K 2) 100 gbf), (M 11, aI (K 0) 60 gbg), (M 12, aI (K 0) 60 gle), (M 1, aI (K 0) 1247 g2)]) ∨ (∃ (g2 : Nat → Int), v9 = some (.int (iI 0)) ∧ (MRow g2 (lrnR rs ps th u v) (lrnP ps u v) md th nc) ∧ (((lrnR rs ps th u v).length : Int) = rs.length) ∧ u9 = [(m0, mO M xth xrm xsv xln xat xer xwr xwd xlo xhi xwl xml xkl xfi xse xdn xon xtw xol xrw xgl xus xpr xmk xab), (M 6, aI (K 2) 100 gbf), (M 11, aI (K 0) 60 gbg), (M 12, aI (K 0) 60 gle), (M 1, aI (K 0) 1247 g2)])) := by
  refine CT.start RX11 "learnPair" (by decide) rfl rfl (Nat.le_of_ble_eq_true rfl) ?_
  intro p9 e9 s9 m9 ag9 bl9 mt9 c9 A9 Q9 ls F G hR hl
  have hl : lv_has ls 7 [(0, .ref m0), (1, .int (iI x)), (2, .int (iI y))] := hl
  have hn := hW.1
  have hpn := hV.1
  have hlc := lcn_b hV hB0 u v
  have hpfb := pfi_b ps u v
  have hwf := wfi_b rs u v
  have hul := hPF.1.1
  have hvl := hPF.2.1.1
  have hu6 := hPF.2.2.2.1
  have hlu : (u.length : Int) = l1 := by rw [← hux, sl_len (by omega) (by omega) (by omega)]; omega
  have hlv : (v.length : Int) = l2 := by rw [← huy, sl_len (by omega) (by omega) (by omega)]; omega
  refine ad_iconst F dX11_learnPair_0 ?_
  refine lv_istore_n (lv' := [(3, .int (iI 0)), (0, .ref m0), (1, .int (iI x)), (2, .int (iI y))]) F.1 F.2.1 dX11_learnPair_1 rfl hl (by decide) rfl (fun ls hl => ?_)
  have lp2 : ∀ (n2 : Nat) (k : Int) (H : Heap) (locs : List Loc) (ls : Array Slot), (0 ≤ k ∧ k ≤ ps.length) → (∀ j : Int, 0 ≤ j → j < k → ¬ pm ps u v j) → (ps.length - k) < (n2 : Int) → ad_G D A9 s9.heap H locs [(m0, mO M xth xrm xsv xln xat xer xwr xwd xlo xhi xwl xml xkl xfi xse xdn xon xtw xol xrw xgl xus xpr xmk xab), (M 6, aI (K 2) 100 gbf), (M 11, aI (K 0) 60 gbg), (M 12, aI (K 0) 60 gle), (M 1, aI (K 0) 1247 g)] → lv_has ls 7 [(0, .ref m0), (1, .int (iI x)), (2, .int (iI y)), (3, .int (iI k))] → W p9 l e9 rm_X11_learnPair s9 m9 ag9 bl9 mt9 c9 H locs 0 0 Q9 (F0 m9 2 ls []) := by
    intro n2
    induction n2 with
    | zero =>
      intro k H locs ls hk hno hm2
      exact absurd hm2 (by omega)
    | succ n2 ih2 =>
      intro k H locs ls hk hno hm2 G hl
      refine lv_iload_n F.1 F.2.1 dX11_learnPair_2 rfl (lv_at hl 3 rfl) ?_
      refine lv_aload_n F.1 F.2.1 dX11_learnPair_3 rfl (lv_at hl 0 rfl) ?_
      refine ad_get F G fl_X11_9 0 rfl rfl dX11_learnPair_4 ?_
      refine ad_iconst F dX11_learnPair_7 ?_
      refine ad_iald F G 4 rfl (w := (ps.length : Int)) (by omega) (hM.1.2.1) dX11_learnPair_8 ?_
      refine ad_icmp_ge (tgt := 28) F (by omega) dX11_learnPair_9 (by decide) (fun cc_1 => ?_) (fun cc_1 => ?_)
      · have hpf : pfi ps u v = k := by rw [pfi_no (fun j j0 j1 => hno j j0 (by omega))]; omega
        refine lv_iload_n F.1 F.2.1 dX11_learnPair_28 rfl (lv_at hl 3 rfl) ?_
        refine ad_bipush F dX11_learnPair_29 (by decide) ?_
        refine ad_icmp_ne (tgt := 36) F (by omega) dX11_learnPair_31 (by decide) (fun cc_2 => ?_) (fun cc_2 => ?_)
        · refine ad_sipush F dX11_learnPair_36 (by decide) ?_
          refine lv_iload_n F.1 F.2.1 dX11_learnPair_39 rfl (lv_at hl 3 rfl) ?_
          refine ad_bipush F dX11_learnPair_40 (by decide) ?_
          refine ad_imul F dX11_learnPair_42 ?_
          refine ad_iadd F dX11_learnPair_43 ?_
          refine lv_istore (lv' := [(4, .int (iI (557 + (k * 23)))), (0, .ref m0), (1, .int (iI x)), (2, .int (iI y)), (3, .int (iI k))]) F.1 F.2.1 dX11_learnPair_44 hl (by decide) rfl (fun ls hl => ?_)
          refine lv_iload_n F.1 F.2.1 dX11_learnPair_46 rfl (lv_at hl 4 rfl) ?_
          refine lv_aload_n F.1 F.2.1 dX11_learnPair_47 rfl (lv_at hl 1 rfl) ?_
          refine ad_get F G fl_X11_9 0 rfl rfl dX11_learnPair_48 ?_
          refine ad_iconst F dX11_learnPair_51 ?_
          refine ad_iald F G 4 rfl (w := (ps.length : Int)) (by omega) (hM.1.2.1) dX11_learnPair_52 ?_
          refine ad_icmp_ne (tgt := 84) F (by omega) dX11_learnPair_53 (by decide) (fun cc_3 => ?_) (fun cc_3 => ?_)
          · obtain ⟨ga, hga⟩ : ∃ ga : Nat → Int, ga = g := ⟨_, rfl⟩
            have hma : MRow ga rs (lps ps u v) md th nc := by rw [hga]; unfold lps; rw [if_neg (by omega)]; exact hM
            replace G := G.eq (ws' := [(m0, mO M xth xrm xsv xln xat xer xwr xwd xlo xhi xwl xml xkl xfi xse xdn xon xtw xol xrw xgl xus xpr xmk xab), (M 6, aI (K 2) 100 gbf), (M 11, aI (K 0) 60 gbg), (M 12, aI (K 0) 60 gle), (M 1, aI (K 0) 1247 ga)]) (by rw [hga])
            refine lv_aload_n F.1 F.2.1 dX11_learnPair_84 rfl (lv_at hl 1 rfl) ?_
            refine ad_get F G fl_X11_9 0 rfl rfl dX11_learnPair_85 ?_
            refine lv_iload F.1 F.2.1 dX11_learnPair_88 (lv_at hl 0 rfl) ?_
            refine ad_iconst F dX11_learnPair_90 ?_
            refine ad_iadd F dX11_learnPair_91 ?_
            refine lv_dup2_11 F.1 F.2.1 dX11_learnPair_92 rfl rfl ?_
            refine ad_iald F G 4 rfl (w := (pget (lps ps u v) k).1) (by omega) (hma.2.2 k (by omega) (by have := lps_in hV (u := u) (v := v); omega)).1 dX11_learnPair_93 ?_
            refine ad_iconst F dX11_learnPair_94 ?_
            refine ad_iadd F dX11_learnPair_95 ?_
            refine ad_topi (y := lcn ps u v) (by unfold lcn; rw [hpf]) ?_
            refine ad_iast F G 4 rfl (by omega) (ws' := [(m0, mO M xth xrm xsv xln xat xer xwr xwd xlo xhi xwl xml xkl xfi xse xdn xon xtw xol xrw xgl xus xpr xmk xab), (M 6, aI (K 2) 100 gbf), (M 11, aI (K 0) 60 gbg), (M 12, aI (K 0) 60 gle), (M 1, aI (K 0) 1247 (va_up ga ((557 + (k * 23)) + 0).toNat (lcn ps u v)))]) rfl dX11_learnPair_96 (fun H locs G => ?_)
            have hmb : MRow (va_up ga ((557 + (k * 23)) + 0).toNat (lcn ps u v)) rs (lrnP ps u v) md th nc := by unfold lrnP; rw [if_neg (by omega), hpf]; exact MRow_cnt hma (by have := pfi_b ps u v; omega) (by have := lps_in hV (u := u) (v := v); omega) rfl
            generalize (va_up ga ((557 + (k * 23)) + 0).toNat (lcn ps u v)) = gb at G hmb
            have hpg : pget (lrnP ps u v) k = (lcn ps u v, u, v) := by rw [← hpf]; exact lrnP_get hV (by omega) 
            have hpl : k < (lrnP ps u v).length := by rw [← hpf]; exact lrnP_in hV (by omega)
            have hV2 : PW (lrnP ps u v) (B + 1) := PW_lrn hV hB0 (by omega) hPF
            refine lv_aload_n F.1 F.2.1 dX11_learnPair_97 rfl (lv_at hl 1 rfl) ?_
            refine ad_get F G fl_X11_9 0 rfl rfl dX11_learnPair_98 ?_
            refine lv_iload F.1 F.2.1 dX11_learnPair_101 (lv_at hl 0 rfl) ?_
            refine ad_iconst F dX11_learnPair_103 ?_
            refine ad_iadd F dX11_learnPair_104 ?_
            refine ad_iald F G 4 rfl (w := (lcn ps u v)) (by omega) (by have q := (hmb.2.2 k (by omega) hpl).1; rw [hpg] at q; exact q) dX11_learnPair_105 ?_
            refine lv_aload_n F.1 F.2.1 dX11_learnPair_106 rfl (lv_at hl 1 rfl) ?_
            refine ad_get F G fl_X11_9 0 rfl rfl dX11_learnPair_107 ?_
            refine ad_iconst F dX11_learnPair_110 ?_
            refine ad_iald F G 4 rfl (w := th) (by omega) (hmb.1.2.2.2.1) dX11_learnPair_111 ?_
            refine ad_icmp_ne (tgt := 134) F (by omega) dX11_learnPair_112 (by decide) (fun cc_4 => ?_) (fun cc_4 => ?_)
            · refine ad_iconst F dX11_learnPair_134 ?_
              exact ad_zreturn F G hR rfl (Nat.le_of_ble_eq_true rfl) (Nat.le_of_ble_eq_true rfl) rfl (Or.inr (⟨gb, rfl, (by rw [lrnR_no (by omega)]; exact hmb), (by rw [lrnR_no (by omega)]), rfl⟩)) dX11_learnPair_135
            · refine lv_aload_n F.1 F.2.1 dX11_learnPair_115 rfl (lv_at hl 1 rfl) ?_
              refine lv_iload_n F.1 F.2.1 dX11_learnPair_116 rfl (lv_at hl 4 rfl) ?_
              refine ad_callV (As := [.int (iI k)]) (rest := []) F G (c_X11_ruleLike l D K z0 m0 M xth xrm xsv xln xat xer xwr xwd xlo xhi xwl xml xkl xfi xse xdn xon xtw xol xrw xgl xus xpr xmk xab gb rs (lrnP ps u v) md th nc k (B + 1) hmb hW hV2 (by omega)) my_X11_ruleLike mv_X11_221 (wr := [(M 6, aI (K 2) 100 gbf), (M 11, aI (K 0) 60 gbg), (M 12, aI (K 0) 60 gle)]) (isC := [0, 4]) (isR := [1, 2, 3]) ⟨rfl, rfl, rfl, rfl, by decide⟩ 11 0 rfl rfl rfl rfl ⟨Nat.le_of_ble_eq_true rfl, Nat.le_of_ble_eq_true rfl⟩ ⟨Nat.le_of_ble_eq_true rfl, Nat.le_of_ble_eq_true rfl⟩ (Nat.le_of_ble_eq_true rfl) hl.1 (cells9 := 0) (slots9 := 0) ⟨rfl, rfl⟩ dX11_learnPair_117 (fun v u H locs hw_5 G => ?_)
              obtain ⟨rfl, rfl⟩ := hw_5
              replace G := G.perm (ws' := [(m0, mO M xth xrm xsv xln xat xer xwr xwd xlo xhi xwl xml xkl xfi xse xdn xon xtw xol xrw xgl xus xpr xmk xab), (M 6, aI (K 2) 100 gbf), (M 11, aI (K 0) 60 gbg), (M 12, aI (K 0) 60 gle), (M 1, aI (K 0) 1247 gb)]) [3, 0, 1, 2, 4] rfl rfl
              refine W.eq (g2 := F0 m9 120 ls [.int (iI (wfi rs (pget (lrnP ps u v) k).2.1 (pget (lrnP ps u v) k).2.2))]) rfl ?_
              refine ad_topi (y := (wfi rs u v)) (by rw [hpg]) ?_
              refine ad_if_ge (tgt := 134) F (by omega) dX11_learnPair_120 (by decide) (fun cc_6 => ?_) (fun cc_6 => ?_)
              · refine ad_iconst F dX11_learnPair_134 ?_
                exact ad_zreturn F G hR rfl (Nat.le_of_ble_eq_true rfl) (Nat.le_of_ble_eq_true rfl) rfl (Or.inr (⟨gb, rfl, (by rw [lrnR_no (by omega)]; exact hmb), (by rw [lrnR_no (by omega)]), rfl⟩)) dX11_learnPair_135
              · refine lv_aload_n F.1 F.2.1 dX11_learnPair_123 rfl (lv_at hl 1 rfl) ?_
                refine ad_get F G fl_X11_9 0 rfl rfl dX11_learnPair_124 ?_
                refine ad_iconst F dX11_learnPair_127 ?_
                refine ad_iald F G 4 rfl (w := (rs.length : Int)) (by omega) (hmb.1.1) dX11_learnPair_128 ?_
                refine ad_bipush F dX11_learnPair_129 (by decide) ?_
                refine ad_icmp_ne (tgt := 136) F (by omega) dX11_learnPair_131 (by decide) (fun cc_7 => ?_) (fun cc_7 => ?_)
                · refine ad_iconst F dX11_learnPair_136 ?_
                  refine lv_aload_n F.1 F.2.1 dX11_learnPair_137 rfl (lv_at hl 1 rfl) ?_
                  refine ad_get F G fl_X11_9 0 rfl rfl dX11_learnPair_138 ?_
                  refine ad_iconst F dX11_learnPair_141 ?_
                  refine ad_iald F G 4 rfl (w := (rs.length : Int)) (by omega) (hmb.1.1) dX11_learnPair_142 ?_
                  refine ad_bipush F dX11_learnPair_143 (by decide) ?_
                  refine ad_imul F dX11_learnPair_145 ?_
                  refine ad_iadd F dX11_learnPair_146 ?_
                  refine lv_istore (lv' := [(5, .int (iI (5 + ((rs.length : Int) * 23)))), (4, .int (iI (557 + (k * 23)))), (0, .ref m0), (1, .int (iI x)), (2, .int (iI y)), (3, .int (iI k))]) F.1 F.2.1 dX11_learnPair_147 hl (by decide) rfl (fun ls hl => ?_)
                  refine ad_iconst F dX11_learnPair_149 ?_
                  refine lv_istore (lv' := [(6, .int (iI 3)), (5, .int (iI (5 + ((rs.length : Int) * 23)))), (4, .int (iI (557 + (k * 23)))), (0, .ref m0), (1, .int (iI x)), (2, .int (iI y)), (3, .int (iI k))]) F.1 F.2.1 dX11_learnPair_150 hl (by decide) rfl (fun ls hl => ?_)
                  have lp152 : ∀ (n152 : Nat) (k2 : Int) (gv : Nat → Int) (H : Heap) (locs : List Loc) (ls : Array Slot), (3 ≤ k2 ∧ k2 ≤ 23) → (∀ j : Int, 0 ≤ j → gv j.toNat = if (5 + (rs.length : Int) * 23) + 3 ≤ j ∧ j < (5 + (rs.length : Int) * 23) + k2 then gb ((557 + k * 23) + (j - (5 + (rs.length : Int) * 23))).toNat else gb j.toNat) → (23 - k2) < (n152 : Int) → ad_G D A9 s9.heap H locs [(m0, mO M xth xrm xsv xln xat xer xwr xwd xlo xhi xwl xml xkl xfi xse xdn xon xtw xol xrw xgl xus xpr xmk xab), (M 6, aI (K 2) 100 gbf), (M 11, aI (K 0) 60 gbg), (M 12, aI (K 0) 60 gle), (M 1, aI (K 0) 1247 gv)] → lv_has ls 7 [(0, .ref m0), (1, .int (iI x)), (2, .int (iI y)), (3, .int (iI k)), (4, .int (iI (557 + k * 23))), (5, .int (iI (5 + (rs.length : Int) * 23))), (6, .int (iI k2))] → W p9 l e9 rm_X11_learnPair s9 m9 ag9 bl9 mt9 c9 H locs 0 0 Q9 (F0 m9 152 ls []) := by
                    intro n152
                    induction n152 with
                    | zero =>
                      intro k2 gv H locs ls hk2 hcp hm152
                      exact absurd hm152 (by omega)
                    | succ n152 ih152 =>
                      intro k2 gv H locs ls hk2 hcp hm152 G hl
                      refine lv_iload F.1 F.2.1 dX11_learnPair_152 (lv_at hl 6 rfl) ?_
                      refine ad_bipush F dX11_learnPair_154 (by decide) ?_
                      refine ad_icmp_ge (tgt := 185) F (by omega) dX11_learnPair_156 (by decide) (fun cc_8 => ?_) (fun cc_8 => ?_)
                      · refine lv_aload_n F.1 F.2.1 dX11_learnPair_185 rfl (lv_at hl 0 rfl) ?_
                        refine ad_get F G fl_X11_9 0 rfl rfl dX11_learnPair_186 ?_
                        refine lv_iload F.1 F.2.1 dX11_learnPair_189 (lv_at hl 5 rfl) ?_
                        refine ad_iconst F dX11_learnPair_191 ?_
                        refine ad_iadd F dX11_learnPair_192 ?_
                        refine ad_iconst F dX11_learnPair_193 ?_
                        refine ad_iast F G 4 rfl (by omega) (ws' := [(m0, mO M xth xrm xsv xln xat xer xwr xwd xlo xhi xwl xml xkl xfi xse xdn xon xtw xol xrw xgl xus xpr xmk xab), (M 6, aI (K 2) 100 gbf), (M 11, aI (K 0) 60 gbg), (M 12, aI (K 0) 60 gle), (M 1, aI (K 0) 1247 (va_up gv ((5 + (rs.length : Int) * 23) + 0).toNat 0))]) rfl dX11_learnPair_194 (fun H locs G => ?_)
                        refine lv_aload_n F.1 F.2.1 dX11_learnPair_195 rfl (lv_at hl 0 rfl) ?_
                        refine ad_get F G fl_X11_9 0 rfl rfl dX11_learnPair_196 ?_
                        refine lv_iload F.1 F.2.1 dX11_learnPair_199 (lv_at hl 5 rfl) ?_
                        refine ad_iconst F dX11_learnPair_201 ?_
                        refine ad_iadd F dX11_learnPair_202 ?_
                        refine ad_bipush F dX11_learnPair_203 (by decide) ?_
                        refine lv_aload_n F.1 F.2.1 dX11_learnPair_205 rfl (lv_at hl 0 rfl) ?_
                        refine ad_get F G fl_X11_9 0 rfl rfl dX11_learnPair_206 ?_
                        refine ad_iconst F dX11_learnPair_209 ?_
                        refine ad_iald F G 4 rfl (w := th) (by omega) (by rw [va_upO (by omega) (by omega) (by omega), hcp 3 (by omega), if_neg (by omega)]; exact hmb.1.2.2.2.1) dX11_learnPair_210 ?_
                        refine ad_imul F dX11_learnPair_211 ?_
                        refine ad_iast F G 4 rfl (by omega) (ws' := [(m0, mO M xth xrm xsv xln xat xer xwr xwd xlo xhi xwl xml xkl xfi xse xdn xon xtw xol xrw xgl xus xpr xmk xab), (M 6, aI (K 2) 100 gbf), (M 11, aI (K 0) 60 gbg), (M 12, aI (K 0) 60 gle), (M 1, aI (K 0) 1247 (va_up (va_up gv ((5 + (rs.length : Int) * 23) + 0).toNat 0) ((5 + (rs.length : Int) * 23) + 1).toNat (10 * th)))]) rfl dX11_learnPair_212 (fun H locs G => ?_)
                        refine lv_aload_n F.1 F.2.1 dX11_learnPair_213 rfl (lv_at hl 0 rfl) ?_
                        refine ad_get F G fl_X11_9 0 rfl rfl dX11_learnPair_214 ?_
                        refine lv_iload F.1 F.2.1 dX11_learnPair_217 (lv_at hl 5 rfl) ?_
                        refine ad_iconst F dX11_learnPair_219 ?_
                        refine ad_iadd F dX11_learnPair_220 ?_
                        refine ad_iconst F dX11_learnPair_221 ?_
                        refine ad_iast F G 4 rfl (by omega) (ws' := [(m0, mO M xth xrm xsv xln xat xer xwr xwd xlo xhi xwl xml xkl xfi xse xdn xon xtw xol xrw xgl xus xpr xmk xab), (M 6, aI (K 2) 100 gbf), (M 11, aI (K 0) 60 gbg), (M 12, aI (K 0) 60 gle), (M 1, aI (K 0) 1247 (va_up (va_up (va_up gv ((5 + (rs.length : Int) * 23) + 0).toNat 0) ((5 + (rs.length : Int) * 23) + 1).toNat (10 * th)) ((5 + (rs.length : Int) * 23) + 2).toNat 0))]) rfl dX11_learnPair_222 (fun H locs G => ?_)
                        refine lv_aload_n F.1 F.2.1 dX11_learnPair_223 rfl (lv_at hl 0 rfl) ?_
                        refine ad_get F G fl_X11_9 0 rfl rfl dX11_learnPair_224 ?_
                        refine ad_iconst F dX11_learnPair_227 ?_
                        refine lv_dup2_11 F.1 F.2.1 dX11_learnPair_228 rfl rfl ?_
                        refine ad_iald F G 4 rfl (w := (rs.length : Int)) (by omega) (by rw [va_upO (by omega) (by omega) (by omega), va_upO (by omega) (by omega) (by omega), va_upO (by omega) (by omega) (by omega), hcp 0 (by omega), if_neg (by omega)]; exact hmb.1.1) dX11_learnPair_229 ?_
                        refine ad_iconst F dX11_learnPair_230 ?_
                        refine ad_iadd F dX11_learnPair_231 ?_
                        refine ad_iast F G 4 rfl (by omega) (ws' := [(m0, mO M xth xrm xsv xln xat xer xwr xwd xlo xhi xwl xml xkl xfi xse xdn xon xtw xol xrw xgl xus xpr xmk xab), (M 6, aI (K 2) 100 gbf), (M 11, aI (K 0) 60 gbg), (M 12, aI (K 0) 60 gle), (M 1, aI (K 0) 1247 (va_up (va_up (va_up (va_up gv ((5 + (rs.length : Int) * 23) + 0).toNat 0) ((5 + (rs.length : Int) * 23) + 1).toNat (10 * th)) ((5 + (rs.length : Int) * 23) + 2).toNat 0) (0 : Int).toNat ((rs.length : Int) + 1)))]) rfl dX11_learnPair_232 (fun H locs G => ?_)
                        refine ad_iconst F dX11_learnPair_233 ?_
                        exact ad_zreturn F G hR rfl (Nat.le_of_ble_eq_true rfl) (Nat.le_of_ble_eq_true rfl) rfl (Or.inl ⟨va_up (va_up (va_up (va_up gv ((5 + (rs.length : Int) * 23) + 0).toNat 0) ((5 + (rs.length : Int) * 23) + 1).toNat (10 * th)) ((5 + (rs.length : Int) * 23) + 2).toNat 0) (0 : Int).toNat ((rs.length : Int) + 1), rfl, (by rw [lrnR_add (by omega) (by omega) (by omega)]; exact MRow_addc hmb (by omega) rfl (show MForm gb (557 + k * 23) u v by (have q := (hmb.2.2 k (by omega) (by omega)).2); rw [hpg] at q; exact q) (by omega) hcp (by omega) rfl rfl), (by rw [lrnR_add (by omega) (by omega) (by omega)]; simp), rfl⟩) dX11_learnPair_234
                      · refine lv_aload_n F.1 F.2.1 dX11_learnPair_159 rfl (lv_at hl 0 rfl) ?_
                        refine ad_get F G fl_X11_9 0 rfl rfl dX11_learnPair_160 ?_
                        refine lv_iload F.1 F.2.1 dX11_learnPair_163 (lv_at hl 5 rfl) ?_
                        refine lv_iload F.1 F.2.1 dX11_learnPair_165 (lv_at hl 6 rfl) ?_
                        refine ad_iadd F dX11_learnPair_167 ?_
                        refine lv_aload_n F.1 F.2.1 dX11_learnPair_168 rfl (lv_at hl 0 rfl) ?_
                        refine ad_get F G fl_X11_9 0 rfl rfl dX11_learnPair_169 ?_
                        refine lv_iload F.1 F.2.1 dX11_learnPair_172 (lv_at hl 4 rfl) ?_
                        refine lv_iload F.1 F.2.1 dX11_learnPair_174 (lv_at hl 6 rfl) ?_
                        refine ad_iadd F dX11_learnPair_176 ?_
                        refine ad_iald F G 4 rfl (w := gb ((557 + k * 23) + k2).toNat) (by omega) (by rw [hcp _ (by omega), if_neg (by omega)]) dX11_learnPair_177 ?_
                        refine ad_iast F G 4 rfl (by omega) (ws' := [(m0, mO M xth xrm xsv xln xat xer xwr xwd xlo xhi xwl xml xkl xfi xse xdn xon xtw xol xrw xgl xus xpr xmk xab), (M 6, aI (K 2) 100 gbf), (M 11, aI (K 0) 60 gbg), (M 12, aI (K 0) 60 gle), (M 1, aI (K 0) 1247 (va_up gv ((5 + (rs.length : Int) * 23) + k2).toNat (gb ((557 + k * 23) + k2).toNat)))]) rfl dX11_learnPair_178 (fun H locs G => ?_)
                        refine ad_iinc (lv' := [(6, .int (iI (k2 + 1))), (0, .ref m0), (1, .int (iI x)), (2, .int (iI y)), (3, .int (iI k)), (4, .int (iI (557 + k * 23))), (5, .int (iI (5 + (rs.length : Int) * 23)))]) F dX11_learnPair_179 hl (k := 6) rfl (by decide) rfl (fun ls hl => ?_)
                        refine lv_goto (tgt := 152) F.1 F.2.1 dX11_learnPair_182 (by decide) ?_
                        exact ih152 (k2 + 1) (va_up gv ((5 + (rs.length : Int) * 23) + k2).toNat (gb ((557 + k * 23) + k2).toNat)) _ _ _ (by omega) (CpM_s hcp (by omega) (by omega)) (by omega) (G.perm (ws' := [(m0, mO M xth xrm xsv xln xat xer xwr xwd xlo xhi xwl xml xkl xfi xse xdn xon xtw xol xrw xgl xus xpr xmk xab), (M 6, aI (K 2) 100 gbf), (M 11, aI (K 0) 60 gbg), (M 12, aI (K 0) 60 gle), (M 1, aI (K 0) 1247 (va_up gv ((5 + (rs.length : Int) * 23) + k2).toNat (gb ((557 + k * 23) + k2).toNat)))]) [0, 1, 2, 3, 4] rfl rfl) (lv_sub hl [1, 2, 3, 4, 5, 6, 0] rfl)
                  exact lp152 ((((23 - 3 : Int)) + 1).toNat) 3 gb _ _ _ (by omega) (fun j j0 => by rw [if_neg (by omega)]) (by omega) (G.perm (ws' := [(m0, mO M xth xrm xsv xln xat xer xwr xwd xlo xhi xwl xml xkl xfi xse xdn xon xtw xol xrw xgl xus xpr xmk xab), (M 6, aI (K 2) 100 gbf), (M 11, aI (K 0) 60 gbg), (M 12, aI (K 0) 60 gle), (M 1, aI (K 0) 1247 gb)]) [0, 1, 2, 3, 4] rfl rfl) (lv_sub hl [3, 4, 5, 6, 2, 1, 0] rfl)
                · refine ad_iconst F dX11_learnPair_134 ?_
                  exact ad_zreturn F G hR rfl (Nat.le_of_ble_eq_true rfl) (Nat.le_of_ble_eq_true rfl) rfl (Or.inr (⟨gb, rfl, (by rw [lrnR_no (by omega)]; exact hmb), (by rw [lrnR_no (by omega)]), rfl⟩)) dX11_learnPair_135
          · refine lv_aload_n F.1 F.2.1 dX11_learnPair_56 rfl (lv_at hl 1 rfl) ?_
            refine lv_iload F.1 F.2.1 dX11_learnPair_57 (lv_at hl 0 rfl) ?_
            refine lv_iload_n F.1 F.2.1 dX11_learnPair_59 rfl (lv_at hl 2 rfl) ?_
            refine lv_iload_n F.1 F.2.1 dX11_learnPair_60 rfl (lv_at hl 3 rfl) ?_
            refine ad_callV (As := [.int (iI (557 + (k * 23))), .int (iI x), .int (iI y)]) (rest := []) F G (c_X11_writeForms l D K z0 m0 M xth xrm xsv xln xat xer xwr xwd xlo xhi xwl xml xkl xfi xse xdn xon xtw xol xrw xgl xus xpr xmk xab gbf w gbg gle g (557 + (k * 23)) x y b1 l1 b2 l2 hT hC hL (by omega) hx hy hgx hgy (by omega) (by omega)) my_X11_writeForms mv_X11_167 (wr := []) (isC := [0, 1, 2, 3, 4]) (isR := []) ⟨rfl, rfl, rfl, rfl, by decide⟩ 11 0 rfl rfl rfl rfl ⟨Nat.le_of_ble_eq_true rfl, Nat.le_of_ble_eq_true rfl⟩ ⟨Nat.le_of_ble_eq_true rfl, Nat.le_of_ble_eq_true rfl⟩ (Nat.le_of_ble_eq_true rfl) hl.1 (cells9 := 0) (slots9 := 0) ⟨rfl, rfl⟩ dX11_learnPair_61 (fun v u H locs hw_9 G => ?_)
            obtain ⟨g2_10, rfl, hc_11, hc_12, rfl⟩ := hw_9
            replace G := G.perm (ws' := [(m0, mO M xth xrm xsv xln xat xer xwr xwd xlo xhi xwl xml xkl xfi xse xdn xon xtw xol xrw xgl xus xpr xmk xab), (M 6, aI (K 2) 100 gbf), (M 11, aI (K 0) 60 gbg), (M 12, aI (K 0) 60 gle), (M 1, aI (K 0) 1247 g2_10)]) [0, 1, 2, 3, 4] rfl rfl
            refine W.eq (g2 := F0 m9 64 ls []) rfl ?_
            refine lv_aload_n F.1 F.2.1 dX11_learnPair_64 rfl (lv_at hl 1 rfl) ?_
            refine ad_get F G fl_X11_9 0 rfl rfl dX11_learnPair_65 ?_
            refine lv_iload F.1 F.2.1 dX11_learnPair_68 (lv_at hl 0 rfl) ?_
            refine ad_iconst F dX11_learnPair_70 ?_
            refine ad_iadd F dX11_learnPair_71 ?_
            refine ad_iconst F dX11_learnPair_72 ?_
            refine ad_iast F G 4 rfl (by omega) (ws' := [(m0, mO M xth xrm xsv xln xat xer xwr xwd xlo xhi xwl xml xkl xfi xse xdn xon xtw xol xrw xgl xus xpr xmk xab), (M 6, aI (K 2) 100 gbf), (M 11, aI (K 0) 60 gbg), (M 12, aI (K 0) 60 gle), (M 1, aI (K 0) 1247 (va_up g2_10 ((557 + (k * 23)) + 0).toNat 0))]) rfl dX11_learnPair_73 (fun H locs G => ?_)
            refine lv_aload_n F.1 F.2.1 dX11_learnPair_74 rfl (lv_at hl 1 rfl) ?_
            refine ad_get F G fl_X11_9 0 rfl rfl dX11_learnPair_75 ?_
            refine ad_iconst F dX11_learnPair_78 ?_
            refine lv_dup2_11 F.1 F.2.1 dX11_learnPair_79 rfl rfl ?_
            refine ad_iald F G 4 rfl (w := (ps.length : Int)) (by omega) (by rw [va_upO (by omega) (by omega) (by omega), hc_12 1 (by omega) (by omega)]; exact hM.1.2.1) dX11_learnPair_80 ?_
            refine ad_iconst F dX11_learnPair_81 ?_
            refine ad_iadd F dX11_learnPair_82 ?_
            refine ad_iast F G 4 rfl (by omega) (ws' := [(m0, mO M xth xrm xsv xln xat xer xwr xwd xlo xhi xwl xml xkl xfi xse xdn xon xtw xol xrw xgl xus xpr xmk xab), (M 6, aI (K 2) 100 gbf), (M 11, aI (K 0) 60 gbg), (M 12, aI (K 0) 60 gle), (M 1, aI (K 0) 1247 (va_up (va_up g2_10 ((557 + (k * 23)) + 0).toNat 0) (1 : Int).toNat ((ps.length : Int) + 1)))]) rfl dX11_learnPair_83 (fun H locs G => ?_)
            have hma : MRow (va_up (va_up g2_10 ((557 + (k * 23)) + 0).toNat 0) (1 : Int).toNat ((ps.length : Int) + 1)) rs (lps ps u v) md th nc := by unfold lps; rw [if_pos (by omega)]; exact MRow_pushP hM (by omega) (by omega) (by (have q := hc_11); rw [hux, huy] at q; exact q) hc_12 rfl
            generalize (va_up (va_up g2_10 ((557 + (k * 23)) + 0).toNat 0) (1 : Int).toNat ((ps.length : Int) + 1)) = ga at G hma
            refine lv_aload_n F.1 F.2.1 dX11_learnPair_84 rfl (lv_at hl 1 rfl) ?_
            refine ad_get F G fl_X11_9 0 rfl rfl dX11_learnPair_85 ?_
            refine lv_iload F.1 F.2.1 dX11_learnPair_88 (lv_at hl 0 rfl) ?_
            refine ad_iconst F dX11_learnPair_90 ?_
            refine ad_iadd F dX11_learnPair_91 ?_
            refine lv_dup2_11 F.1 F.2.1 dX11_learnPair_92 rfl rfl ?_
            refine ad_iald F G 4 rfl (w := (pget (lps ps u v) k).1) (by omega) (hma.2.2 k (by omega) (by have := lps_in hV (u := u) (v := v); omega)).1 dX11_learnPair_93 ?_
            refine ad_iconst F dX11_learnPair_94 ?_
            refine ad_iadd F dX11_learnPair_95 ?_
            refine ad_topi (y := lcn ps u v) (by unfold lcn; rw [hpf]) ?_
            refine ad_iast F G 4 rfl (by omega) (ws' := [(m0, mO M xth xrm xsv xln xat xer xwr xwd xlo xhi xwl xml xkl xfi xse xdn xon xtw xol xrw xgl xus xpr xmk xab), (M 6, aI (K 2) 100 gbf), (M 11, aI (K 0) 60 gbg), (M 12, aI (K 0) 60 gle), (M 1, aI (K 0) 1247 (va_up ga ((557 + (k * 23)) + 0).toNat (lcn ps u v)))]) rfl dX11_learnPair_96 (fun H locs G => ?_)
            have hmb : MRow (va_up ga ((557 + (k * 23)) + 0).toNat (lcn ps u v)) rs (lrnP ps u v) md th nc := by unfold lrnP; rw [if_neg (by omega), hpf]; exact MRow_cnt hma (by have := pfi_b ps u v; omega) (by have := lps_in hV (u := u) (v := v); omega) rfl
            generalize (va_up ga ((557 + (k * 23)) + 0).toNat (lcn ps u v)) = gb at G hmb
            have hpg : pget (lrnP ps u v) k = (lcn ps u v, u, v) := by rw [← hpf]; exact lrnP_get hV (by omega) 
            have hpl : k < (lrnP ps u v).length := by rw [← hpf]; exact lrnP_in hV (by omega)
            have hV2 : PW (lrnP ps u v) (B + 1) := PW_lrn hV hB0 (by omega) hPF
            refine lv_aload_n F.1 F.2.1 dX11_learnPair_97 rfl (lv_at hl 1 rfl) ?_
            refine ad_get F G fl_X11_9 0 rfl rfl dX11_learnPair_98 ?_
            refine lv_iload F.1 F.2.1 dX11_learnPair_101 (lv_at hl 0 rfl) ?_
            refine ad_iconst F dX11_learnPair_103 ?_
            refine ad_iadd F dX11_learnPair_104 ?_
            refine ad_iald F G 4 rfl (w := (lcn ps u v)) (by omega) (by have q := (hmb.2.2 k (by omega) hpl).1; rw [hpg] at q; exact q) dX11_learnPair_105 ?_
            refine lv_aload_n F.1 F.2.1 dX11_learnPair_106 rfl (lv_at hl 1 rfl) ?_
            refine ad_get F G fl_X11_9 0 rfl rfl dX11_learnPair_107 ?_
            refine ad_iconst F dX11_learnPair_110 ?_
            refine ad_iald F G 4 rfl (w := th) (by omega) (hmb.1.2.2.2.1) dX11_learnPair_111 ?_
            refine ad_icmp_ne (tgt := 134) F (by omega) dX11_learnPair_112 (by decide) (fun cc_13 => ?_) (fun cc_13 => ?_)
            · refine ad_iconst F dX11_learnPair_134 ?_
              exact ad_zreturn F G hR rfl (Nat.le_of_ble_eq_true rfl) (Nat.le_of_ble_eq_true rfl) rfl (Or.inr (⟨gb, rfl, (by rw [lrnR_no (by omega)]; exact hmb), (by rw [lrnR_no (by omega)]), rfl⟩)) dX11_learnPair_135
            · refine lv_aload_n F.1 F.2.1 dX11_learnPair_115 rfl (lv_at hl 1 rfl) ?_
              refine lv_iload_n F.1 F.2.1 dX11_learnPair_116 rfl (lv_at hl 4 rfl) ?_
              refine ad_callV (As := [.int (iI k)]) (rest := []) F G (c_X11_ruleLike l D K z0 m0 M xth xrm xsv xln xat xer xwr xwd xlo xhi xwl xml xkl xfi xse xdn xon xtw xol xrw xgl xus xpr xmk xab gb rs (lrnP ps u v) md th nc k (B + 1) hmb hW hV2 (by omega)) my_X11_ruleLike mv_X11_221 (wr := [(M 6, aI (K 2) 100 gbf), (M 11, aI (K 0) 60 gbg), (M 12, aI (K 0) 60 gle)]) (isC := [0, 4]) (isR := [1, 2, 3]) ⟨rfl, rfl, rfl, rfl, by decide⟩ 11 0 rfl rfl rfl rfl ⟨Nat.le_of_ble_eq_true rfl, Nat.le_of_ble_eq_true rfl⟩ ⟨Nat.le_of_ble_eq_true rfl, Nat.le_of_ble_eq_true rfl⟩ (Nat.le_of_ble_eq_true rfl) hl.1 (cells9 := 0) (slots9 := 0) ⟨rfl, rfl⟩ dX11_learnPair_117 (fun v u H locs hw_14 G => ?_)
              obtain ⟨rfl, rfl⟩ := hw_14
              replace G := G.perm (ws' := [(m0, mO M xth xrm xsv xln xat xer xwr xwd xlo xhi xwl xml xkl xfi xse xdn xon xtw xol xrw xgl xus xpr xmk xab), (M 6, aI (K 2) 100 gbf), (M 11, aI (K 0) 60 gbg), (M 12, aI (K 0) 60 gle), (M 1, aI (K 0) 1247 gb)]) [3, 0, 1, 2, 4] rfl rfl
              refine W.eq (g2 := F0 m9 120 ls [.int (iI (wfi rs (pget (lrnP ps u v) k).2.1 (pget (lrnP ps u v) k).2.2))]) rfl ?_
              refine ad_topi (y := (wfi rs u v)) (by rw [hpg]) ?_
              refine ad_if_ge (tgt := 134) F (by omega) dX11_learnPair_120 (by decide) (fun cc_15 => ?_) (fun cc_15 => ?_)
              · refine ad_iconst F dX11_learnPair_134 ?_
                exact ad_zreturn F G hR rfl (Nat.le_of_ble_eq_true rfl) (Nat.le_of_ble_eq_true rfl) rfl (Or.inr (⟨gb, rfl, (by rw [lrnR_no (by omega)]; exact hmb), (by rw [lrnR_no (by omega)]), rfl⟩)) dX11_learnPair_135
              · refine lv_aload_n F.1 F.2.1 dX11_learnPair_123 rfl (lv_at hl 1 rfl) ?_
                refine ad_get F G fl_X11_9 0 rfl rfl dX11_learnPair_124 ?_
                refine ad_iconst F dX11_learnPair_127 ?_
                refine ad_iald F G 4 rfl (w := (rs.length : Int)) (by omega) (hmb.1.1) dX11_learnPair_128 ?_
                refine ad_bipush F dX11_learnPair_129 (by decide) ?_
                refine ad_icmp_ne (tgt := 136) F (by omega) dX11_learnPair_131 (by decide) (fun cc_16 => ?_) (fun cc_16 => ?_)
                · refine ad_iconst F dX11_learnPair_136 ?_
                  refine lv_aload_n F.1 F.2.1 dX11_learnPair_137 rfl (lv_at hl 1 rfl) ?_
                  refine ad_get F G fl_X11_9 0 rfl rfl dX11_learnPair_138 ?_
                  refine ad_iconst F dX11_learnPair_141 ?_
                  refine ad_iald F G 4 rfl (w := (rs.length : Int)) (by omega) (hmb.1.1) dX11_learnPair_142 ?_
                  refine ad_bipush F dX11_learnPair_143 (by decide) ?_
                  refine ad_imul F dX11_learnPair_145 ?_
                  refine ad_iadd F dX11_learnPair_146 ?_
                  refine lv_istore (lv' := [(5, .int (iI (5 + ((rs.length : Int) * 23)))), (4, .int (iI (557 + (k * 23)))), (0, .ref m0), (1, .int (iI x)), (2, .int (iI y)), (3, .int (iI k))]) F.1 F.2.1 dX11_learnPair_147 hl (by decide) rfl (fun ls hl => ?_)
                  refine ad_iconst F dX11_learnPair_149 ?_
                  refine lv_istore (lv' := [(6, .int (iI 3)), (5, .int (iI (5 + ((rs.length : Int) * 23)))), (4, .int (iI (557 + (k * 23)))), (0, .ref m0), (1, .int (iI x)), (2, .int (iI y)), (3, .int (iI k))]) F.1 F.2.1 dX11_learnPair_150 hl (by decide) rfl (fun ls hl => ?_)
                  have lp152 : ∀ (n152 : Nat) (k2 : Int) (gv : Nat → Int) (H : Heap) (locs : List Loc) (ls : Array Slot), (3 ≤ k2 ∧ k2 ≤ 23) → (∀ j : Int, 0 ≤ j → gv j.toNat = if (5 + (rs.length : Int) * 23) + 3 ≤ j ∧ j < (5 + (rs.length : Int) * 23) + k2 then gb ((557 + k * 23) + (j - (5 + (rs.length : Int) * 23))).toNat else gb j.toNat) → (23 - k2) < (n152 : Int) → ad_G D A9 s9.heap H locs [(m0, mO M xth xrm xsv xln xat xer xwr xwd xlo xhi xwl xml xkl xfi xse xdn xon xtw xol xrw xgl xus xpr xmk xab), (M 6, aI (K 2) 100 gbf), (M 11, aI (K 0) 60 gbg), (M 12, aI (K 0) 60 gle), (M 1, aI (K 0) 1247 gv)] → lv_has ls 7 [(0, .ref m0), (1, .int (iI x)), (2, .int (iI y)), (3, .int (iI k)), (4, .int (iI (557 + k * 23))), (5, .int (iI (5 + (rs.length : Int) * 23))), (6, .int (iI k2))] → W p9 l e9 rm_X11_learnPair s9 m9 ag9 bl9 mt9 c9 H locs 0 0 Q9 (F0 m9 152 ls []) := by
                    intro n152
                    induction n152 with
                    | zero =>
                      intro k2 gv H locs ls hk2 hcp hm152
                      exact absurd hm152 (by omega)
                    | succ n152 ih152 =>
                      intro k2 gv H locs ls hk2 hcp hm152 G hl
                      refine lv_iload F.1 F.2.1 dX11_learnPair_152 (lv_at hl 6 rfl) ?_
                      refine ad_bipush F dX11_learnPair_154 (by decide) ?_
                      refine ad_icmp_ge (tgt := 185) F (by omega) dX11_learnPair_156 (by decide) (fun cc_17 => ?_) (fun cc_17 => ?_)
                      · refine lv_aload_n F.1 F.2.1 dX11_learnPair_185 rfl (lv_at hl 0 rfl) ?_
                        refine ad_get F G fl_X11_9 0 rfl rfl dX11_learnPair_186 ?_
                        refine lv_iload F.1 F.2.1 dX11_learnPair_189 (lv_at hl 5 rfl) ?_
                        refine ad_iconst F dX11_learnPair_191 ?_
                        refine ad_iadd F dX11_learnPair_192 ?_
                        refine ad_iconst F dX11_learnPair_193 ?_
                        refine ad_iast F G 4 rfl (by omega) (ws' := [(m0, mO M xth xrm xsv xln xat xer xwr xwd xlo xhi xwl xml xkl xfi xse xdn xon xtw xol xrw xgl xus xpr xmk xab), (M 6, aI (K 2) 100 gbf), (M 11, aI (K 0) 60 gbg), (M 12, aI (K 0) 60 gle), (M 1, aI (K 0) 1247 (va_up gv ((5 + (rs.length : Int) * 23) + 0).toNat 0))]) rfl dX11_learnPair_194 (fun H locs G => ?_)
                        refine lv_aload_n F.1 F.2.1 dX11_learnPair_195 rfl (lv_at hl 0 rfl) ?_
                        refine ad_get F G fl_X11_9 0 rfl rfl dX11_learnPair_196 ?_
                        refine lv_iload F.1 F.2.1 dX11_learnPair_199 (lv_at hl 5 rfl) ?_
                        refine ad_iconst F dX11_learnPair_201 ?_
                        refine ad_iadd F dX11_learnPair_202 ?_
                        refine ad_bipush F dX11_learnPair_203 (by decide) ?_
                        refine lv_aload_n F.1 F.2.1 dX11_learnPair_205 rfl (lv_at hl 0 rfl) ?_
                        refine ad_get F G fl_X11_9 0 rfl rfl dX11_learnPair_206 ?_
                        refine ad_iconst F dX11_learnPair_209 ?_
                        refine ad_iald F G 4 rfl (w := th) (by omega) (by rw [va_upO (by omega) (by omega) (by omega), hcp 3 (by omega), if_neg (by omega)]; exact hmb.1.2.2.2.1) dX11_learnPair_210 ?_
                        refine ad_imul F dX11_learnPair_211 ?_
                        refine ad_iast F G 4 rfl (by omega) (ws' := [(m0, mO M xth xrm xsv xln xat xer xwr xwd xlo xhi xwl xml xkl xfi xse xdn xon xtw xol xrw xgl xus xpr xmk xab), (M 6, aI (K 2) 100 gbf), (M 11, aI (K 0) 60 gbg), (M 12, aI (K 0) 60 gle), (M 1, aI (K 0) 1247 (va_up (va_up gv ((5 + (rs.length : Int) * 23) + 0).toNat 0) ((5 + (rs.length : Int) * 23) + 1).toNat (10 * th)))]) rfl dX11_learnPair_212 (fun H locs G => ?_)
                        refine lv_aload_n F.1 F.2.1 dX11_learnPair_213 rfl (lv_at hl 0 rfl) ?_
                        refine ad_get F G fl_X11_9 0 rfl rfl dX11_learnPair_214 ?_
                        refine lv_iload F.1 F.2.1 dX11_learnPair_217 (lv_at hl 5 rfl) ?_
                        refine ad_iconst F dX11_learnPair_219 ?_
                        refine ad_iadd F dX11_learnPair_220 ?_
                        refine ad_iconst F dX11_learnPair_221 ?_
                        refine ad_iast F G 4 rfl (by omega) (ws' := [(m0, mO M xth xrm xsv xln xat xer xwr xwd xlo xhi xwl xml xkl xfi xse xdn xon xtw xol xrw xgl xus xpr xmk xab), (M 6, aI (K 2) 100 gbf), (M 11, aI (K 0) 60 gbg), (M 12, aI (K 0) 60 gle), (M 1, aI (K 0) 1247 (va_up (va_up (va_up gv ((5 + (rs.length : Int) * 23) + 0).toNat 0) ((5 + (rs.length : Int) * 23) + 1).toNat (10 * th)) ((5 + (rs.length : Int) * 23) + 2).toNat 0))]) rfl dX11_learnPair_222 (fun H locs G => ?_)
                        refine lv_aload_n F.1 F.2.1 dX11_learnPair_223 rfl (lv_at hl 0 rfl) ?_
                        refine ad_get F G fl_X11_9 0 rfl rfl dX11_learnPair_224 ?_
                        refine ad_iconst F dX11_learnPair_227 ?_
                        refine lv_dup2_11 F.1 F.2.1 dX11_learnPair_228 rfl rfl ?_
                        refine ad_iald F G 4 rfl (w := (rs.length : Int)) (by omega) (by rw [va_upO (by omega) (by omega) (by omega), va_upO (by omega) (by omega) (by omega), va_upO (by omega) (by omega) (by omega), hcp 0 (by omega), if_neg (by omega)]; exact hmb.1.1) dX11_learnPair_229 ?_
                        refine ad_iconst F dX11_learnPair_230 ?_
                        refine ad_iadd F dX11_learnPair_231 ?_
                        refine ad_iast F G 4 rfl (by omega) (ws' := [(m0, mO M xth xrm xsv xln xat xer xwr xwd xlo xhi xwl xml xkl xfi xse xdn xon xtw xol xrw xgl xus xpr xmk xab), (M 6, aI (K 2) 100 gbf), (M 11, aI (K 0) 60 gbg), (M 12, aI (K 0) 60 gle), (M 1, aI (K 0) 1247 (va_up (va_up (va_up (va_up gv ((5 + (rs.length : Int) * 23) + 0).toNat 0) ((5 + (rs.length : Int) * 23) + 1).toNat (10 * th)) ((5 + (rs.length : Int) * 23) + 2).toNat 0) (0 : Int).toNat ((rs.length : Int) + 1)))]) rfl dX11_learnPair_232 (fun H locs G => ?_)
                        refine ad_iconst F dX11_learnPair_233 ?_
                        exact ad_zreturn F G hR rfl (Nat.le_of_ble_eq_true rfl) (Nat.le_of_ble_eq_true rfl) rfl (Or.inl ⟨va_up (va_up (va_up (va_up gv ((5 + (rs.length : Int) * 23) + 0).toNat 0) ((5 + (rs.length : Int) * 23) + 1).toNat (10 * th)) ((5 + (rs.length : Int) * 23) + 2).toNat 0) (0 : Int).toNat ((rs.length : Int) + 1), rfl, (by rw [lrnR_add (by omega) (by omega) (by omega)]; exact MRow_addc hmb (by omega) rfl (show MForm gb (557 + k * 23) u v by (have q := (hmb.2.2 k (by omega) (by omega)).2); rw [hpg] at q; exact q) (by omega) hcp (by omega) rfl rfl), (by rw [lrnR_add (by omega) (by omega) (by omega)]; simp), rfl⟩) dX11_learnPair_234
                      · refine lv_aload_n F.1 F.2.1 dX11_learnPair_159 rfl (lv_at hl 0 rfl) ?_
                        refine ad_get F G fl_X11_9 0 rfl rfl dX11_learnPair_160 ?_
                        refine lv_iload F.1 F.2.1 dX11_learnPair_163 (lv_at hl 5 rfl) ?_
                        refine lv_iload F.1 F.2.1 dX11_learnPair_165 (lv_at hl 6 rfl) ?_
                        refine ad_iadd F dX11_learnPair_167 ?_
                        refine lv_aload_n F.1 F.2.1 dX11_learnPair_168 rfl (lv_at hl 0 rfl) ?_
                        refine ad_get F G fl_X11_9 0 rfl rfl dX11_learnPair_169 ?_
                        refine lv_iload F.1 F.2.1 dX11_learnPair_172 (lv_at hl 4 rfl) ?_
                        refine lv_iload F.1 F.2.1 dX11_learnPair_174 (lv_at hl 6 rfl) ?_
                        refine ad_iadd F dX11_learnPair_176 ?_
                        refine ad_iald F G 4 rfl (w := gb ((557 + k * 23) + k2).toNat) (by omega) (by rw [hcp _ (by omega), if_neg (by omega)]) dX11_learnPair_177 ?_
                        refine ad_iast F G 4 rfl (by omega) (ws' := [(m0, mO M xth xrm xsv xln xat xer xwr xwd xlo xhi xwl xml xkl xfi xse xdn xon xtw xol xrw xgl xus xpr xmk xab), (M 6, aI (K 2) 100 gbf), (M 11, aI (K 0) 60 gbg), (M 12, aI (K 0) 60 gle), (M 1, aI (K 0) 1247 (va_up gv ((5 + (rs.length : Int) * 23) + k2).toNat (gb ((557 + k * 23) + k2).toNat)))]) rfl dX11_learnPair_178 (fun H locs G => ?_)
                        refine ad_iinc (lv' := [(6, .int (iI (k2 + 1))), (0, .ref m0), (1, .int (iI x)), (2, .int (iI y)), (3, .int (iI k)), (4, .int (iI (557 + k * 23))), (5, .int (iI (5 + (rs.length : Int) * 23)))]) F dX11_learnPair_179 hl (k := 6) rfl (by decide) rfl (fun ls hl => ?_)
                        refine lv_goto (tgt := 152) F.1 F.2.1 dX11_learnPair_182 (by decide) ?_
                        exact ih152 (k2 + 1) (va_up gv ((5 + (rs.length : Int) * 23) + k2).toNat (gb ((557 + k * 23) + k2).toNat)) _ _ _ (by omega) (CpM_s hcp (by omega) (by omega)) (by omega) (G.perm (ws' := [(m0, mO M xth xrm xsv xln xat xer xwr xwd xlo xhi xwl xml xkl xfi xse xdn xon xtw xol xrw xgl xus xpr xmk xab), (M 6, aI (K 2) 100 gbf), (M 11, aI (K 0) 60 gbg), (M 12, aI (K 0) 60 gle), (M 1, aI (K 0) 1247 (va_up gv ((5 + (rs.length : Int) * 23) + k2).toNat (gb ((557 + k * 23) + k2).toNat)))]) [0, 1, 2, 3, 4] rfl rfl) (lv_sub hl [1, 2, 3, 4, 5, 6, 0] rfl)
                  exact lp152 ((((23 - 3 : Int)) + 1).toNat) 3 gb _ _ _ (by omega) (fun j j0 => by rw [if_neg (by omega)]) (by omega) (G.perm (ws' := [(m0, mO M xth xrm xsv xln xat xer xwr xwd xlo xhi xwl xml xkl xfi xse xdn xon xtw xol xrw xgl xus xpr xmk xab), (M 6, aI (K 2) 100 gbf), (M 11, aI (K 0) 60 gbg), (M 12, aI (K 0) 60 gle), (M 1, aI (K 0) 1247 gb)]) [0, 1, 2, 3, 4] rfl rfl) (lv_sub hl [3, 4, 5, 6, 2, 1, 0] rfl)
                · refine ad_iconst F dX11_learnPair_134 ?_
                  exact ad_zreturn F G hR rfl (Nat.le_of_ble_eq_true rfl) (Nat.le_of_ble_eq_true rfl) rfl (Or.inr (⟨gb, rfl, (by rw [lrnR_no (by omega)]; exact hmb), (by rw [lrnR_no (by omega)]), rfl⟩)) dX11_learnPair_135
        · refine ad_iconst F dX11_learnPair_34 ?_
          exact ad_zreturn F G hR rfl (Nat.le_of_ble_eq_true rfl) (Nat.le_of_ble_eq_true rfl) rfl (Or.inr (⟨g, rfl, (by unfold lrnR lrnP; rw [if_pos (by omega), if_pos (by omega)]; exact hM), (by unfold lrnR; rw [if_pos (by omega)]), rfl⟩)) dX11_learnPair_35
      · refine lv_aload_n F.1 F.2.1 dX11_learnPair_12 rfl (lv_at hl 0 rfl) ?_
        refine lv_iload_n F.1 F.2.1 dX11_learnPair_13 rfl (lv_at hl 3 rfl) ?_
        refine lv_iload_n F.1 F.2.1 dX11_learnPair_14 rfl (lv_at hl 1 rfl) ?_
        refine lv_iload_n F.1 F.2.1 dX11_learnPair_15 rfl (lv_at hl 2 rfl) ?_
        refine ad_callV (As := [.int (iI k), .int (iI x), .int (iI y)]) (rest := []) F G (c_X11_isPairOf l D K z0 m0 M xth xrm xsv xln xat xer xwr xwd xlo xhi xwl xml xkl xfi xse xdn xon xtw xol xrw xgl xus xpr xmk xab gbf w gbg gle g rs ps md th nc B k x y b1 l1 b2 l2 u v hT hC hL hx hgx hrx hux hy hgy hry huy hM hV (by omega)) my_X11_isPairOf mv_X11_218 (wr := []) (isC := [0, 1, 2, 3, 4]) (isR := []) ⟨rfl, rfl, rfl, rfl, by decide⟩ 11 0 rfl rfl rfl rfl ⟨Nat.le_of_ble_eq_true rfl, Nat.le_of_ble_eq_true rfl⟩ ⟨Nat.le_of_ble_eq_true rfl, Nat.le_of_ble_eq_true rfl⟩ (Nat.le_of_ble_eq_true rfl) hl.1 (cells9 := 0) (slots9 := 0) ⟨rfl, rfl⟩ dX11_learnPair_16 (fun v u H locs hw_18 G => ?_)
        rcases hw_18 with ⟨rfl, hc_19, rfl⟩ | ⟨rfl, hc_20, rfl⟩
        · replace G := G.perm (ws' := [(m0, mO M xth xrm xsv xln xat xer xwr xwd xlo xhi xwl xml xkl xfi xse xdn xon xtw xol xrw xgl xus xpr xmk xab), (M 6, aI (K 2) 100 gbf), (M 11, aI (K 0) 60 gbg), (M 12, aI (K 0) 60 gle), (M 1, aI (K 0) 1247 g)]) [0, 1, 2, 3, 4] rfl rfl
          refine W.eq (g2 := F0 m9 19 ls [.int (iI 1)]) rfl ?_
          refine ad_if_ne (tgt := 28) F (by decide) dX11_learnPair_19 (by decide) (fun _ => ?_) (fun cc_21 => absurd cc_21 (by decide))
          have hpf : pfi ps u v = k := pfi_at (by omega) (by omega) hc_19 hno
          refine lv_iload_n F.1 F.2.1 dX11_learnPair_28 rfl (lv_at hl 3 rfl) ?_
          refine ad_bipush F dX11_learnPair_29 (by decide) ?_
          refine ad_icmp_ne (tgt := 36) F (by omega) dX11_learnPair_31 (by decide) (fun cc_22 => ?_) (fun cc_22 => ?_)
          · refine ad_sipush F dX11_learnPair_36 (by decide) ?_
            refine lv_iload_n F.1 F.2.1 dX11_learnPair_39 rfl (lv_at hl 3 rfl) ?_
            refine ad_bipush F dX11_learnPair_40 (by decide) ?_
            refine ad_imul F dX11_learnPair_42 ?_
            refine ad_iadd F dX11_learnPair_43 ?_
            refine lv_istore (lv' := [(4, .int (iI (557 + (k * 23)))), (0, .ref m0), (1, .int (iI x)), (2, .int (iI y)), (3, .int (iI k))]) F.1 F.2.1 dX11_learnPair_44 hl (by decide) rfl (fun ls hl => ?_)
            refine lv_iload_n F.1 F.2.1 dX11_learnPair_46 rfl (lv_at hl 4 rfl) ?_
            refine lv_aload_n F.1 F.2.1 dX11_learnPair_47 rfl (lv_at hl 1 rfl) ?_
            refine ad_get F G fl_X11_9 0 rfl rfl dX11_learnPair_48 ?_
            refine ad_iconst F dX11_learnPair_51 ?_
            refine ad_iald F G 4 rfl (w := (ps.length : Int)) (by omega) (hM.1.2.1) dX11_learnPair_52 ?_
            refine ad_icmp_ne (tgt := 84) F (by omega) dX11_learnPair_53 (by decide) (fun cc_23 => ?_) (fun cc_23 => ?_)
            · obtain ⟨ga, hga⟩ : ∃ ga : Nat → Int, ga = g := ⟨_, rfl⟩
              have hma : MRow ga rs (lps ps u v) md th nc := by rw [hga]; unfold lps; rw [if_neg (by omega)]; exact hM
              replace G := G.eq (ws' := [(m0, mO M xth xrm xsv xln xat xer xwr xwd xlo xhi xwl xml xkl xfi xse xdn xon xtw xol xrw xgl xus xpr xmk xab), (M 6, aI (K 2) 100 gbf), (M 11, aI (K 0) 60 gbg), (M 12, aI (K 0) 60 gle), (M 1, aI (K 0) 1247 ga)]) (by rw [hga])
              refine lv_aload_n F.1 F.2.1 dX11_learnPair_84 rfl (lv_at hl 1 rfl) ?_
              refine ad_get F G fl_X11_9 0 rfl rfl dX11_learnPair_85 ?_
              refine lv_iload F.1 F.2.1 dX11_learnPair_88 (lv_at hl 0 rfl) ?_
              refine ad_iconst F dX11_learnPair_90 ?_
              refine ad_iadd F dX11_learnPair_91 ?_
              refine lv_dup2_11 F.1 F.2.1 dX11_learnPair_92 rfl rfl ?_
              refine ad_iald F G 4 rfl (w := (pget (lps ps u v) k).1) (by omega) (hma.2.2 k (by omega) (by have := lps_in hV (u := u) (v := v); omega)).1 dX11_learnPair_93 ?_
              refine ad_iconst F dX11_learnPair_94 ?_
              refine ad_iadd F dX11_learnPair_95 ?_
              refine ad_topi (y := lcn ps u v) (by unfold lcn; rw [hpf]) ?_
              refine ad_iast F G 4 rfl (by omega) (ws' := [(m0, mO M xth xrm xsv xln xat xer xwr xwd xlo xhi xwl xml xkl xfi xse xdn xon xtw xol xrw xgl xus xpr xmk xab), (M 6, aI (K 2) 100 gbf), (M 11, aI (K 0) 60 gbg), (M 12, aI (K 0) 60 gle), (M 1, aI (K 0) 1247 (va_up ga ((557 + (k * 23)) + 0).toNat (lcn ps u v)))]) rfl dX11_learnPair_96 (fun H locs G => ?_)
              have hmb : MRow (va_up ga ((557 + (k * 23)) + 0).toNat (lcn ps u v)) rs (lrnP ps u v) md th nc := by unfold lrnP; rw [if_neg (by omega), hpf]; exact MRow_cnt hma (by have := pfi_b ps u v; omega) (by have := lps_in hV (u := u) (v := v); omega) rfl
              generalize (va_up ga ((557 + (k * 23)) + 0).toNat (lcn ps u v)) = gb at G hmb
              have hpg : pget (lrnP ps u v) k = (lcn ps u v, u, v) := by rw [← hpf]; exact lrnP_get hV (by omega) 
              have hpl : k < (lrnP ps u v).length := by rw [← hpf]; exact lrnP_in hV (by omega)
              have hV2 : PW (lrnP ps u v) (B + 1) := PW_lrn hV hB0 (by omega) hPF
              refine lv_aload_n F.1 F.2.1 dX11_learnPair_97 rfl (lv_at hl 1 rfl) ?_
              refine ad_get F G fl_X11_9 0 rfl rfl dX11_learnPair_98 ?_
              refine lv_iload F.1 F.2.1 dX11_learnPair_101 (lv_at hl 0 rfl) ?_
              refine ad_iconst F dX11_learnPair_103 ?_
              refine ad_iadd F dX11_learnPair_104 ?_
              refine ad_iald F G 4 rfl (w := (lcn ps u v)) (by omega) (by have q := (hmb.2.2 k (by omega) hpl).1; rw [hpg] at q; exact q) dX11_learnPair_105 ?_
              refine lv_aload_n F.1 F.2.1 dX11_learnPair_106 rfl (lv_at hl 1 rfl) ?_
              refine ad_get F G fl_X11_9 0 rfl rfl dX11_learnPair_107 ?_
              refine ad_iconst F dX11_learnPair_110 ?_
              refine ad_iald F G 4 rfl (w := th) (by omega) (hmb.1.2.2.2.1) dX11_learnPair_111 ?_
              refine ad_icmp_ne (tgt := 134) F (by omega) dX11_learnPair_112 (by decide) (fun cc_24 => ?_) (fun cc_24 => ?_)
              · refine ad_iconst F dX11_learnPair_134 ?_
                exact ad_zreturn F G hR rfl (Nat.le_of_ble_eq_true rfl) (Nat.le_of_ble_eq_true rfl) rfl (Or.inr (⟨gb, rfl, (by rw [lrnR_no (by omega)]; exact hmb), (by rw [lrnR_no (by omega)]), rfl⟩)) dX11_learnPair_135
              · refine lv_aload_n F.1 F.2.1 dX11_learnPair_115 rfl (lv_at hl 1 rfl) ?_
                refine lv_iload_n F.1 F.2.1 dX11_learnPair_116 rfl (lv_at hl 4 rfl) ?_
                refine ad_callV (As := [.int (iI k)]) (rest := []) F G (c_X11_ruleLike l D K z0 m0 M xth xrm xsv xln xat xer xwr xwd xlo xhi xwl xml xkl xfi xse xdn xon xtw xol xrw xgl xus xpr xmk xab gb rs (lrnP ps u v) md th nc k (B + 1) hmb hW hV2 (by omega)) my_X11_ruleLike mv_X11_221 (wr := [(M 6, aI (K 2) 100 gbf), (M 11, aI (K 0) 60 gbg), (M 12, aI (K 0) 60 gle)]) (isC := [0, 4]) (isR := [1, 2, 3]) ⟨rfl, rfl, rfl, rfl, by decide⟩ 11 0 rfl rfl rfl rfl ⟨Nat.le_of_ble_eq_true rfl, Nat.le_of_ble_eq_true rfl⟩ ⟨Nat.le_of_ble_eq_true rfl, Nat.le_of_ble_eq_true rfl⟩ (Nat.le_of_ble_eq_true rfl) hl.1 (cells9 := 0) (slots9 := 0) ⟨rfl, rfl⟩ dX11_learnPair_117 (fun v u H locs hw_25 G => ?_)
                obtain ⟨rfl, rfl⟩ := hw_25
                replace G := G.perm (ws' := [(m0, mO M xth xrm xsv xln xat xer xwr xwd xlo xhi xwl xml xkl xfi xse xdn xon xtw xol xrw xgl xus xpr xmk xab), (M 6, aI (K 2) 100 gbf), (M 11, aI (K 0) 60 gbg), (M 12, aI (K 0) 60 gle), (M 1, aI (K 0) 1247 gb)]) [3, 0, 1, 2, 4] rfl rfl
                refine W.eq (g2 := F0 m9 120 ls [.int (iI (wfi rs (pget (lrnP ps u v) k).2.1 (pget (lrnP ps u v) k).2.2))]) rfl ?_
                refine ad_topi (y := (wfi rs u v)) (by rw [hpg]) ?_
                refine ad_if_ge (tgt := 134) F (by omega) dX11_learnPair_120 (by decide) (fun cc_26 => ?_) (fun cc_26 => ?_)
                · refine ad_iconst F dX11_learnPair_134 ?_
                  exact ad_zreturn F G hR rfl (Nat.le_of_ble_eq_true rfl) (Nat.le_of_ble_eq_true rfl) rfl (Or.inr (⟨gb, rfl, (by rw [lrnR_no (by omega)]; exact hmb), (by rw [lrnR_no (by omega)]), rfl⟩)) dX11_learnPair_135
                · refine lv_aload_n F.1 F.2.1 dX11_learnPair_123 rfl (lv_at hl 1 rfl) ?_
                  refine ad_get F G fl_X11_9 0 rfl rfl dX11_learnPair_124 ?_
                  refine ad_iconst F dX11_learnPair_127 ?_
                  refine ad_iald F G 4 rfl (w := (rs.length : Int)) (by omega) (hmb.1.1) dX11_learnPair_128 ?_
                  refine ad_bipush F dX11_learnPair_129 (by decide) ?_
                  refine ad_icmp_ne (tgt := 136) F (by omega) dX11_learnPair_131 (by decide) (fun cc_27 => ?_) (fun cc_27 => ?_)
                  · refine ad_iconst F dX11_learnPair_136 ?_
                    refine lv_aload_n F.1 F.2.1 dX11_learnPair_137 rfl (lv_at hl 1 rfl) ?_
                    refine ad_get F G fl_X11_9 0 rfl rfl dX11_learnPair_138 ?_
                    refine ad_iconst F dX11_learnPair_141 ?_
                    refine ad_iald F G 4 rfl (w := (rs.length : Int)) (by omega) (hmb.1.1) dX11_learnPair_142 ?_
                    refine ad_bipush F dX11_learnPair_143 (by decide) ?_
                    refine ad_imul F dX11_learnPair_145 ?_
                    refine ad_iadd F dX11_learnPair_146 ?_
                    refine lv_istore (lv' := [(5, .int (iI (5 + ((rs.length : Int) * 23)))), (4, .int (iI (557 + (k * 23)))), (0, .ref m0), (1, .int (iI x)), (2, .int (iI y)), (3, .int (iI k))]) F.1 F.2.1 dX11_learnPair_147 hl (by decide) rfl (fun ls hl => ?_)
                    refine ad_iconst F dX11_learnPair_149 ?_
                    refine lv_istore (lv' := [(6, .int (iI 3)), (5, .int (iI (5 + ((rs.length : Int) * 23)))), (4, .int (iI (557 + (k * 23)))), (0, .ref m0), (1, .int (iI x)), (2, .int (iI y)), (3, .int (iI k))]) F.1 F.2.1 dX11_learnPair_150 hl (by decide) rfl (fun ls hl => ?_)
                    have lp152 : ∀ (n152 : Nat) (k2 : Int) (gv : Nat → Int) (H : Heap) (locs : List Loc) (ls : Array Slot), (3 ≤ k2 ∧ k2 ≤ 23) → (∀ j : Int, 0 ≤ j → gv j.toNat = if (5 + (rs.length : Int) * 23) + 3 ≤ j ∧ j < (5 + (rs.length : Int) * 23) + k2 then gb ((557 + k * 23) + (j - (5 + (rs.length : Int) * 23))).toNat else gb j.toNat) → (23 - k2) < (n152 : Int) → ad_G D A9 s9.heap H locs [(m0, mO M xth xrm xsv xln xat xer xwr xwd xlo xhi xwl xml xkl xfi xse xdn xon xtw xol xrw xgl xus xpr xmk xab), (M 6, aI (K 2) 100 gbf), (M 11, aI (K 0) 60 gbg), (M 12, aI (K 0) 60 gle), (M 1, aI (K 0) 1247 gv)] → lv_has ls 7 [(0, .ref m0), (1, .int (iI x)), (2, .int (iI y)), (3, .int (iI k)), (4, .int (iI (557 + k * 23))), (5, .int (iI (5 + (rs.length : Int) * 23))), (6, .int (iI k2))] → W p9 l e9 rm_X11_learnPair s9 m9 ag9 bl9 mt9 c9 H locs 0 0 Q9 (F0 m9 152 ls []) := by
                      intro n152
                      induction n152 with
                      | zero =>
                        intro k2 gv H locs ls hk2 hcp hm152
                        exact absurd hm152 (by omega)
                      | succ n152 ih152 =>
                        intro k2 gv H locs ls hk2 hcp hm152 G hl
                        refine lv_iload F.1 F.2.1 dX11_learnPair_152 (lv_at hl 6 rfl) ?_
                        refine ad_bipush F dX11_learnPair_154 (by decide) ?_
                        refine ad_icmp_ge (tgt := 185) F (by omega) dX11_learnPair_156 (by decide) (fun cc_28 => ?_) (fun cc_28 => ?_)
                        · refine lv_aload_n F.1 F.2.1 dX11_learnPair_185 rfl (lv_at hl 0 rfl) ?_
                          refine ad_get F G fl_X11_9 0 rfl rfl dX11_learnPair_186 ?_
                          refine lv_iload F.1 F.2.1 dX11_learnPair_189 (lv_at hl 5 rfl) ?_
                          refine ad_iconst F dX11_learnPair_191 ?_
                          refine ad_iadd F dX11_learnPair_192 ?_
                          refine ad_iconst F dX11_learnPair_193 ?_
                          refine ad_iast F G 4 rfl (by omega) (ws' := [(m0, mO M xth xrm xsv xln xat xer xwr xwd xlo xhi xwl xml xkl xfi xse xdn xon xtw xol xrw xgl xus xpr xmk xab), (M 6, aI (K 2) 100 gbf), (M 11, aI (K 0) 60 gbg), (M 12, aI (K 0) 60 gle), (M 1, aI (K 0) 1247 (va_up gv ((5 + (rs.length : Int) * 23) + 0).toNat 0))]) rfl dX11_learnPair_194 (fun H locs G => ?_)
                          refine lv_aload_n F.1 F.2.1 dX11_learnPair_195 rfl (lv_at hl 0 rfl) ?_
                          refine ad_get F G fl_X11_9 0 rfl rfl dX11_learnPair_196 ?_
                          refine lv_iload F.1 F.2.1 dX11_learnPair_199 (lv_at hl 5 rfl) ?_
                          refine ad_iconst F dX11_learnPair_201 ?_
                          refine ad_iadd F dX11_learnPair_202 ?_
                          refine ad_bipush F dX11_learnPair_203 (by decide) ?_
                          refine lv_aload_n F.1 F.2.1 dX11_learnPair_205 rfl (lv_at hl 0 rfl) ?_
                          refine ad_get F G fl_X11_9 0 rfl rfl dX11_learnPair_206 ?_
                          refine ad_iconst F dX11_learnPair_209 ?_
                          refine ad_iald F G 4 rfl (w := th) (by omega) (by rw [va_upO (by omega) (by omega) (by omega), hcp 3 (by omega), if_neg (by omega)]; exact hmb.1.2.2.2.1) dX11_learnPair_210 ?_
                          refine ad_imul F dX11_learnPair_211 ?_
                          refine ad_iast F G 4 rfl (by omega) (ws' := [(m0, mO M xth xrm xsv xln xat xer xwr xwd xlo xhi xwl xml xkl xfi xse xdn xon xtw xol xrw xgl xus xpr xmk xab), (M 6, aI (K 2) 100 gbf), (M 11, aI (K 0) 60 gbg), (M 12, aI (K 0) 60 gle), (M 1, aI (K 0) 1247 (va_up (va_up gv ((5 + (rs.length : Int) * 23) + 0).toNat 0) ((5 + (rs.length : Int) * 23) + 1).toNat (10 * th)))]) rfl dX11_learnPair_212 (fun H locs G => ?_)
                          refine lv_aload_n F.1 F.2.1 dX11_learnPair_213 rfl (lv_at hl 0 rfl) ?_
                          refine ad_get F G fl_X11_9 0 rfl rfl dX11_learnPair_214 ?_
                          refine lv_iload F.1 F.2.1 dX11_learnPair_217 (lv_at hl 5 rfl) ?_
                          refine ad_iconst F dX11_learnPair_219 ?_
                          refine ad_iadd F dX11_learnPair_220 ?_
                          refine ad_iconst F dX11_learnPair_221 ?_
                          refine ad_iast F G 4 rfl (by omega) (ws' := [(m0, mO M xth xrm xsv xln xat xer xwr xwd xlo xhi xwl xml xkl xfi xse xdn xon xtw xol xrw xgl xus xpr xmk xab), (M 6, aI (K 2) 100 gbf), (M 11, aI (K 0) 60 gbg), (M 12, aI (K 0) 60 gle), (M 1, aI (K 0) 1247 (va_up (va_up (va_up gv ((5 + (rs.length : Int) * 23) + 0).toNat 0) ((5 + (rs.length : Int) * 23) + 1).toNat (10 * th)) ((5 + (rs.length : Int) * 23) + 2).toNat 0))]) rfl dX11_learnPair_222 (fun H locs G => ?_)
                          refine lv_aload_n F.1 F.2.1 dX11_learnPair_223 rfl (lv_at hl 0 rfl) ?_
                          refine ad_get F G fl_X11_9 0 rfl rfl dX11_learnPair_224 ?_
                          refine ad_iconst F dX11_learnPair_227 ?_
                          refine lv_dup2_11 F.1 F.2.1 dX11_learnPair_228 rfl rfl ?_
                          refine ad_iald F G 4 rfl (w := (rs.length : Int)) (by omega) (by rw [va_upO (by omega) (by omega) (by omega), va_upO (by omega) (by omega) (by omega), va_upO (by omega) (by omega) (by omega), hcp 0 (by omega), if_neg (by omega)]; exact hmb.1.1) dX11_learnPair_229 ?_
                          refine ad_iconst F dX11_learnPair_230 ?_
                          refine ad_iadd F dX11_learnPair_231 ?_
                          refine ad_iast F G 4 rfl (by omega) (ws' := [(m0, mO M xth xrm xsv xln xat xer xwr xwd xlo xhi xwl xml xkl xfi xse xdn xon xtw xol xrw xgl xus xpr xmk xab), (M 6, aI (K 2) 100 gbf), (M 11, aI (K 0) 60 gbg), (M 12, aI (K 0) 60 gle), (M 1, aI (K 0) 1247 (va_up (va_up (va_up (va_up gv ((5 + (rs.length : Int) * 23) + 0).toNat 0) ((5 + (rs.length : Int) * 23) + 1).toNat (10 * th)) ((5 + (rs.length : Int) * 23) + 2).toNat 0) (0 : Int).toNat ((rs.length : Int) + 1)))]) rfl dX11_learnPair_232 (fun H locs G => ?_)
                          refine ad_iconst F dX11_learnPair_233 ?_
                          exact ad_zreturn F G hR rfl (Nat.le_of_ble_eq_true rfl) (Nat.le_of_ble_eq_true rfl) rfl (Or.inl ⟨va_up (va_up (va_up (va_up gv ((5 + (rs.length : Int) * 23) + 0).toNat 0) ((5 + (rs.length : Int) * 23) + 1).toNat (10 * th)) ((5 + (rs.length : Int) * 23) + 2).toNat 0) (0 : Int).toNat ((rs.length : Int) + 1), rfl, (by rw [lrnR_add (by omega) (by omega) (by omega)]; exact MRow_addc hmb (by omega) rfl (show MForm gb (557 + k * 23) u v by (have q := (hmb.2.2 k (by omega) (by omega)).2); rw [hpg] at q; exact q) (by omega) hcp (by omega) rfl rfl), (by rw [lrnR_add (by omega) (by omega) (by omega)]; simp), rfl⟩) dX11_learnPair_234
                        · refine lv_aload_n F.1 F.2.1 dX11_learnPair_159 rfl (lv_at hl 0 rfl) ?_
                          refine ad_get F G fl_X11_9 0 rfl rfl dX11_learnPair_160 ?_
                          refine lv_iload F.1 F.2.1 dX11_learnPair_163 (lv_at hl 5 rfl) ?_
                          refine lv_iload F.1 F.2.1 dX11_learnPair_165 (lv_at hl 6 rfl) ?_
                          refine ad_iadd F dX11_learnPair_167 ?_
                          refine lv_aload_n F.1 F.2.1 dX11_learnPair_168 rfl (lv_at hl 0 rfl) ?_
                          refine ad_get F G fl_X11_9 0 rfl rfl dX11_learnPair_169 ?_
                          refine lv_iload F.1 F.2.1 dX11_learnPair_172 (lv_at hl 4 rfl) ?_
                          refine lv_iload F.1 F.2.1 dX11_learnPair_174 (lv_at hl 6 rfl) ?_
                          refine ad_iadd F dX11_learnPair_176 ?_
                          refine ad_iald F G 4 rfl (w := gb ((557 + k * 23) + k2).toNat) (by omega) (by rw [hcp _ (by omega), if_neg (by omega)]) dX11_learnPair_177 ?_
                          refine ad_iast F G 4 rfl (by omega) (ws' := [(m0, mO M xth xrm xsv xln xat xer xwr xwd xlo xhi xwl xml xkl xfi xse xdn xon xtw xol xrw xgl xus xpr xmk xab), (M 6, aI (K 2) 100 gbf), (M 11, aI (K 0) 60 gbg), (M 12, aI (K 0) 60 gle), (M 1, aI (K 0) 1247 (va_up gv ((5 + (rs.length : Int) * 23) + k2).toNat (gb ((557 + k * 23) + k2).toNat)))]) rfl dX11_learnPair_178 (fun H locs G => ?_)
                          refine ad_iinc (lv' := [(6, .int (iI (k2 + 1))), (0, .ref m0), (1, .int (iI x)), (2, .int (iI y)), (3, .int (iI k)), (4, .int (iI (557 + k * 23))), (5, .int (iI (5 + (rs.length : Int) * 23)))]) F dX11_learnPair_179 hl (k := 6) rfl (by decide) rfl (fun ls hl => ?_)
                          refine lv_goto (tgt := 152) F.1 F.2.1 dX11_learnPair_182 (by decide) ?_
                          exact ih152 (k2 + 1) (va_up gv ((5 + (rs.length : Int) * 23) + k2).toNat (gb ((557 + k * 23) + k2).toNat)) _ _ _ (by omega) (CpM_s hcp (by omega) (by omega)) (by omega) (G.perm (ws' := [(m0, mO M xth xrm xsv xln xat xer xwr xwd xlo xhi xwl xml xkl xfi xse xdn xon xtw xol xrw xgl xus xpr xmk xab), (M 6, aI (K 2) 100 gbf), (M 11, aI (K 0) 60 gbg), (M 12, aI (K 0) 60 gle), (M 1, aI (K 0) 1247 (va_up gv ((5 + (rs.length : Int) * 23) + k2).toNat (gb ((557 + k * 23) + k2).toNat)))]) [0, 1, 2, 3, 4] rfl rfl) (lv_sub hl [1, 2, 3, 4, 5, 6, 0] rfl)
                    exact lp152 ((((23 - 3 : Int)) + 1).toNat) 3 gb _ _ _ (by omega) (fun j j0 => by rw [if_neg (by omega)]) (by omega) (G.perm (ws' := [(m0, mO M xth xrm xsv xln xat xer xwr xwd xlo xhi xwl xml xkl xfi xse xdn xon xtw xol xrw xgl xus xpr xmk xab), (M 6, aI (K 2) 100 gbf), (M 11, aI (K 0) 60 gbg), (M 12, aI (K 0) 60 gle), (M 1, aI (K 0) 1247 gb)]) [0, 1, 2, 3, 4] rfl rfl) (lv_sub hl [3, 4, 5, 6, 2, 1, 0] rfl)
                  · refine ad_iconst F dX11_learnPair_134 ?_
                    exact ad_zreturn F G hR rfl (Nat.le_of_ble_eq_true rfl) (Nat.le_of_ble_eq_true rfl) rfl (Or.inr (⟨gb, rfl, (by rw [lrnR_no (by omega)]; exact hmb), (by rw [lrnR_no (by omega)]), rfl⟩)) dX11_learnPair_135
            · refine lv_aload_n F.1 F.2.1 dX11_learnPair_56 rfl (lv_at hl 1 rfl) ?_
              refine lv_iload F.1 F.2.1 dX11_learnPair_57 (lv_at hl 0 rfl) ?_
              refine lv_iload_n F.1 F.2.1 dX11_learnPair_59 rfl (lv_at hl 2 rfl) ?_
              refine lv_iload_n F.1 F.2.1 dX11_learnPair_60 rfl (lv_at hl 3 rfl) ?_
              refine ad_callV (As := [.int (iI (557 + (k * 23))), .int (iI x), .int (iI y)]) (rest := []) F G (c_X11_writeForms l D K z0 m0 M xth xrm xsv xln xat xer xwr xwd xlo xhi xwl xml xkl xfi xse xdn xon xtw xol xrw xgl xus xpr xmk xab gbf w gbg gle g (557 + (k * 23)) x y b1 l1 b2 l2 hT hC hL (by omega) hx hy hgx hgy (by omega) (by omega)) my_X11_writeForms mv_X11_167 (wr := []) (isC := [0, 1, 2, 3, 4]) (isR := []) ⟨rfl, rfl, rfl, rfl, by decide⟩ 11 0 rfl rfl rfl rfl ⟨Nat.le_of_ble_eq_true rfl, Nat.le_of_ble_eq_true rfl⟩ ⟨Nat.le_of_ble_eq_true rfl, Nat.le_of_ble_eq_true rfl⟩ (Nat.le_of_ble_eq_true rfl) hl.1 (cells9 := 0) (slots9 := 0) ⟨rfl, rfl⟩ dX11_learnPair_61 (fun v u H locs hw_29 G => ?_)
              obtain ⟨g2_30, rfl, hc_31, hc_32, rfl⟩ := hw_29
              replace G := G.perm (ws' := [(m0, mO M xth xrm xsv xln xat xer xwr xwd xlo xhi xwl xml xkl xfi xse xdn xon xtw xol xrw xgl xus xpr xmk xab), (M 6, aI (K 2) 100 gbf), (M 11, aI (K 0) 60 gbg), (M 12, aI (K 0) 60 gle), (M 1, aI (K 0) 1247 g2_30)]) [0, 1, 2, 3, 4] rfl rfl
              refine W.eq (g2 := F0 m9 64 ls []) rfl ?_
              refine lv_aload_n F.1 F.2.1 dX11_learnPair_64 rfl (lv_at hl 1 rfl) ?_
              refine ad_get F G fl_X11_9 0 rfl rfl dX11_learnPair_65 ?_
              refine lv_iload F.1 F.2.1 dX11_learnPair_68 (lv_at hl 0 rfl) ?_
              refine ad_iconst F dX11_learnPair_70 ?_
              refine ad_iadd F dX11_learnPair_71 ?_
              refine ad_iconst F dX11_learnPair_72 ?_
              refine ad_iast F G 4 rfl (by omega) (ws' := [(m0, mO M xth xrm xsv xln xat xer xwr xwd xlo xhi xwl xml xkl xfi xse xdn xon xtw xol xrw xgl xus xpr xmk xab), (M 6, aI (K 2) 100 gbf), (M 11, aI (K 0) 60 gbg), (M 12, aI (K 0) 60 gle), (M 1, aI (K 0) 1247 (va_up g2_30 ((557 + (k * 23)) + 0).toNat 0))]) rfl dX11_learnPair_73 (fun H locs G => ?_)
              refine lv_aload_n F.1 F.2.1 dX11_learnPair_74 rfl (lv_at hl 1 rfl) ?_
              refine ad_get F G fl_X11_9 0 rfl rfl dX11_learnPair_75 ?_
              refine ad_iconst F dX11_learnPair_78 ?_
              refine lv_dup2_11 F.1 F.2.1 dX11_learnPair_79 rfl rfl ?_
              refine ad_iald F G 4 rfl (w := (ps.length : Int)) (by omega) (by rw [va_upO (by omega) (by omega) (by omega), hc_32 1 (by omega) (by omega)]; exact hM.1.2.1) dX11_learnPair_80 ?_
              refine ad_iconst F dX11_learnPair_81 ?_
              refine ad_iadd F dX11_learnPair_82 ?_
              refine ad_iast F G 4 rfl (by omega) (ws' := [(m0, mO M xth xrm xsv xln xat xer xwr xwd xlo xhi xwl xml xkl xfi xse xdn xon xtw xol xrw xgl xus xpr xmk xab), (M 6, aI (K 2) 100 gbf), (M 11, aI (K 0) 60 gbg), (M 12, aI (K 0) 60 gle), (M 1, aI (K 0) 1247 (va_up (va_up g2_30 ((557 + (k * 23)) + 0).toNat 0) (1 : Int).toNat ((ps.length : Int) + 1)))]) rfl dX11_learnPair_83 (fun H locs G => ?_)
              have hma : MRow (va_up (va_up g2_30 ((557 + (k * 23)) + 0).toNat 0) (1 : Int).toNat ((ps.length : Int) + 1)) rs (lps ps u v) md th nc := by unfold lps; rw [if_pos (by omega)]; exact MRow_pushP hM (by omega) (by omega) (by (have q := hc_31); rw [hux, huy] at q; exact q) hc_32 rfl
              generalize (va_up (va_up g2_30 ((557 + (k * 23)) + 0).toNat 0) (1 : Int).toNat ((ps.length : Int) + 1)) = ga at G hma
              refine lv_aload_n F.1 F.2.1 dX11_learnPair_84 rfl (lv_at hl 1 rfl) ?_
              refine ad_get F G fl_X11_9 0 rfl rfl dX11_learnPair_85 ?_
              refine lv_iload F.1 F.2.1 dX11_learnPair_88 (lv_at hl 0 rfl) ?_
              refine ad_iconst F dX11_learnPair_90 ?_
              refine ad_iadd F dX11_learnPair_91 ?_
              refine lv_dup2_11 F.1 F.2.1 dX11_learnPair_92 rfl rfl ?_
              refine ad_iald F G 4 rfl (w := (pget (lps ps u v) k).1) (by omega) (hma.2.2 k (by omega) (by have := lps_in hV (u := u) (v := v); omega)).1 dX11_learnPair_93 ?_
              refine ad_iconst F dX11_learnPair_94 ?_
              refine ad_iadd F dX11_learnPair_95 ?_
              refine ad_topi (y := lcn ps u v) (by unfold lcn; rw [hpf]) ?_
              refine ad_iast F G 4 rfl (by omega) (ws' := [(m0, mO M xth xrm xsv xln xat xer xwr xwd xlo xhi xwl xml xkl xfi xse xdn xon xtw xol xrw xgl xus xpr xmk xab), (M 6, aI (K 2) 100 gbf), (M 11, aI (K 0) 60 gbg), (M 12, aI (K 0) 60 gle), (M 1, aI (K 0) 1247 (va_up ga ((557 + (k * 23)) + 0).toNat (lcn ps u v)))]) rfl dX11_learnPair_96 (fun H locs G => ?_)
              have hmb : MRow (va_up ga ((557 + (k * 23)) + 0).toNat (lcn ps u v)) rs (lrnP ps u v) md th nc := by unfold lrnP; rw [if_neg (by omega), hpf]; exact MRow_cnt hma (by have := pfi_b ps u v; omega) (by have := lps_in hV (u := u) (v := v); omega) rfl
              generalize (va_up ga ((557 + (k * 23)) + 0).toNat (lcn ps u v)) = gb at G hmb
              have hpg : pget (lrnP ps u v) k = (lcn ps u v, u, v) := by rw [← hpf]; exact lrnP_get hV (by omega) 
              have hpl : k < (lrnP ps u v).length := by rw [← hpf]; exact lrnP_in hV (by omega)
              have hV2 : PW (lrnP ps u v) (B + 1) := PW_lrn hV hB0 (by omega) hPF
              refine lv_aload_n F.1 F.2.1 dX11_learnPair_97 rfl (lv_at hl 1 rfl) ?_
              refine ad_get F G fl_X11_9 0 rfl rfl dX11_learnPair_98 ?_
              refine lv_iload F.1 F.2.1 dX11_learnPair_101 (lv_at hl 0 rfl) ?_
              refine ad_iconst F dX11_learnPair_103 ?_
              refine ad_iadd F dX11_learnPair_104 ?_
              refine ad_iald F G 4 rfl (w := (lcn ps u v)) (by omega) (by have q := (hmb.2.2 k (by omega) hpl).1; rw [hpg] at q; exact q) dX11_learnPair_105 ?_
              refine lv_aload_n F.1 F.2.1 dX11_learnPair_106 rfl (lv_at hl 1 rfl) ?_
              refine ad_get F G fl_X11_9 0 rfl rfl dX11_learnPair_107 ?_
              refine ad_iconst F dX11_learnPair_110 ?_
              refine ad_iald F G 4 rfl (w := th) (by omega) (hmb.1.2.2.2.1) dX11_learnPair_111 ?_
              refine ad_icmp_ne (tgt := 134) F (by omega) dX11_learnPair_112 (by decide) (fun cc_33 => ?_) (fun cc_33 => ?_)
              · refine ad_iconst F dX11_learnPair_134 ?_
                exact ad_zreturn F G hR rfl (Nat.le_of_ble_eq_true rfl) (Nat.le_of_ble_eq_true rfl) rfl (Or.inr (⟨gb, rfl, (by rw [lrnR_no (by omega)]; exact hmb), (by rw [lrnR_no (by omega)]), rfl⟩)) dX11_learnPair_135
              · refine lv_aload_n F.1 F.2.1 dX11_learnPair_115 rfl (lv_at hl 1 rfl) ?_
                refine lv_iload_n F.1 F.2.1 dX11_learnPair_116 rfl (lv_at hl 4 rfl) ?_
                refine ad_callV (As := [.int (iI k)]) (rest := []) F G (c_X11_ruleLike l D K z0 m0 M xth xrm xsv xln xat xer xwr xwd xlo xhi xwl xml xkl xfi xse xdn xon xtw xol xrw xgl xus xpr xmk xab gb rs (lrnP ps u v) md th nc k (B + 1) hmb hW hV2 (by omega)) my_X11_ruleLike mv_X11_221 (wr := [(M 6, aI (K 2) 100 gbf), (M 11, aI (K 0) 60 gbg), (M 12, aI (K 0) 60 gle)]) (isC := [0, 4]) (isR := [1, 2, 3]) ⟨rfl, rfl, rfl, rfl, by decide⟩ 11 0 rfl rfl rfl rfl ⟨Nat.le_of_ble_eq_true rfl, Nat.le_of_ble_eq_true rfl⟩ ⟨Nat.le_of_ble_eq_true rfl, Nat.le_of_ble_eq_true rfl⟩ (Nat.le_of_ble_eq_true rfl) hl.1 (cells9 := 0) (slots9 := 0) ⟨rfl, rfl⟩ dX11_learnPair_117 (fun v u H locs hw_34 G => ?_)
                obtain ⟨rfl, rfl⟩ := hw_34
                replace G := G.perm (ws' := [(m0, mO M xth xrm xsv xln xat xer xwr xwd xlo xhi xwl xml xkl xfi xse xdn xon xtw xol xrw xgl xus xpr xmk xab), (M 6, aI (K 2) 100 gbf), (M 11, aI (K 0) 60 gbg), (M 12, aI (K 0) 60 gle), (M 1, aI (K 0) 1247 gb)]) [3, 0, 1, 2, 4] rfl rfl
                refine W.eq (g2 := F0 m9 120 ls [.int (iI (wfi rs (pget (lrnP ps u v) k).2.1 (pget (lrnP ps u v) k).2.2))]) rfl ?_
                refine ad_topi (y := (wfi rs u v)) (by rw [hpg]) ?_
                refine ad_if_ge (tgt := 134) F (by omega) dX11_learnPair_120 (by decide) (fun cc_35 => ?_) (fun cc_35 => ?_)
                · refine ad_iconst F dX11_learnPair_134 ?_
                  exact ad_zreturn F G hR rfl (Nat.le_of_ble_eq_true rfl) (Nat.le_of_ble_eq_true rfl) rfl (Or.inr (⟨gb, rfl, (by rw [lrnR_no (by omega)]; exact hmb), (by rw [lrnR_no (by omega)]), rfl⟩)) dX11_learnPair_135
                · refine lv_aload_n F.1 F.2.1 dX11_learnPair_123 rfl (lv_at hl 1 rfl) ?_
                  refine ad_get F G fl_X11_9 0 rfl rfl dX11_learnPair_124 ?_
                  refine ad_iconst F dX11_learnPair_127 ?_
                  refine ad_iald F G 4 rfl (w := (rs.length : Int)) (by omega) (hmb.1.1) dX11_learnPair_128 ?_
                  refine ad_bipush F dX11_learnPair_129 (by decide) ?_
                  refine ad_icmp_ne (tgt := 136) F (by omega) dX11_learnPair_131 (by decide) (fun cc_36 => ?_) (fun cc_36 => ?_)
                  · refine ad_iconst F dX11_learnPair_136 ?_
                    refine lv_aload_n F.1 F.2.1 dX11_learnPair_137 rfl (lv_at hl 1 rfl) ?_
                    refine ad_get F G fl_X11_9 0 rfl rfl dX11_learnPair_138 ?_
                    refine ad_iconst F dX11_learnPair_141 ?_
                    refine ad_iald F G 4 rfl (w := (rs.length : Int)) (by omega) (hmb.1.1) dX11_learnPair_142 ?_
                    refine ad_bipush F dX11_learnPair_143 (by decide) ?_
                    refine ad_imul F dX11_learnPair_145 ?_
                    refine ad_iadd F dX11_learnPair_146 ?_
                    refine lv_istore (lv' := [(5, .int (iI (5 + ((rs.length : Int) * 23)))), (4, .int (iI (557 + (k * 23)))), (0, .ref m0), (1, .int (iI x)), (2, .int (iI y)), (3, .int (iI k))]) F.1 F.2.1 dX11_learnPair_147 hl (by decide) rfl (fun ls hl => ?_)
                    refine ad_iconst F dX11_learnPair_149 ?_
                    refine lv_istore (lv' := [(6, .int (iI 3)), (5, .int (iI (5 + ((rs.length : Int) * 23)))), (4, .int (iI (557 + (k * 23)))), (0, .ref m0), (1, .int (iI x)), (2, .int (iI y)), (3, .int (iI k))]) F.1 F.2.1 dX11_learnPair_150 hl (by decide) rfl (fun ls hl => ?_)
                    have lp152 : ∀ (n152 : Nat) (k2 : Int) (gv : Nat → Int) (H : Heap) (locs : List Loc) (ls : Array Slot), (3 ≤ k2 ∧ k2 ≤ 23) → (∀ j : Int, 0 ≤ j → gv j.toNat = if (5 + (rs.length : Int) * 23) + 3 ≤ j ∧ j < (5 + (rs.length : Int) * 23) + k2 then gb ((557 + k * 23) + (j - (5 + (rs.length : Int) * 23))).toNat else gb j.toNat) → (23 - k2) < (n152 : Int) → ad_G D A9 s9.heap H locs [(m0, mO M xth xrm xsv xln xat xer xwr xwd xlo xhi xwl xml xkl xfi xse xdn xon xtw xol xrw xgl xus xpr xmk xab), (M 6, aI (K 2) 100 gbf), (M 11, aI (K 0) 60 gbg), (M 12, aI (K 0) 60 gle), (M 1, aI (K 0) 1247 gv)] → lv_has ls 7 [(0, .ref m0), (1, .int (iI x)), (2, .int (iI y)), (3, .int (iI k)), (4, .int (iI (557 + k * 23))), (5, .int (iI (5 + (rs.length : Int) * 23))), (6, .int (iI k2))] → W p9 l e9 rm_X11_learnPair s9 m9 ag9 bl9 mt9 c9 H locs 0 0 Q9 (F0 m9 152 ls []) := by
                      intro n152
                      induction n152 with
                      | zero =>
                        intro k2 gv H locs ls hk2 hcp hm152
                        exact absurd hm152 (by omega)
                      | succ n152 ih152 =>
                        intro k2 gv H locs ls hk2 hcp hm152 G hl
                        refine lv_iload F.1 F.2.1 dX11_learnPair_152 (lv_at hl 6 rfl) ?_
                        refine ad_bipush F dX11_learnPair_154 (by decide) ?_
                        refine ad_icmp_ge (tgt := 185) F (by omega) dX11_learnPair_156 (by decide) (fun cc_37 => ?_) (fun cc_37 => ?_)
                        · refine lv_aload_n F.1 F.2.1 dX11_learnPair_185 rfl (lv_at hl 0 rfl) ?_
                          refine ad_get F G fl_X11_9 0 rfl rfl dX11_learnPair_186 ?_
                          refine lv_iload F.1 F.2.1 dX11_learnPair_189 (lv_at hl 5 rfl) ?_
                          refine ad_iconst F dX11_learnPair_191 ?_
                          refine ad_iadd F dX11_learnPair_192 ?_
                          refine ad_iconst F dX11_learnPair_193 ?_
                          refine ad_iast F G 4 rfl (by omega) (ws' := [(m0, mO M xth xrm xsv xln xat xer xwr xwd xlo xhi xwl xml xkl xfi xse xdn xon xtw xol xrw xgl xus xpr xmk xab), (M 6, aI (K 2) 100 gbf), (M 11, aI (K 0) 60 gbg), (M 12, aI (K 0) 60 gle), (M 1, aI (K 0) 1247 (va_up gv ((5 + (rs.length : Int) * 23) + 0).toNat 0))]) rfl dX11_learnPair_194 (fun H locs G => ?_)
                          refine lv_aload_n F.1 F.2.1 dX11_learnPair_195 rfl (lv_at hl 0 rfl) ?_
                          refine ad_get F G fl_X11_9 0 rfl rfl dX11_learnPair_196 ?_
                          refine lv_iload F.1 F.2.1 dX11_learnPair_199 (lv_at hl 5 rfl) ?_
                          refine ad_iconst F dX11_learnPair_201 ?_
                          refine ad_iadd F dX11_learnPair_202 ?_
                          refine ad_bipush F dX11_learnPair_203 (by decide) ?_
                          refine lv_aload_n F.1 F.2.1 dX11_learnPair_205 rfl (lv_at hl 0 rfl) ?_
                          refine ad_get F G fl_X11_9 0 rfl rfl dX11_learnPair_206 ?_
                          refine ad_iconst F dX11_learnPair_209 ?_
                          refine ad_iald F G 4 rfl (w := th) (by omega) (by rw [va_upO (by omega) (by omega) (by omega), hcp 3 (by omega), if_neg (by omega)]; exact hmb.1.2.2.2.1) dX11_learnPair_210 ?_
                          refine ad_imul F dX11_learnPair_211 ?_
                          refine ad_iast F G 4 rfl (by omega) (ws' := [(m0, mO M xth xrm xsv xln xat xer xwr xwd xlo xhi xwl xml xkl xfi xse xdn xon xtw xol xrw xgl xus xpr xmk xab), (M 6, aI (K 2) 100 gbf), (M 11, aI (K 0) 60 gbg), (M 12, aI (K 0) 60 gle), (M 1, aI (K 0) 1247 (va_up (va_up gv ((5 + (rs.length : Int) * 23) + 0).toNat 0) ((5 + (rs.length : Int) * 23) + 1).toNat (10 * th)))]) rfl dX11_learnPair_212 (fun H locs G => ?_)
                          refine lv_aload_n F.1 F.2.1 dX11_learnPair_213 rfl (lv_at hl 0 rfl) ?_
                          refine ad_get F G fl_X11_9 0 rfl rfl dX11_learnPair_214 ?_
                          refine lv_iload F.1 F.2.1 dX11_learnPair_217 (lv_at hl 5 rfl) ?_
                          refine ad_iconst F dX11_learnPair_219 ?_
                          refine ad_iadd F dX11_learnPair_220 ?_
                          refine ad_iconst F dX11_learnPair_221 ?_
                          refine ad_iast F G 4 rfl (by omega) (ws' := [(m0, mO M xth xrm xsv xln xat xer xwr xwd xlo xhi xwl xml xkl xfi xse xdn xon xtw xol xrw xgl xus xpr xmk xab), (M 6, aI (K 2) 100 gbf), (M 11, aI (K 0) 60 gbg), (M 12, aI (K 0) 60 gle), (M 1, aI (K 0) 1247 (va_up (va_up (va_up gv ((5 + (rs.length : Int) * 23) + 0).toNat 0) ((5 + (rs.length : Int) * 23) + 1).toNat (10 * th)) ((5 + (rs.length : Int) * 23) + 2).toNat 0))]) rfl dX11_learnPair_222 (fun H locs G => ?_)
                          refine lv_aload_n F.1 F.2.1 dX11_learnPair_223 rfl (lv_at hl 0 rfl) ?_
                          refine ad_get F G fl_X11_9 0 rfl rfl dX11_learnPair_224 ?_
                          refine ad_iconst F dX11_learnPair_227 ?_
                          refine lv_dup2_11 F.1 F.2.1 dX11_learnPair_228 rfl rfl ?_
                          refine ad_iald F G 4 rfl (w := (rs.length : Int)) (by omega) (by rw [va_upO (by omega) (by omega) (by omega), va_upO (by omega) (by omega) (by omega), va_upO (by omega) (by omega) (by omega), hcp 0 (by omega), if_neg (by omega)]; exact hmb.1.1) dX11_learnPair_229 ?_
                          refine ad_iconst F dX11_learnPair_230 ?_
                          refine ad_iadd F dX11_learnPair_231 ?_
                          refine ad_iast F G 4 rfl (by omega) (ws' := [(m0, mO M xth xrm xsv xln xat xer xwr xwd xlo xhi xwl xml xkl xfi xse xdn xon xtw xol xrw xgl xus xpr xmk xab), (M 6, aI (K 2) 100 gbf), (M 11, aI (K 0) 60 gbg), (M 12, aI (K 0) 60 gle), (M 1, aI (K 0) 1247 (va_up (va_up (va_up (va_up gv ((5 + (rs.length : Int) * 23) + 0).toNat 0) ((5 + (rs.length : Int) * 23) + 1).toNat (10 * th)) ((5 + (rs.length : Int) * 23) + 2).toNat 0) (0 : Int).toNat ((rs.length : Int) + 1)))]) rfl dX11_learnPair_232 (fun H locs G => ?_)
                          refine ad_iconst F dX11_learnPair_233 ?_
                          exact ad_zreturn F G hR rfl (Nat.le_of_ble_eq_true rfl) (Nat.le_of_ble_eq_true rfl) rfl (Or.inl ⟨va_up (va_up (va_up (va_up gv ((5 + (rs.length : Int) * 23) + 0).toNat 0) ((5 + (rs.length : Int) * 23) + 1).toNat (10 * th)) ((5 + (rs.length : Int) * 23) + 2).toNat 0) (0 : Int).toNat ((rs.length : Int) + 1), rfl, (by rw [lrnR_add (by omega) (by omega) (by omega)]; exact MRow_addc hmb (by omega) rfl (show MForm gb (557 + k * 23) u v by (have q := (hmb.2.2 k (by omega) (by omega)).2); rw [hpg] at q; exact q) (by omega) hcp (by omega) rfl rfl), (by rw [lrnR_add (by omega) (by omega) (by omega)]; simp), rfl⟩) dX11_learnPair_234
                        · refine lv_aload_n F.1 F.2.1 dX11_learnPair_159 rfl (lv_at hl 0 rfl) ?_
                          refine ad_get F G fl_X11_9 0 rfl rfl dX11_learnPair_160 ?_
                          refine lv_iload F.1 F.2.1 dX11_learnPair_163 (lv_at hl 5 rfl) ?_
                          refine lv_iload F.1 F.2.1 dX11_learnPair_165 (lv_at hl 6 rfl) ?_
                          refine ad_iadd F dX11_learnPair_167 ?_
                          refine lv_aload_n F.1 F.2.1 dX11_learnPair_168 rfl (lv_at hl 0 rfl) ?_
                          refine ad_get F G fl_X11_9 0 rfl rfl dX11_learnPair_169 ?_
                          refine lv_iload F.1 F.2.1 dX11_learnPair_172 (lv_at hl 4 rfl) ?_
                          refine lv_iload F.1 F.2.1 dX11_learnPair_174 (lv_at hl 6 rfl) ?_
                          refine ad_iadd F dX11_learnPair_176 ?_
                          refine ad_iald F G 4 rfl (w := gb ((557 + k * 23) + k2).toNat) (by omega) (by rw [hcp _ (by omega), if_neg (by omega)]) dX11_learnPair_177 ?_
                          refine ad_iast F G 4 rfl (by omega) (ws' := [(m0, mO M xth xrm xsv xln xat xer xwr xwd xlo xhi xwl xml xkl xfi xse xdn xon xtw xol xrw xgl xus xpr xmk xab), (M 6, aI (K 2) 100 gbf), (M 11, aI (K 0) 60 gbg), (M 12, aI (K 0) 60 gle), (M 1, aI (K 0) 1247 (va_up gv ((5 + (rs.length : Int) * 23) + k2).toNat (gb ((557 + k * 23) + k2).toNat)))]) rfl dX11_learnPair_178 (fun H locs G => ?_)
                          refine ad_iinc (lv' := [(6, .int (iI (k2 + 1))), (0, .ref m0), (1, .int (iI x)), (2, .int (iI y)), (3, .int (iI k)), (4, .int (iI (557 + k * 23))), (5, .int (iI (5 + (rs.length : Int) * 23)))]) F dX11_learnPair_179 hl (k := 6) rfl (by decide) rfl (fun ls hl => ?_)
                          refine lv_goto (tgt := 152) F.1 F.2.1 dX11_learnPair_182 (by decide) ?_
                          exact ih152 (k2 + 1) (va_up gv ((5 + (rs.length : Int) * 23) + k2).toNat (gb ((557 + k * 23) + k2).toNat)) _ _ _ (by omega) (CpM_s hcp (by omega) (by omega)) (by omega) (G.perm (ws' := [(m0, mO M xth xrm xsv xln xat xer xwr xwd xlo xhi xwl xml xkl xfi xse xdn xon xtw xol xrw xgl xus xpr xmk xab), (M 6, aI (K 2) 100 gbf), (M 11, aI (K 0) 60 gbg), (M 12, aI (K 0) 60 gle), (M 1, aI (K 0) 1247 (va_up gv ((5 + (rs.length : Int) * 23) + k2).toNat (gb ((557 + k * 23) + k2).toNat)))]) [0, 1, 2, 3, 4] rfl rfl) (lv_sub hl [1, 2, 3, 4, 5, 6, 0] rfl)
                    exact lp152 ((((23 - 3 : Int)) + 1).toNat) 3 gb _ _ _ (by omega) (fun j j0 => by rw [if_neg (by omega)]) (by omega) (G.perm (ws' := [(m0, mO M xth xrm xsv xln xat xer xwr xwd xlo xhi xwl xml xkl xfi xse xdn xon xtw xol xrw xgl xus xpr xmk xab), (M 6, aI (K 2) 100 gbf), (M 11, aI (K 0) 60 gbg), (M 12, aI (K 0) 60 gle), (M 1, aI (K 0) 1247 gb)]) [0, 1, 2, 3, 4] rfl rfl) (lv_sub hl [3, 4, 5, 6, 2, 1, 0] rfl)
                  · refine ad_iconst F dX11_learnPair_134 ?_
                    exact ad_zreturn F G hR rfl (Nat.le_of_ble_eq_true rfl) (Nat.le_of_ble_eq_true rfl) rfl (Or.inr (⟨gb, rfl, (by rw [lrnR_no (by omega)]; exact hmb), (by rw [lrnR_no (by omega)]), rfl⟩)) dX11_learnPair_135
          · refine ad_iconst F dX11_learnPair_34 ?_
            exact ad_zreturn F G hR rfl (Nat.le_of_ble_eq_true rfl) (Nat.le_of_ble_eq_true rfl) rfl (Or.inr (⟨g, rfl, (by unfold lrnR lrnP; rw [if_pos (by omega), if_pos (by omega)]; exact hM), (by unfold lrnR; rw [if_pos (by omega)]), rfl⟩)) dX11_learnPair_35
        · replace G := G.perm (ws' := [(m0, mO M xth xrm xsv xln xat xer xwr xwd xlo xhi xwl xml xkl xfi xse xdn xon xtw xol xrw xgl xus xpr xmk xab), (M 6, aI (K 2) 100 gbf), (M 11, aI (K 0) 60 gbg), (M 12, aI (K 0) 60 gle), (M 1, aI (K 0) 1247 g)]) [0, 1, 2, 3, 4] rfl rfl
          refine W.eq (g2 := F0 m9 19 ls [.int (iI 0)]) rfl ?_
          refine ad_if_ne (tgt := 28) F (by decide) dX11_learnPair_19 (by decide) (fun cc_38 => absurd cc_38 (by decide)) (fun _ => ?_)
          refine ad_iinc (lv' := [(3, .int (iI (k + 1))), (0, .ref m0), (1, .int (iI x)), (2, .int (iI y))]) F dX11_learnPair_22 hl (k := 3) rfl (by decide) rfl (fun ls hl => ?_)
          refine lv_goto (tgt := 2) F.1 F.2.1 dX11_learnPair_25 (by decide) ?_
          exact ih2 (k + 1) _ _ _ (by omega) (fun j h0 h1 => (show j < k ∨ j = k by omega).elim (fun q => hno j h0 q) (fun q => by rw [q]; exact hc_20)) (by omega) (G.perm (ws' := [(m0, mO M xth xrm xsv xln xat xer xwr xwd xlo xhi xwl xml xkl xfi xse xdn xon xtw xol xrw xgl xus xpr xmk xab), (M 6, aI (K 2) 100 gbf), (M 11, aI (K 0) 60 gbg), (M 12, aI (K 0) 60 gle), (M 1, aI (K 0) 1247 g)]) [0, 1, 2, 3, 4] rfl rfl) (lv_sub hl [1, 2, 3, 0] rfl)
  exact lp2 ((((ps.length - 0 : Int)) + 1).toNat) 0 _ _ _ (by omega) (fun j h0 h1 => by omega) (by omega) (G.perm (ws' := [(m0, mO M xth xrm xsv xln xat xer xwr xwd xlo xhi xwl xml xkl xfi xse xdn xon xtw xol xrw xgl xus xpr xmk xab), (M 6, aI (K 2) 100 gbf), (M 11, aI (K 0) 60 gbg), (M 12, aI (K 0) 60 gle), (M 1, aI (K 0) 1247 g)]) [0, 1, 2, 3, 4] rfl rfl) (lv_sub hl [1, 2, 3, 0] rfl)
