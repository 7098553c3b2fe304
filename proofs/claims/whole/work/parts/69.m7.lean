theorem ShM_s {G gv : Nat → Int} {a k : Int} (h : ∀ j : Int, 0 ≤ j → gv j.toNat = if a ≤ j ∧ j < k then G (j + 23).toNat else G j.toNat) (h0 : 0 ≤ a) (h1 : a ≤ k) : ∀ j : Int, 0 ≤ j → va_up gv k.toNat (gv (k + 23).toNat) j.toNat = if a ≤ j ∧ j < k + 1 then G (j + 23).toNat else G j.toNat := by
  intro j j0
  by_cases q : j = k
  · rw [va_upE q, if_pos (by omega), h _ (by omega), if_neg (by omega), q]
  · rw [va_upO (by omega) j0 q, h j j0]
    by_cases r : a ≤ j ∧ j < k
    · rw [if_pos r, if_pos (by omega)]
    · rw [if_neg r, if_neg (by omega)]
theorem MRow_del {gz gv : Nat → Int} {rs : List Rl} {ps : List Pr} {md th nc z k : Int} (hm : MRow gz rs ps md th nc) (hn : rs.length ≤ 24) (hz : 0 ≤ z) (hz1 : z < rs.length) (hk : k = 5 + ((rs.length : Int) - 1) * 23) (hg : ∀ j : Int, 0 ≤ j → gv j.toNat = if 5 + z * 23 ≤ j ∧ j < k then va_up gz (0 : Int).toNat ((rs.length : Int) - 1) (j + 23).toNat else va_up gz (0 : Int).toNat ((rs.length : Int) - 1) j.toNat) : MRow gv (rs.eraseIdx z.toNat) ps md th nc := by
  subst hk
  have f : ∀ j : Int, 0 < j → j < 5 → gv j.toNat = gz j.toNat := fun j j0 j1 => by rw [hg j (by omega), if_neg (by omega), va_upO (by omega) (by omega) (by omega)]
  obtain ⟨h0, h1, h2, h3, h4⟩ := hm.1
  refine MRow_erase hm hn hz hz1 ⟨?_, (f 1 (by omega) (by omega)).trans h1, (f 2 (by omega) (by omega)).trans h2, (f 3 (by omega) (by omega)).trans h3, (f 4 (by omega) (by omega)).trans h4⟩ (fun j j0 => ?_)
  · have := hg 0 (by omega)
    rw [if_neg (by omega), va_upE rfl] at this
    exact this
  · rw [hg j (by omega)]
    by_cases r : 5 + z * 23 ≤ j ∧ j < 5 + ((rs.length : Int) - 1) * 23
    · rw [if_pos r, if_pos r, va_upO (by omega) (by omega) (by omega)]
    · rw [if_neg r, if_neg r, va_upO (by omega) (by omega) (by omega)]
def rm_X11_clear : Room := { frames := 1, cells := 0, slots := 0, locals := 12 }
set_option maxHeartbeats 4000000 in
set_option maxRecDepth 100000 in
theorem c_X11_clear (l : Launch) (D : va_G) (K : Nat → ClassId) (z0 : Nat) (m0 : Nat) (M : Nat → Nat) (xth : Int) (xrm : Int) (xsv : Int) (xln : Int) (xat : Int) (xer : Int) (xwr : Int) (xwd : Int) (xlo : Int) (xhi : Int) (xwl : Int) (xml : Int) (xkl : Int) (xfi : Int) (xse : Int) (xdn : Int) (xon : Int) (xtw : Int) (xol : Int) (xrw : Int) (xgl : Int) (xus : Int) (xpr : Int) (xmk : Int) (xab : Int) (g : Nat → Int) (rs : List Rl) (ps : List Pr) (md : Int) (th : Int) (nc : Int) (MH : Nat → Nat) (gH : Nat → Option Nat) (gh : Nat → Nat → Int) (hM : MRow g rs ps md th nc) (hW : RW rs) : CT l D K z0 yX11_clear cX11_clear 3 (some .int) rm_X11_clear [.ref m0] [(m0, mO M xth xrm xsv xln xat xer xwr xwd xlo xhi xwl xml xkl xfi xse xdn xon xtw xol xrw xgl xus xpr xmk xab), (M 1, aI (K 0) 1247 g), (M 3, aR (K 7) 8 gH), (MH 0, aI (K 0) 1247 (gh 0)), (MH 1, aI (K 0) 1247 (gh 1)), (MH 2, aI (K 0) 1247 (gh 2)), (MH 3, aI (K 0) 1247 (gh 3)), (MH 4, aI (K 0) 1247 (gh 4)), (MH 5, aI (K 0) 1247 (gh 5)), (MH 6, aI (K 0) 1247 (gh 6)), (MH 7, aI (K 0) 1247 (gh 7))] (fun v9 u9 => ∃ (g2 : Nat → Int), v9 = some (.int (iI (rs.length : Int))) ∧ (MRow g2 [] [] 1 2 0) ∧ u9 = [(m0, mO M 0 0 xsv xln xat xer xwr xwd xlo xhi xwl xml xkl xfi xse xdn xon xtw xol xrw xgl xus xpr xmk xab), (M 1, aI (K 0) 1247 g2), (M 3, aR (K 7) 8 gH), (MH 0, aI (K 0) 1247 (gh 0)), (MH 1, aI (K 0) 1247 (gh 1)), (MH 2, aI (K 0) 1247 (gh 2)), (MH 3, aI (K 0) 1247 (gh 3)), (MH 4, aI (K 0) 1247 (gh 4)), (MH 5, aI (K 0) 1247 (gh 5)), (MH 6, aI (K 0) 1247 (gh 6)), (MH 7, aI (K 0) 1247 (gh 7))]) := by
  refine CT.start RX11 "clear" (by decide) rfl rfl (Nat.le_of_ble_eq_true rfl) ?_
  intro p9 e9 s9 m9 ag9 bl9 mt9 c9 A9 Q9 ls F G hR hl
  have hl : lv_has ls 3 [(0, .ref m0)] := hl
  have hn := hW.1
  refine lv_aload_n F.1 F.2.1 dX11_clear_0 rfl (lv_at hl 0 rfl) ?_
  refine ad_iconst F dX11_clear_1 ?_
  refine ad_put F G fl_X11_89 0 rfl rfl rfl (Nat.le_of_ble_eq_true rfl) (ws' := [(m0, mO M 0 xrm xsv xln xat xer xwr xwd xlo xhi xwl xml xkl xfi xse xdn xon xtw xol xrw xgl xus xpr xmk xab), (M 1, aI (K 0) 1247 g), (M 3, aR (K 7) 8 gH), (MH 0, aI (K 0) 1247 (gh 0)), (MH 1, aI (K 0) 1247 (gh 1)), (MH 2, aI (K 0) 1247 (gh 2)), (MH 3, aI (K 0) 1247 (gh 3)), (MH 4, aI (K 0) 1247 (gh 4)), (MH 5, aI (K 0) 1247 (gh 5)), (MH 6, aI (K 0) 1247 (gh 6)), (MH 7, aI (K 0) 1247 (gh 7))]) rfl dX11_clear_2 (fun H locs G => ?_)
  refine lv_aload_n F.1 F.2.1 dX11_clear_5 rfl (lv_at hl 0 rfl) ?_
  refine ad_get F G fl_X11_9 0 rfl rfl dX11_clear_6 ?_
  refine ad_iconst F dX11_clear_9 ?_
  refine ad_iald F G 1 rfl (w := (rs.length : Int)) (by omega) (hM.1.1) dX11_clear_10 ?_
  refine lv_istore_n (lv' := [(1, .int (iI (rs.length : Int))), (0, .ref m0)]) F.1 F.2.1 dX11_clear_11 rfl hl (by decide) rfl (fun ls hl => ?_)
  refine ad_iconst F dX11_clear_12 ?_
  refine lv_istore_n (lv' := [(2, .int (iI 0)), (1, .int (iI (rs.length : Int))), (0, .ref m0)]) F.1 F.2.1 dX11_clear_13 rfl hl (by decide) rfl (fun ls hl => ?_)
  have lp14 : ∀ (n14 : Nat) (k : Int) (gv : Nat → Int) (H : Heap) (locs : List Loc) (ls : Array Slot), (0 ≤ k ∧ k ≤ 1247) → (∀ j : Int, 0 ≤ j → j < k → gv j.toNat = 0) → (1247 - k) < (n14 : Int) → ad_G D A9 s9.heap H locs [(m0, mO M 0 xrm xsv xln xat xer xwr xwd xlo xhi xwl xml xkl xfi xse xdn xon xtw xol xrw xgl xus xpr xmk xab), (M 1, aI (K 0) 1247 gv), (M 3, aR (K 7) 8 gH), (MH 0, aI (K 0) 1247 (gh 0)), (MH 1, aI (K 0) 1247 (gh 1)), (MH 2, aI (K 0) 1247 (gh 2)), (MH 3, aI (K 0) 1247 (gh 3)), (MH 4, aI (K 0) 1247 (gh 4)), (MH 5, aI (K 0) 1247 (gh 5)), (MH 6, aI (K 0) 1247 (gh 6)), (MH 7, aI (K 0) 1247 (gh 7))] → lv_has ls 3 [(0, .ref m0), (1, .int (iI (rs.length : Int))), (2, .int (iI k))] → W p9 l e9 rm_X11_clear s9 m9 ag9 bl9 mt9 c9 H locs 0 0 Q9 (F0 m9 14 ls []) := by
    intro n14
    induction n14 with
    | zero =>
      intro k gv H locs ls hk hg hm14
      exact absurd hm14 (by omega)
    | succ n14 ih14 =>
      intro k gv H locs ls hk hg hm14 G hl
      refine lv_iload_n F.1 F.2.1 dX11_clear_14 rfl (lv_at hl 2 rfl) ?_
      refine ad_sipush F dX11_clear_15 (by decide) ?_
      refine ad_icmp_ge (tgt := 34) F (by omega) dX11_clear_18 (by decide) (fun cc_1 => ?_) (fun cc_1 => ?_)
      · refine lv_aload_n F.1 F.2.1 dX11_clear_34 rfl (lv_at hl 0 rfl) ?_
        refine ad_get F G fl_X11_9 0 rfl rfl dX11_clear_35 ?_
        refine ad_iconst F dX11_clear_38 ?_
        refine ad_iconst F dX11_clear_39 ?_
        refine ad_iast F G 1 rfl (by omega) (ws' := [(m0, mO M 0 xrm xsv xln xat xer xwr xwd xlo xhi xwl xml xkl xfi xse xdn xon xtw xol xrw xgl xus xpr xmk xab), (M 1, aI (K 0) 1247 (va_up gv (2 : Int).toNat 1)), (M 3, aR (K 7) 8 gH), (MH 0, aI (K 0) 1247 (gh 0)), (MH 1, aI (K 0) 1247 (gh 1)), (MH 2, aI (K 0) 1247 (gh 2)), (MH 3, aI (K 0) 1247 (gh 3)), (MH 4, aI (K 0) 1247 (gh 4)), (MH 5, aI (K 0) 1247 (gh 5)), (MH 6, aI (K 0) 1247 (gh 6)), (MH 7, aI (K 0) 1247 (gh 7))]) rfl dX11_clear_40 (fun H locs G => ?_)
        refine lv_aload_n F.1 F.2.1 dX11_clear_41 rfl (lv_at hl 0 rfl) ?_
        refine ad_get F G fl_X11_9 0 rfl rfl dX11_clear_42 ?_
        refine ad_iconst F dX11_clear_45 ?_
        refine ad_iconst F dX11_clear_46 ?_
        refine ad_iast F G 1 rfl (by omega) (ws' := [(m0, mO M 0 xrm xsv xln xat xer xwr xwd xlo xhi xwl xml xkl xfi xse xdn xon xtw xol xrw xgl xus xpr xmk xab), (M 1, aI (K 0) 1247 (va_up (va_up gv (2 : Int).toNat 1) (3 : Int).toNat 2)), (M 3, aR (K 7) 8 gH), (MH 0, aI (K 0) 1247 (gh 0)), (MH 1, aI (K 0) 1247 (gh 1)), (MH 2, aI (K 0) 1247 (gh 2)), (MH 3, aI (K 0) 1247 (gh 3)), (MH 4, aI (K 0) 1247 (gh 4)), (MH 5, aI (K 0) 1247 (gh 5)), (MH 6, aI (K 0) 1247 (gh 6)), (MH 7, aI (K 0) 1247 (gh 7))]) rfl dX11_clear_47 (fun H locs G => ?_)
        refine lv_aload_n F.1 F.2.1 dX11_clear_48 rfl (lv_at hl 0 rfl) ?_
        refine ad_iconst F dX11_clear_49 ?_
        refine ad_put F G fl_X11_92 0 rfl rfl rfl (Nat.le_of_ble_eq_true rfl) (ws' := [(m0, mO M 0 0 xsv xln xat xer xwr xwd xlo xhi xwl xml xkl xfi xse xdn xon xtw xol xrw xgl xus xpr xmk xab), (M 1, aI (K 0) 1247 (va_up (va_up gv (2 : Int).toNat 1) (3 : Int).toNat 2)), (M 3, aR (K 7) 8 gH), (MH 0, aI (K 0) 1247 (gh 0)), (MH 1, aI (K 0) 1247 (gh 1)), (MH 2, aI (K 0) 1247 (gh 2)), (MH 3, aI (K 0) 1247 (gh 3)), (MH 4, aI (K 0) 1247 (gh 4)), (MH 5, aI (K 0) 1247 (gh 5)), (MH 6, aI (K 0) 1247 (gh 6)), (MH 7, aI (K 0) 1247 (gh 7))]) rfl dX11_clear_50 (fun H locs G => ?_)
        refine lv_iload_n F.1 F.2.1 dX11_clear_53 rfl (lv_at hl 1 rfl) ?_
        exact ad_ireturn F G hR rfl (Nat.le_of_ble_eq_true rfl) (Nat.le_of_ble_eq_true rfl) ⟨va_up (va_up gv (2 : Int).toNat 1) (3 : Int).toNat 2, rfl, ⟨⟨hg 0 (by omega) (by omega), hg 1 (by omega) (by omega), (va_upN (n := 2) (by omega) (by omega)).trans (va_upE (z := 2) rfl), va_upE (z := 3) rfl, (va_upN (n := 4) (by omega) (by omega)).trans ((va_upN (n := 4) (by omega) (by omega)).trans (hg 4 (by omega) (by omega)))⟩, fun z h0 h1 => by simp at h1; omega, fun z h0 h1 => by simp at h1; omega⟩, rfl⟩ dX11_clear_54
      · refine lv_aload_n F.1 F.2.1 dX11_clear_21 rfl (lv_at hl 0 rfl) ?_
        refine ad_get F G fl_X11_9 0 rfl rfl dX11_clear_22 ?_
        refine lv_iload_n F.1 F.2.1 dX11_clear_25 rfl (lv_at hl 2 rfl) ?_
        refine ad_iconst F dX11_clear_26 ?_
        refine ad_iast F G 1 rfl (by omega) (ws' := [(m0, mO M 0 xrm xsv xln xat xer xwr xwd xlo xhi xwl xml xkl xfi xse xdn xon xtw xol xrw xgl xus xpr xmk xab), (M 1, aI (K 0) 1247 (va_up gv k.toNat 0)), (M 3, aR (K 7) 8 gH), (MH 0, aI (K 0) 1247 (gh 0)), (MH 1, aI (K 0) 1247 (gh 1)), (MH 2, aI (K 0) 1247 (gh 2)), (MH 3, aI (K 0) 1247 (gh 3)), (MH 4, aI (K 0) 1247 (gh 4)), (MH 5, aI (K 0) 1247 (gh 5)), (MH 6, aI (K 0) 1247 (gh 6)), (MH 7, aI (K 0) 1247 (gh 7))]) rfl dX11_clear_27 (fun H locs G => ?_)
        refine ad_iinc (lv' := [(2, .int (iI (k + 1))), (0, .ref m0), (1, .int (iI (rs.length : Int)))]) F dX11_clear_28 hl (k := 2) rfl (by decide) rfl (fun ls hl => ?_)
        refine lv_goto (tgt := 14) F.1 F.2.1 dX11_clear_31 (by decide) ?_
        exact ih14 (k + 1) (va_up gv k.toNat 0) _ _ _ (by omega) (fun j h0 h1 => (show j = k ∨ j ≠ k by omega).elim (fun q => va_upE q) (fun q => by rw [va_upO (by omega) h0 q]; exact hg j h0 (by omega))) (by omega) (G.perm (ws' := [(m0, mO M 0 xrm xsv xln xat xer xwr xwd xlo xhi xwl xml xkl xfi xse xdn xon xtw xol xrw xgl xus xpr xmk xab), (M 1, aI (K 0) 1247 (va_up gv k.toNat 0)), (M 3, aR (K 7) 8 gH), (MH 0, aI (K 0) 1247 (gh 0)), (MH 1, aI (K 0) 1247 (gh 1)), (MH 2, aI (K 0) 1247 (gh 2)), (MH 3, aI (K 0) 1247 (gh 3)), (MH 4, aI (K 0) 1247 (gh 4)), (MH 5, aI (K 0) 1247 (gh 5)), (MH 6, aI (K 0) 1247 (gh 6)), (MH 7, aI (K 0) 1247 (gh 7))]) [0, 1, 2, 3, 4, 5, 6, 7, 8, 9, 10] rfl rfl) (lv_sub hl [1, 2, 0] rfl)
  exact lp14 ((((1247 - 0 : Int)) + 1).toNat) 0 g _ _ _ (by omega) (fun j h0 h1 => by omega) (by omega) (G.perm (ws' := [(m0, mO M 0 xrm xsv xln xat xer xwr xwd xlo xhi xwl xml xkl xfi xse xdn xon xtw xol xrw xgl xus xpr xmk xab), (M 1, aI (K 0) 1247 g), (M 3, aR (K 7) 8 gH), (MH 0, aI (K 0) 1247 (gh 0)), (MH 1, aI (K 0) 1247 (gh 1)), (MH 2, aI (K 0) 1247 (gh 2)), (MH 3, aI (K 0) 1247 (gh 3)), (MH 4, aI (K 0) 1247 (gh 4)), (MH 5, aI (K 0) 1247 (gh 5)), (MH 6, aI (K 0) 1247 (gh 6)), (MH 7, aI (K 0) 1247 (gh 7))]) [0, 1, 2, 3, 4, 5, 6, 7, 8, 9, 10] rfl rfl) (lv_sub hl [2, 1, 0] rfl)

def rm_X11_append : Room := { frames := 2, cells := 0, slots := 0, locals := 34 }
set_option maxHeartbeats 4000000 in
set_option maxRecDepth 100000 in
theorem c_X11_append (l : Launch) (D : va_G) (K : Nat → ClassId) (z0 : Nat) (m0 : Nat) (M : Nat → Nat) (xth : Int) (xrm : Int) (xsv : Int) (xat : Int) (xer : Int) (xwr : Int) (xwd : Int) (xlo : Int) (xhi : Int) (xwl : Int) (xml : Int) (xkl : Int) (xfi : Int) (xse : Int) (xdn : Int) (xon : Int) (xtw : Int) (xol : Int) (xrw : Int) (xgl : Int) (xus : Int) (xpr : Int) (xmk : Int) (xab : Int) (gbf : Nat → Int) (w : List Int) (x : Int) (hT : Tx gbf w) (hC : Chs w) (hL : w.length ≤ 100) (hx : 0 ≤ x ∧ x < 65536) (hcb : ∀ j : Nat, j < 100 → 0 ≤ gbf j ∧ gbf j < 65536) : CT l D K z0 yX11_append cX11_append 2 (some .int) rm_X11_append [.ref m0, .int (iI x)] [(m0, mO M xth xrm xsv (w.length : Int) xat xer xwr xwd xlo xhi xwl xml xkl xfi xse xdn xon xtw xol xrw xgl xus xpr xmk xab), (M 6, aI (K 2) 100 gbf)] (fun v9 u9 => (v9 = some (.int (iI 0)) ∧ (¬ (32 ≤ x ∧ x ≤ 126)) ∧ u9 = [(m0, mO M 1 xrm xsv (w.length : Int) xat xer xwr xwd xlo xhi xwl xml xkl xfi xse xdn xon xtw xol xrw xgl xus xpr xmk xab), (M 6, aI (K 2) 100 gbf)]) ∨ (v9 = some (.int (iI 0)) ∧ ((32 ≤ x ∧ x ≤ 126) ∧ w.length = 100) ∧ u9 = [(m0, mO M 2 xrm xsv (w.length : Int) xat xer xwr xwd xlo xhi xwl xml xkl xfi xse xdn xon xtw xol xrw xgl xus xpr xmk xab), (M 6, aI (K 2) 100 gbf)]) ∨ (∃ (gbf2 : Nat → Int), v9 = some (.int (iI ((w ++ [x]).length : Int))) ∧ ((32 ≤ x ∧ x ≤ 126) ∧ w.length < 100) ∧ (Tx gbf2 (w ++ [x])) ∧ (∀ j : Nat, j < 100 → 0 ≤ gbf2 j ∧ gbf2 j < 65536) ∧ u9 = [(m0, mO M 0 xrm xsv ((w ++ [x]).length : Int) xat xer xwr xwd xlo xhi xwl xml xkl xfi xse xdn xon xtw xol xrw xgl xus xpr xmk xab), (M 6, aI (K 2) 100 gbf2)])) := by
  refine CT.start RX11 "append" (by decide) rfl rfl (Nat.le_of_ble_eq_true rfl) ?_
  intro p9 e9 s9 m9 ag9 bl9 mt9 c9 A9 Q9 ls F G hR hl
  have hl : lv_has ls 2 [(0, .ref m0), (1, .int (iI x))] := hl
  refine lv_aload_n F.1 F.2.1 dX11_append_0 rfl (lv_at hl 0 rfl) ?_
  refine ad_iconst F dX11_append_1 ?_
  refine lv_iload_n F.1 F.2.1 dX11_append_2 rfl (lv_at hl 1 rfl) ?_
  refine ad_bipush F dX11_append_3 (by decide) ?_
  refine ad_bipush F dX11_append_5 (by decide) ?_
  refine ad_callS (As := [.int (iI x), .int (iI 32), .int (iI 126)]) (rest := [.int (iI 1), .ref m0]) F G (c_X11_isBetween l D K z0 x 32 126 (by omega) (by omega) (by omega)) my_X11_isBetween ms_X11_107 (wr := [(m0, mO M xth xrm xsv (w.length : Int) xat xer xwr xwd xlo xhi xwl xml xkl xfi xse xdn xon xtw xol xrw xgl xus xpr xmk xab), (M 6, aI (K 2) 100 gbf)]) (isC := []) (isR := [0, 1]) ⟨rfl, rfl, rfl, rfl, by decide⟩ rfl rfl ⟨Nat.le_of_ble_eq_true rfl, Nat.le_of_ble_eq_true rfl⟩ ⟨Nat.le_of_ble_eq_true rfl, Nat.le_of_ble_eq_true rfl⟩ (Nat.le_of_ble_eq_true rfl) hl.1 (cells9 := 0) (slots9 := 0) ⟨rfl, rfl⟩ dX11_append_7 (fun v u H locs hw_1 G => ?_)
  rcases hw_1 with ⟨rfl, hc_2, rfl⟩ | ⟨rfl, hc_3, rfl⟩
  · replace G := G.perm (ws' := [(m0, mO M xth xrm xsv (w.length : Int) xat xer xwr xwd xlo xhi xwl xml xkl xfi xse xdn xon xtw xol xrw xgl xus xpr xmk xab), (M 6, aI (K 2) 100 gbf)]) [0, 1] rfl rfl
    refine W.eq (g2 := F0 m9 10 ls [.int (iI 1), .int (iI 1), .ref m0]) rfl ?_
    refine ad_if_ne (tgt := 17) F (by decide) dX11_append_10 (by decide) (fun _ => ?_) (fun cc_4 => absurd cc_4 (by decide))
    refine ad_iconst F dX11_append_17 ?_
    refine ad_callV (As := [.int (iI 1), .int (iI 0)]) (rest := []) F G (c_X11_fails_0 l D K z0 m0 M xth xrm xsv (w.length : Int) xat xer xwr xwd xlo xhi xwl xml xkl xfi xse xdn xon xtw xol xrw xgl xus xpr xmk xab 1 (by omega)) my_X11_fails mv_X11_111 (wr := [(M 6, aI (K 2) 100 gbf)]) (isC := [0]) (isR := [1]) ⟨rfl, rfl, rfl, rfl, by decide⟩ 11 0 rfl rfl rfl rfl ⟨Nat.le_of_ble_eq_true rfl, Nat.le_of_ble_eq_true rfl⟩ ⟨Nat.le_of_ble_eq_true rfl, Nat.le_of_ble_eq_true rfl⟩ (Nat.le_of_ble_eq_true rfl) hl.1 (cells9 := 0) (slots9 := 0) ⟨rfl, rfl⟩ dX11_append_18 (fun v u H locs hw_5 G => ?_)
    obtain ⟨rfl, rfl⟩ := hw_5
    replace G := G.perm (ws' := [(m0, mO M 0 xrm xsv (w.length : Int) xat xer xwr xwd xlo xhi xwl xml xkl xfi xse xdn xon xtw xol xrw xgl xus xpr xmk xab), (M 6, aI (K 2) 100 gbf)]) [1, 0] rfl rfl
    refine W.eq (g2 := F0 m9 21 ls [.int (iI 0)]) rfl ?_
    refine ad_if_ne (tgt := 46) F (by decide) dX11_append_21 (by decide) (fun cc_6 => absurd cc_6 (by decide)) (fun _ => ?_)
    refine lv_aload_n F.1 F.2.1 dX11_append_24 rfl (lv_at hl 0 rfl) ?_
    refine ad_iconst F dX11_append_25 ?_
    refine lv_aload_n F.1 F.2.1 dX11_append_26 rfl (lv_at hl 0 rfl) ?_
    refine ad_get F G fl_X11_115 0 rfl rfl dX11_append_27 ?_
    refine ad_bipush F dX11_append_30 (by decide) ?_
    refine ad_icmp_ne (tgt := 39) F (by omega) dX11_append_32 (by decide) (fun cc_7 => ?_) (fun cc_7 => ?_)
    · refine ad_iconst F dX11_append_39 ?_
      refine ad_callV (As := [.int (iI 2), .int (iI 0)]) (rest := []) F G (c_X11_fails_0 l D K z0 m0 M 0 xrm xsv (w.length : Int) xat xer xwr xwd xlo xhi xwl xml xkl xfi xse xdn xon xtw xol xrw xgl xus xpr xmk xab 2 (by omega)) my_X11_fails mv_X11_111 (wr := [(M 6, aI (K 2) 100 gbf)]) (isC := [0]) (isR := [1]) ⟨rfl, rfl, rfl, rfl, by decide⟩ 11 0 rfl rfl rfl rfl ⟨Nat.le_of_ble_eq_true rfl, Nat.le_of_ble_eq_true rfl⟩ ⟨Nat.le_of_ble_eq_true rfl, Nat.le_of_ble_eq_true rfl⟩ (Nat.le_of_ble_eq_true rfl) hl.1 (cells9 := 0) (slots9 := 0) ⟨rfl, rfl⟩ dX11_append_40 (fun v u H locs hw_8 G => ?_)
      obtain ⟨rfl, rfl⟩ := hw_8
      replace G := G.perm (ws' := [(m0, mO M 0 xrm xsv (w.length : Int) xat xer xwr xwd xlo xhi xwl xml xkl xfi xse xdn xon xtw xol xrw xgl xus xpr xmk xab), (M 6, aI (K 2) 100 gbf)]) [1, 0] rfl rfl
      refine W.eq (g2 := F0 m9 43 ls [.int (iI 0)]) rfl ?_
      refine ad_if_eq (tgt := 48) F (by decide) dX11_append_43 (by decide) (fun _ => ?_) (fun cc_9 => absurd cc_9 (by decide))
      refine lv_aload_n F.1 F.2.1 dX11_append_48 rfl (lv_at hl 0 rfl) ?_
      refine ad_get F G fl_X11_21 0 rfl rfl dX11_append_49 ?_
      refine lv_aload_n F.1 F.2.1 dX11_append_52 rfl (lv_at hl 0 rfl) ?_
      refine ad_get F G fl_X11_115 0 rfl rfl dX11_append_53 ?_
      refine lv_iload_n F.1 F.2.1 dX11_append_56 rfl (lv_at hl 1 rfl) ?_
      refine ad_cast F G 1 rfl (by omega) (by omega) (ws' := [(m0, mO M 0 xrm xsv (w.length : Int) xat xer xwr xwd xlo xhi xwl xml xkl xfi xse xdn xon xtw xol xrw xgl xus xpr xmk xab), (M 6, aI (K 2) 100 (va_up gbf (w.length : Int).toNat x))]) rfl dX11_append_57 (fun H locs G => ?_)
      refine lv_aload_n F.1 F.2.1 dX11_append_58 rfl (lv_at hl 0 rfl) ?_
      refine lv_dup F.1 F.2.1 dX11_append_59 rfl ?_
      refine ad_get F G fl_X11_115 0 rfl rfl dX11_append_60 ?_
      refine ad_iconst F dX11_append_63 ?_
      refine ad_iadd F dX11_append_64 ?_
      refine ad_put F G fl_X11_115 0 rfl rfl rfl (Nat.le_of_ble_eq_true rfl) (ws' := [(m0, mO M 0 xrm xsv ((w.length : Int) + 1) xat xer xwr xwd xlo xhi xwl xml xkl xfi xse xdn xon xtw xol xrw xgl xus xpr xmk xab), (M 6, aI (K 2) 100 (va_up gbf (w.length : Int).toNat x))]) rfl dX11_append_65 (fun H locs G => ?_)
      have hwl : ((w ++ [x]).length : Int) = (w.length : Int) + 1 := by simp
      refine lv_aload_n F.1 F.2.1 dX11_append_68 rfl (lv_at hl 0 rfl) ?_
      refine ad_get F G fl_X11_115 0 rfl rfl dX11_append_69 ?_
      exact ad_ireturn F G hR rfl (Nat.le_of_ble_eq_true rfl) (Nat.le_of_ble_eq_true rfl) (Or.inr (Or.inr (⟨va_up gbf (w.length : Int).toNat x, (ad_eqi (by omega)), (by omega), (Tx_push hT x), (fun j h => by simp only [va_up]; split; (omega); exact hcb j h), (by rw [hwl])⟩))) dX11_append_72
    · refine ad_iconst F dX11_append_35 ?_
      refine lv_goto (tgt := 40) F.1 F.2.1 dX11_append_36 (by decide) ?_
      refine ad_callV (As := [.int (iI 2), .int (iI 1)]) (rest := []) F G (c_X11_fails_1 l D K z0 m0 M 0 xrm xsv (w.length : Int) xat xer xwr xwd xlo xhi xwl xml xkl xfi xse xdn xon xtw xol xrw xgl xus xpr xmk xab 2 (by omega)) my_X11_fails mv_X11_111 (wr := [(M 6, aI (K 2) 100 gbf)]) (isC := [0]) (isR := [1]) ⟨rfl, rfl, rfl, rfl, by decide⟩ 11 0 rfl rfl rfl rfl ⟨Nat.le_of_ble_eq_true rfl, Nat.le_of_ble_eq_true rfl⟩ ⟨Nat.le_of_ble_eq_true rfl, Nat.le_of_ble_eq_true rfl⟩ (Nat.le_of_ble_eq_true rfl) hl.1 (cells9 := 0) (slots9 := 0) ⟨rfl, rfl⟩ dX11_append_40 (fun v u H locs hw_10 G => ?_)
      obtain ⟨rfl, rfl⟩ := hw_10
      replace G := G.perm (ws' := [(m0, mO M 2 xrm xsv (w.length : Int) xat xer xwr xwd xlo xhi xwl xml xkl xfi xse xdn xon xtw xol xrw xgl xus xpr xmk xab), (M 6, aI (K 2) 100 gbf)]) [1, 0] rfl rfl
      refine W.eq (g2 := F0 m9 43 ls [.int (iI 1)]) rfl ?_
      refine ad_if_eq (tgt := 48) F (by decide) dX11_append_43 (by decide) (fun cc_11 => absurd cc_11 (by decide)) (fun _ => ?_)
      refine ad_iconst F dX11_append_46 ?_
      exact ad_ireturn F G hR rfl (Nat.le_of_ble_eq_true rfl) (Nat.le_of_ble_eq_true rfl) (Or.inr (Or.inl ⟨rfl, (by omega), rfl⟩)) dX11_append_47
  · replace G := G.perm (ws' := [(m0, mO M xth xrm xsv (w.length : Int) xat xer xwr xwd xlo xhi xwl xml xkl xfi xse xdn xon xtw xol xrw xgl xus xpr xmk xab), (M 6, aI (K 2) 100 gbf)]) [0, 1] rfl rfl
    refine W.eq (g2 := F0 m9 10 ls [.int (iI 0), .int (iI 1), .ref m0]) rfl ?_
    refine ad_if_ne (tgt := 17) F (by decide) dX11_append_10 (by decide) (fun cc_12 => absurd cc_12 (by decide)) (fun _ => ?_)
    refine ad_iconst F dX11_append_13 ?_
    refine lv_goto (tgt := 18) F.1 F.2.1 dX11_append_14 (by decide) ?_
    refine ad_callV (As := [.int (iI 1), .int (iI 1)]) (rest := []) F G (c_X11_fails_1 l D K z0 m0 M xth xrm xsv (w.length : Int) xat xer xwr xwd xlo xhi xwl xml xkl xfi xse xdn xon xtw xol xrw xgl xus xpr xmk xab 1 (by omega)) my_X11_fails mv_X11_111 (wr := [(M 6, aI (K 2) 100 gbf)]) (isC := [0]) (isR := [1]) ⟨rfl, rfl, rfl, rfl, by decide⟩ 11 0 rfl rfl rfl rfl ⟨Nat.le_of_ble_eq_true rfl, Nat.le_of_ble_eq_true rfl⟩ ⟨Nat.le_of_ble_eq_true rfl, Nat.le_of_ble_eq_true rfl⟩ (Nat.le_of_ble_eq_true rfl) hl.1 (cells9 := 0) (slots9 := 0) ⟨rfl, rfl⟩ dX11_append_18 (fun v u H locs hw_13 G => ?_)
    obtain ⟨rfl, rfl⟩ := hw_13
    replace G := G.perm (ws' := [(m0, mO M 1 xrm xsv (w.length : Int) xat xer xwr xwd xlo xhi xwl xml xkl xfi xse xdn xon xtw xol xrw xgl xus xpr xmk xab), (M 6, aI (K 2) 100 gbf)]) [1, 0] rfl rfl
    refine W.eq (g2 := F0 m9 21 ls [.int (iI 1)]) rfl ?_
    refine ad_if_ne (tgt := 46) F (by decide) dX11_append_21 (by decide) (fun _ => ?_) (fun cc_14 => absurd cc_14 (by decide))
    refine ad_iconst F dX11_append_46 ?_
    exact ad_ireturn F G hR rfl (Nat.le_of_ble_eq_true rfl) (Nat.le_of_ble_eq_true rfl) (Or.inl ⟨rfl, hc_3, rfl⟩) dX11_append_47

def rm_X11_isReplayed : Room := { frames := 1, cells := 0, slots := 0, locals := 12 }
set_option maxHeartbeats 4000000 in
set_option maxRecDepth 100000 in
theorem c_X11_isReplayed (l : Launch) (D : va_G) (K : Nat → ClassId) (z0 : Nat) (m0 : Nat) (M : Nat → Nat) (xth : Int) (xrm : Int) (xsv : Int) (xln : Int) (xat : Int) (xer : Int) (xwr : Int) (xwd : Int) (xlo : Int) (xhi : Int) (xwl : Int) (xml : Int) (xkl : Int) (xfi : Int) (xse : Int) (xdn : Int) (xon : Int) (xtw : Int) (xol : Int) (xrw : Int) (xgl : Int) (xus : Int) (xpr : Int) (xmk : Int) (xab : Int) : CT l D K z0 yX11_isReplayed cX11_isReplayed 1 (some .boolean) rm_X11_isReplayed [.ref m0] [(m0, mO M xth xrm xsv xln xat xer xwr xwd xlo xhi xwl xml xkl xfi xse xdn xon xtw xol xrw xgl xus xpr xmk xab)] (fun v9 u9 => v9 = some (.int (iI 1)) ∧ u9 = [(m0, mO M 0 xrm xsv xln xat xer xwr xwd xlo xhi xwl xml xkl xfi xse xdn xon xtw xol xrw xgl xus xpr xmk xab)]) := by
  refine CT.start RX11 "isReplayed" (by decide) rfl rfl (Nat.le_of_ble_eq_true rfl) ?_
  intro p9 e9 s9 m9 ag9 bl9 mt9 c9 A9 Q9 ls F G hR hl
  have hl : lv_has ls 1 [(0, .ref m0)] := hl
  refine lv_aload_n F.1 F.2.1 dX11_isReplayed_0 rfl (lv_at hl 0 rfl) ?_
  refine ad_iconst F dX11_isReplayed_1 ?_
  refine ad_put F G fl_X11_89 0 rfl rfl rfl (Nat.le_of_ble_eq_true rfl) (ws' := [(m0, mO M 0 xrm xsv xln xat xer xwr xwd xlo xhi xwl xml xkl xfi xse xdn xon xtw xol xrw xgl xus xpr xmk xab)]) rfl dX11_isReplayed_2 (fun H locs G => ?_)
  refine ad_iconst F dX11_isReplayed_5 ?_
  exact ad_zreturn F G hR rfl (Nat.le_of_ble_eq_true rfl) (Nat.le_of_ble_eq_true rfl) rfl ⟨rfl, rfl⟩ dX11_isReplayed_6

def rm_X11_snapshot : Room := { frames := 2, cells := 0, slots := 0, locals := 34 }
set_option maxHeartbeats 4000000 in
set_option maxRecDepth 100000 in
theorem c_X11_snapshot (l : Launch) (D : va_G) (K : Nat → ClassId) (z0 : Nat) (m0 : Nat) (M : Nat → Nat) (xth : Int) (xrm : Int) (xsv : Int) (xln : Int) (xat : Int) (xer : Int) (xwr : Int) (xwd : Int) (xlo : Int) (xhi : Int) (xwl : Int) (xml : Int) (xkl : Int) (xfi : Int) (xse : Int) (xdn : Int) (xon : Int) (xtw : Int) (xol : Int) (xrw : Int) (xgl : Int) (xus : Int) (xpr : Int) (xmk : Int) (xab : Int) (g : Nat → Int) (gsv : Nat → Int) (rs : List Rl) (ps : List Pr) (md : Int) (th : Int) (nc : Int) (B : Int) (hM : MRow g rs ps md th nc) (hW : RW rs) (hV : PW ps B) : CT l D K z0 yX11_snapshot cX11_snapshot 1 (some .int) rm_X11_snapshot [.ref m0] [(m0, mO M xth xrm xsv xln xat xer xwr xwd xlo xhi xwl xml xkl xfi xse xdn xon xtw xol xrw xgl xus xpr xmk xab), (M 1, aI (K 0) 1247 g), (M 2, aI (K 0) 1247 gsv)] (fun v9 u9 => ∃ (gsv2 : Nat → Int), v9 = some (.int (iI (rs.length : Int))) ∧ (MRow gsv2 rs ps md th nc) ∧ u9 = [(m0, mO M 0 xrm 1 xln xat xer xwr xwd xlo xhi xwl xml xkl xfi xse xdn xon xtw xol xrw xgl xus xpr xmk xab), (M 1, aI (K 0) 1247 g), (M 2, aI (K 0) 1247 gsv2)]) := by
  refine CT.start RX11 "snapshot" (by decide) rfl rfl (Nat.le_of_ble_eq_true rfl) ?_
  intro p9 e9 s9 m9 ag9 bl9 mt9 c9 A9 Q9 ls F G hR hl
  have hl : lv_has ls 1 [(0, .ref m0)] := hl
  have hn := hW.1
  refine lv_aload_n F.1 F.2.1 dX11_snapshot_0 rfl (lv_at hl 0 rfl) ?_
  refine ad_iconst F dX11_snapshot_1 ?_
  refine ad_put F G fl_X11_89 0 rfl rfl rfl (Nat.le_of_ble_eq_true rfl) (ws' := [(m0, mO M 0 xrm xsv xln xat xer xwr xwd xlo xhi xwl xml xkl xfi xse xdn xon xtw xol xrw xgl xus xpr xmk xab), (M 1, aI (K 0) 1247 g), (M 2, aI (K 0) 1247 gsv)]) rfl dX11_snapshot_2 (fun H locs G => ?_)
  refine lv_aload_n F.1 F.2.1 dX11_snapshot_5 rfl (lv_at hl 0 rfl) ?_
  refine ad_iconst F dX11_snapshot_6 ?_
  refine ad_put F G fl_X11_354 0 rfl rfl rfl (Nat.le_of_ble_eq_true rfl) (ws' := [(m0, mO M 0 xrm 1 xln xat xer xwr xwd xlo xhi xwl xml xkl xfi xse xdn xon xtw xol xrw xgl xus xpr xmk xab), (M 1, aI (K 0) 1247 g), (M 2, aI (K 0) 1247 gsv)]) rfl dX11_snapshot_7 (fun H locs G => ?_)
  refine lv_aload_n F.1 F.2.1 dX11_snapshot_10 rfl (lv_at hl 0 rfl) ?_
  refine ad_get F G fl_X11_9 0 rfl rfl dX11_snapshot_11 ?_
  refine lv_aload_n F.1 F.2.1 dX11_snapshot_14 rfl (lv_at hl 0 rfl) ?_
  refine ad_get F G fl_X11_13 0 rfl rfl dX11_snapshot_15 ?_
  refine ad_callS (As := [.ref (M 1), .ref (M 2)]) (rest := []) F G (c_X11_copyRow l D K z0 (M 1) (M 2) g gsv ) my_X11_copyRow ms_X11_95 (wr := [(m0, mO M 0 xrm 1 xln xat xer xwr xwd xlo xhi xwl xml xkl xfi xse xdn xon xtw xol xrw xgl xus xpr xmk xab)]) (isC := [1, 2]) (isR := [0]) ⟨rfl, rfl, rfl, rfl, by decide⟩ rfl rfl ⟨Nat.le_of_ble_eq_true rfl, Nat.le_of_ble_eq_true rfl⟩ ⟨Nat.le_of_ble_eq_true rfl, Nat.le_of_ble_eq_true rfl⟩ (Nat.le_of_ble_eq_true rfl) hl.1 (cells9 := 0) (slots9 := 0) ⟨rfl, rfl⟩ dX11_snapshot_18 (fun v u H locs hw_1 G => ?_)
  obtain ⟨g3_2, rfl, hc_3, rfl⟩ := hw_1
  replace G := G.perm (ws' := [(m0, mO M 0 xrm 1 xln xat xer xwr xwd xlo xhi xwl xml xkl xfi xse xdn xon xtw xol xrw xgl xus xpr xmk xab), ((M 1), aI (K 0) 1247 g), ((M 2), aI (K 0) 1247 g3_2)]) [0, 1, 2] rfl rfl
  refine W.eq (g2 := F0 m9 21 ls []) rfl ?_
  refine lv_aload_n F.1 F.2.1 dX11_snapshot_21 rfl (lv_at hl 0 rfl) ?_
  refine ad_get F G fl_X11_9 0 rfl rfl dX11_snapshot_22 ?_
  refine ad_iconst F dX11_snapshot_25 ?_
  refine ad_iald F G 1 rfl (w := (rs.length : Int)) (by omega) (hM.1.1) dX11_snapshot_26 ?_
  exact ad_ireturn F G hR rfl (Nat.le_of_ble_eq_true rfl) (Nat.le_of_ble_eq_true rfl) ⟨g3_2, rfl, (hM.cg hW.1 hV.1 hc_3), rfl⟩ dX11_snapshot_27

def rm_X11_restore : Room := { frames := 2, cells := 0, slots := 0, locals := 34 }
set_option maxHeartbeats 4000000 in
set_option maxRecDepth 100000 in
theorem c_X11_restore (l : Launch) (D : va_G) (K : Nat → ClassId) (z0 : Nat) (m0 : Nat) (M : Nat → Nat) (xth : Int) (xrm : Int) (xsv : Int) (xln : Int) (xat : Int) (xer : Int) (xwr : Int) (xwd : Int) (xlo : Int) (xhi : Int) (xwl : Int) (xml : Int) (xkl : Int) (xfi : Int) (xse : Int) (xdn : Int) (xon : Int) (xtw : Int) (xol : Int) (xrw : Int) (xgl : Int) (xus : Int) (xpr : Int) (xmk : Int) (xab : Int) (g : Nat → Int) (gsv : Nat → Int) (rs : List Rl) (ps : List Pr) (md : Int) (th : Int) (nc : Int) (B : Int) (hM : xsv = 1 → MRow gsv rs ps md th nc ∧ rs.length ≤ 24 ∧ ps.length ≤ 30) (hsv : xsv = 0 ∨ xsv = 1) : CT l D K z0 yX11_restore cX11_restore 1 (some .int) rm_X11_restore [.ref m0] [(m0, mO M xth xrm xsv xln xat xer xwr xwd xlo xhi xwl xml xkl xfi xse xdn xon xtw xol xrw xgl xus xpr xmk xab), (M 1, aI (K 0) 1247 g), (M 2, aI (K 0) 1247 gsv)] (fun v9 u9 => (v9 = some (.int (iI 0)) ∧ (xsv = 0) ∧ u9 = [(m0, mO M 1 xrm xsv xln xat xer xwr xwd xlo xhi xwl xml xkl xfi xse xdn xon xtw xol xrw xgl xus xpr xmk xab), (M 1, aI (K 0) 1247 g), (M 2, aI (K 0) 1247 gsv)]) ∨ (∃ (g2 : Nat → Int), v9 = some (.int (iI (rs.length : Int))) ∧ (xsv = 1) ∧ (MRow g2 rs ps md th nc) ∧ u9 = [(m0, mO M 0 0 xsv xln xat xer xwr xwd xlo xhi xwl xml xkl xfi xse xdn xon xtw xol xrw xgl xus xpr xmk xab), (M 1, aI (K 0) 1247 g2), (M 2, aI (K 0) 1247 gsv)])) := by
  refine CT.start RX11 "restore" (by decide) rfl rfl (Nat.le_of_ble_eq_true rfl) ?_
  intro p9 e9 s9 m9 ag9 bl9 mt9 c9 A9 Q9 ls F G hR hl
  have hl : lv_has ls 1 [(0, .ref m0)] := hl
  refine lv_aload_n F.1 F.2.1 dX11_restore_0 rfl (lv_at hl 0 rfl) ?_
  refine ad_iconst F dX11_restore_1 ?_
  refine lv_aload_n F.1 F.2.1 dX11_restore_2 rfl (lv_at hl 0 rfl) ?_
  refine ad_get F G fl_X11_354 0 rfl rfl dX11_restore_3 ?_
  refine ad_if_ne (tgt := 13) F (by omega) dX11_restore_6 (by decide) (fun cc_1 => ?_) (fun cc_1 => ?_)
  · refine ad_iconst F dX11_restore_13 ?_
    refine ad_callV (As := [.int (iI 1), .int (iI 0)]) (rest := []) F G (c_X11_fails_0 l D K z0 m0 M xth xrm xsv xln xat xer xwr xwd xlo xhi xwl xml xkl xfi xse xdn xon xtw xol xrw xgl xus xpr xmk xab 1 (by omega)) my_X11_fails mv_X11_111 (wr := [(M 1, aI (K 0) 1247 g), (M 2, aI (K 0) 1247 gsv)]) (isC := [0]) (isR := [1, 2]) ⟨rfl, rfl, rfl, rfl, by decide⟩ 11 0 rfl rfl rfl rfl ⟨Nat.le_of_ble_eq_true rfl, Nat.le_of_ble_eq_true rfl⟩ ⟨Nat.le_of_ble_eq_true rfl, Nat.le_of_ble_eq_true rfl⟩ (Nat.le_of_ble_eq_true rfl) hl.1 (cells9 := 0) (slots9 := 0) ⟨rfl, rfl⟩ dX11_restore_14 (fun v u H locs hw_2 G => ?_)
    obtain ⟨rfl, rfl⟩ := hw_2
    replace G := G.perm (ws' := [(m0, mO M 0 xrm xsv xln xat xer xwr xwd xlo xhi xwl xml xkl xfi xse xdn xon xtw xol xrw xgl xus xpr xmk xab), (M 1, aI (K 0) 1247 g), (M 2, aI (K 0) 1247 gsv)]) [2, 0, 1] rfl rfl
    refine W.eq (g2 := F0 m9 17 ls [.int (iI 0)]) rfl ?_
    refine ad_if_eq (tgt := 22) F (by decide) dX11_restore_17 (by decide) (fun _ => ?_) (fun cc_3 => absurd cc_3 (by decide))
    refine lv_aload_n F.1 F.2.1 dX11_restore_22 rfl (lv_at hl 0 rfl) ?_
    refine ad_get F G fl_X11_13 0 rfl rfl dX11_restore_23 ?_
    refine lv_aload_n F.1 F.2.1 dX11_restore_26 rfl (lv_at hl 0 rfl) ?_
    refine ad_get F G fl_X11_9 0 rfl rfl dX11_restore_27 ?_
    refine ad_callS (As := [.ref (M 2), .ref (M 1)]) (rest := []) F G (c_X11_copyRow l D K z0 (M 2) (M 1) gsv g ) my_X11_copyRow ms_X11_95 (wr := [(m0, mO M 0 xrm xsv xln xat xer xwr xwd xlo xhi xwl xml xkl xfi xse xdn xon xtw xol xrw xgl xus xpr xmk xab)]) (isC := [2, 1]) (isR := [0]) ⟨rfl, rfl, rfl, rfl, by decide⟩ rfl rfl ⟨Nat.le_of_ble_eq_true rfl, Nat.le_of_ble_eq_true rfl⟩ ⟨Nat.le_of_ble_eq_true rfl, Nat.le_of_ble_eq_true rfl⟩ (Nat.le_of_ble_eq_true rfl) hl.1 (cells9 := 0) (slots9 := 0) ⟨rfl, rfl⟩ dX11_restore_30 (fun v u H locs hw_4 G => ?_)
    obtain ⟨g3_5, rfl, hc_6, rfl⟩ := hw_4
    replace G := G.perm (ws' := [(m0, mO M 0 xrm xsv xln xat xer xwr xwd xlo xhi xwl xml xkl xfi xse xdn xon xtw xol xrw xgl xus xpr xmk xab), ((M 1), aI (K 0) 1247 g3_5), ((M 2), aI (K 0) 1247 gsv)]) [0, 2, 1] rfl rfl
    refine W.eq (g2 := F0 m9 33 ls []) rfl ?_
    have hm2 : MRow g3_5 rs ps md th nc := (hM (by omega)).1.cg (hM (by omega)).2.1 (hM (by omega)).2.2 hc_6
    refine lv_aload_n F.1 F.2.1 dX11_restore_33 rfl (lv_at hl 0 rfl) ?_
    refine ad_iconst F dX11_restore_34 ?_
    refine ad_put F G fl_X11_92 0 rfl rfl rfl (Nat.le_of_ble_eq_true rfl) (ws' := [(m0, mO M 0 0 xsv xln xat xer xwr xwd xlo xhi xwl xml xkl xfi xse xdn xon xtw xol xrw xgl xus xpr xmk xab), ((M 1), aI (K 0) 1247 g3_5), ((M 2), aI (K 0) 1247 gsv)]) rfl dX11_restore_35 (fun H locs G => ?_)
    refine lv_aload_n F.1 F.2.1 dX11_restore_38 rfl (lv_at hl 0 rfl) ?_
    refine ad_get F G fl_X11_9 0 rfl rfl dX11_restore_39 ?_
    refine ad_iconst F dX11_restore_42 ?_
    refine ad_iald F G 1 rfl (w := (rs.length : Int)) (by omega) (hm2.1.1) dX11_restore_43 ?_
    exact ad_ireturn F G hR rfl (Nat.le_of_ble_eq_true rfl) (Nat.le_of_ble_eq_true rfl) (Or.inr (⟨g3_5, rfl, (by omega), hm2, rfl⟩)) dX11_restore_44
  · refine ad_iconst F dX11_restore_9 ?_
    refine lv_goto (tgt := 14) F.1 F.2.1 dX11_restore_10 (by decide) ?_
    refine ad_callV (As := [.int (iI 1), .int (iI 1)]) (rest := []) F G (c_X11_fails_1 l D K z0 m0 M xth xrm xsv xln xat xer xwr xwd xlo xhi xwl xml xkl xfi xse xdn xon xtw xol xrw xgl xus xpr xmk xab 1 (by omega)) my_X11_fails mv_X11_111 (wr := [(M 1, aI (K 0) 1247 g), (M 2, aI (K 0) 1247 gsv)]) (isC := [0]) (isR := [1, 2]) ⟨rfl, rfl, rfl, rfl, by decide⟩ 11 0 rfl rfl rfl rfl ⟨Nat.le_of_ble_eq_true rfl, Nat.le_of_ble_eq_true rfl⟩ ⟨Nat.le_of_ble_eq_true rfl, Nat.le_of_ble_eq_true rfl⟩ (Nat.le_of_ble_eq_true rfl) hl.1 (cells9 := 0) (slots9 := 0) ⟨rfl, rfl⟩ dX11_restore_14 (fun v u H locs hw_7 G => ?_)
    obtain ⟨rfl, rfl⟩ := hw_7
    replace G := G.perm (ws' := [(m0, mO M 1 xrm xsv xln xat xer xwr xwd xlo xhi xwl xml xkl xfi xse xdn xon xtw xol xrw xgl xus xpr xmk xab), (M 1, aI (K 0) 1247 g), (M 2, aI (K 0) 1247 gsv)]) [2, 0, 1] rfl rfl
    refine W.eq (g2 := F0 m9 17 ls [.int (iI 1)]) rfl ?_
    refine ad_if_eq (tgt := 22) F (by decide) dX11_restore_17 (by decide) (fun cc_8 => absurd cc_8 (by decide)) (fun _ => ?_)
    refine ad_iconst F dX11_restore_20 ?_
    exact ad_ireturn F G hR rfl (Nat.le_of_ble_eq_true rfl) (Nat.le_of_ble_eq_true rfl) (Or.inl ⟨rfl, cc_1, rfl⟩) dX11_restore_21

def rm_X11_undo : Room := { frames := 2, cells := 0, slots := 0, locals := 34 }
set_option maxHeartbeats 4000000 in
set_option maxRecDepth 100000 in
theorem c_X11_undo (l : Launch) (D : va_G) (K : Nat → ClassId) (z0 : Nat) (m0 : Nat) (M : Nat → Nat) (xth : Int) (xrm : Int) (xsv : Int) (xln : Int) (xat : Int) (xer : Int) (xwr : Int) (xwd : Int) (xlo : Int) (xhi : Int) (xwl : Int) (xml : Int) (xkl : Int) (xfi : Int) (xse : Int) (xdn : Int) (xon : Int) (xtw : Int) (xol : Int) (xrw : Int) (xgl : Int) (xus : Int) (xpr : Int) (xmk : Int) (xab : Int) (g : Nat → Int) (rs : List Rl) (ps : List Pr) (md : Int) (th : Int) (nc : Int) (MH : Nat → Nat) (gH : Nat → Option Nat) (gh : Nat → Nat → Int) (hH : ∀ j : Nat, j < 8 → gH j = some (MH j)) (hrm : 0 ≤ xrm ∧ xrm ≤ 8) (hM0 : 0 < xrm → MRow (gh (xrm - 1).toNat) rs ps md th nc ∧ rs.length ≤ 24 ∧ ps.length ≤ 30) : CT l D K z0 yX11_undo cX11_undo 1 (some .int) rm_X11_undo [.ref m0] [(m0, mO M xth xrm xsv xln xat xer xwr xwd xlo xhi xwl xml xkl xfi xse xdn xon xtw xol xrw xgl xus xpr xmk xab), (M 1, aI (K 0) 1247 g), (M 3, aR (K 7) 8 gH), (MH 0, aI (K 0) 1247 (gh 0)), (MH 1, aI (K 0) 1247 (gh 1)), (MH 2, aI (K 0) 1247 (gh 2)), (MH 3, aI (K 0) 1247 (gh 3)), (MH 4, aI (K 0) 1247 (gh 4)), (MH 5, aI (K 0) 1247 (gh 5)), (MH 6, aI (K 0) 1247 (gh 6)), (MH 7, aI (K 0) 1247 (gh 7))] (fun v9 u9 => (v9 = some (.int (iI 0)) ∧ (xrm = 0) ∧ u9 = [(m0, mO M 1 xrm xsv xln xat xer xwr xwd xlo xhi xwl xml xkl xfi xse xdn xon xtw xol xrw xgl xus xpr xmk xab), (M 1, aI (K 0) 1247 g), (M 3, aR (K 7) 8 gH), (MH 0, aI (K 0) 1247 (gh 0)), (MH 1, aI (K 0) 1247 (gh 1)), (MH 2, aI (K 0) 1247 (gh 2)), (MH 3, aI (K 0) 1247 (gh 3)), (MH 4, aI (K 0) 1247 (gh 4)), (MH 5, aI (K 0) 1247 (gh 5)), (MH 6, aI (K 0) 1247 (gh 6)), (MH 7, aI (K 0) 1247 (gh 7))]) ∨ (∃ (g2 : Nat → Int), v9 = some (.int (iI (xrm - 1))) ∧ (0 < xrm) ∧ (MRow g2 rs ps md th nc) ∧ u9 = [(m0, mO M 0 (xrm - 1) xsv xln xat xer xwr xwd xlo xhi xwl xml xkl xfi xse xdn xon xtw xol xrw xgl xus xpr xmk xab), (M 1, aI (K 0) 1247 g2), (M 3, aR (K 7) 8 gH), (MH 0, aI (K 0) 1247 (gh 0)), (MH 1, aI (K 0) 1247 (gh 1)), (MH 2, aI (K 0) 1247 (gh 2)), (MH 3, aI (K 0) 1247 (gh 3)), (MH 4, aI (K 0) 1247 (gh 4)), (MH 5, aI (K 0) 1247 (gh 5)), (MH 6, aI (K 0) 1247 (gh 6)), (MH 7, aI (K 0) 1247 (gh 7))])) := by
  refine CT.start RX11 "undo" (by decide) rfl rfl (Nat.le_of_ble_eq_true rfl) ?_
  intro p9 e9 s9 m9 ag9 bl9 mt9 c9 A9 Q9 ls F G hR hl
  have hl : lv_has ls 1 [(0, .ref m0)] := hl
  refine lv_aload_n F.1 F.2.1 dX11_undo_0 rfl (lv_at hl 0 rfl) ?_
  refine ad_iconst F dX11_undo_1 ?_
  refine lv_aload_n F.1 F.2.1 dX11_undo_2 rfl (lv_at hl 0 rfl) ?_
  refine ad_get F G fl_X11_92 0 rfl rfl dX11_undo_3 ?_
  refine ad_if_ne (tgt := 13) F (by omega) dX11_undo_6 (by decide) (fun cc_1 => ?_) (fun cc_1 => ?_)
  · refine ad_iconst F dX11_undo_13 ?_
    refine ad_callV (As := [.int (iI 1), .int (iI 0)]) (rest := []) F G (c_X11_fails_0 l D K z0 m0 M xth xrm xsv xln xat xer xwr xwd xlo xhi xwl xml xkl xfi xse xdn xon xtw xol xrw xgl xus xpr xmk xab 1 (by omega)) my_X11_fails mv_X11_111 (wr := [(M 1, aI (K 0) 1247 g), (M 3, aR (K 7) 8 gH), (MH 0, aI (K 0) 1247 (gh 0)), (MH 1, aI (K 0) 1247 (gh 1)), (MH 2, aI (K 0) 1247 (gh 2)), (MH 3, aI (K 0) 1247 (gh 3)), (MH 4, aI (K 0) 1247 (gh 4)), (MH 5, aI (K 0) 1247 (gh 5)), (MH 6, aI (K 0) 1247 (gh 6)), (MH 7, aI (K 0) 1247 (gh 7))]) (isC := [0]) (isR := [1, 2, 3, 4, 5, 6, 7, 8, 9, 10]) ⟨rfl, rfl, rfl, rfl, by decide⟩ 11 0 rfl rfl rfl rfl ⟨Nat.le_of_ble_eq_true rfl, Nat.le_of_ble_eq_true rfl⟩ ⟨Nat.le_of_ble_eq_true rfl, Nat.le_of_ble_eq_true rfl⟩ (Nat.le_of_ble_eq_true rfl) hl.1 (cells9 := 0) (slots9 := 0) ⟨rfl, rfl⟩ dX11_undo_14 (fun v u H locs hw_2 G => ?_)
    obtain ⟨rfl, rfl⟩ := hw_2
    replace G := G.perm (ws' := [(m0, mO M 0 xrm xsv xln xat xer xwr xwd xlo xhi xwl xml xkl xfi xse xdn xon xtw xol xrw xgl xus xpr xmk xab), (M 1, aI (K 0) 1247 g), (M 3, aR (K 7) 8 gH), (MH 0, aI (K 0) 1247 (gh 0)), (MH 1, aI (K 0) 1247 (gh 1)), (MH 2, aI (K 0) 1247 (gh 2)), (MH 3, aI (K 0) 1247 (gh 3)), (MH 4, aI (K 0) 1247 (gh 4)), (MH 5, aI (K 0) 1247 (gh 5)), (MH 6, aI (K 0) 1247 (gh 6)), (MH 7, aI (K 0) 1247 (gh 7))]) [10, 0, 1, 2, 3, 4, 5, 6, 7, 8, 9] rfl rfl
    refine W.eq (g2 := F0 m9 17 ls [.int (iI 0)]) rfl ?_
    refine ad_if_eq (tgt := 22) F (by decide) dX11_undo_17 (by decide) (fun _ => ?_) (fun cc_3 => absurd cc_3 (by decide))
    rcases (show xrm = 1 ∨ xrm = 2 ∨ xrm = 3 ∨ xrm = 4 ∨ xrm = 5 ∨ xrm = 6 ∨ xrm = 7 ∨ xrm = 8 by omega) with rfl | rfl | rfl | rfl | rfl | rfl | rfl | rfl
    · refine lv_aload_n F.1 F.2.1 dX11_undo_22 rfl (lv_at hl 0 rfl) ?_
      refine lv_dup F.1 F.2.1 dX11_undo_23 rfl ?_
      refine ad_get F G fl_X11_92 0 rfl rfl dX11_undo_24 ?_
      refine ad_iconst F dX11_undo_27 ?_
      refine ad_isub F dX11_undo_28 ?_
      refine ad_topi (y := 0) (by omega) ?_
      refine ad_put F G fl_X11_92 0 rfl rfl rfl (Nat.le_of_ble_eq_true rfl) (ws' := [(m0, mO M 0 0 xsv xln xat xer xwr xwd xlo xhi xwl xml xkl xfi xse xdn xon xtw xol xrw xgl xus xpr xmk xab), (M 1, aI (K 0) 1247 g), (M 3, aR (K 7) 8 gH), (MH 0, aI (K 0) 1247 (gh 0)), (MH 1, aI (K 0) 1247 (gh 1)), (MH 2, aI (K 0) 1247 (gh 2)), (MH 3, aI (K 0) 1247 (gh 3)), (MH 4, aI (K 0) 1247 (gh 4)), (MH 5, aI (K 0) 1247 (gh 5)), (MH 6, aI (K 0) 1247 (gh 6)), (MH 7, aI (K 0) 1247 (gh 7))]) rfl dX11_undo_29 (fun H locs G => ?_)
      refine lv_aload_n F.1 F.2.1 dX11_undo_32 rfl (lv_at hl 0 rfl) ?_
      refine ad_get F G fl_X11_18 0 rfl rfl dX11_undo_33 ?_
      refine lv_aload_n F.1 F.2.1 dX11_undo_36 rfl (lv_at hl 0 rfl) ?_
      refine ad_get F G fl_X11_92 0 rfl rfl dX11_undo_37 ?_
      refine ad_aaldA F G 2 7 rfl rfl (w := (MH 0)) (by omega) (hH 0 (by decide)) dX11_undo_40 ?_
      refine lv_aload_n F.1 F.2.1 dX11_undo_41 rfl (lv_at hl 0 rfl) ?_
      refine ad_get F G fl_X11_9 0 rfl rfl dX11_undo_42 ?_
      refine ad_callS (As := [.ref (MH 0), .ref (M 1)]) (rest := []) F G (c_X11_copyRow l D K z0 (MH 0) (M 1) (gh 0) g ) my_X11_copyRow ms_X11_95 (wr := [(m0, mO M 0 0 xsv xln xat xer xwr xwd xlo xhi xwl xml xkl xfi xse xdn xon xtw xol xrw xgl xus xpr xmk xab), (M 3, aR (K 7) 8 gH), (MH 1, aI (K 0) 1247 (gh 1)), (MH 2, aI (K 0) 1247 (gh 2)), (MH 3, aI (K 0) 1247 (gh 3)), (MH 4, aI (K 0) 1247 (gh 4)), (MH 5, aI (K 0) 1247 (gh 5)), (MH 6, aI (K 0) 1247 (gh 6)), (MH 7, aI (K 0) 1247 (gh 7))]) (isC := [3, 1]) (isR := [0, 2, 4, 5, 6, 7, 8, 9, 10]) ⟨rfl, rfl, rfl, rfl, by decide⟩ rfl rfl ⟨Nat.le_of_ble_eq_true rfl, Nat.le_of_ble_eq_true rfl⟩ ⟨Nat.le_of_ble_eq_true rfl, Nat.le_of_ble_eq_true rfl⟩ (Nat.le_of_ble_eq_true rfl) hl.1 (cells9 := 0) (slots9 := 0) ⟨rfl, rfl⟩ dX11_undo_45 (fun v u H locs hw_5 G => ?_)
      obtain ⟨g3_6, rfl, hc_7, rfl⟩ := hw_5
      replace G := G.perm (ws' := [(m0, mO M 0 0 xsv xln xat xer xwr xwd xlo xhi xwl xml xkl xfi xse xdn xon xtw xol xrw xgl xus xpr xmk xab), ((M 1), aI (K 0) 1247 g3_6), (M 3, aR (K 7) 8 gH), ((MH 0), aI (K 0) 1247 (gh 0)), (MH 1, aI (K 0) 1247 (gh 1)), (MH 2, aI (K 0) 1247 (gh 2)), (MH 3, aI (K 0) 1247 (gh 3)), (MH 4, aI (K 0) 1247 (gh 4)), (MH 5, aI (K 0) 1247 (gh 5)), (MH 6, aI (K 0) 1247 (gh 6)), (MH 7, aI (K 0) 1247 (gh 7))]) [0, 10, 1, 9, 2, 3, 4, 5, 6, 7, 8] rfl rfl
      refine W.eq (g2 := F0 m9 48 ls []) rfl ?_
      refine lv_aload_n F.1 F.2.1 dX11_undo_48 rfl (lv_at hl 0 rfl) ?_
      refine ad_get F G fl_X11_92 0 rfl rfl dX11_undo_49 ?_
      exact ad_ireturn F G hR rfl (Nat.le_of_ble_eq_true rfl) (Nat.le_of_ble_eq_true rfl) (Or.inr (⟨g3_6, (ad_eqi (by omega)), (by omega), ((hM0 (by omega)).1.cg (hM0 (by omega)).2.1 (hM0 (by omega)).2.2 hc_7), rfl⟩)) dX11_undo_52
    · refine lv_aload_n F.1 F.2.1 dX11_undo_22 rfl (lv_at hl 0 rfl) ?_
      refine lv_dup F.1 F.2.1 dX11_undo_23 rfl ?_
      refine ad_get F G fl_X11_92 0 rfl rfl dX11_undo_24 ?_
      refine ad_iconst F dX11_undo_27 ?_
      refine ad_isub F dX11_undo_28 ?_
      refine ad_topi (y := 1) (by omega) ?_
      refine ad_put F G fl_X11_92 0 rfl rfl rfl (Nat.le_of_ble_eq_true rfl) (ws' := [(m0, mO M 0 1 xsv xln xat xer xwr xwd xlo xhi xwl xml xkl xfi xse xdn xon xtw xol xrw xgl xus xpr xmk xab), (M 1, aI (K 0) 1247 g), (M 3, aR (K 7) 8 gH), (MH 0, aI (K 0) 1247 (gh 0)), (MH 1, aI (K 0) 1247 (gh 1)), (MH 2, aI (K 0) 1247 (gh 2)), (MH 3, aI (K 0) 1247 (gh 3)), (MH 4, aI (K 0) 1247 (gh 4)), (MH 5, aI (K 0) 1247 (gh 5)), (MH 6, aI (K 0) 1247 (gh 6)), (MH 7, aI (K 0) 1247 (gh 7))]) rfl dX11_undo_29 (fun H locs G => ?_)
      refine lv_aload_n F.1 F.2.1 dX11_undo_32 rfl (lv_at hl 0 rfl) ?_
      refine ad_get F G fl_X11_18 0 rfl rfl dX11_undo_33 ?_
      refine lv_aload_n F.1 F.2.1 dX11_undo_36 rfl (lv_at hl 0 rfl) ?_
      refine ad_get F G fl_X11_92 0 rfl rfl dX11_undo_37 ?_
      refine ad_aaldA F G 2 7 rfl rfl (w := (MH 1)) (by omega) (hH 1 (by decide)) dX11_undo_40 ?_
      refine lv_aload_n F.1 F.2.1 dX11_undo_41 rfl (lv_at hl 0 rfl) ?_
      refine ad_get F G fl_X11_9 0 rfl rfl dX11_undo_42 ?_
      refine ad_callS (As := [.ref (MH 1), .ref (M 1)]) (rest := []) F G (c_X11_copyRow l D K z0 (MH 1) (M 1) (gh 1) g ) my_X11_copyRow ms_X11_95 (wr := [(m0, mO M 0 1 xsv xln xat xer xwr xwd xlo xhi xwl xml xkl xfi xse xdn xon xtw xol xrw xgl xus xpr xmk xab), (M 3, aR (K 7) 8 gH), (MH 0, aI (K 0) 1247 (gh 0)), (MH 2, aI (K 0) 1247 (gh 2)), (MH 3, aI (K 0) 1247 (gh 3)), (MH 4, aI (K 0) 1247 (gh 4)), (MH 5, aI (K 0) 1247 (gh 5)), (MH 6, aI (K 0) 1247 (gh 6)), (MH 7, aI (K 0) 1247 (gh 7))]) (isC := [4, 1]) (isR := [0, 2, 3, 5, 6, 7, 8, 9, 10]) ⟨rfl, rfl, rfl, rfl, by decide⟩ rfl rfl ⟨Nat.le_of_ble_eq_true rfl, Nat.le_of_ble_eq_true rfl⟩ ⟨Nat.le_of_ble_eq_true rfl, Nat.le_of_ble_eq_true rfl⟩ (Nat.le_of_ble_eq_true rfl) hl.1 (cells9 := 0) (slots9 := 0) ⟨rfl, rfl⟩ dX11_undo_45 (fun v u H locs hw_8 G => ?_)
      obtain ⟨g3_9, rfl, hc_10, rfl⟩ := hw_8
      replace G := G.perm (ws' := [(m0, mO M 0 1 xsv xln xat xer xwr xwd xlo xhi xwl xml xkl xfi xse xdn xon xtw xol xrw xgl xus xpr xmk xab), ((M 1), aI (K 0) 1247 g3_9), (M 3, aR (K 7) 8 gH), (MH 0, aI (K 0) 1247 (gh 0)), ((MH 1), aI (K 0) 1247 (gh 1)), (MH 2, aI (K 0) 1247 (gh 2)), (MH 3, aI (K 0) 1247 (gh 3)), (MH 4, aI (K 0) 1247 (gh 4)), (MH 5, aI (K 0) 1247 (gh 5)), (MH 6, aI (K 0) 1247 (gh 6)), (MH 7, aI (K 0) 1247 (gh 7))]) [0, 10, 1, 2, 9, 3, 4, 5, 6, 7, 8] rfl rfl
      refine W.eq (g2 := F0 m9 48 ls []) rfl ?_
      refine lv_aload_n F.1 F.2.1 dX11_undo_48 rfl (lv_at hl 0 rfl) ?_
      refine ad_get F G fl_X11_92 0 rfl rfl dX11_undo_49 ?_
      exact ad_ireturn F G hR rfl (Nat.le_of_ble_eq_true rfl) (Nat.le_of_ble_eq_true rfl) (Or.inr (⟨g3_9, (ad_eqi (by omega)), (by omega), ((hM0 (by omega)).1.cg (hM0 (by omega)).2.1 (hM0 (by omega)).2.2 hc_10), rfl⟩)) dX11_undo_52
    · refine lv_aload_n F.1 F.2.1 dX11_undo_22 rfl (lv_at hl 0 rfl) ?_
      refine lv_dup F.1 F.2.1 dX11_undo_23 rfl ?_
      refine ad_get F G fl_X11_92 0 rfl rfl dX11_undo_24 ?_
      refine ad_iconst F dX11_undo_27 ?_
      refine ad_isub F dX11_undo_28 ?_
      refine ad_topi (y := 2) (by omega) ?_
      refine ad_put F G fl_X11_92 0 rfl rfl rfl (Nat.le_of_ble_eq_true rfl) (ws' := [(m0, mO M 0 2 xsv xln xat xer xwr xwd xlo xhi xwl xml xkl xfi xse xdn xon xtw xol xrw xgl xus xpr xmk xab), (M 1, aI (K 0) 1247 g), (M 3, aR (K 7) 8 gH), (MH 0, aI (K 0) 1247 (gh 0)), (MH 1, aI (K 0) 1247 (gh 1)), (MH 2, aI (K 0) 1247 (gh 2)), (MH 3, aI (K 0) 1247 (gh 3)), (MH 4, aI (K 0) 1247 (gh 4)), (MH 5, aI (K 0) 1247 (gh 5)), (MH 6, aI (K 0) 1247 (gh 6)), (MH 7, aI (K 0) 1247 (gh 7))]) rfl dX11_undo_29 (fun H locs G => ?_)
      refine lv_aload_n F.1 F.2.1 dX11_undo_32 rfl (lv_at hl 0 rfl) ?_
      refine ad_get F G fl_X11_18 0 rfl rfl dX11_undo_33 ?_
      refine lv_aload_n F.1 F.2.1 dX11_undo_36 rfl (lv_at hl 0 rfl) ?_
      refine ad_get F G fl_X11_92 0 rfl rfl dX11_undo_37 ?_
      refine ad_aaldA F G 2 7 rfl rfl (w := (MH 2)) (by omega) (hH 2 (by decide)) dX11_undo_40 ?_
      refine lv_aload_n F.1 F.2.1 dX11_undo_41 rfl (lv_at hl 0 rfl) ?_
      refine ad_get F G fl_X11_9 0 rfl rfl dX11_undo_42 ?_
      refine ad_callS (As := [.ref (MH 2), .ref (M 1)]) (rest := []) F G (c_X11_copyRow l D K z0 (MH 2) (M 1) (gh 2) g ) my_X11_copyRow ms_X11_95 (wr := [(m0, mO M 0 2 xsv xln xat xer xwr xwd xlo xhi xwl xml xkl xfi xse xdn xon xtw xol xrw xgl xus xpr xmk xab), (M 3, aR (K 7) 8 gH), (MH 0, aI (K 0) 1247 (gh 0)), (MH 1, aI (K 0) 1247 (gh 1)), (MH 3, aI (K 0) 1247 (gh 3)), (MH 4, aI (K 0) 1247 (gh 4)), (MH 5, aI (K 0) 1247 (gh 5)), (MH 6, aI (K 0) 1247 (gh 6)), (MH 7, aI (K 0) 1247 (gh 7))]) (isC := [5, 1]) (isR := [0, 2, 3, 4, 6, 7, 8, 9, 10]) ⟨rfl, rfl, rfl, rfl, by decide⟩ rfl rfl ⟨Nat.le_of_ble_eq_true rfl, Nat.le_of_ble_eq_true rfl⟩ ⟨Nat.le_of_ble_eq_true rfl, Nat.le_of_ble_eq_true rfl⟩ (Nat.le_of_ble_eq_true rfl) hl.1 (cells9 := 0) (slots9 := 0) ⟨rfl, rfl⟩ dX11_undo_45 (fun v u H locs hw_11 G => ?_)
      obtain ⟨g3_12, rfl, hc_13, rfl⟩ := hw_11
      replace G := G.perm (ws' := [(m0, mO M 0 2 xsv xln xat xer xwr xwd xlo xhi xwl xml xkl xfi xse xdn xon xtw xol xrw xgl xus xpr xmk xab), ((M 1), aI (K 0) 1247 g3_12), (M 3, aR (K 7) 8 gH), (MH 0, aI (K 0) 1247 (gh 0)), (MH 1, aI (K 0) 1247 (gh 1)), ((MH 2), aI (K 0) 1247 (gh 2)), (MH 3, aI (K 0) 1247 (gh 3)), (MH 4, aI (K 0) 1247 (gh 4)), (MH 5, aI (K 0) 1247 (gh 5)), (MH 6, aI (K 0) 1247 (gh 6)), (MH 7, aI (K 0) 1247 (gh 7))]) [0, 10, 1, 2, 3, 9, 4, 5, 6, 7, 8] rfl rfl
      refine W.eq (g2 := F0 m9 48 ls []) rfl ?_
      refine lv_aload_n F.1 F.2.1 dX11_undo_48 rfl (lv_at hl 0 rfl) ?_
      refine ad_get F G fl_X11_92 0 rfl rfl dX11_undo_49 ?_
      exact ad_ireturn F G hR rfl (Nat.le_of_ble_eq_true rfl) (Nat.le_of_ble_eq_true rfl) (Or.inr (⟨g3_12, (ad_eqi (by omega)), (by omega), ((hM0 (by omega)).1.cg (hM0 (by omega)).2.1 (hM0 (by omega)).2.2 hc_13), rfl⟩)) dX11_undo_52
    · refine lv_aload_n F.1 F.2.1 dX11_undo_22 rfl (lv_at hl 0 rfl) ?_
      refine lv_dup F.1 F.2.1 dX11_undo_23 rfl ?_
      refine ad_get F G fl_X11_92 0 rfl rfl dX11_undo_24 ?_
      refine ad_iconst F dX11_undo_27 ?_
      refine ad_isub F dX11_undo_28 ?_
      refine ad_topi (y := 3) (by omega) ?_
      refine ad_put F G fl_X11_92 0 rfl rfl rfl (Nat.le_of_ble_eq_true rfl) (ws' := [(m0, mO M 0 3 xsv xln xat xer xwr xwd xlo xhi xwl xml xkl xfi xse xdn xon xtw xol xrw xgl xus xpr xmk xab), (M 1, aI (K 0) 1247 g), (M 3, aR (K 7) 8 gH), (MH 0, aI (K 0) 1247 (gh 0)), (MH 1, aI (K 0) 1247 (gh 1)), (MH 2, aI (K 0) 1247 (gh 2)), (MH 3, aI (K 0) 1247 (gh 3)), (MH 4, aI (K 0) 1247 (gh 4)), (MH 5, aI (K 0) 1247 (gh 5)), (MH 6, aI (K 0) 1247 (gh 6)), (MH 7, aI (K 0) 1247 (gh 7))]) rfl dX11_undo_29 (fun H locs G => ?_)
      refine lv_aload_n F.1 F.2.1 dX11_undo_32 rfl (lv_at hl 0 rfl) ?_
      refine ad_get F G fl_X11_18 0 rfl rfl dX11_undo_33 ?_
      refine lv_aload_n F.1 F.2.1 dX11_undo_36 rfl (lv_at hl 0 rfl) ?_
      refine ad_get F G fl_X11_92 0 rfl rfl dX11_undo_37 ?_
      refine ad_aaldA F G 2 7 rfl rfl (w := (MH 3)) (by omega) (hH 3 (by decide)) dX11_undo_40 ?_
      refine lv_aload_n F.1 F.2.1 dX11_undo_41 rfl (lv_at hl 0 rfl) ?_
      refine ad_get F G fl_X11_9 0 rfl rfl dX11_undo_42 ?_
      refine ad_callS (As := [.ref (MH 3), .ref (M 1)]) (rest := []) F G (c_X11_copyRow l D K z0 (MH 3) (M 1) (gh 3) g ) my_X11_copyRow ms_X11_95 (wr := [(m0, mO M 0 3 xsv xln xat xer xwr xwd xlo xhi xwl xml xkl xfi xse xdn xon xtw xol xrw xgl xus xpr xmk xab), (M 3, aR (K 7) 8 gH), (MH 0, aI (K 0) 1247 (gh 0)), (MH 1, aI (K 0) 1247 (gh 1)), (MH 2, aI (K 0) 1247 (gh 2)), (MH 4, aI (K 0) 1247 (gh 4)), (MH 5, aI (K 0) 1247 (gh 5)), (MH 6, aI (K 0) 1247 (gh 6)), (MH 7, aI (K 0) 1247 (gh 7))]) (isC := [6, 1]) (isR := [0, 2, 3, 4, 5, 7, 8, 9, 10]) ⟨rfl, rfl, rfl, rfl, by decide⟩ rfl rfl ⟨Nat.le_of_ble_eq_true rfl, Nat.le_of_ble_eq_true rfl⟩ ⟨Nat.le_of_ble_eq_true rfl, Nat.le_of_ble_eq_true rfl⟩ (Nat.le_of_ble_eq_true rfl) hl.1 (cells9 := 0) (slots9 := 0) ⟨rfl, rfl⟩ dX11_undo_45 (fun v u H locs hw_14 G => ?_)
      obtain ⟨g3_15, rfl, hc_16, rfl⟩ := hw_14
      replace G := G.perm (ws' := [(m0, mO M 0 3 xsv xln xat xer xwr xwd xlo xhi xwl xml xkl xfi xse xdn xon xtw xol xrw xgl xus xpr xmk xab), ((M 1), aI (K 0) 1247 g3_15), (M 3, aR (K 7) 8 gH), (MH 0, aI (K 0) 1247 (gh 0)), (MH 1, aI (K 0) 1247 (gh 1)), (MH 2, aI (K 0) 1247 (gh 2)), ((MH 3), aI (K 0) 1247 (gh 3)), (MH 4, aI (K 0) 1247 (gh 4)), (MH 5, aI (K 0) 1247 (gh 5)), (MH 6, aI (K 0) 1247 (gh 6)), (MH 7, aI (K 0) 1247 (gh 7))]) [0, 10, 1, 2, 3, 4, 9, 5, 6, 7, 8] rfl rfl
      refine W.eq (g2 := F0 m9 48 ls []) rfl ?_
      refine lv_aload_n F.1 F.2.1 dX11_undo_48 rfl (lv_at hl 0 rfl) ?_
      refine ad_get F G fl_X11_92 0 rfl rfl dX11_undo_49 ?_
      exact ad_ireturn F G hR rfl (Nat.le_of_ble_eq_true rfl) (Nat.le_of_ble_eq_true rfl) (Or.inr (⟨g3_15, (ad_eqi (by omega)), (by omega), ((hM0 (by omega)).1.cg (hM0 (by omega)).2.1 (hM0 (by omega)).2.2 hc_16), rfl⟩)) dX11_undo_52
    · refine lv_aload_n F.1 F.2.1 dX11_undo_22 rfl (lv_at hl 0 rfl) ?_
      refine lv_dup F.1 F.2.1 dX11_undo_23 rfl ?_
      refine ad_get F G fl_X11_92 0 rfl rfl dX11_undo_24 ?_
      refine ad_iconst F dX11_undo_27 ?_
      refine ad_isub F dX11_undo_28 ?_
      refine ad_topi (y := 4) (by omega) ?_
      refine ad_put F G fl_X11_92 0 rfl rfl rfl (Nat.le_of_ble_eq_true rfl) (ws' := [(m0, mO M 0 4 xsv xln xat xer xwr xwd xlo xhi xwl xml xkl xfi xse xdn xon xtw xol xrw xgl xus xpr xmk xab), (M 1, aI (K 0) 1247 g), (M 3, aR (K 7) 8 gH), (MH 0, aI (K 0) 1247 (gh 0)), (MH 1, aI (K 0) 1247 (gh 1)), (MH 2, aI (K 0) 1247 (gh 2)), (MH 3, aI (K 0) 1247 (gh 3)), (MH 4, aI (K 0) 1247 (gh 4)), (MH 5, aI (K 0) 1247 (gh 5)), (MH 6, aI (K 0) 1247 (gh 6)), (MH 7, aI (K 0) 1247 (gh 7))]) rfl dX11_undo_29 (fun H locs G => ?_)
      refine lv_aload_n F.1 F.2.1 dX11_undo_32 rfl (lv_at hl 0 rfl) ?_
      refine ad_get F G fl_X11_18 0 rfl rfl dX11_undo_33 ?_
      refine lv_aload_n F.1 F.2.1 dX11_undo_36 rfl (lv_at hl 0 rfl) ?_
      refine ad_get F G fl_X11_92 0 rfl rfl dX11_undo_37 ?_
      refine ad_aaldA F G 2 7 rfl rfl (w := (MH 4)) (by omega) (hH 4 (by decide)) dX11_undo_40 ?_
      refine lv_aload_n F.1 F.2.1 dX11_undo_41 rfl (lv_at hl 0 rfl) ?_
      refine ad_get F G fl_X11_9 0 rfl rfl dX11_undo_42 ?_
      refine ad_callS (As := [.ref (MH 4), .ref (M 1)]) (rest := []) F G (c_X11_copyRow l D K z0 (MH 4) (M 1) (gh 4) g ) my_X11_copyRow ms_X11_95 (wr := [(m0, mO M 0 4 xsv xln xat xer xwr xwd xlo xhi xwl xml xkl xfi xse xdn xon xtw xol xrw xgl xus xpr xmk xab), (M 3, aR (K 7) 8 gH), (MH 0, aI (K 0) 1247 (gh 0)), (MH 1, aI (K 0) 1247 (gh 1)), (MH 2, aI (K 0) 1247 (gh 2)), (MH 3, aI (K 0) 1247 (gh 3)), (MH 5, aI (K 0) 1247 (gh 5)), (MH 6, aI (K 0) 1247 (gh 6)), (MH 7, aI (K 0) 1247 (gh 7))]) (isC := [7, 1]) (isR := [0, 2, 3, 4, 5, 6, 8, 9, 10]) ⟨rfl, rfl, rfl, rfl, by decide⟩ rfl rfl ⟨Nat.le_of_ble_eq_true rfl, Nat.le_of_ble_eq_true rfl⟩ ⟨Nat.le_of_ble_eq_true rfl, Nat.le_of_ble_eq_true rfl⟩ (Nat.le_of_ble_eq_true rfl) hl.1 (cells9 := 0) (slots9 := 0) ⟨rfl, rfl⟩ dX11_undo_45 (fun v u H locs hw_17 G => ?_)
      obtain ⟨g3_18, rfl, hc_19, rfl⟩ := hw_17
      replace G := G.perm (ws' := [(m0, mO M 0 4 xsv xln xat xer xwr xwd xlo xhi xwl xml xkl xfi xse xdn xon xtw xol xrw xgl xus xpr xmk xab), ((M 1), aI (K 0) 1247 g3_18), (M 3, aR (K 7) 8 gH), (MH 0, aI (K 0) 1247 (gh 0)), (MH 1, aI (K 0) 1247 (gh 1)), (MH 2, aI (K 0) 1247 (gh 2)), (MH 3, aI (K 0) 1247 (gh 3)), ((MH 4), aI (K 0) 1247 (gh 4)), (MH 5, aI (K 0) 1247 (gh 5)), (MH 6, aI (K 0) 1247 (gh 6)), (MH 7, aI (K 0) 1247 (gh 7))]) [0, 10, 1, 2, 3, 4, 5, 9, 6, 7, 8] rfl rfl
      refine W.eq (g2 := F0 m9 48 ls []) rfl ?_
      refine lv_aload_n F.1 F.2.1 dX11_undo_48 rfl (lv_at hl 0 rfl) ?_
      refine ad_get F G fl_X11_92 0 rfl rfl dX11_undo_49 ?_
      exact ad_ireturn F G hR rfl (Nat.le_of_ble_eq_true rfl) (Nat.le_of_ble_eq_true rfl) (Or.inr (⟨g3_18, (ad_eqi (by omega)), (by omega), ((hM0 (by omega)).1.cg (hM0 (by omega)).2.1 (hM0 (by omega)).2.2 hc_19), rfl⟩)) dX11_undo_52
    · refine lv_aload_n F.1 F.2.1 dX11_undo_22 rfl (lv_at hl 0 rfl) ?_
      refine lv_dup F.1 F.2.1 dX11_undo_23 rfl ?_
      refine ad_get F G fl_X11_92 0 rfl rfl dX11_undo_24 ?_
      refine ad_iconst F dX11_undo_27 ?_
      refine ad_isub F dX11_undo_28 ?_
      refine ad_topi (y := 5) (by omega) ?_
      refine ad_put F G fl_X11_92 0 rfl rfl rfl (Nat.le_of_ble_eq_true rfl) (ws' := [(m0, mO M 0 5 xsv xln xat xer xwr xwd xlo xhi xwl xml xkl xfi xse xdn xon xtw xol xrw xgl xus xpr xmk xab), (M 1, aI (K 0) 1247 g), (M 3, aR (K 7) 8 gH), (MH 0, aI (K 0) 1247 (gh 0)), (MH 1, aI (K 0) 1247 (gh 1)), (MH 2, aI (K 0) 1247 (gh 2)), (MH 3, aI (K 0) 1247 (gh 3)), (MH 4, aI (K 0) 1247 (gh 4)), (MH 5, aI (K 0) 1247 (gh 5)), (MH 6, aI (K 0) 1247 (gh 6)), (MH 7, aI (K 0) 1247 (gh 7))]) rfl dX11_undo_29 (fun H locs G => ?_)
      refine lv_aload_n F.1 F.2.1 dX11_undo_32 rfl (lv_at hl 0 rfl) ?_
      refine ad_get F G fl_X11_18 0 rfl rfl dX11_undo_33 ?_
      refine lv_aload_n F.1 F.2.1 dX11_undo_36 rfl (lv_at hl 0 rfl) ?_
      refine ad_get F G fl_X11_92 0 rfl rfl dX11_undo_37 ?_
      refine ad_aaldA F G 2 7 rfl rfl (w := (MH 5)) (by omega) (hH 5 (by decide)) dX11_undo_40 ?_
      refine lv_aload_n F.1 F.2.1 dX11_undo_41 rfl (lv_at hl 0 rfl) ?_
      refine ad_get F G fl_X11_9 0 rfl rfl dX11_undo_42 ?_
      refine ad_callS (As := [.ref (MH 5), .ref (M 1)]) (rest := []) F G (c_X11_copyRow l D K z0 (MH 5) (M 1) (gh 5) g ) my_X11_copyRow ms_X11_95 (wr := [(m0, mO M 0 5 xsv xln xat xer xwr xwd xlo xhi xwl xml xkl xfi xse xdn xon xtw xol xrw xgl xus xpr xmk xab), (M 3, aR (K 7) 8 gH), (MH 0, aI (K 0) 1247 (gh 0)), (MH 1, aI (K 0) 1247 (gh 1)), (MH 2, aI (K 0) 1247 (gh 2)), (MH 3, aI (K 0) 1247 (gh 3)), (MH 4, aI (K 0) 1247 (gh 4)), (MH 6, aI (K 0) 1247 (gh 6)), (MH 7, aI (K 0) 1247 (gh 7))]) (isC := [8, 1]) (isR := [0, 2, 3, 4, 5, 6, 7, 9, 10]) ⟨rfl, rfl, rfl, rfl, by decide⟩ rfl rfl ⟨Nat.le_of_ble_eq_true rfl, Nat.le_of_ble_eq_true rfl⟩ ⟨Nat.le_of_ble_eq_true rfl, Nat.le_of_ble_eq_true rfl⟩ (Nat.le_of_ble_eq_true rfl) hl.1 (cells9 := 0) (slots9 := 0) ⟨rfl, rfl⟩ dX11_undo_45 (fun v u H locs hw_20 G => ?_)
      obtain ⟨g3_21, rfl, hc_22, rfl⟩ := hw_20
      replace G := G.perm (ws' := [(m0, mO M 0 5 xsv xln xat xer xwr xwd xlo xhi xwl xml xkl xfi xse xdn xon xtw xol xrw xgl xus xpr xmk xab), ((M 1), aI (K 0) 1247 g3_21), (M 3, aR (K 7) 8 gH), (MH 0, aI (K 0) 1247 (gh 0)), (MH 1, aI (K 0) 1247 (gh 1)), (MH 2, aI (K 0) 1247 (gh 2)), (MH 3, aI (K 0) 1247 (gh 3)), (MH 4, aI (K 0) 1247 (gh 4)), ((MH 5), aI (K 0) 1247 (gh 5)), (MH 6, aI (K 0) 1247 (gh 6)), (MH 7, aI (K 0) 1247 (gh 7))]) [0, 10, 1, 2, 3, 4, 5, 6, 9, 7, 8] rfl rfl
      refine W.eq (g2 := F0 m9 48 ls []) rfl ?_
      refine lv_aload_n F.1 F.2.1 dX11_undo_48 rfl (lv_at hl 0 rfl) ?_
      refine ad_get F G fl_X11_92 0 rfl rfl dX11_undo_49 ?_
      exact ad_ireturn F G hR rfl (Nat.le_of_ble_eq_true rfl) (Nat.le_of_ble_eq_true rfl) (Or.inr (⟨g3_21, (ad_eqi (by omega)), (by omega), ((hM0 (by omega)).1.cg (hM0 (by omega)).2.1 (hM0 (by omega)).2.2 hc_22), rfl⟩)) dX11_undo_52
    · refine lv_aload_n F.1 F.2.1 dX11_undo_22 rfl (lv_at hl 0 rfl) ?_
      refine lv_dup F.1 F.2.1 dX11_undo_23 rfl ?_
      refine ad_get F G fl_X11_92 0 rfl rfl dX11_undo_24 ?_
      refine ad_iconst F dX11_undo_27 ?_
      refine ad_isub F dX11_undo_28 ?_
      refine ad_topi (y := 6) (by omega) ?_
      refine ad_put F G fl_X11_92 0 rfl rfl rfl (Nat.le_of_ble_eq_true rfl) (ws' := [(m0, mO M 0 6 xsv xln xat xer xwr xwd xlo xhi xwl xml xkl xfi xse xdn xon xtw xol xrw xgl xus xpr xmk xab), (M 1, aI (K 0) 1247 g), (M 3, aR (K 7) 8 gH), (MH 0, aI (K 0) 1247 (gh 0)), (MH 1, aI (K 0) 1247 (gh 1)), (MH 2, aI (K 0) 1247 (gh 2)), (MH 3, aI (K 0) 1247 (gh 3)), (MH 4, aI (K 0) 1247 (gh 4)), (MH 5, aI (K 0) 1247 (gh 5)), (MH 6, aI (K 0) 1247 (gh 6)), (MH 7, aI (K 0) 1247 (gh 7))]) rfl dX11_undo_29 (fun H locs G => ?_)
      refine lv_aload_n F.1 F.2.1 dX11_undo_32 rfl (lv_at hl 0 rfl) ?_
      refine ad_get F G fl_X11_18 0 rfl rfl dX11_undo_33 ?_
      refine lv_aload_n F.1 F.2.1 dX11_undo_36 rfl (lv_at hl 0 rfl) ?_
      refine ad_get F G fl_X11_92 0 rfl rfl dX11_undo_37 ?_
      refine ad_aaldA F G 2 7 rfl rfl (w := (MH 6)) (by omega) (hH 6 (by decide)) dX11_undo_40 ?_
      refine lv_aload_n F.1 F.2.1 dX11_undo_41 rfl (lv_at hl 0 rfl) ?_
      refine ad_get F G fl_X11_9 0 rfl rfl dX11_undo_42 ?_
      refine ad_callS (As := [.ref (MH 6), .ref (M 1)]) (rest := []) F G (c_X11_copyRow l D K z0 (MH 6) (M 1) (gh 6) g ) my_X11_copyRow ms_X11_95 (wr := [(m0, mO M 0 6 xsv xln xat xer xwr xwd xlo xhi xwl xml xkl xfi xse xdn xon xtw xol xrw xgl xus xpr xmk xab), (M 3, aR (K 7) 8 gH), (MH 0, aI (K 0) 1247 (gh 0)), (MH 1, aI (K 0) 1247 (gh 1)), (MH 2, aI (K 0) 1247 (gh 2)), (MH 3, aI (K 0) 1247 (gh 3)), (MH 4, aI (K 0) 1247 (gh 4)), (MH 5, aI (K 0) 1247 (gh 5)), (MH 7, aI (K 0) 1247 (gh 7))]) (isC := [9, 1]) (isR := [0, 2, 3, 4, 5, 6, 7, 8, 10]) ⟨rfl, rfl, rfl, rfl, by decide⟩ rfl rfl ⟨Nat.le_of_ble_eq_true rfl, Nat.le_of_ble_eq_true rfl⟩ ⟨Nat.le_of_ble_eq_true rfl, Nat.le_of_ble_eq_true rfl⟩ (Nat.le_of_ble_eq_true rfl) hl.1 (cells9 := 0) (slots9 := 0) ⟨rfl, rfl⟩ dX11_undo_45 (fun v u H locs hw_23 G => ?_)
      obtain ⟨g3_24, rfl, hc_25, rfl⟩ := hw_23
      replace G := G.perm (ws' := [(m0, mO M 0 6 xsv xln xat xer xwr xwd xlo xhi xwl xml xkl xfi xse xdn xon xtw xol xrw xgl xus xpr xmk xab), ((M 1), aI (K 0) 1247 g3_24), (M 3, aR (K 7) 8 gH), (MH 0, aI (K 0) 1247 (gh 0)), (MH 1, aI (K 0) 1247 (gh 1)), (MH 2, aI (K 0) 1247 (gh 2)), (MH 3, aI (K 0) 1247 (gh 3)), (MH 4, aI (K 0) 1247 (gh 4)), (MH 5, aI (K 0) 1247 (gh 5)), ((MH 6), aI (K 0) 1247 (gh 6)), (MH 7, aI (K 0) 1247 (gh 7))]) [0, 10, 1, 2, 3, 4, 5, 6, 7, 9, 8] rfl rfl
      refine W.eq (g2 := F0 m9 48 ls []) rfl ?_
      refine lv_aload_n F.1 F.2.1 dX11_undo_48 rfl (lv_at hl 0 rfl) ?_
      refine ad_get F G fl_X11_92 0 rfl rfl dX11_undo_49 ?_
      exact ad_ireturn F G hR rfl (Nat.le_of_ble_eq_true rfl) (Nat.le_of_ble_eq_true rfl) (Or.inr (⟨g3_24, (ad_eqi (by omega)), (by omega), ((hM0 (by omega)).1.cg (hM0 (by omega)).2.1 (hM0 (by omega)).2.2 hc_25), rfl⟩)) dX11_undo_52
    · refine lv_aload_n F.1 F.2.1 dX11_undo_22 rfl (lv_at hl 0 rfl) ?_
      refine lv_dup F.1 F.2.1 dX11_undo_23 rfl ?_
      refine ad_get F G fl_X11_92 0 rfl rfl dX11_undo_24 ?_
      refine ad_iconst F dX11_undo_27 ?_
      refine ad_isub F dX11_undo_28 ?_
      refine ad_topi (y := 7) (by omega) ?_
      refine ad_put F G fl_X11_92 0 rfl rfl rfl (Nat.le_of_ble_eq_true rfl) (ws' := [(m0, mO M 0 7 xsv xln xat xer xwr xwd xlo xhi xwl xml xkl xfi xse xdn xon xtw xol xrw xgl xus xpr xmk xab), (M 1, aI (K 0) 1247 g), (M 3, aR (K 7) 8 gH), (MH 0, aI (K 0) 1247 (gh 0)), (MH 1, aI (K 0) 1247 (gh 1)), (MH 2, aI (K 0) 1247 (gh 2)), (MH 3, aI (K 0) 1247 (gh 3)), (MH 4, aI (K 0) 1247 (gh 4)), (MH 5, aI (K 0) 1247 (gh 5)), (MH 6, aI (K 0) 1247 (gh 6)), (MH 7, aI (K 0) 1247 (gh 7))]) rfl dX11_undo_29 (fun H locs G => ?_)
      refine lv_aload_n F.1 F.2.1 dX11_undo_32 rfl (lv_at hl 0 rfl) ?_
      refine ad_get F G fl_X11_18 0 rfl rfl dX11_undo_33 ?_
      refine lv_aload_n F.1 F.2.1 dX11_undo_36 rfl (lv_at hl 0 rfl) ?_
      refine ad_get F G fl_X11_92 0 rfl rfl dX11_undo_37 ?_
      refine ad_aaldA F G 2 7 rfl rfl (w := (MH 7)) (by omega) (hH 7 (by decide)) dX11_undo_40 ?_
      refine lv_aload_n F.1 F.2.1 dX11_undo_41 rfl (lv_at hl 0 rfl) ?_
      refine ad_get F G fl_X11_9 0 rfl rfl dX11_undo_42 ?_
      refine ad_callS (As := [.ref (MH 7), .ref (M 1)]) (rest := []) F G (c_X11_copyRow l D K z0 (MH 7) (M 1) (gh 7) g ) my_X11_copyRow ms_X11_95 (wr := [(m0, mO M 0 7 xsv xln xat xer xwr xwd xlo xhi xwl xml xkl xfi xse xdn xon xtw xol xrw xgl xus xpr xmk xab), (M 3, aR (K 7) 8 gH), (MH 0, aI (K 0) 1247 (gh 0)), (MH 1, aI (K 0) 1247 (gh 1)), (MH 2, aI (K 0) 1247 (gh 2)), (MH 3, aI (K 0) 1247 (gh 3)), (MH 4, aI (K 0) 1247 (gh 4)), (MH 5, aI (K 0) 1247 (gh 5)), (MH 6, aI (K 0) 1247 (gh 6))]) (isC := [10, 1]) (isR := [0, 2, 3, 4, 5, 6, 7, 8, 9]) ⟨rfl, rfl, rfl, rfl, by decide⟩ rfl rfl ⟨Nat.le_of_ble_eq_true rfl, Nat.le_of_ble_eq_true rfl⟩ ⟨Nat.le_of_ble_eq_true rfl, Nat.le_of_ble_eq_true rfl⟩ (Nat.le_of_ble_eq_true rfl) hl.1 (cells9 := 0) (slots9 := 0) ⟨rfl, rfl⟩ dX11_undo_45 (fun v u H locs hw_26 G => ?_)
      obtain ⟨g3_27, rfl, hc_28, rfl⟩ := hw_26
      replace G := G.perm (ws' := [(m0, mO M 0 7 xsv xln xat xer xwr xwd xlo xhi xwl xml xkl xfi xse xdn xon xtw xol xrw xgl xus xpr xmk xab), ((M 1), aI (K 0) 1247 g3_27), (M 3, aR (K 7) 8 gH), (MH 0, aI (K 0) 1247 (gh 0)), (MH 1, aI (K 0) 1247 (gh 1)), (MH 2, aI (K 0) 1247 (gh 2)), (MH 3, aI (K 0) 1247 (gh 3)), (MH 4, aI (K 0) 1247 (gh 4)), (MH 5, aI (K 0) 1247 (gh 5)), (MH 6, aI (K 0) 1247 (gh 6)), ((MH 7), aI (K 0) 1247 (gh 7))]) [0, 10, 1, 2, 3, 4, 5, 6, 7, 8, 9] rfl rfl
      refine W.eq (g2 := F0 m9 48 ls []) rfl ?_
      refine lv_aload_n F.1 F.2.1 dX11_undo_48 rfl (lv_at hl 0 rfl) ?_
      refine ad_get F G fl_X11_92 0 rfl rfl dX11_undo_49 ?_
      exact ad_ireturn F G hR rfl (Nat.le_of_ble_eq_true rfl) (Nat.le_of_ble_eq_true rfl) (Or.inr (⟨g3_27, (ad_eqi (by omega)), (by omega), ((hM0 (by omega)).1.cg (hM0 (by omega)).2.1 (hM0 (by omega)).2.2 hc_28), rfl⟩)) dX11_undo_52
  · refine ad_iconst F dX11_undo_9 ?_
    refine lv_goto (tgt := 14) F.1 F.2.1 dX11_undo_10 (by decide) ?_
    refine ad_callV (As := [.int (iI 1), .int (iI 1)]) (rest := []) F G (c_X11_fails_1 l D K z0 m0 M xth xrm xsv xln xat xer xwr xwd xlo xhi xwl xml xkl xfi xse xdn xon xtw xol xrw xgl xus xpr xmk xab 1 (by omega)) my_X11_fails mv_X11_111 (wr := [(M 1, aI (K 0) 1247 g), (M 3, aR (K 7) 8 gH), (MH 0, aI (K 0) 1247 (gh 0)), (MH 1, aI (K 0) 1247 (gh 1)), (MH 2, aI (K 0) 1247 (gh 2)), (MH 3, aI (K 0) 1247 (gh 3)), (MH 4, aI (K 0) 1247 (gh 4)), (MH 5, aI (K 0) 1247 (gh 5)), (MH 6, aI (K 0) 1247 (gh 6)), (MH 7, aI (K 0) 1247 (gh 7))]) (isC := [0]) (isR := [1, 2, 3, 4, 5, 6, 7, 8, 9, 10]) ⟨rfl, rfl, rfl, rfl, by decide⟩ 11 0 rfl rfl rfl rfl ⟨Nat.le_of_ble_eq_true rfl, Nat.le_of_ble_eq_true rfl⟩ ⟨Nat.le_of_ble_eq_true rfl, Nat.le_of_ble_eq_true rfl⟩ (Nat.le_of_ble_eq_true rfl) hl.1 (cells9 := 0) (slots9 := 0) ⟨rfl, rfl⟩ dX11_undo_14 (fun v u H locs hw_29 G => ?_)
    obtain ⟨rfl, rfl⟩ := hw_29
    replace G := G.perm (ws' := [(m0, mO M 1 xrm xsv xln xat xer xwr xwd xlo xhi xwl xml xkl xfi xse xdn xon xtw xol xrw xgl xus xpr xmk xab), (M 1, aI (K 0) 1247 g), (M 3, aR (K 7) 8 gH), (MH 0, aI (K 0) 1247 (gh 0)), (MH 1, aI (K 0) 1247 (gh 1)), (MH 2, aI (K 0) 1247 (gh 2)), (MH 3, aI (K 0) 1247 (gh 3)), (MH 4, aI (K 0) 1247 (gh 4)), (MH 5, aI (K 0) 1247 (gh 5)), (MH 6, aI (K 0) 1247 (gh 6)), (MH 7, aI (K 0) 1247 (gh 7))]) [10, 0, 1, 2, 3, 4, 5, 6, 7, 8, 9] rfl rfl
    refine W.eq (g2 := F0 m9 17 ls [.int (iI 1)]) rfl ?_
    refine ad_if_eq (tgt := 22) F (by decide) dX11_undo_17 (by decide) (fun cc_30 => absurd cc_30 (by decide)) (fun _ => ?_)
    refine ad_iconst F dX11_undo_20 ?_
    exact ad_ireturn F G hR rfl (Nat.le_of_ble_eq_true rfl) (Nat.le_of_ble_eq_true rfl) (Or.inl ⟨rfl, cc_1, rfl⟩) dX11_undo_21

def rm_X11_removeRule : Room := { frames := 3, cells := 0, slots := 0, locals := 55 }
set_option maxHeartbeats 4000000 in
set_option maxRecDepth 100000 in
theorem c_X11_removeRule (l : Launch) (D : va_G) (K : Nat → ClassId) (z0 : Nat) (m0 : Nat) (M : Nat → Nat) (xth : Int) (xrm : Int) (xsv : Int) (xln : Int) (xat : Int) (xer : Int) (xwr : Int) (xwd : Int) (xlo : Int) (xhi : Int) (xwl : Int) (xml : Int) (xkl : Int) (xfi : Int) (xse : Int) (xdn : Int) (xon : Int) (xtw : Int) (xol : Int) (xrw : Int) (xgl : Int) (xus : Int) (xpr : Int) (xmk : Int) (xab : Int) (g : Nat → Int) (rs : List Rl) (ps : List Pr) (md : Int) (th : Int) (nc : Int) (MH : Nat → Nat) (gH : Nat → Option Nat) (gh : Nat → Nat → Int) (z : Int) (hM : MRow g rs ps md th nc) (hW : RW rs) (hH : ∀ j : Nat, j < 8 → gH j = some (MH j)) (hrm : 0 ≤ xrm ∧ xrm ≤ 8) (hz : -2147483648 ≤ z ∧ z < 2147483648) : CT l D K z0 yX11_removeRule cX11_removeRule 3 (some .int) rm_X11_removeRule [.ref m0, .int (iI z)] [(m0, mO M xth xrm xsv xln xat xer xwr xwd xlo xhi xwl xml xkl xfi xse xdn xon xtw xol xrw xgl xus xpr xmk xab), (M 1, aI (K 0) 1247 g), (M 3, aR (K 7) 8 gH), (MH 0, aI (K 0) 1247 (gh 0)), (MH 1, aI (K 0) 1247 (gh 1)), (MH 2, aI (K 0) 1247 (gh 2)), (MH 3, aI (K 0) 1247 (gh 3)), (MH 4, aI (K 0) 1247 (gh 4)), (MH 5, aI (K 0) 1247 (gh 5)), (MH 6, aI (K 0) 1247 (gh 6)), (MH 7, aI (K 0) 1247 (gh 7))] (fun v9 u9 => (v9 = some (.int (iI 0)) ∧ (¬ (0 ≤ z ∧ z < rs.length)) ∧ u9 = [(m0, mO M 1 xrm xsv xln xat xer xwr xwd xlo xhi xwl xml xkl xfi xse xdn xon xtw xol xrw xgl xus xpr xmk xab), (M 1, aI (K 0) 1247 g), (M 3, aR (K 7) 8 gH), (MH 0, aI (K 0) 1247 (gh 0)), (MH 1, aI (K 0) 1247 (gh 1)), (MH 2, aI (K 0) 1247 (gh 2)), (MH 3, aI (K 0) 1247 (gh 3)), (MH 4, aI (K 0) 1247 (gh 4)), (MH 5, aI (K 0) 1247 (gh 5)), (MH 6, aI (K 0) 1247 (gh 6)), (MH 7, aI (K 0) 1247 (gh 7))]) ∨ (∃ (gh2 : Nat → Nat → Int), ∃ (g2 : Nat → Int), v9 = some (.int (iI ((rs.length : Int) - 1))) ∧ (0 ≤ z ∧ z < rs.length) ∧ (RmH g gh gh2 xrm) ∧ (MRow g2 (rs.eraseIdx z.toNat) ps md th (nc + 1)) ∧ u9 = [(m0, mO M 0 (kpS xrm) xsv xln xat xer xwr xwd xlo xhi xwl xml xkl xfi xse xdn xon xtw xol xrw xgl xus xpr xmk xab), (M 1, aI (K 0) 1247 g2), (M 3, aR (K 7) 8 gH), (MH 0, aI (K 0) 1247 (gh2 0)), (MH 1, aI (K 0) 1247 (gh2 1)), (MH 2, aI (K 0) 1247 (gh2 2)), (MH 3, aI (K 0) 1247 (gh2 3)), (MH 4, aI (K 0) 1247 (gh2 4)), (MH 5, aI (K 0) 1247 (gh2 5)), (MH 6, aI (K 0) 1247 (gh2 6)), (MH 7, aI (K 0) 1247 (gh2 7))])) := by
  refine CT.start RX11 "removeRule" (by decide) rfl rfl (Nat.le_of_ble_eq_true rfl) ?_
  intro p9 e9 s9 m9 ag9 bl9 mt9 c9 A9 Q9 ls F G hR hl
  have hl : lv_has ls 3 [(0, .ref m0), (1, .int (iI z))] := hl
  have hn := hW.1
  refine lv_aload_n F.1 F.2.1 dX11_removeRule_0 rfl (lv_at hl 0 rfl) ?_
  refine ad_iconst F dX11_removeRule_1 ?_
  refine lv_aload_n F.1 F.2.1 dX11_removeRule_2 rfl (lv_at hl 0 rfl) ?_
  refine lv_iload_n F.1 F.2.1 dX11_removeRule_3 rfl (lv_at hl 1 rfl) ?_
  refine ad_callV (As := [.int (iI z)]) (rest := [.int (iI 1), .ref m0]) F G (c_X11_isRule l D K z0 m0 M xth xrm xsv xln xat xer xwr xwd xlo xhi xwl xml xkl xfi xse xdn xon xtw xol xrw xgl xus xpr xmk xab g rs ps md th nc z hM hW hz) my_X11_isRule mv_X11_171 (wr := [(M 3, aR (K 7) 8 gH), (MH 0, aI (K 0) 1247 (gh 0)), (MH 1, aI (K 0) 1247 (gh 1)), (MH 2, aI (K 0) 1247 (gh 2)), (MH 3, aI (K 0) 1247 (gh 3)), (MH 4, aI (K 0) 1247 (gh 4)), (MH 5, aI (K 0) 1247 (gh 5)), (MH 6, aI (K 0) 1247 (gh 6)), (MH 7, aI (K 0) 1247 (gh 7))]) (isC := [0, 1]) (isR := [2, 3, 4, 5, 6, 7, 8, 9, 10]) ⟨rfl, rfl, rfl, rfl, by decide⟩ 11 0 rfl rfl rfl rfl ⟨Nat.le_of_ble_eq_true rfl, Nat.le_of_ble_eq_true rfl⟩ ⟨Nat.le_of_ble_eq_true rfl, Nat.le_of_ble_eq_true rfl⟩ (Nat.le_of_ble_eq_true rfl) hl.1 (cells9 := 0) (slots9 := 0) ⟨rfl, rfl⟩ dX11_removeRule_4 (fun v u H locs hw_1 G => ?_)
  rcases hw_1 with ⟨rfl, hc_2, rfl⟩ | ⟨rfl, hc_3, rfl⟩
  · replace G := G.perm (ws' := [(m0, mO M xth xrm xsv xln xat xer xwr xwd xlo xhi xwl xml xkl xfi xse xdn xon xtw xol xrw xgl xus xpr xmk xab), (M 1, aI (K 0) 1247 g), (M 3, aR (K 7) 8 gH), (MH 0, aI (K 0) 1247 (gh 0)), (MH 1, aI (K 0) 1247 (gh 1)), (MH 2, aI (K 0) 1247 (gh 2)), (MH 3, aI (K 0) 1247 (gh 3)), (MH 4, aI (K 0) 1247 (gh 4)), (MH 5, aI (K 0) 1247 (gh 5)), (MH 6, aI (K 0) 1247 (gh 6)), (MH 7, aI (K 0) 1247 (gh 7))]) [9, 10, 0, 1, 2, 3, 4, 5, 6, 7, 8] rfl rfl
    refine W.eq (g2 := F0 m9 7 ls [.int (iI 1), .int (iI 1), .ref m0]) rfl ?_
    refine ad_if_ne (tgt := 14) F (by decide) dX11_removeRule_7 (by decide) (fun _ => ?_) (fun cc_4 => absurd cc_4 (by decide))
    refine ad_iconst F dX11_removeRule_14 ?_
    refine ad_callV (As := [.int (iI 1), .int (iI 0)]) (rest := []) F G (c_X11_fails_0 l D K z0 m0 M xth xrm xsv xln xat xer xwr xwd xlo xhi xwl xml xkl xfi xse xdn xon xtw xol xrw xgl xus xpr xmk xab 1 (by omega)) my_X11_fails mv_X11_111 (wr := [(M 1, aI (K 0) 1247 g), (M 3, aR (K 7) 8 gH), (MH 0, aI (K 0) 1247 (gh 0)), (MH 1, aI (K 0) 1247 (gh 1)), (MH 2, aI (K 0) 1247 (gh 2)), (MH 3, aI (K 0) 1247 (gh 3)), (MH 4, aI (K 0) 1247 (gh 4)), (MH 5, aI (K 0) 1247 (gh 5)), (MH 6, aI (K 0) 1247 (gh 6)), (MH 7, aI (K 0) 1247 (gh 7))]) (isC := [0]) (isR := [1, 2, 3, 4, 5, 6, 7, 8, 9, 10]) ⟨rfl, rfl, rfl, rfl, by decide⟩ 11 0 rfl rfl rfl rfl ⟨Nat.le_of_ble_eq_true rfl, Nat.le_of_ble_eq_true rfl⟩ ⟨Nat.le_of_ble_eq_true rfl, Nat.le_of_ble_eq_true rfl⟩ (Nat.le_of_ble_eq_true rfl) hl.1 (cells9 := 0) (slots9 := 0) ⟨rfl, rfl⟩ dX11_removeRule_15 (fun v u H locs hw_5 G => ?_)
    obtain ⟨rfl, rfl⟩ := hw_5
    replace G := G.perm (ws' := [(m0, mO M 0 xrm xsv xln xat xer xwr xwd xlo xhi xwl xml xkl xfi xse xdn xon xtw xol xrw xgl xus xpr xmk xab), (M 1, aI (K 0) 1247 g), (M 3, aR (K 7) 8 gH), (MH 0, aI (K 0) 1247 (gh 0)), (MH 1, aI (K 0) 1247 (gh 1)), (MH 2, aI (K 0) 1247 (gh 2)), (MH 3, aI (K 0) 1247 (gh 3)), (MH 4, aI (K 0) 1247 (gh 4)), (MH 5, aI (K 0) 1247 (gh 5)), (MH 6, aI (K 0) 1247 (gh 6)), (MH 7, aI (K 0) 1247 (gh 7))]) [10, 0, 1, 2, 3, 4, 5, 6, 7, 8, 9] rfl rfl
    refine W.eq (g2 := F0 m9 18 ls [.int (iI 0)]) rfl ?_
    refine ad_if_eq (tgt := 23) F (by decide) dX11_removeRule_18 (by decide) (fun _ => ?_) (fun cc_6 => absurd cc_6 (by decide))
    refine lv_aload_n F.1 F.2.1 dX11_removeRule_23 rfl (lv_at hl 0 rfl) ?_
    refine ad_callV (As := []) (rest := []) F G (c_X11_remember l D K z0 m0 M 0 xrm xsv xln xat xer xwr xwd xlo xhi xwl xml xkl xfi xse xdn xon xtw xol xrw xgl xus xpr xmk xab g rs ps md th nc MH gH gh hM hH hrm) my_X11_remember mv_X11_164 (wr := []) (isC := [0, 1, 2, 3, 4, 5, 6, 7, 8, 9, 10]) (isR := []) ⟨rfl, rfl, rfl, rfl, by decide⟩ 11 0 rfl rfl rfl rfl ⟨Nat.le_of_ble_eq_true rfl, Nat.le_of_ble_eq_true rfl⟩ ⟨Nat.le_of_ble_eq_true rfl, Nat.le_of_ble_eq_true rfl⟩ (Nat.le_of_ble_eq_true rfl) hl.1 (cells9 := 0) (slots9 := 0) ⟨rfl, rfl⟩ dX11_removeRule_24 (fun v u H locs hw_7 G => ?_)
    obtain ⟨gh2_8, g2_9, rfl, hc_10, hc_11, rfl⟩ := hw_7
    replace G := G.perm (ws' := [(m0, mO M 0 (kpS xrm) xsv xln xat xer xwr xwd xlo xhi xwl xml xkl xfi xse xdn xon xtw xol xrw xgl xus xpr xmk xab), (M 1, aI (K 0) 1247 g2_9), (M 3, aR (K 7) 8 gH), (MH 0, aI (K 0) 1247 (gh2_8 0)), (MH 1, aI (K 0) 1247 (gh2_8 1)), (MH 2, aI (K 0) 1247 (gh2_8 2)), (MH 3, aI (K 0) 1247 (gh2_8 3)), (MH 4, aI (K 0) 1247 (gh2_8 4)), (MH 5, aI (K 0) 1247 (gh2_8 5)), (MH 6, aI (K 0) 1247 (gh2_8 6)), (MH 7, aI (K 0) 1247 (gh2_8 7))]) [0, 1, 2, 3, 4, 5, 6, 7, 8, 9, 10] rfl rfl
    refine W.eq (g2 := F0 m9 27 ls []) rfl ?_
    refine lv_aload_n F.1 F.2.1 dX11_removeRule_27 rfl (lv_at hl 0 rfl) ?_
    refine ad_get F G fl_X11_9 0 rfl rfl dX11_removeRule_28 ?_
    refine ad_iconst F dX11_removeRule_31 ?_
    refine lv_dup2_11 F.1 F.2.1 dX11_removeRule_32 rfl rfl ?_
    refine ad_iald F G 1 rfl (w := (rs.length : Int)) (by omega) (hc_11.1.1) dX11_removeRule_33 ?_
    refine ad_iconst F dX11_removeRule_34 ?_
    refine ad_isub F dX11_removeRule_35 ?_
    refine ad_iast F G 1 rfl (by omega) (ws' := [(m0, mO M 0 (kpS xrm) xsv xln xat xer xwr xwd xlo xhi xwl xml xkl xfi xse xdn xon xtw xol xrw xgl xus xpr xmk xab), (M 1, aI (K 0) 1247 (va_up g2_9 (0 : Int).toNat ((rs.length : Int) - 1))), (M 3, aR (K 7) 8 gH), (MH 0, aI (K 0) 1247 (gh2_8 0)), (MH 1, aI (K 0) 1247 (gh2_8 1)), (MH 2, aI (K 0) 1247 (gh2_8 2)), (MH 3, aI (K 0) 1247 (gh2_8 3)), (MH 4, aI (K 0) 1247 (gh2_8 4)), (MH 5, aI (K 0) 1247 (gh2_8 5)), (MH 6, aI (K 0) 1247 (gh2_8 6)), (MH 7, aI (K 0) 1247 (gh2_8 7))]) rfl dX11_removeRule_36 (fun H locs G => ?_)
    refine ad_iconst F dX11_removeRule_37 ?_
    refine lv_iload_n F.1 F.2.1 dX11_removeRule_38 rfl (lv_at hl 1 rfl) ?_
    refine ad_bipush F dX11_removeRule_39 (by decide) ?_
    refine ad_imul F dX11_removeRule_41 ?_
    refine ad_iadd F dX11_removeRule_42 ?_
    refine lv_istore_n (lv' := [(2, .int (iI (5 + (z * 23)))), (0, .ref m0), (1, .int (iI z))]) F.1 F.2.1 dX11_removeRule_43 rfl hl (by decide) rfl (fun ls hl => ?_)
    have lp44 : ∀ (n44 : Nat) (k : Int) (gv : Nat → Int) (gz : Nat → Int) (gw : Nat → Nat → Int) (H : Heap) (locs : List Loc) (ls : Array Slot), (5 + z * 23 ≤ k ∧ k ≤ 5 + ((rs.length : Int) - 1) * 23) → (MRow gz rs ps md th (nc + 1)) → (∀ j : Int, 0 ≤ j → gv j.toNat = if 5 + z * 23 ≤ j ∧ j < k then va_up gz (0 : Int).toNat ((rs.length : Int) - 1) (j + 23).toNat else va_up gz (0 : Int).toNat ((rs.length : Int) - 1) j.toNat) → (RmH g gh gw xrm) → (5 + ((rs.length : Int) - 1) * 23 - k) < (n44 : Int) → ad_G D A9 s9.heap H locs [(m0, mO M 0 (kpS xrm) xsv xln xat xer xwr xwd xlo xhi xwl xml xkl xfi xse xdn xon xtw xol xrw xgl xus xpr xmk xab), (M 1, aI (K 0) 1247 gv), (M 3, aR (K 7) 8 gH), (MH 0, aI (K 0) 1247 (gw 0)), (MH 1, aI (K 0) 1247 (gw 1)), (MH 2, aI (K 0) 1247 (gw 2)), (MH 3, aI (K 0) 1247 (gw 3)), (MH 4, aI (K 0) 1247 (gw 4)), (MH 5, aI (K 0) 1247 (gw 5)), (MH 6, aI (K 0) 1247 (gw 6)), (MH 7, aI (K 0) 1247 (gw 7))] → lv_has ls 3 [(0, .ref m0), (1, .int (iI z)), (2, .int (iI k))] → W p9 l e9 rm_X11_removeRule s9 m9 ag9 bl9 mt9 c9 H locs 0 0 Q9 (F0 m9 44 ls []) := by
      intro n44
      induction n44 with
      | zero =>
        intro k gv gz gw H locs ls hk hmz hg hrr hm44
        exact absurd hm44 (by omega)
      | succ n44 ih44 =>
        intro k gv gz gw H locs ls hk hmz hg hrr hm44 G hl
        refine lv_iload_n F.1 F.2.1 dX11_removeRule_44 rfl (lv_at hl 2 rfl) ?_
        refine ad_iconst F dX11_removeRule_45 ?_
        refine lv_aload_n F.1 F.2.1 dX11_removeRule_46 rfl (lv_at hl 0 rfl) ?_
        refine ad_get F G fl_X11_9 0 rfl rfl dX11_removeRule_47 ?_
        refine ad_iconst F dX11_removeRule_50 ?_
        refine ad_iald F G 1 rfl (w := ((rs.length : Int) - 1)) (by omega) (by rw [hg 0 (by omega), if_neg (by omega), va_upE rfl]) dX11_removeRule_51 ?_
        refine ad_bipush F dX11_removeRule_52 (by decide) ?_
        refine ad_imul F dX11_removeRule_54 ?_
        refine ad_iadd F dX11_removeRule_55 ?_
        refine ad_icmp_ge (tgt := 80) F (by omega) dX11_removeRule_56 (by decide) (fun cc_12 => ?_) (fun cc_12 => ?_)
        · refine lv_aload_n F.1 F.2.1 dX11_removeRule_80 rfl (lv_at hl 0 rfl) ?_
          refine ad_get F G fl_X11_9 0 rfl rfl dX11_removeRule_81 ?_
          refine ad_iconst F dX11_removeRule_84 ?_
          refine ad_iald F G 1 rfl (w := ((rs.length : Int) - 1)) (by omega) (by rw [hg 0 (by omega), if_neg (by omega), va_upE rfl]) dX11_removeRule_85 ?_
          exact ad_ireturn F G hR rfl (Nat.le_of_ble_eq_true rfl) (Nat.le_of_ble_eq_true rfl) (Or.inr (⟨gw, gv, rfl, hc_2, hrr, (MRow_del hmz hn (by omega) (by omega) (by omega) hg), rfl⟩)) dX11_removeRule_86
        · refine lv_aload_n F.1 F.2.1 dX11_removeRule_59 rfl (lv_at hl 0 rfl) ?_
          refine ad_get F G fl_X11_9 0 rfl rfl dX11_removeRule_60 ?_
          refine lv_iload_n F.1 F.2.1 dX11_removeRule_63 rfl (lv_at hl 2 rfl) ?_
          refine lv_aload_n F.1 F.2.1 dX11_removeRule_64 rfl (lv_at hl 0 rfl) ?_
          refine ad_get F G fl_X11_9 0 rfl rfl dX11_removeRule_65 ?_
          refine lv_iload_n F.1 F.2.1 dX11_removeRule_68 rfl (lv_at hl 2 rfl) ?_
          refine ad_bipush F dX11_removeRule_69 (by decide) ?_
          refine ad_iadd F dX11_removeRule_71 ?_
          refine ad_iald F G 1 rfl (w := gv (k + 23).toNat) (by omega) rfl dX11_removeRule_72 ?_
          refine ad_iast F G 1 rfl (by omega) (ws' := [(m0, mO M 0 (kpS xrm) xsv xln xat xer xwr xwd xlo xhi xwl xml xkl xfi xse xdn xon xtw xol xrw xgl xus xpr xmk xab), (M 1, aI (K 0) 1247 (va_up gv k.toNat (gv (k + 23).toNat))), (M 3, aR (K 7) 8 gH), (MH 0, aI (K 0) 1247 (gw 0)), (MH 1, aI (K 0) 1247 (gw 1)), (MH 2, aI (K 0) 1247 (gw 2)), (MH 3, aI (K 0) 1247 (gw 3)), (MH 4, aI (K 0) 1247 (gw 4)), (MH 5, aI (K 0) 1247 (gw 5)), (MH 6, aI (K 0) 1247 (gw 6)), (MH 7, aI (K 0) 1247 (gw 7))]) rfl dX11_removeRule_73 (fun H locs G => ?_)
          refine ad_iinc (lv' := [(2, .int (iI (k + 1))), (0, .ref m0), (1, .int (iI z))]) F dX11_removeRule_74 hl (k := 2) rfl (by decide) rfl (fun ls hl => ?_)
          refine lv_goto (tgt := 44) F.1 F.2.1 dX11_removeRule_77 (by decide) ?_
          exact ih44 (k + 1) (va_up gv k.toNat (gv (k + 23).toNat)) gz gw _ _ _ (by omega) hmz (ShM_s hg (by omega) (by omega)) hrr (by omega) (G.perm (ws' := [(m0, mO M 0 (kpS xrm) xsv xln xat xer xwr xwd xlo xhi xwl xml xkl xfi xse xdn xon xtw xol xrw xgl xus xpr xmk xab), (M 1, aI (K 0) 1247 (va_up gv k.toNat (gv (k + 23).toNat))), (M 3, aR (K 7) 8 gH), (MH 0, aI (K 0) 1247 (gw 0)), (MH 1, aI (K 0) 1247 (gw 1)), (MH 2, aI (K 0) 1247 (gw 2)), (MH 3, aI (K 0) 1247 (gw 3)), (MH 4, aI (K 0) 1247 (gw 4)), (MH 5, aI (K 0) 1247 (gw 5)), (MH 6, aI (K 0) 1247 (gw 6)), (MH 7, aI (K 0) 1247 (gw 7))]) [0, 1, 2, 3, 4, 5, 6, 7, 8, 9, 10] rfl rfl) (lv_sub hl [1, 2, 0] rfl)
    exact lp44 ((((5 + ((rs.length : Int) - 1) * 23 - (5 + (z * 23)) : Int)) + 1).toNat) (5 + (z * 23)) (va_up g2_9 (0 : Int).toNat ((rs.length : Int) - 1)) g2_9 gh2_8 _ _ _ (by omega) hc_11 (fun j h0 => by rw [if_neg (by omega)]) hc_10 (by omega) (G.perm (ws' := [(m0, mO M 0 (kpS xrm) xsv xln xat xer xwr xwd xlo xhi xwl xml xkl xfi xse xdn xon xtw xol xrw xgl xus xpr xmk xab), (M 1, aI (K 0) 1247 (va_up g2_9 (0 : Int).toNat ((rs.length : Int) - 1))), (M 3, aR (K 7) 8 gH), (MH 0, aI (K 0) 1247 (gh2_8 0)), (MH 1, aI (K 0) 1247 (gh2_8 1)), (MH 2, aI (K 0) 1247 (gh2_8 2)), (MH 3, aI (K 0) 1247 (gh2_8 3)), (MH 4, aI (K 0) 1247 (gh2_8 4)), (MH 5, aI (K 0) 1247 (gh2_8 5)), (MH 6, aI (K 0) 1247 (gh2_8 6)), (MH 7, aI (K 0) 1247 (gh2_8 7))]) [0, 1, 2, 3, 4, 5, 6, 7, 8, 9, 10] rfl rfl) (lv_sub hl [1, 2, 0] rfl)
  · replace G := G.perm (ws' := [(m0, mO M xth xrm xsv xln xat xer xwr xwd xlo xhi xwl xml xkl xfi xse xdn xon xtw xol xrw xgl xus xpr xmk xab), (M 1, aI (K 0) 1247 g), (M 3, aR (K 7) 8 gH), (MH 0, aI (K 0) 1247 (gh 0)), (MH 1, aI (K 0) 1247 (gh 1)), (MH 2, aI (K 0) 1247 (gh 2)), (MH 3, aI (K 0) 1247 (gh 3)), (MH 4, aI (K 0) 1247 (gh 4)), (MH 5, aI (K 0) 1247 (gh 5)), (MH 6, aI (K 0) 1247 (gh 6)), (MH 7, aI (K 0) 1247 (gh 7))]) [9, 10, 0, 1, 2, 3, 4, 5, 6, 7, 8] rfl rfl
    refine W.eq (g2 := F0 m9 7 ls [.int (iI 0), .int (iI 1), .ref m0]) rfl ?_
    refine ad_if_ne (tgt := 14) F (by decide) dX11_removeRule_7 (by decide) (fun cc_13 => absurd cc_13 (by decide)) (fun _ => ?_)
    refine ad_iconst F dX11_removeRule_10 ?_
    refine lv_goto (tgt := 15) F.1 F.2.1 dX11_removeRule_11 (by decide) ?_
    refine ad_callV (As := [.int (iI 1), .int (iI 1)]) (rest := []) F G (c_X11_fails_1 l D K z0 m0 M xth xrm xsv xln xat xer xwr xwd xlo xhi xwl xml xkl xfi xse xdn xon xtw xol xrw xgl xus xpr xmk xab 1 (by omega)) my_X11_fails mv_X11_111 (wr := [(M 1, aI (K 0) 1247 g), (M 3, aR (K 7) 8 gH), (MH 0, aI (K 0) 1247 (gh 0)), (MH 1, aI (K 0) 1247 (gh 1)), (MH 2, aI (K 0) 1247 (gh 2)), (MH 3, aI (K 0) 1247 (gh 3)), (MH 4, aI (K 0) 1247 (gh 4)), (MH 5, aI (K 0) 1247 (gh 5)), (MH 6, aI (K 0) 1247 (gh 6)), (MH 7, aI (K 0) 1247 (gh 7))]) (isC := [0]) (isR := [1, 2, 3, 4, 5, 6, 7, 8, 9, 10]) ⟨rfl, rfl, rfl, rfl, by decide⟩ 11 0 rfl rfl rfl rfl ⟨Nat.le_of_ble_eq_true rfl, Nat.le_of_ble_eq_true rfl⟩ ⟨Nat.le_of_ble_eq_true rfl, Nat.le_of_ble_eq_true rfl⟩ (Nat.le_of_ble_eq_true rfl) hl.1 (cells9 := 0) (slots9 := 0) ⟨rfl, rfl⟩ dX11_removeRule_15 (fun v u H locs hw_14 G => ?_)
    obtain ⟨rfl, rfl⟩ := hw_14
    replace G := G.perm (ws' := [(m0, mO M 1 xrm xsv xln xat xer xwr xwd xlo xhi xwl xml xkl xfi xse xdn xon xtw xol xrw xgl xus xpr xmk xab), (M 1, aI (K 0) 1247 g), (M 3, aR (K 7) 8 gH), (MH 0, aI (K 0) 1247 (gh 0)), (MH 1, aI (K 0) 1247 (gh 1)), (MH 2, aI (K 0) 1247 (gh 2)), (MH 3, aI (K 0) 1247 (gh 3)), (MH 4, aI (K 0) 1247 (gh 4)), (MH 5, aI (K 0) 1247 (gh 5)), (MH 6, aI (K 0) 1247 (gh 6)), (MH 7, aI (K 0) 1247 (gh 7))]) [10, 0, 1, 2, 3, 4, 5, 6, 7, 8, 9] rfl rfl
    refine W.eq (g2 := F0 m9 18 ls [.int (iI 1)]) rfl ?_
    refine ad_if_eq (tgt := 23) F (by decide) dX11_removeRule_18 (by decide) (fun cc_15 => absurd cc_15 (by decide)) (fun _ => ?_)
    refine ad_iconst F dX11_removeRule_21 ?_
    exact ad_ireturn F G hR rfl (Nat.le_of_ble_eq_true rfl) (Nat.le_of_ble_eq_true rfl) (Or.inl ⟨rfl, hc_3, rfl⟩) dX11_removeRule_22
