theorem psx_rng {am wp : Int} {w : List Int} {n0 wt : Int} {n : Nat} {f e wr : Int} (h : PSX am wp w n0 wt n f e wr) : 0 ≤ e ∧ e ≤ w.length := by
  obtain ⟨mk, ⟨a1, a2, a3, a4, a5, a6, a7⟩, -⟩ := h
  omega
theorem mk_plain {am wp : Int} {w : List Int} {n0 wt : Int} {n : Nat} {f e : Int} (h : PSX am wp w n0 wt n f e 0) (ha : am = 0) : mkW w n = 0 := by
  obtain ⟨mk, ⟨a1, a2, a3, a4, a5, a6, a7⟩, b, c, d, r, i, k, pw⟩ := h
  have hf : f = stk w n := by rw [a1, fA, if_neg (by omega)]
  have hl : 97 ≤ lat w f ∧ lat w f ≤ 122 := d f (by omega) (by omega)
  rw [hf] at hl
  unfold mkW
  rw [if_neg (by omega)]
theorem RdW_out {gb gl gm gb2 gl2 gm2 : Nat → Int} {w : List Int} {n : Nat} (h : RdW gb gl gm w n) (h1 : ∀ j : Nat, (j : Int) ≠ n → gb2 j = gb j) (h2 : ∀ j : Nat, (j : Int) ≠ n → gl2 j = gl j) (h3 : ∀ j : Nat, (j : Int) ≠ n → gm2 j = gm j) : RdW gb2 gl2 gm2 w n := fun j hj => by
  rw [h1 j (by omega), h2 j (by omega), h3 j (by omega)]
  exact h j hj
def rm_X11_sees : Room := { frames := 1, cells := 0, slots := 0, locals := 12 }
set_option maxHeartbeats 4000000 in
set_option maxRecDepth 100000 in
theorem c_X11_sees (l : Launch) (D : va_G) (K : Nat → ClassId) (z0 : Nat) (m0 : Nat) (M : Nat → Nat) (xth : Int) (xrm : Int) (xsv : Int) (xat : Int) (xer : Int) (xwr : Int) (xwd : Int) (xlo : Int) (xhi : Int) (xwl : Int) (xml : Int) (xkl : Int) (xfi : Int) (xse : Int) (xdn : Int) (xon : Int) (xtw : Int) (xol : Int) (xrw : Int) (xgl : Int) (xus : Int) (xpr : Int) (xmk : Int) (xab : Int) (gbf : Nat → Int) (w : List Int) (c : Int) (hT : Tx gbf w) (hC : Chs w) (hL : w.length ≤ 100) (hat : 0 ≤ xat ∧ xat ≤ w.length) (hwr : xwr = 0 ∨ xwr = 1) (hc : 0 ≤ c ∧ c < 65536) : CT l D K z0 yX11_sees cX11_sees 2 (some .boolean) rm_X11_sees [.ref m0, .int (iI c)] [(m0, mO M xth xrm xsv (w.length : Int) xat xer xwr xwd xlo xhi xwl xml xkl xfi xse xdn xon xtw xol xrw xgl xus xpr xmk xab), (M 6, aI (K 2) 100 gbf)] (fun v9 u9 => (v9 = some (.int (iI 1)) ∧ (xwr = 0 ∧ xat < w.length ∧ lat w xat = c) ∧ u9 = [(m0, mO M xth xrm xsv (w.length : Int) xat xer xwr xwd xlo xhi xwl xml xkl xfi xse xdn xon xtw xol xrw xgl xus xpr xmk xab), (M 6, aI (K 2) 100 gbf)]) ∨ (v9 = some (.int (iI 0)) ∧ (¬ (xwr = 0 ∧ xat < w.length ∧ lat w xat = c)) ∧ u9 = [(m0, mO M xth xrm xsv (w.length : Int) xat xer xwr xwd xlo xhi xwl xml xkl xfi xse xdn xon xtw xol xrw xgl xus xpr xmk xab), (M 6, aI (K 2) 100 gbf)])) := by
  refine CT.start RX11 "sees" (by decide) rfl rfl (Nat.le_of_ble_eq_true rfl) ?_
  intro p9 e9 s9 m9 ag9 bl9 mt9 c9 A9 Q9 ls F G hR hl
  have hl : lv_has ls 2 [(0, .ref m0), (1, .int (iI c))] := hl
  have hch := lat_ch hC xat
  refine lv_aload_n F.1 F.2.1 dX11_sees_0 rfl (lv_at hl 0 rfl) ?_
  refine ad_get F G fl_X11_118 0 rfl rfl dX11_sees_1 ?_
  refine ad_if_ne (tgt := 35) F (by omega) dX11_sees_4 (by decide) (fun cc_1 => ?_) (fun cc_1 => ?_)
  · refine ad_iconst F dX11_sees_35 ?_
    exact ad_zreturn F G hR rfl (Nat.le_of_ble_eq_true rfl) (Nat.le_of_ble_eq_true rfl) rfl (Or.inr (⟨rfl, (by omega), rfl⟩)) dX11_sees_36
  · refine lv_aload_n F.1 F.2.1 dX11_sees_7 rfl (lv_at hl 0 rfl) ?_
    refine ad_get F G fl_X11_122 0 rfl rfl dX11_sees_8 ?_
    refine lv_aload_n F.1 F.2.1 dX11_sees_11 rfl (lv_at hl 0 rfl) ?_
    refine ad_get F G fl_X11_115 0 rfl rfl dX11_sees_12 ?_
    refine ad_icmp_ge (tgt := 35) F (by omega) dX11_sees_15 (by decide) (fun cc_2 => ?_) (fun cc_2 => ?_)
    · refine ad_iconst F dX11_sees_35 ?_
      exact ad_zreturn F G hR rfl (Nat.le_of_ble_eq_true rfl) (Nat.le_of_ble_eq_true rfl) rfl (Or.inr (⟨rfl, (by omega), rfl⟩)) dX11_sees_36
    · refine lv_aload_n F.1 F.2.1 dX11_sees_18 rfl (lv_at hl 0 rfl) ?_
      refine ad_get F G fl_X11_21 0 rfl rfl dX11_sees_19 ?_
      refine lv_aload_n F.1 F.2.1 dX11_sees_22 rfl (lv_at hl 0 rfl) ?_
      refine ad_get F G fl_X11_122 0 rfl rfl dX11_sees_23 ?_
      refine ad_cald F G 1 rfl (w := lat w xat) (by omega) (Tx_at hT (by omega) (by omega)) dX11_sees_26 ?_
      refine lv_iload_n F.1 F.2.1 dX11_sees_27 rfl (lv_at hl 1 rfl) ?_
      refine ad_icmp_ne (tgt := 35) F (by omega) dX11_sees_28 (by decide) (fun cc_3 => ?_) (fun cc_3 => ?_)
      · refine ad_iconst F dX11_sees_35 ?_
        exact ad_zreturn F G hR rfl (Nat.le_of_ble_eq_true rfl) (Nat.le_of_ble_eq_true rfl) rfl (Or.inr (⟨rfl, (by omega), rfl⟩)) dX11_sees_36
      · refine ad_iconst F dX11_sees_31 ?_
        refine lv_goto (tgt := 36) F.1 F.2.1 dX11_sees_32 (by decide) ?_
        exact ad_zreturn F G hR rfl (Nat.le_of_ble_eq_true rfl) (Nat.le_of_ble_eq_true rfl) rfl (Or.inl ⟨rfl, (by omega), rfl⟩) dX11_sees_36

def rm_X11_seesLetter : Room := { frames := 1, cells := 0, slots := 0, locals := 12 }
set_option maxHeartbeats 4000000 in
set_option maxRecDepth 100000 in
theorem c_X11_seesLetter (l : Launch) (D : va_G) (K : Nat → ClassId) (z0 : Nat) (m0 : Nat) (M : Nat → Nat) (xth : Int) (xrm : Int) (xsv : Int) (xat : Int) (xer : Int) (xwr : Int) (xwd : Int) (xlo : Int) (xhi : Int) (xwl : Int) (xml : Int) (xkl : Int) (xfi : Int) (xse : Int) (xdn : Int) (xon : Int) (xtw : Int) (xol : Int) (xrw : Int) (xgl : Int) (xus : Int) (xpr : Int) (xmk : Int) (xab : Int) (gbf : Nat → Int) (w : List Int) (hT : Tx gbf w) (hC : Chs w) (hL : w.length ≤ 100) (hat : 0 ≤ xat ∧ xat ≤ w.length) (hwr : xwr = 0 ∨ xwr = 1) : CT l D K z0 yX11_seesLetter cX11_seesLetter 1 (some .boolean) rm_X11_seesLetter [.ref m0] [(m0, mO M xth xrm xsv (w.length : Int) xat xer xwr xwd xlo xhi xwl xml xkl xfi xse xdn xon xtw xol xrw xgl xus xpr xmk xab), (M 6, aI (K 2) 100 gbf)] (fun v9 u9 => (v9 = some (.int (iI 1)) ∧ (xwr = 0 ∧ xat < w.length ∧ 97 ≤ lat w xat ∧ lat w xat ≤ 122) ∧ u9 = [(m0, mO M xth xrm xsv (w.length : Int) xat xer xwr xwd xlo xhi xwl xml xkl xfi xse xdn xon xtw xol xrw xgl xus xpr xmk xab), (M 6, aI (K 2) 100 gbf)]) ∨ (v9 = some (.int (iI 0)) ∧ (¬ (xwr = 0 ∧ xat < w.length ∧ 97 ≤ lat w xat ∧ lat w xat ≤ 122)) ∧ u9 = [(m0, mO M xth xrm xsv (w.length : Int) xat xer xwr xwd xlo xhi xwl xml xkl xfi xse xdn xon xtw xol xrw xgl xus xpr xmk xab), (M 6, aI (K 2) 100 gbf)])) := by
  refine CT.start RX11 "seesLetter" (by decide) rfl rfl (Nat.le_of_ble_eq_true rfl) ?_
  intro p9 e9 s9 m9 ag9 bl9 mt9 c9 A9 Q9 ls F G hR hl
  have hl : lv_has ls 1 [(0, .ref m0)] := hl
  have hch := lat_ch hC xat
  refine lv_aload_n F.1 F.2.1 dX11_seesLetter_0 rfl (lv_at hl 0 rfl) ?_
  refine ad_get F G fl_X11_118 0 rfl rfl dX11_seesLetter_1 ?_
  refine ad_if_ne (tgt := 50) F (by omega) dX11_seesLetter_4 (by decide) (fun cc_1 => ?_) (fun cc_1 => ?_)
  · refine ad_iconst F dX11_seesLetter_50 ?_
    exact ad_zreturn F G hR rfl (Nat.le_of_ble_eq_true rfl) (Nat.le_of_ble_eq_true rfl) rfl (Or.inr (⟨rfl, (by omega), rfl⟩)) dX11_seesLetter_51
  · refine lv_aload_n F.1 F.2.1 dX11_seesLetter_7 rfl (lv_at hl 0 rfl) ?_
    refine ad_get F G fl_X11_122 0 rfl rfl dX11_seesLetter_8 ?_
    refine lv_aload_n F.1 F.2.1 dX11_seesLetter_11 rfl (lv_at hl 0 rfl) ?_
    refine ad_get F G fl_X11_115 0 rfl rfl dX11_seesLetter_12 ?_
    refine ad_icmp_ge (tgt := 50) F (by omega) dX11_seesLetter_15 (by decide) (fun cc_2 => ?_) (fun cc_2 => ?_)
    · refine ad_iconst F dX11_seesLetter_50 ?_
      exact ad_zreturn F G hR rfl (Nat.le_of_ble_eq_true rfl) (Nat.le_of_ble_eq_true rfl) rfl (Or.inr (⟨rfl, (by omega), rfl⟩)) dX11_seesLetter_51
    · refine lv_aload_n F.1 F.2.1 dX11_seesLetter_18 rfl (lv_at hl 0 rfl) ?_
      refine ad_get F G fl_X11_21 0 rfl rfl dX11_seesLetter_19 ?_
      refine lv_aload_n F.1 F.2.1 dX11_seesLetter_22 rfl (lv_at hl 0 rfl) ?_
      refine ad_get F G fl_X11_122 0 rfl rfl dX11_seesLetter_23 ?_
      refine ad_cald F G 1 rfl (w := lat w xat) (by omega) (Tx_at hT (by omega) (by omega)) dX11_seesLetter_26 ?_
      refine ad_bipush F dX11_seesLetter_27 (by decide) ?_
      refine ad_icmp_lt (tgt := 50) F (by omega) dX11_seesLetter_29 (by decide) (fun cc_3 => ?_) (fun cc_3 => ?_)
      · refine ad_iconst F dX11_seesLetter_50 ?_
        exact ad_zreturn F G hR rfl (Nat.le_of_ble_eq_true rfl) (Nat.le_of_ble_eq_true rfl) rfl (Or.inr (⟨rfl, (by omega), rfl⟩)) dX11_seesLetter_51
      · refine lv_aload_n F.1 F.2.1 dX11_seesLetter_32 rfl (lv_at hl 0 rfl) ?_
        refine ad_get F G fl_X11_21 0 rfl rfl dX11_seesLetter_33 ?_
        refine lv_aload_n F.1 F.2.1 dX11_seesLetter_36 rfl (lv_at hl 0 rfl) ?_
        refine ad_get F G fl_X11_122 0 rfl rfl dX11_seesLetter_37 ?_
        refine ad_cald F G 1 rfl (w := lat w xat) (by omega) (Tx_at hT (by omega) (by omega)) dX11_seesLetter_40 ?_
        refine ad_bipush F dX11_seesLetter_41 (by decide) ?_
        refine ad_icmp_gt (tgt := 50) F (by omega) dX11_seesLetter_43 (by decide) (fun cc_4 => ?_) (fun cc_4 => ?_)
        · refine ad_iconst F dX11_seesLetter_50 ?_
          exact ad_zreturn F G hR rfl (Nat.le_of_ble_eq_true rfl) (Nat.le_of_ble_eq_true rfl) rfl (Or.inr (⟨rfl, (by omega), rfl⟩)) dX11_seesLetter_51
        · refine ad_iconst F dX11_seesLetter_46 ?_
          refine lv_goto (tgt := 51) F.1 F.2.1 dX11_seesLetter_47 (by decide) ?_
          exact ad_zreturn F G hR rfl (Nat.le_of_ble_eq_true rfl) (Nat.le_of_ble_eq_true rfl) rfl (Or.inl ⟨rfl, (by omega), rfl⟩) dX11_seesLetter_51

def rm_X11_passes : Room := { frames := 2, cells := 0, slots := 0, locals := 33 }
set_option maxHeartbeats 4000000 in
set_option maxRecDepth 100000 in
theorem c_X11_passes (l : Launch) (D : va_G) (K : Nat → ClassId) (z0 : Nat) (m0 : Nat) (M : Nat → Nat) (xth : Int) (xrm : Int) (xsv : Int) (xat : Int) (xer : Int) (xwr : Int) (xwd : Int) (xlo : Int) (xhi : Int) (xwl : Int) (xml : Int) (xkl : Int) (xfi : Int) (xse : Int) (xdn : Int) (xon : Int) (xtw : Int) (xol : Int) (xrw : Int) (xgl : Int) (xus : Int) (xpr : Int) (xmk : Int) (xab : Int) (gbf : Nat → Int) (w : List Int) (c : Int) (hT : Tx gbf w) (hC : Chs w) (hL : w.length ≤ 100) (hat : 0 ≤ xat ∧ xat ≤ w.length) (hwr : xwr = 0 ∨ xwr = 1) (hc : 0 ≤ c ∧ c < 65536) : CT l D K z0 yX11_passes cX11_passes 3 (some .boolean) rm_X11_passes [.ref m0, .int (iI c)] [(m0, mO M xth xrm xsv (w.length : Int) xat xer xwr xwd xlo xhi xwl xml xkl xfi xse xdn xon xtw xol xrw xgl xus xpr xmk xab), (M 6, aI (K 2) 100 gbf)] (fun v9 u9 => (v9 = some (.int (iI 1)) ∧ (xwr = 0 ∧ xat < w.length ∧ lat w xat = c) ∧ u9 = [(m0, mO M xth xrm xsv (w.length : Int) (xat + 1) xer xwr xwd xlo xhi xwl xml xkl xfi xse xdn xon xtw xol xrw xgl xus xpr xmk xab), (M 6, aI (K 2) 100 gbf)]) ∨ (v9 = some (.int (iI 0)) ∧ (¬ (xwr = 0 ∧ xat < w.length ∧ lat w xat = c)) ∧ u9 = [(m0, mO M xth xrm xsv (w.length : Int) xat xer xwr xwd xlo xhi xwl xml xkl xfi xse xdn xon xtw xol xrw xgl xus xpr xmk xab), (M 6, aI (K 2) 100 gbf)])) := by
  refine CT.start RX11 "passes" (by decide) rfl rfl (Nat.le_of_ble_eq_true rfl) ?_
  intro p9 e9 s9 m9 ag9 bl9 mt9 c9 A9 Q9 ls F G hR hl
  have hl : lv_has ls 3 [(0, .ref m0), (1, .int (iI c))] := hl
  refine lv_aload_n F.1 F.2.1 dX11_passes_0 rfl (lv_at hl 0 rfl) ?_
  refine lv_iload_n F.1 F.2.1 dX11_passes_1 rfl (lv_at hl 1 rfl) ?_
  refine ad_callV (As := [.int (iI c)]) (rest := []) F G (c_X11_sees l D K z0 m0 M xth xrm xsv xat xer xwr xwd xlo xhi xwl xml xkl xfi xse xdn xon xtw xol xrw xgl xus xpr xmk xab gbf w c hT hC hL hat hwr hc) my_X11_sees mv_X11_125 (wr := []) (isC := [0, 1]) (isR := []) ⟨rfl, rfl, rfl, rfl, by decide⟩ 11 0 rfl rfl rfl rfl ⟨Nat.le_of_ble_eq_true rfl, Nat.le_of_ble_eq_true rfl⟩ ⟨Nat.le_of_ble_eq_true rfl, Nat.le_of_ble_eq_true rfl⟩ (Nat.le_of_ble_eq_true rfl) hl.1 (cells9 := 0) (slots9 := 0) ⟨rfl, rfl⟩ dX11_passes_2 (fun v u H locs hw_1 G => ?_)
  rcases hw_1 with ⟨rfl, hc_2, rfl⟩ | ⟨rfl, hc_3, rfl⟩
  · replace G := G.perm (ws' := [(m0, mO M xth xrm xsv (w.length : Int) xat xer xwr xwd xlo xhi xwl xml xkl xfi xse xdn xon xtw xol xrw xgl xus xpr xmk xab), (M 6, aI (K 2) 100 gbf)]) [0, 1] rfl rfl
    refine W.eq (g2 := F0 m9 5 ls [.int (iI 1)]) rfl ?_
    refine lv_istore_n (lv' := [(2, .int (iI 1)), (0, .ref m0), (1, .int (iI c))]) F.1 F.2.1 dX11_passes_5 rfl hl (by decide) rfl (fun ls hl => ?_)
    refine lv_aload_n F.1 F.2.1 dX11_passes_6 rfl (lv_at hl 1 rfl) ?_
    refine lv_dup F.1 F.2.1 dX11_passes_7 rfl ?_
    refine ad_get F G fl_X11_122 0 rfl rfl dX11_passes_8 ?_
    refine lv_iload_n F.1 F.2.1 dX11_passes_11 rfl (lv_at hl 0 rfl) ?_
    refine ad_if_eq (tgt := 19) F (by decide) dX11_passes_12 (by decide) (fun cc_4 => absurd cc_4 (by decide)) (fun _ => ?_)
    refine ad_iconst F dX11_passes_15 ?_
    refine lv_goto (tgt := 20) F.1 F.2.1 dX11_passes_16 (by decide) ?_
    refine ad_iadd F dX11_passes_20 ?_
    refine ad_put F G fl_X11_122 0 rfl rfl rfl (Nat.le_of_ble_eq_true rfl) (ws' := [(m0, mO M xth xrm xsv (w.length : Int) (xat + 1) xer xwr xwd xlo xhi xwl xml xkl xfi xse xdn xon xtw xol xrw xgl xus xpr xmk xab), (M 6, aI (K 2) 100 gbf)]) rfl dX11_passes_21 (fun H locs G => ?_)
    refine lv_iload_n F.1 F.2.1 dX11_passes_24 rfl (lv_at hl 0 rfl) ?_
    exact ad_zreturn F G hR rfl (Nat.le_of_ble_eq_true rfl) (Nat.le_of_ble_eq_true rfl) rfl (Or.inl ⟨rfl, hc_2, rfl⟩) dX11_passes_25
  · replace G := G.perm (ws' := [(m0, mO M xth xrm xsv (w.length : Int) xat xer xwr xwd xlo xhi xwl xml xkl xfi xse xdn xon xtw xol xrw xgl xus xpr xmk xab), (M 6, aI (K 2) 100 gbf)]) [0, 1] rfl rfl
    refine W.eq (g2 := F0 m9 5 ls [.int (iI 0)]) rfl ?_
    refine lv_istore_n (lv' := [(2, .int (iI 0)), (0, .ref m0), (1, .int (iI c))]) F.1 F.2.1 dX11_passes_5 rfl hl (by decide) rfl (fun ls hl => ?_)
    refine lv_aload_n F.1 F.2.1 dX11_passes_6 rfl (lv_at hl 1 rfl) ?_
    refine lv_dup F.1 F.2.1 dX11_passes_7 rfl ?_
    refine ad_get F G fl_X11_122 0 rfl rfl dX11_passes_8 ?_
    refine lv_iload_n F.1 F.2.1 dX11_passes_11 rfl (lv_at hl 0 rfl) ?_
    refine ad_if_eq (tgt := 19) F (by decide) dX11_passes_12 (by decide) (fun _ => ?_) (fun cc_5 => absurd cc_5 (by decide))
    refine ad_iconst F dX11_passes_19 ?_
    refine ad_iadd F dX11_passes_20 ?_
    refine ad_topi (y := xat) (by omega) ?_
    refine ad_put F G fl_X11_122 0 rfl rfl rfl (Nat.le_of_ble_eq_true rfl) (ws' := [(m0, mO M xth xrm xsv (w.length : Int) xat xer xwr xwd xlo xhi xwl xml xkl xfi xse xdn xon xtw xol xrw xgl xus xpr xmk xab), (M 6, aI (K 2) 100 gbf)]) rfl dX11_passes_21 (fun H locs G => ?_)
    refine lv_iload_n F.1 F.2.1 dX11_passes_24 rfl (lv_at hl 0 rfl) ?_
    exact ad_zreturn F G hR rfl (Nat.le_of_ble_eq_true rfl) (Nat.le_of_ble_eq_true rfl) rfl (Or.inr (⟨rfl, hc_3, rfl⟩)) dX11_passes_25

def rm_X11_passWord : Room := { frames := 2, cells := 0, slots := 0, locals := 32 }
set_option maxHeartbeats 4000000 in
set_option maxRecDepth 100000 in
theorem c_X11_passWord (l : Launch) (D : va_G) (K : Nat → ClassId) (z0 : Nat) (m0 : Nat) (M : Nat → Nat) (xth : Int) (xrm : Int) (xsv : Int) (xat : Int) (xer : Int) (xwr : Int) (xwd : Int) (xlo : Int) (xhi : Int) (xwl : Int) (xml : Int) (xkl : Int) (xfi : Int) (xse : Int) (xdn : Int) (xon : Int) (xtw : Int) (xol : Int) (xrw : Int) (xgl : Int) (xus : Int) (xpr : Int) (xmk : Int) (xab : Int) (gbf : Nat → Int) (w : List Int) (gbg : Nat → Int) (gle : Nat → Int) (gam : Nat → Int) (most : Int) (hT : Tx gbf w) (hC : Chs w) (hL : w.length ≤ 100) (hat : 0 ≤ xat ∧ xat ≤ w.length) (hwr0 : xwr = 0) (hwd : 0 ≤ xwd ∧ xwd < 60) (hmo : 1 ≤ most ∧ most ≤ 100) : CT l D K z0 yX11_passWord cX11_passWord 2 none rm_X11_passWord [.ref m0, .int (iI most)] [(m0, mO M xth xrm xsv (w.length : Int) xat xer xwr xwd xlo xhi xwl xml xkl xfi xse xdn xon xtw xol xrw xgl xus xpr xmk xab), (M 6, aI (K 2) 100 gbf), (M 11, aI (K 0) 60 gbg), (M 12, aI (K 0) 60 gle), (M 13, aI (K 4) 60 gam)] (fun v9 u9 => ∃ (az : Int), ∃ (wr : Int), v9 = none ∧ (az = imin (lend w xat) (xat + most)) ∧ ((wr = 0 ∧ xat < az) ∨ (wr = 1 ∧ az = xat)) ∧ (az ≤ w.length) ∧ u9 = [(m0, mO M xth xrm xsv (w.length : Int) az xer wr (xwd + 1) xlo xhi xwl xml xkl xfi xse xdn xon xtw xol xrw xgl xus xpr xmk xab), (M 6, aI (K 2) 100 gbf), (M 11, aI (K 0) 60 (va_up gbg (xwd : Int).toNat xat)), (M 12, aI (K 0) 60 (va_up gle (xwd : Int).toNat (az - xat))), (M 13, aI (K 4) 60 (va_up gam (xwd : Int).toNat 0))]) := by
  refine CT.start RX11 "passWord" (by decide) rfl rfl (Nat.le_of_ble_eq_true rfl) ?_
  intro p9 e9 s9 m9 ag9 bl9 mt9 c9 A9 Q9 ls F G hR hl
  have hl : lv_has ls 2 [(0, .ref m0), (1, .int (iI most))] := hl
  refine lv_aload_n F.1 F.2.1 dX11_passWord_0 rfl (lv_at hl 0 rfl) ?_
  refine ad_get F G fl_X11_29 0 rfl rfl dX11_passWord_1 ?_
  refine lv_aload_n F.1 F.2.1 dX11_passWord_4 rfl (lv_at hl 0 rfl) ?_
  refine ad_get F G fl_X11_129 0 rfl rfl dX11_passWord_5 ?_
  refine lv_aload_n F.1 F.2.1 dX11_passWord_8 rfl (lv_at hl 0 rfl) ?_
  refine ad_get F G fl_X11_122 0 rfl rfl dX11_passWord_9 ?_
  refine ad_iast F G 2 rfl (by omega) (ws' := [(m0, mO M xth xrm xsv (w.length : Int) xat xer xwr xwd xlo xhi xwl xml xkl xfi xse xdn xon xtw xol xrw xgl xus xpr xmk xab), (M 6, aI (K 2) 100 gbf), (M 11, aI (K 0) 60 (va_up gbg xwd.toNat xat)), (M 12, aI (K 0) 60 gle), (M 13, aI (K 4) 60 gam)]) rfl dX11_passWord_12 (fun H locs G => ?_)
  refine lv_aload_n F.1 F.2.1 dX11_passWord_13 rfl (lv_at hl 0 rfl) ?_
  refine lv_dup F.1 F.2.1 dX11_passWord_14 rfl ?_
  refine ad_get F G fl_X11_118 0 rfl rfl dX11_passWord_15 ?_
  refine lv_aload_n F.1 F.2.1 dX11_passWord_18 rfl (lv_at hl 0 rfl) ?_
  refine ad_callV (As := []) (rest := [.int (iI xwr), .ref m0]) F G (c_X11_seesLetter l D K z0 m0 M xth xrm xsv xat xer xwr xwd xlo xhi xwl xml xkl xfi xse xdn xon xtw xol xrw xgl xus xpr xmk xab gbf w hT hC hL hat (by omega)) my_X11_seesLetter mv_X11_132 (wr := [(M 11, aI (K 0) 60 (va_up gbg xwd.toNat xat)), (M 12, aI (K 0) 60 gle), (M 13, aI (K 4) 60 gam)]) (isC := [0, 1]) (isR := [2, 3, 4]) ⟨rfl, rfl, rfl, rfl, by decide⟩ 11 0 rfl rfl rfl rfl ⟨Nat.le_of_ble_eq_true rfl, Nat.le_of_ble_eq_true rfl⟩ ⟨Nat.le_of_ble_eq_true rfl, Nat.le_of_ble_eq_true rfl⟩ (Nat.le_of_ble_eq_true rfl) hl.1 (cells9 := 0) (slots9 := 0) ⟨rfl, rfl⟩ dX11_passWord_19 (fun v u H locs hw_1 G => ?_)
  rcases hw_1 with ⟨rfl, hc_2, rfl⟩ | ⟨rfl, hc_3, rfl⟩
  · replace G := G.perm (ws' := [(m0, mO M xth xrm xsv (w.length : Int) xat xer xwr xwd xlo xhi xwl xml xkl xfi xse xdn xon xtw xol xrw xgl xus xpr xmk xab), (M 6, aI (K 2) 100 gbf), (M 11, aI (K 0) 60 (va_up gbg xwd.toNat xat)), (M 12, aI (K 0) 60 gle), (M 13, aI (K 4) 60 gam)]) [3, 4, 0, 1, 2] rfl rfl
    refine W.eq (g2 := F0 m9 22 ls [.int (iI 1), .int (iI xwr), .ref m0]) rfl ?_
    refine ad_if_ne (tgt := 29) F (by decide) dX11_passWord_22 (by decide) (fun _ => ?_) (fun cc_4 => absurd cc_4 (by decide))
    refine ad_iconst F dX11_passWord_29 ?_
    refine ad_iorn F (by omega) dX11_passWord_30 ?_
    refine ad_put F G fl_X11_118 0 rfl (iI_boolN (by omega)).1 (iI_boolN (by omega)).2 (Nat.le_of_ble_eq_true rfl) (ws' := [(m0, mO M xth xrm xsv (w.length : Int) xat xer xwr xwd xlo xhi xwl xml xkl xfi xse xdn xon xtw xol xrw xgl xus xpr xmk xab), (M 6, aI (K 2) 100 gbf), (M 11, aI (K 0) 60 (va_up gbg xwd.toNat xat)), (M 12, aI (K 0) 60 gle), (M 13, aI (K 4) 60 gam)]) rfl dX11_passWord_31 (fun H locs G => ?_)
    have lp34 : ∀ (n34 : Nat) (az : Int) (wr : Int) (H : Heap) (locs : List Loc) (ls : Array Slot), (xat ≤ az ∧ az ≤ xat + most ∧ az ≤ w.length) → (∀ j : Int, xat ≤ j → j < az → 97 ≤ lat w j ∧ lat w j ≤ 122) → ((wr = 0 ∧ xat < w.length ∧ 97 ≤ lat w xat ∧ lat w xat ≤ 122) ∨ (wr = 1 ∧ az = xat ∧ ¬ (xat < w.length ∧ 97 ≤ lat w xat ∧ lat w xat ≤ 122))) → (w.length - az) < (n34 : Int) → ad_G D A9 s9.heap H locs [(m0, mO M xth xrm xsv (w.length : Int) az xer wr xwd xlo xhi xwl xml xkl xfi xse xdn xon xtw xol xrw xgl xus xpr xmk xab), (M 6, aI (K 2) 100 gbf), (M 11, aI (K 0) 60 (va_up gbg (xwd : Int).toNat xat)), (M 12, aI (K 0) 60 gle), (M 13, aI (K 4) 60 gam)] → lv_has ls 2 [(0, .ref m0), (1, .int (iI most))] → W p9 l e9 rm_X11_passWord s9 m9 ag9 bl9 mt9 c9 H locs 0 0 Q9 (F0 m9 34 ls []) := by
      intro n34
      induction n34 with
      | zero =>
        intro az wr H locs ls haz hls hwz hm34
        exact absurd hm34 (by omega)
      | succ n34 ih34 =>
        intro az wr H locs ls haz hls hwz hm34 G hl
        refine lv_aload_n F.1 F.2.1 dX11_passWord_34 rfl (lv_at hl 0 rfl) ?_
        refine ad_callV (As := []) (rest := []) F G (c_X11_seesLetter l D K z0 m0 M xth xrm xsv az xer wr xwd xlo xhi xwl xml xkl xfi xse xdn xon xtw xol xrw xgl xus xpr xmk xab gbf w hT hC hL (by omega) (by omega)) my_X11_seesLetter mv_X11_132 (wr := [(M 11, aI (K 0) 60 (va_up gbg (xwd : Int).toNat xat)), (M 12, aI (K 0) 60 gle), (M 13, aI (K 4) 60 gam)]) (isC := [0, 1]) (isR := [2, 3, 4]) ⟨rfl, rfl, rfl, rfl, by decide⟩ 11 0 rfl rfl rfl rfl ⟨Nat.le_of_ble_eq_true rfl, Nat.le_of_ble_eq_true rfl⟩ ⟨Nat.le_of_ble_eq_true rfl, Nat.le_of_ble_eq_true rfl⟩ (Nat.le_of_ble_eq_true rfl) hl.1 (cells9 := 0) (slots9 := 0) ⟨rfl, rfl⟩ dX11_passWord_35 (fun v u H locs hw_5 G => ?_)
        rcases hw_5 with ⟨rfl, hc_6, rfl⟩ | ⟨rfl, hc_7, rfl⟩
        · replace G := G.perm (ws' := [(m0, mO M xth xrm xsv (w.length : Int) az xer wr xwd xlo xhi xwl xml xkl xfi xse xdn xon xtw xol xrw xgl xus xpr xmk xab), (M 6, aI (K 2) 100 gbf), (M 11, aI (K 0) 60 (va_up gbg (xwd : Int).toNat xat)), (M 12, aI (K 0) 60 gle), (M 13, aI (K 4) 60 gam)]) [3, 4, 0, 1, 2] rfl rfl
          refine W.eq (g2 := F0 m9 38 ls [.int (iI 1)]) rfl ?_
          refine ad_if_eq (tgt := 72) F (by decide) dX11_passWord_38 (by decide) (fun cc_8 => absurd cc_8 (by decide)) (fun _ => ?_)
          refine lv_aload_n F.1 F.2.1 dX11_passWord_41 rfl (lv_at hl 0 rfl) ?_
          refine ad_get F G fl_X11_122 0 rfl rfl dX11_passWord_42 ?_
          refine lv_aload_n F.1 F.2.1 dX11_passWord_45 rfl (lv_at hl 0 rfl) ?_
          refine ad_get F G fl_X11_29 0 rfl rfl dX11_passWord_46 ?_
          refine lv_aload_n F.1 F.2.1 dX11_passWord_49 rfl (lv_at hl 0 rfl) ?_
          refine ad_get F G fl_X11_129 0 rfl rfl dX11_passWord_50 ?_
          refine ad_iald F G 2 rfl (w := xat) (by omega) (va_upI_s _ _ _) dX11_passWord_53 ?_
          refine ad_isub F dX11_passWord_54 ?_
          refine lv_iload_n F.1 F.2.1 dX11_passWord_55 rfl (lv_at hl 1 rfl) ?_
          refine ad_icmp_ge (tgt := 72) F (by omega) dX11_passWord_56 (by decide) (fun cc_9 => ?_) (fun cc_9 => ?_)
          · refine lv_aload_n F.1 F.2.1 dX11_passWord_72 rfl (lv_at hl 0 rfl) ?_
            refine ad_get F G fl_X11_32 0 rfl rfl dX11_passWord_73 ?_
            refine lv_aload_n F.1 F.2.1 dX11_passWord_76 rfl (lv_at hl 0 rfl) ?_
            refine ad_get F G fl_X11_129 0 rfl rfl dX11_passWord_77 ?_
            refine lv_aload_n F.1 F.2.1 dX11_passWord_80 rfl (lv_at hl 0 rfl) ?_
            refine ad_get F G fl_X11_122 0 rfl rfl dX11_passWord_81 ?_
            refine lv_aload_n F.1 F.2.1 dX11_passWord_84 rfl (lv_at hl 0 rfl) ?_
            refine ad_get F G fl_X11_29 0 rfl rfl dX11_passWord_85 ?_
            refine lv_aload_n F.1 F.2.1 dX11_passWord_88 rfl (lv_at hl 0 rfl) ?_
            refine ad_get F G fl_X11_129 0 rfl rfl dX11_passWord_89 ?_
            refine ad_iald F G 2 rfl (w := xat) (by omega) (va_upI_s _ _ _) dX11_passWord_92 ?_
            refine ad_isub F dX11_passWord_93 ?_
            refine ad_iast F G 3 rfl (by omega) (ws' := [(m0, mO M xth xrm xsv (w.length : Int) az xer wr xwd xlo xhi xwl xml xkl xfi xse xdn xon xtw xol xrw xgl xus xpr xmk xab), (M 6, aI (K 2) 100 gbf), (M 11, aI (K 0) 60 (va_up gbg (xwd : Int).toNat xat)), (M 12, aI (K 0) 60 (va_up gle xwd.toNat (az - xat))), (M 13, aI (K 4) 60 gam)]) rfl dX11_passWord_94 (fun H locs G => ?_)
            refine lv_aload_n F.1 F.2.1 dX11_passWord_95 rfl (lv_at hl 0 rfl) ?_
            refine ad_get F G fl_X11_35 0 rfl rfl dX11_passWord_96 ?_
            refine lv_aload_n F.1 F.2.1 dX11_passWord_99 rfl (lv_at hl 0 rfl) ?_
            refine ad_get F G fl_X11_129 0 rfl rfl dX11_passWord_100 ?_
            refine ad_iconst F dX11_passWord_103 ?_
            refine ad_zast F G 4 rfl (by omega) (by omega) (ws' := [(m0, mO M xth xrm xsv (w.length : Int) az xer wr xwd xlo xhi xwl xml xkl xfi xse xdn xon xtw xol xrw xgl xus xpr xmk xab), (M 6, aI (K 2) 100 gbf), (M 11, aI (K 0) 60 (va_up gbg (xwd : Int).toNat xat)), (M 12, aI (K 0) 60 (va_up gle xwd.toNat (az - xat))), (M 13, aI (K 4) 60 (va_up gam xwd.toNat 0))]) rfl dX11_passWord_104 (fun H locs G => ?_)
            refine lv_aload_n F.1 F.2.1 dX11_passWord_105 rfl (lv_at hl 0 rfl) ?_
            refine lv_dup F.1 F.2.1 dX11_passWord_106 rfl ?_
            refine ad_get F G fl_X11_129 0 rfl rfl dX11_passWord_107 ?_
            refine ad_iconst F dX11_passWord_110 ?_
            refine ad_iadd F dX11_passWord_111 ?_
            refine ad_put F G fl_X11_129 0 rfl rfl rfl (Nat.le_of_ble_eq_true rfl) (ws' := [(m0, mO M xth xrm xsv (w.length : Int) az xer wr (xwd + 1) xlo xhi xwl xml xkl xfi xse xdn xon xtw xol xrw xgl xus xpr xmk xab), (M 6, aI (K 2) 100 gbf), (M 11, aI (K 0) 60 (va_up gbg (xwd : Int).toNat xat)), (M 12, aI (K 0) 60 (va_up gle xwd.toNat (az - xat))), (M 13, aI (K 4) 60 (va_up gam xwd.toNat 0))]) rfl dX11_passWord_112 (fun H locs G => ?_)
            exact ad_vreturn F G hR rfl (Nat.le_of_ble_eq_true rfl) (Nat.le_of_ble_eq_true rfl) ⟨az, wr, rfl, (imin_lend (by omega) (by omega) (by omega) (by omega) hls (fun q1 q2 => by have q2 : 97 ≤ lat w az ∧ lat w az ≤ 122 := q2; rcases hwz with h | ⟨h1, h2, h3⟩; omega; (rw [h2] at q1 q2; exact absurd ⟨q1, q2⟩ h3))).symm, (by rcases hwz with h | ⟨h1, h2, h3⟩; (refine Or.inl ⟨h.1, ?_⟩; rcases (show az = xat ∨ xat < az by omega) with q | q; (subst q; omega); exact q); exact Or.inr ⟨h1, h2⟩), (by omega), rfl⟩ dX11_passWord_115
          · refine lv_aload_n F.1 F.2.1 dX11_passWord_59 rfl (lv_at hl 0 rfl) ?_
            refine lv_dup F.1 F.2.1 dX11_passWord_60 rfl ?_
            refine ad_get F G fl_X11_122 0 rfl rfl dX11_passWord_61 ?_
            refine ad_iconst F dX11_passWord_64 ?_
            refine ad_iadd F dX11_passWord_65 ?_
            refine ad_put F G fl_X11_122 0 rfl rfl rfl (Nat.le_of_ble_eq_true rfl) (ws' := [(m0, mO M xth xrm xsv (w.length : Int) (az + 1) xer wr xwd xlo xhi xwl xml xkl xfi xse xdn xon xtw xol xrw xgl xus xpr xmk xab), (M 6, aI (K 2) 100 gbf), (M 11, aI (K 0) 60 (va_up gbg (xwd : Int).toNat xat)), (M 12, aI (K 0) 60 gle), (M 13, aI (K 4) 60 gam)]) rfl dX11_passWord_66 (fun H locs G => ?_)
            refine lv_goto (tgt := 34) F.1 F.2.1 dX11_passWord_69 (by decide) ?_
            exact ih34 (az + 1) wr _ _ _ (by omega) (fun j h1 h2 => (show j < az ∨ j = az by omega).elim (fun q => hls j h1 q) (fun q => by rw [q]; exact hc_6.2.2)) (Or.inl ⟨hc_6.1, by omega, (show az = xat ∨ xat < az by omega).elim (fun q => by rw [← q]; exact hc_6.2.2) (fun q => hls xat (by omega) q)⟩) (by omega) (G.perm (ws' := [(m0, mO M xth xrm xsv (w.length : Int) (az + 1) xer wr xwd xlo xhi xwl xml xkl xfi xse xdn xon xtw xol xrw xgl xus xpr xmk xab), (M 6, aI (K 2) 100 gbf), (M 11, aI (K 0) 60 (va_up gbg (xwd : Int).toNat xat)), (M 12, aI (K 0) 60 gle), (M 13, aI (K 4) 60 gam)]) [0, 1, 2, 3, 4] rfl rfl) (lv_sub hl [0, 1] rfl)
        · replace G := G.perm (ws' := [(m0, mO M xth xrm xsv (w.length : Int) az xer wr xwd xlo xhi xwl xml xkl xfi xse xdn xon xtw xol xrw xgl xus xpr xmk xab), (M 6, aI (K 2) 100 gbf), (M 11, aI (K 0) 60 (va_up gbg (xwd : Int).toNat xat)), (M 12, aI (K 0) 60 gle), (M 13, aI (K 4) 60 gam)]) [3, 4, 0, 1, 2] rfl rfl
          refine W.eq (g2 := F0 m9 38 ls [.int (iI 0)]) rfl ?_
          refine ad_if_eq (tgt := 72) F (by decide) dX11_passWord_38 (by decide) (fun _ => ?_) (fun cc_10 => absurd cc_10 (by decide))
          refine lv_aload_n F.1 F.2.1 dX11_passWord_72 rfl (lv_at hl 0 rfl) ?_
          refine ad_get F G fl_X11_32 0 rfl rfl dX11_passWord_73 ?_
          refine lv_aload_n F.1 F.2.1 dX11_passWord_76 rfl (lv_at hl 0 rfl) ?_
          refine ad_get F G fl_X11_129 0 rfl rfl dX11_passWord_77 ?_
          refine lv_aload_n F.1 F.2.1 dX11_passWord_80 rfl (lv_at hl 0 rfl) ?_
          refine ad_get F G fl_X11_122 0 rfl rfl dX11_passWord_81 ?_
          refine lv_aload_n F.1 F.2.1 dX11_passWord_84 rfl (lv_at hl 0 rfl) ?_
          refine ad_get F G fl_X11_29 0 rfl rfl dX11_passWord_85 ?_
          refine lv_aload_n F.1 F.2.1 dX11_passWord_88 rfl (lv_at hl 0 rfl) ?_
          refine ad_get F G fl_X11_129 0 rfl rfl dX11_passWord_89 ?_
          refine ad_iald F G 2 rfl (w := xat) (by omega) (va_upI_s _ _ _) dX11_passWord_92 ?_
          refine ad_isub F dX11_passWord_93 ?_
          refine ad_iast F G 3 rfl (by omega) (ws' := [(m0, mO M xth xrm xsv (w.length : Int) az xer wr xwd xlo xhi xwl xml xkl xfi xse xdn xon xtw xol xrw xgl xus xpr xmk xab), (M 6, aI (K 2) 100 gbf), (M 11, aI (K 0) 60 (va_up gbg (xwd : Int).toNat xat)), (M 12, aI (K 0) 60 (va_up gle xwd.toNat (az - xat))), (M 13, aI (K 4) 60 gam)]) rfl dX11_passWord_94 (fun H locs G => ?_)
          refine lv_aload_n F.1 F.2.1 dX11_passWord_95 rfl (lv_at hl 0 rfl) ?_
          refine ad_get F G fl_X11_35 0 rfl rfl dX11_passWord_96 ?_
          refine lv_aload_n F.1 F.2.1 dX11_passWord_99 rfl (lv_at hl 0 rfl) ?_
          refine ad_get F G fl_X11_129 0 rfl rfl dX11_passWord_100 ?_
          refine ad_iconst F dX11_passWord_103 ?_
          refine ad_zast F G 4 rfl (by omega) (by omega) (ws' := [(m0, mO M xth xrm xsv (w.length : Int) az xer wr xwd xlo xhi xwl xml xkl xfi xse xdn xon xtw xol xrw xgl xus xpr xmk xab), (M 6, aI (K 2) 100 gbf), (M 11, aI (K 0) 60 (va_up gbg (xwd : Int).toNat xat)), (M 12, aI (K 0) 60 (va_up gle xwd.toNat (az - xat))), (M 13, aI (K 4) 60 (va_up gam xwd.toNat 0))]) rfl dX11_passWord_104 (fun H locs G => ?_)
          refine lv_aload_n F.1 F.2.1 dX11_passWord_105 rfl (lv_at hl 0 rfl) ?_
          refine lv_dup F.1 F.2.1 dX11_passWord_106 rfl ?_
          refine ad_get F G fl_X11_129 0 rfl rfl dX11_passWord_107 ?_
          refine ad_iconst F dX11_passWord_110 ?_
          refine ad_iadd F dX11_passWord_111 ?_
          refine ad_put F G fl_X11_129 0 rfl rfl rfl (Nat.le_of_ble_eq_true rfl) (ws' := [(m0, mO M xth xrm xsv (w.length : Int) az xer wr (xwd + 1) xlo xhi xwl xml xkl xfi xse xdn xon xtw xol xrw xgl xus xpr xmk xab), (M 6, aI (K 2) 100 gbf), (M 11, aI (K 0) 60 (va_up gbg (xwd : Int).toNat xat)), (M 12, aI (K 0) 60 (va_up gle xwd.toNat (az - xat))), (M 13, aI (K 4) 60 (va_up gam xwd.toNat 0))]) rfl dX11_passWord_112 (fun H locs G => ?_)
          exact ad_vreturn F G hR rfl (Nat.le_of_ble_eq_true rfl) (Nat.le_of_ble_eq_true rfl) ⟨az, wr, rfl, (imin_lend (by omega) (by omega) (by omega) (by omega) hls (fun q1 q2 => by have q2 : 97 ≤ lat w az ∧ lat w az ≤ 122 := q2; rcases hwz with h | ⟨h1, h2, h3⟩; omega; (rw [h2] at q1 q2; exact absurd ⟨q1, q2⟩ h3))).symm, (by rcases hwz with h | ⟨h1, h2, h3⟩; (refine Or.inl ⟨h.1, ?_⟩; rcases (show az = xat ∨ xat < az by omega) with q | q; (subst q; omega); exact q); exact Or.inr ⟨h1, h2⟩), (by omega), rfl⟩ dX11_passWord_115
    exact lp34 ((((w.length - xat : Int)) + 1).toNat) xat xwr _ _ _ (by omega) (fun j h1 h2 => by omega) (by omega) (by omega) (G.perm (ws' := [(m0, mO M xth xrm xsv (w.length : Int) xat xer xwr xwd xlo xhi xwl xml xkl xfi xse xdn xon xtw xol xrw xgl xus xpr xmk xab), (M 6, aI (K 2) 100 gbf), (M 11, aI (K 0) 60 (va_up gbg (xwd : Int).toNat xat)), (M 12, aI (K 0) 60 gle), (M 13, aI (K 4) 60 gam)]) [0, 1, 2, 3, 4] rfl rfl) (lv_sub hl [0, 1] rfl)
  · replace G := G.perm (ws' := [(m0, mO M xth xrm xsv (w.length : Int) xat xer xwr xwd xlo xhi xwl xml xkl xfi xse xdn xon xtw xol xrw xgl xus xpr xmk xab), (M 6, aI (K 2) 100 gbf), (M 11, aI (K 0) 60 (va_up gbg xwd.toNat xat)), (M 12, aI (K 0) 60 gle), (M 13, aI (K 4) 60 gam)]) [3, 4, 0, 1, 2] rfl rfl
    refine W.eq (g2 := F0 m9 22 ls [.int (iI 0), .int (iI xwr), .ref m0]) rfl ?_
    refine ad_if_ne (tgt := 29) F (by decide) dX11_passWord_22 (by decide) (fun cc_11 => absurd cc_11 (by decide)) (fun _ => ?_)
    refine ad_iconst F dX11_passWord_25 ?_
    refine lv_goto (tgt := 30) F.1 F.2.1 dX11_passWord_26 (by decide) ?_
    refine ad_iory F (by omega) dX11_passWord_30 ?_
    refine ad_put F G fl_X11_118 0 rfl rfl rfl (Nat.le_of_ble_eq_true rfl) (ws' := [(m0, mO M xth xrm xsv (w.length : Int) xat xer 1 xwd xlo xhi xwl xml xkl xfi xse xdn xon xtw xol xrw xgl xus xpr xmk xab), (M 6, aI (K 2) 100 gbf), (M 11, aI (K 0) 60 (va_up gbg xwd.toNat xat)), (M 12, aI (K 0) 60 gle), (M 13, aI (K 4) 60 gam)]) rfl dX11_passWord_31 (fun H locs G => ?_)
    have lp34 : ∀ (n34 : Nat) (az : Int) (wr : Int) (H : Heap) (locs : List Loc) (ls : Array Slot), (xat ≤ az ∧ az ≤ xat + most ∧ az ≤ w.length) → (∀ j : Int, xat ≤ j → j < az → 97 ≤ lat w j ∧ lat w j ≤ 122) → ((wr = 0 ∧ xat < w.length ∧ 97 ≤ lat w xat ∧ lat w xat ≤ 122) ∨ (wr = 1 ∧ az = xat ∧ ¬ (xat < w.length ∧ 97 ≤ lat w xat ∧ lat w xat ≤ 122))) → (w.length - az) < (n34 : Int) → ad_G D A9 s9.heap H locs [(m0, mO M xth xrm xsv (w.length : Int) az xer wr xwd xlo xhi xwl xml xkl xfi xse xdn xon xtw xol xrw xgl xus xpr xmk xab), (M 6, aI (K 2) 100 gbf), (M 11, aI (K 0) 60 (va_up gbg (xwd : Int).toNat xat)), (M 12, aI (K 0) 60 gle), (M 13, aI (K 4) 60 gam)] → lv_has ls 2 [(0, .ref m0), (1, .int (iI most))] → W p9 l e9 rm_X11_passWord s9 m9 ag9 bl9 mt9 c9 H locs 0 0 Q9 (F0 m9 34 ls []) := by
      intro n34
      induction n34 with
      | zero =>
        intro az wr H locs ls haz hls hwz hm34
        exact absurd hm34 (by omega)
      | succ n34 ih34 =>
        intro az wr H locs ls haz hls hwz hm34 G hl
        refine lv_aload_n F.1 F.2.1 dX11_passWord_34 rfl (lv_at hl 0 rfl) ?_
        refine ad_callV (As := []) (rest := []) F G (c_X11_seesLetter l D K z0 m0 M xth xrm xsv az xer wr xwd xlo xhi xwl xml xkl xfi xse xdn xon xtw xol xrw xgl xus xpr xmk xab gbf w hT hC hL (by omega) (by omega)) my_X11_seesLetter mv_X11_132 (wr := [(M 11, aI (K 0) 60 (va_up gbg (xwd : Int).toNat xat)), (M 12, aI (K 0) 60 gle), (M 13, aI (K 4) 60 gam)]) (isC := [0, 1]) (isR := [2, 3, 4]) ⟨rfl, rfl, rfl, rfl, by decide⟩ 11 0 rfl rfl rfl rfl ⟨Nat.le_of_ble_eq_true rfl, Nat.le_of_ble_eq_true rfl⟩ ⟨Nat.le_of_ble_eq_true rfl, Nat.le_of_ble_eq_true rfl⟩ (Nat.le_of_ble_eq_true rfl) hl.1 (cells9 := 0) (slots9 := 0) ⟨rfl, rfl⟩ dX11_passWord_35 (fun v u H locs hw_12 G => ?_)
        rcases hw_12 with ⟨rfl, hc_13, rfl⟩ | ⟨rfl, hc_14, rfl⟩
        · replace G := G.perm (ws' := [(m0, mO M xth xrm xsv (w.length : Int) az xer wr xwd xlo xhi xwl xml xkl xfi xse xdn xon xtw xol xrw xgl xus xpr xmk xab), (M 6, aI (K 2) 100 gbf), (M 11, aI (K 0) 60 (va_up gbg (xwd : Int).toNat xat)), (M 12, aI (K 0) 60 gle), (M 13, aI (K 4) 60 gam)]) [3, 4, 0, 1, 2] rfl rfl
          refine W.eq (g2 := F0 m9 38 ls [.int (iI 1)]) rfl ?_
          refine ad_if_eq (tgt := 72) F (by decide) dX11_passWord_38 (by decide) (fun cc_15 => absurd cc_15 (by decide)) (fun _ => ?_)
          refine lv_aload_n F.1 F.2.1 dX11_passWord_41 rfl (lv_at hl 0 rfl) ?_
          refine ad_get F G fl_X11_122 0 rfl rfl dX11_passWord_42 ?_
          refine lv_aload_n F.1 F.2.1 dX11_passWord_45 rfl (lv_at hl 0 rfl) ?_
          refine ad_get F G fl_X11_29 0 rfl rfl dX11_passWord_46 ?_
          refine lv_aload_n F.1 F.2.1 dX11_passWord_49 rfl (lv_at hl 0 rfl) ?_
          refine ad_get F G fl_X11_129 0 rfl rfl dX11_passWord_50 ?_
          refine ad_iald F G 2 rfl (w := xat) (by omega) (va_upI_s _ _ _) dX11_passWord_53 ?_
          refine ad_isub F dX11_passWord_54 ?_
          refine lv_iload_n F.1 F.2.1 dX11_passWord_55 rfl (lv_at hl 1 rfl) ?_
          refine ad_icmp_ge (tgt := 72) F (by omega) dX11_passWord_56 (by decide) (fun cc_16 => ?_) (fun cc_16 => ?_)
          · refine lv_aload_n F.1 F.2.1 dX11_passWord_72 rfl (lv_at hl 0 rfl) ?_
            refine ad_get F G fl_X11_32 0 rfl rfl dX11_passWord_73 ?_
            refine lv_aload_n F.1 F.2.1 dX11_passWord_76 rfl (lv_at hl 0 rfl) ?_
            refine ad_get F G fl_X11_129 0 rfl rfl dX11_passWord_77 ?_
            refine lv_aload_n F.1 F.2.1 dX11_passWord_80 rfl (lv_at hl 0 rfl) ?_
            refine ad_get F G fl_X11_122 0 rfl rfl dX11_passWord_81 ?_
            refine lv_aload_n F.1 F.2.1 dX11_passWord_84 rfl (lv_at hl 0 rfl) ?_
            refine ad_get F G fl_X11_29 0 rfl rfl dX11_passWord_85 ?_
            refine lv_aload_n F.1 F.2.1 dX11_passWord_88 rfl (lv_at hl 0 rfl) ?_
            refine ad_get F G fl_X11_129 0 rfl rfl dX11_passWord_89 ?_
            refine ad_iald F G 2 rfl (w := xat) (by omega) (va_upI_s _ _ _) dX11_passWord_92 ?_
            refine ad_isub F dX11_passWord_93 ?_
            refine ad_iast F G 3 rfl (by omega) (ws' := [(m0, mO M xth xrm xsv (w.length : Int) az xer wr xwd xlo xhi xwl xml xkl xfi xse xdn xon xtw xol xrw xgl xus xpr xmk xab), (M 6, aI (K 2) 100 gbf), (M 11, aI (K 0) 60 (va_up gbg (xwd : Int).toNat xat)), (M 12, aI (K 0) 60 (va_up gle xwd.toNat (az - xat))), (M 13, aI (K 4) 60 gam)]) rfl dX11_passWord_94 (fun H locs G => ?_)
            refine lv_aload_n F.1 F.2.1 dX11_passWord_95 rfl (lv_at hl 0 rfl) ?_
            refine ad_get F G fl_X11_35 0 rfl rfl dX11_passWord_96 ?_
            refine lv_aload_n F.1 F.2.1 dX11_passWord_99 rfl (lv_at hl 0 rfl) ?_
            refine ad_get F G fl_X11_129 0 rfl rfl dX11_passWord_100 ?_
            refine ad_iconst F dX11_passWord_103 ?_
            refine ad_zast F G 4 rfl (by omega) (by omega) (ws' := [(m0, mO M xth xrm xsv (w.length : Int) az xer wr xwd xlo xhi xwl xml xkl xfi xse xdn xon xtw xol xrw xgl xus xpr xmk xab), (M 6, aI (K 2) 100 gbf), (M 11, aI (K 0) 60 (va_up gbg (xwd : Int).toNat xat)), (M 12, aI (K 0) 60 (va_up gle xwd.toNat (az - xat))), (M 13, aI (K 4) 60 (va_up gam xwd.toNat 0))]) rfl dX11_passWord_104 (fun H locs G => ?_)
            refine lv_aload_n F.1 F.2.1 dX11_passWord_105 rfl (lv_at hl 0 rfl) ?_
            refine lv_dup F.1 F.2.1 dX11_passWord_106 rfl ?_
            refine ad_get F G fl_X11_129 0 rfl rfl dX11_passWord_107 ?_
            refine ad_iconst F dX11_passWord_110 ?_
            refine ad_iadd F dX11_passWord_111 ?_
            refine ad_put F G fl_X11_129 0 rfl rfl rfl (Nat.le_of_ble_eq_true rfl) (ws' := [(m0, mO M xth xrm xsv (w.length : Int) az xer wr (xwd + 1) xlo xhi xwl xml xkl xfi xse xdn xon xtw xol xrw xgl xus xpr xmk xab), (M 6, aI (K 2) 100 gbf), (M 11, aI (K 0) 60 (va_up gbg (xwd : Int).toNat xat)), (M 12, aI (K 0) 60 (va_up gle xwd.toNat (az - xat))), (M 13, aI (K 4) 60 (va_up gam xwd.toNat 0))]) rfl dX11_passWord_112 (fun H locs G => ?_)
            exact ad_vreturn F G hR rfl (Nat.le_of_ble_eq_true rfl) (Nat.le_of_ble_eq_true rfl) ⟨az, wr, rfl, (imin_lend (by omega) (by omega) (by omega) (by omega) hls (fun q1 q2 => by have q2 : 97 ≤ lat w az ∧ lat w az ≤ 122 := q2; rcases hwz with h | ⟨h1, h2, h3⟩; omega; (rw [h2] at q1 q2; exact absurd ⟨q1, q2⟩ h3))).symm, (by rcases hwz with h | ⟨h1, h2, h3⟩; (refine Or.inl ⟨h.1, ?_⟩; rcases (show az = xat ∨ xat < az by omega) with q | q; (subst q; omega); exact q); exact Or.inr ⟨h1, h2⟩), (by omega), rfl⟩ dX11_passWord_115
          · refine lv_aload_n F.1 F.2.1 dX11_passWord_59 rfl (lv_at hl 0 rfl) ?_
            refine lv_dup F.1 F.2.1 dX11_passWord_60 rfl ?_
            refine ad_get F G fl_X11_122 0 rfl rfl dX11_passWord_61 ?_
            refine ad_iconst F dX11_passWord_64 ?_
            refine ad_iadd F dX11_passWord_65 ?_
            refine ad_put F G fl_X11_122 0 rfl rfl rfl (Nat.le_of_ble_eq_true rfl) (ws' := [(m0, mO M xth xrm xsv (w.length : Int) (az + 1) xer wr xwd xlo xhi xwl xml xkl xfi xse xdn xon xtw xol xrw xgl xus xpr xmk xab), (M 6, aI (K 2) 100 gbf), (M 11, aI (K 0) 60 (va_up gbg (xwd : Int).toNat xat)), (M 12, aI (K 0) 60 gle), (M 13, aI (K 4) 60 gam)]) rfl dX11_passWord_66 (fun H locs G => ?_)
            refine lv_goto (tgt := 34) F.1 F.2.1 dX11_passWord_69 (by decide) ?_
            exact ih34 (az + 1) wr _ _ _ (by omega) (fun j h1 h2 => (show j < az ∨ j = az by omega).elim (fun q => hls j h1 q) (fun q => by rw [q]; exact hc_13.2.2)) (Or.inl ⟨hc_13.1, by omega, (show az = xat ∨ xat < az by omega).elim (fun q => by rw [← q]; exact hc_13.2.2) (fun q => hls xat (by omega) q)⟩) (by omega) (G.perm (ws' := [(m0, mO M xth xrm xsv (w.length : Int) (az + 1) xer wr xwd xlo xhi xwl xml xkl xfi xse xdn xon xtw xol xrw xgl xus xpr xmk xab), (M 6, aI (K 2) 100 gbf), (M 11, aI (K 0) 60 (va_up gbg (xwd : Int).toNat xat)), (M 12, aI (K 0) 60 gle), (M 13, aI (K 4) 60 gam)]) [0, 1, 2, 3, 4] rfl rfl) (lv_sub hl [0, 1] rfl)
        · replace G := G.perm (ws' := [(m0, mO M xth xrm xsv (w.length : Int) az xer wr xwd xlo xhi xwl xml xkl xfi xse xdn xon xtw xol xrw xgl xus xpr xmk xab), (M 6, aI (K 2) 100 gbf), (M 11, aI (K 0) 60 (va_up gbg (xwd : Int).toNat xat)), (M 12, aI (K 0) 60 gle), (M 13, aI (K 4) 60 gam)]) [3, 4, 0, 1, 2] rfl rfl
          refine W.eq (g2 := F0 m9 38 ls [.int (iI 0)]) rfl ?_
          refine ad_if_eq (tgt := 72) F (by decide) dX11_passWord_38 (by decide) (fun _ => ?_) (fun cc_17 => absurd cc_17 (by decide))
          refine lv_aload_n F.1 F.2.1 dX11_passWord_72 rfl (lv_at hl 0 rfl) ?_
          refine ad_get F G fl_X11_32 0 rfl rfl dX11_passWord_73 ?_
          refine lv_aload_n F.1 F.2.1 dX11_passWord_76 rfl (lv_at hl 0 rfl) ?_
          refine ad_get F G fl_X11_129 0 rfl rfl dX11_passWord_77 ?_
          refine lv_aload_n F.1 F.2.1 dX11_passWord_80 rfl (lv_at hl 0 rfl) ?_
          refine ad_get F G fl_X11_122 0 rfl rfl dX11_passWord_81 ?_
          refine lv_aload_n F.1 F.2.1 dX11_passWord_84 rfl (lv_at hl 0 rfl) ?_
          refine ad_get F G fl_X11_29 0 rfl rfl dX11_passWord_85 ?_
          refine lv_aload_n F.1 F.2.1 dX11_passWord_88 rfl (lv_at hl 0 rfl) ?_
          refine ad_get F G fl_X11_129 0 rfl rfl dX11_passWord_89 ?_
          refine ad_iald F G 2 rfl (w := xat) (by omega) (va_upI_s _ _ _) dX11_passWord_92 ?_
          refine ad_isub F dX11_passWord_93 ?_
          refine ad_iast F G 3 rfl (by omega) (ws' := [(m0, mO M xth xrm xsv (w.length : Int) az xer wr xwd xlo xhi xwl xml xkl xfi xse xdn xon xtw xol xrw xgl xus xpr xmk xab), (M 6, aI (K 2) 100 gbf), (M 11, aI (K 0) 60 (va_up gbg (xwd : Int).toNat xat)), (M 12, aI (K 0) 60 (va_up gle xwd.toNat (az - xat))), (M 13, aI (K 4) 60 gam)]) rfl dX11_passWord_94 (fun H locs G => ?_)
          refine lv_aload_n F.1 F.2.1 dX11_passWord_95 rfl (lv_at hl 0 rfl) ?_
          refine ad_get F G fl_X11_35 0 rfl rfl dX11_passWord_96 ?_
          refine lv_aload_n F.1 F.2.1 dX11_passWord_99 rfl (lv_at hl 0 rfl) ?_
          refine ad_get F G fl_X11_129 0 rfl rfl dX11_passWord_100 ?_
          refine ad_iconst F dX11_passWord_103 ?_
          refine ad_zast F G 4 rfl (by omega) (by omega) (ws' := [(m0, mO M xth xrm xsv (w.length : Int) az xer wr xwd xlo xhi xwl xml xkl xfi xse xdn xon xtw xol xrw xgl xus xpr xmk xab), (M 6, aI (K 2) 100 gbf), (M 11, aI (K 0) 60 (va_up gbg (xwd : Int).toNat xat)), (M 12, aI (K 0) 60 (va_up gle xwd.toNat (az - xat))), (M 13, aI (K 4) 60 (va_up gam xwd.toNat 0))]) rfl dX11_passWord_104 (fun H locs G => ?_)
          refine lv_aload_n F.1 F.2.1 dX11_passWord_105 rfl (lv_at hl 0 rfl) ?_
          refine lv_dup F.1 F.2.1 dX11_passWord_106 rfl ?_
          refine ad_get F G fl_X11_129 0 rfl rfl dX11_passWord_107 ?_
          refine ad_iconst F dX11_passWord_110 ?_
          refine ad_iadd F dX11_passWord_111 ?_
          refine ad_put F G fl_X11_129 0 rfl rfl rfl (Nat.le_of_ble_eq_true rfl) (ws' := [(m0, mO M xth xrm xsv (w.length : Int) az xer wr (xwd + 1) xlo xhi xwl xml xkl xfi xse xdn xon xtw xol xrw xgl xus xpr xmk xab), (M 6, aI (K 2) 100 gbf), (M 11, aI (K 0) 60 (va_up gbg (xwd : Int).toNat xat)), (M 12, aI (K 0) 60 (va_up gle xwd.toNat (az - xat))), (M 13, aI (K 4) 60 (va_up gam xwd.toNat 0))]) rfl dX11_passWord_112 (fun H locs G => ?_)
          exact ad_vreturn F G hR rfl (Nat.le_of_ble_eq_true rfl) (Nat.le_of_ble_eq_true rfl) ⟨az, wr, rfl, (imin_lend (by omega) (by omega) (by omega) (by omega) hls (fun q1 q2 => by have q2 : 97 ≤ lat w az ∧ lat w az ≤ 122 := q2; rcases hwz with h | ⟨h1, h2, h3⟩; omega; (rw [h2] at q1 q2; exact absurd ⟨q1, q2⟩ h3))).symm, (by rcases hwz with h | ⟨h1, h2, h3⟩; (refine Or.inl ⟨h.1, ?_⟩; rcases (show az = xat ∨ xat < az by omega) with q | q; (subst q; omega); exact q); exact Or.inr ⟨h1, h2⟩), (by omega), rfl⟩ dX11_passWord_115
    exact lp34 ((((w.length - xat : Int)) + 1).toNat) xat 1 _ _ _ (by omega) (fun j h1 h2 => by omega) (by omega) (by omega) (G.perm (ws' := [(m0, mO M xth xrm xsv (w.length : Int) xat xer 1 xwd xlo xhi xwl xml xkl xfi xse xdn xon xtw xol xrw xgl xus xpr xmk xab), (M 6, aI (K 2) 100 gbf), (M 11, aI (K 0) 60 (va_up gbg (xwd : Int).toNat xat)), (M 12, aI (K 0) 60 gle), (M 13, aI (K 4) 60 gam)]) [0, 1, 2, 3, 4] rfl rfl) (lv_sub hl [0, 1] rfl)

def rm_X11_passMarkedWord : Room := { frames := 3, cells := 0, slots := 0, locals := 55 }
set_option maxHeartbeats 4000000 in
set_option maxRecDepth 100000 in
theorem c_X11_passMarkedWord (l : Launch) (D : va_G) (K : Nat → ClassId) (z0 : Nat) (m0 : Nat) (M : Nat → Nat) (xth : Int) (xrm : Int) (xsv : Int) (xat : Int) (xer : Int) (xwr : Int) (xwd : Int) (xlo : Int) (xhi : Int) (xwl : Int) (xml : Int) (xkl : Int) (xfi : Int) (xse : Int) (xdn : Int) (xon : Int) (xtw : Int) (xol : Int) (xrw : Int) (xgl : Int) (xus : Int) (xpr : Int) (xmk : Int) (xab : Int) (gbf : Nat → Int) (w : List Int) (gbg : Nat → Int) (gle : Nat → Int) (gam : Nat → Int) (hT : Tx gbf w) (hC : Chs w) (hL : w.length ≤ 100) (hat : 0 ≤ xat ∧ xat ≤ w.length) (hwr0 : xwr = 0) (hwd : 0 ≤ xwd ∧ xwd < 60) : CT l D K z0 yX11_passMarkedWord cX11_passMarkedWord 2 none rm_X11_passMarkedWord [.ref m0] [(m0, mO M xth xrm xsv (w.length : Int) xat xer xwr xwd xlo xhi xwl xml xkl xfi xse xdn xon xtw xol xrw xgl xus xpr xmk xab), (M 6, aI (K 2) 100 gbf), (M 11, aI (K 0) 60 gbg), (M 12, aI (K 0) 60 gle), (M 13, aI (K 4) 60 gam)] (fun v9 u9 => ∃ (fz : Int), ∃ (az : Int), ∃ (wr : Int), ∃ (gam2 : Nat → Int), v9 = none ∧ (fz = frm w xat) ∧ (az = imin (lend w fz) (fz + 24)) ∧ ((wr = 0 ∧ fz < az) ∨ (wr = 1 ∧ az = fz)) ∧ (fz ≤ w.length ∧ az ≤ w.length) ∧ (gam2 (xwd : Int).toNat = (if lat w xat = 39 then 1 else 0)) ∧ (∀ j : Nat, (j : Int) ≠ xwd → gam2 j = gam j) ∧ u9 = [(m0, mO M xth xrm xsv (w.length : Int) az xer wr (xwd + 1) xlo xhi xwl xml xkl xfi xse xdn xon xtw xol xrw xgl xus xpr xmk xab), (M 6, aI (K 2) 100 gbf), (M 11, aI (K 0) 60 (va_up gbg (xwd : Int).toNat fz)), (M 12, aI (K 0) 60 (va_up gle (xwd : Int).toNat (az - fz))), (M 13, aI (K 4) 60 gam2)]) := by
  refine CT.start RX11 "passMarkedWord" (by decide) rfl rfl (Nat.le_of_ble_eq_true rfl) ?_
  intro p9 e9 s9 m9 ag9 bl9 mt9 c9 A9 Q9 ls F G hR hl
  have hl : lv_has ls 2 [(0, .ref m0)] := hl
  refine lv_aload_n F.1 F.2.1 dX11_passMarkedWord_0 rfl (lv_at hl 0 rfl) ?_
  refine ad_bipush F dX11_passMarkedWord_1 (by decide) ?_
  refine ad_callV (As := [.int (iI 39)]) (rest := []) F G (c_X11_passes l D K z0 m0 M xth xrm xsv xat xer xwr xwd xlo xhi xwl xml xkl xfi xse xdn xon xtw xol xrw xgl xus xpr xmk xab gbf w 39 hT hC hL hat (by omega) (by omega)) my_X11_passes mv_X11_136 (wr := [(M 11, aI (K 0) 60 gbg), (M 12, aI (K 0) 60 gle), (M 13, aI (K 4) 60 gam)]) (isC := [0, 1]) (isR := [2, 3, 4]) ⟨rfl, rfl, rfl, rfl, by decide⟩ 11 0 rfl rfl rfl rfl ⟨Nat.le_of_ble_eq_true rfl, Nat.le_of_ble_eq_true rfl⟩ ⟨Nat.le_of_ble_eq_true rfl, Nat.le_of_ble_eq_true rfl⟩ (Nat.le_of_ble_eq_true rfl) hl.1 (cells9 := 0) (slots9 := 0) ⟨rfl, rfl⟩ dX11_passMarkedWord_3 (fun v u H locs hw_1 G => ?_)
  rcases hw_1 with ⟨rfl, hc_2, rfl⟩ | ⟨rfl, hc_3, rfl⟩
  · replace G := G.perm (ws' := [(m0, mO M xth xrm xsv (w.length : Int) (xat + 1) xer xwr xwd xlo xhi xwl xml xkl xfi xse xdn xon xtw xol xrw xgl xus xpr xmk xab), (M 6, aI (K 2) 100 gbf), (M 11, aI (K 0) 60 gbg), (M 12, aI (K 0) 60 gle), (M 13, aI (K 4) 60 gam)]) [3, 4, 0, 1, 2] rfl rfl
    refine W.eq (g2 := F0 m9 6 ls [.int (iI 1)]) rfl ?_
    refine lv_istore_n (lv' := [(1, .int (iI 1)), (0, .ref m0)]) F.1 F.2.1 dX11_passMarkedWord_6 rfl hl (by decide) rfl (fun ls hl => ?_)
    refine lv_aload_n F.1 F.2.1 dX11_passMarkedWord_7 rfl (lv_at hl 1 rfl) ?_
    refine ad_bipush F dX11_passMarkedWord_8 (by decide) ?_
    refine ad_callV (As := [.int (iI 24)]) (rest := []) F G (c_X11_passWord l D K z0 m0 M xth xrm xsv (xat + 1) xer xwr xwd xlo xhi xwl xml xkl xfi xse xdn xon xtw xol xrw xgl xus xpr xmk xab gbf w gbg gle gam 24 hT hC hL (by omega) hwr0 hwd (by omega)) my_X11_passWord mv_X11_139 (wr := []) (isC := [0, 1, 2, 3, 4]) (isR := []) ⟨rfl, rfl, rfl, rfl, by decide⟩ 11 0 rfl rfl rfl rfl ⟨Nat.le_of_ble_eq_true rfl, Nat.le_of_ble_eq_true rfl⟩ ⟨Nat.le_of_ble_eq_true rfl, Nat.le_of_ble_eq_true rfl⟩ (Nat.le_of_ble_eq_true rfl) hl.1 (cells9 := 0) (slots9 := 0) ⟨rfl, rfl⟩ dX11_passMarkedWord_10 (fun v u H locs hw_4 G => ?_)
    obtain ⟨az_5, wr_6, rfl, hc_7, hc_8, hc_9, rfl⟩ := hw_4
    replace G := G.perm (ws' := [(m0, mO M xth xrm xsv (w.length : Int) az_5 xer wr_6 (xwd + 1) xlo xhi xwl xml xkl xfi xse xdn xon xtw xol xrw xgl xus xpr xmk xab), (M 6, aI (K 2) 100 gbf), (M 11, aI (K 0) 60 (va_up gbg (xwd : Int).toNat (xat + 1))), (M 12, aI (K 0) 60 (va_up gle (xwd : Int).toNat (az_5 - (xat + 1)))), (M 13, aI (K 4) 60 (va_up gam (xwd : Int).toNat 0))]) [0, 1, 2, 3, 4] rfl rfl
    refine W.eq (g2 := F0 m9 13 ls []) rfl ?_
    refine lv_aload_n F.1 F.2.1 dX11_passMarkedWord_13 rfl (lv_at hl 1 rfl) ?_
    refine ad_get F G fl_X11_35 0 rfl rfl dX11_passMarkedWord_14 ?_
    refine lv_aload_n F.1 F.2.1 dX11_passMarkedWord_17 rfl (lv_at hl 1 rfl) ?_
    refine ad_get F G fl_X11_129 0 rfl rfl dX11_passMarkedWord_18 ?_
    refine ad_iconst F dX11_passMarkedWord_21 ?_
    refine ad_isub F dX11_passMarkedWord_22 ?_
    refine lv_iload_n F.1 F.2.1 dX11_passMarkedWord_23 rfl (lv_at hl 0 rfl) ?_
    refine ad_zast F G 4 rfl (by omega) (by omega) (ws' := [(m0, mO M xth xrm xsv (w.length : Int) az_5 xer wr_6 (xwd + 1) xlo xhi xwl xml xkl xfi xse xdn xon xtw xol xrw xgl xus xpr xmk xab), (M 6, aI (K 2) 100 gbf), (M 11, aI (K 0) 60 (va_up gbg (xwd : Int).toNat (xat + 1))), (M 12, aI (K 0) 60 (va_up gle (xwd : Int).toNat (az_5 - (xat + 1)))), (M 13, aI (K 4) 60 (va_up (va_up gam (xwd : Int).toNat 0) ((xwd + 1) - 1).toNat 1))]) rfl dX11_passMarkedWord_24 (fun H locs G => ?_)
    exact ad_vreturn F G hR rfl (Nat.le_of_ble_eq_true rfl) (Nat.le_of_ble_eq_true rfl) ⟨(xat + 1), az_5, wr_6, va_up (va_up gam (xwd : Int).toNat 0) ((xwd + 1) - 1).toNat 1, rfl, (by rw [frm, if_pos hc_2.2.2]), hc_7, hc_8, (by omega), (by rw [show (xwd + 1 - 1).toNat = (xwd : Int).toNat by omega, va_upI_s, if_pos hc_2.2.2]), (fun j hj => by simp only [va_up]; rw [if_neg (by omega), if_neg (by omega)]), rfl⟩ dX11_passMarkedWord_25
  · replace G := G.perm (ws' := [(m0, mO M xth xrm xsv (w.length : Int) xat xer xwr xwd xlo xhi xwl xml xkl xfi xse xdn xon xtw xol xrw xgl xus xpr xmk xab), (M 6, aI (K 2) 100 gbf), (M 11, aI (K 0) 60 gbg), (M 12, aI (K 0) 60 gle), (M 13, aI (K 4) 60 gam)]) [3, 4, 0, 1, 2] rfl rfl
    refine W.eq (g2 := F0 m9 6 ls [.int (iI 0)]) rfl ?_
    refine lv_istore_n (lv' := [(1, .int (iI 0)), (0, .ref m0)]) F.1 F.2.1 dX11_passMarkedWord_6 rfl hl (by decide) rfl (fun ls hl => ?_)
    refine lv_aload_n F.1 F.2.1 dX11_passMarkedWord_7 rfl (lv_at hl 1 rfl) ?_
    refine ad_bipush F dX11_passMarkedWord_8 (by decide) ?_
    refine ad_callV (As := [.int (iI 24)]) (rest := []) F G (c_X11_passWord l D K z0 m0 M xth xrm xsv xat xer xwr xwd xlo xhi xwl xml xkl xfi xse xdn xon xtw xol xrw xgl xus xpr xmk xab gbf w gbg gle gam 24 hT hC hL hat hwr0 hwd (by omega)) my_X11_passWord mv_X11_139 (wr := []) (isC := [0, 1, 2, 3, 4]) (isR := []) ⟨rfl, rfl, rfl, rfl, by decide⟩ 11 0 rfl rfl rfl rfl ⟨Nat.le_of_ble_eq_true rfl, Nat.le_of_ble_eq_true rfl⟩ ⟨Nat.le_of_ble_eq_true rfl, Nat.le_of_ble_eq_true rfl⟩ (Nat.le_of_ble_eq_true rfl) hl.1 (cells9 := 0) (slots9 := 0) ⟨rfl, rfl⟩ dX11_passMarkedWord_10 (fun v u H locs hw_10 G => ?_)
    obtain ⟨az_11, wr_12, rfl, hc_13, hc_14, hc_15, rfl⟩ := hw_10
    replace G := G.perm (ws' := [(m0, mO M xth xrm xsv (w.length : Int) az_11 xer wr_12 (xwd + 1) xlo xhi xwl xml xkl xfi xse xdn xon xtw xol xrw xgl xus xpr xmk xab), (M 6, aI (K 2) 100 gbf), (M 11, aI (K 0) 60 (va_up gbg (xwd : Int).toNat xat)), (M 12, aI (K 0) 60 (va_up gle (xwd : Int).toNat (az_11 - xat))), (M 13, aI (K 4) 60 (va_up gam (xwd : Int).toNat 0))]) [0, 1, 2, 3, 4] rfl rfl
    refine W.eq (g2 := F0 m9 13 ls []) rfl ?_
    refine lv_aload_n F.1 F.2.1 dX11_passMarkedWord_13 rfl (lv_at hl 1 rfl) ?_
    refine ad_get F G fl_X11_35 0 rfl rfl dX11_passMarkedWord_14 ?_
    refine lv_aload_n F.1 F.2.1 dX11_passMarkedWord_17 rfl (lv_at hl 1 rfl) ?_
    refine ad_get F G fl_X11_129 0 rfl rfl dX11_passMarkedWord_18 ?_
    refine ad_iconst F dX11_passMarkedWord_21 ?_
    refine ad_isub F dX11_passMarkedWord_22 ?_
    refine lv_iload_n F.1 F.2.1 dX11_passMarkedWord_23 rfl (lv_at hl 0 rfl) ?_
    refine ad_zast F G 4 rfl (by omega) (by omega) (ws' := [(m0, mO M xth xrm xsv (w.length : Int) az_11 xer wr_12 (xwd + 1) xlo xhi xwl xml xkl xfi xse xdn xon xtw xol xrw xgl xus xpr xmk xab), (M 6, aI (K 2) 100 gbf), (M 11, aI (K 0) 60 (va_up gbg (xwd : Int).toNat xat)), (M 12, aI (K 0) 60 (va_up gle (xwd : Int).toNat (az_11 - xat))), (M 13, aI (K 4) 60 (va_up (va_up gam (xwd : Int).toNat 0) ((xwd + 1) - 1).toNat 0))]) rfl dX11_passMarkedWord_24 (fun H locs G => ?_)
    exact ad_vreturn F G hR rfl (Nat.le_of_ble_eq_true rfl) (Nat.le_of_ble_eq_true rfl) ⟨xat, az_11, wr_12, va_up (va_up gam (xwd : Int).toNat 0) ((xwd + 1) - 1).toNat 0, rfl, (by rw [frm, if_neg (fun q => hc_3 ⟨hwr0, Decidable.byContradiction (fun r => by have := lat_out (w := w) (z := xat) (Or.inr (by omega)); omega), q⟩)]), hc_13, hc_14, (by omega), (by rw [show (xwd + 1 - 1).toNat = (xwd : Int).toNat by omega, va_upI_s, if_neg (fun q => hc_3 ⟨hwr0, Decidable.byContradiction (fun r => by have := lat_out (w := w) (z := xat) (Or.inr (by omega)); omega), q⟩)]), (fun j hj => by simp only [va_up]; rw [if_neg (by omega), if_neg (by omega)]), rfl⟩ dX11_passMarkedWord_25

def rm_X11_begin : Room := { frames := 1, cells := 0, slots := 0, locals := 12 }
set_option maxHeartbeats 4000000 in
set_option maxRecDepth 100000 in
theorem c_X11_begin (l : Launch) (D : va_G) (K : Nat → ClassId) (z0 : Nat) (m0 : Nat) (M : Nat → Nat) (xth : Int) (xrm : Int) (xsv : Int) (xln : Int) (xat : Int) (xer : Int) (xwr : Int) (xwd : Int) (xlo : Int) (xhi : Int) (xwl : Int) (xml : Int) (xkl : Int) (xfi : Int) (xse : Int) (xdn : Int) (xon : Int) (xtw : Int) (xol : Int) (xrw : Int) (xgl : Int) (xus : Int) (xpr : Int) (xmk : Int) (xab : Int) : CT l D K z0 yX11_begin cX11_begin 1 none rm_X11_begin [.ref m0] [(m0, mO M xth xrm xsv xln xat xer xwr xwd xlo xhi xwl xml xkl xfi xse xdn xon xtw xol xrw xgl xus xpr xmk xab)] (fun v9 u9 => v9 = none ∧ u9 = [(m0, mO M xth xrm xsv xln 0 xer 0 0 xlo xhi xwl xml xkl xfi xse xdn xon xtw xol xrw xgl xus xpr xmk xab)]) := by
  refine CT.start RX11 "begin" (by decide) rfl rfl (Nat.le_of_ble_eq_true rfl) ?_
  intro p9 e9 s9 m9 ag9 bl9 mt9 c9 A9 Q9 ls F G hR hl
  have hl : lv_has ls 1 [(0, .ref m0)] := hl
  refine lv_aload_n F.1 F.2.1 dX11_begin_0 rfl (lv_at hl 0 rfl) ?_
  refine ad_iconst F dX11_begin_1 ?_
  refine ad_put F G fl_X11_122 0 rfl rfl rfl (Nat.le_of_ble_eq_true rfl) (ws' := [(m0, mO M xth xrm xsv xln 0 xer xwr xwd xlo xhi xwl xml xkl xfi xse xdn xon xtw xol xrw xgl xus xpr xmk xab)]) rfl dX11_begin_2 (fun H locs G => ?_)
  refine lv_aload_n F.1 F.2.1 dX11_begin_5 rfl (lv_at hl 0 rfl) ?_
  refine ad_iconst F dX11_begin_6 ?_
  refine ad_put F G fl_X11_129 0 rfl rfl rfl (Nat.le_of_ble_eq_true rfl) (ws' := [(m0, mO M xth xrm xsv xln 0 xer xwr 0 xlo xhi xwl xml xkl xfi xse xdn xon xtw xol xrw xgl xus xpr xmk xab)]) rfl dX11_begin_7 (fun H locs G => ?_)
  refine lv_aload_n F.1 F.2.1 dX11_begin_10 rfl (lv_at hl 0 rfl) ?_
  refine ad_iconst F dX11_begin_11 ?_
  refine ad_put F G fl_X11_118 0 rfl rfl rfl (Nat.le_of_ble_eq_true rfl) (ws' := [(m0, mO M xth xrm xsv xln 0 xer 0 0 xlo xhi xwl xml xkl xfi xse xdn xon xtw xol xrw xgl xus xpr xmk xab)]) rfl dX11_begin_12 (fun H locs G => ?_)
  exact ad_vreturn F G hR rfl (Nat.le_of_ble_eq_true rfl) (Nat.le_of_ble_eq_true rfl) ⟨rfl, rfl⟩ dX11_begin_15

def rm_X11_passWords_0 : Room := { frames := 3, cells := 0, slots := 0, locals := 55 }
set_option maxHeartbeats 4000000 in
set_option maxRecDepth 100000 in
theorem c_X11_passWords_0 (l : Launch) (D : va_G) (K : Nat → ClassId) (z0 : Nat) (m0 : Nat) (M : Nat → Nat) (xth : Int) (xrm : Int) (xsv : Int) (xer : Int) (xwr : Int) (xlo : Int) (xhi : Int) (xwl : Int) (xml : Int) (xkl : Int) (xfi : Int) (xse : Int) (xdn : Int) (xon : Int) (xtw : Int) (xol : Int) (xrw : Int) (xgl : Int) (xus : Int) (xpr : Int) (xmk : Int) (xab : Int) (gbf : Nat → Int) (w : List Int) (gbg : Nat → Int) (gle : Nat → Int) (gam : Nat → Int) (wp : Int) (wt : Int) (n0 : Nat) (am : Int) (most : Int) (hT : Tx gbf w) (hC : Chs w) (hL : w.length ≤ 100) (ham : am = 0) (hwr0 : xwr = 0) (hS0 : PSI am wp w n0 wt n0) (hRd0 : RdW gbg gle gam w n0) (hmo : (most = 60 ∧ wt = 0) ∨ (most = wt ∧ 1 ≤ wt ∧ wt ≤ 60)) : CT l D K z0 yX11_passWords cX11_passWords 5 none rm_X11_passWords_0 [.ref m0, .int (iI most), .int (iI 0)] [(m0, mO M xth xrm xsv (w.length : Int) (stk w n0) xer xwr (n0 : Int) xlo xhi xwl xml xkl xfi xse xdn xon xtw xol xrw xgl xus xpr xmk xab), (M 6, aI (K 2) 100 gbf), (M 11, aI (K 0) 60 gbg), (M 12, aI (K 0) 60 gle), (M 13, aI (K 4) 60 gam)] (fun v9 u9 => ∃ (n : Nat), ∃ (fz : Int), ∃ (az : Int), ∃ (wr : Int), ∃ (gbg2 : Nat → Int), ∃ (gle2 : Nat → Int), ∃ (gam2 : Nat → Int), v9 = none ∧ (PSX am wp w n0 wt n fz az wr) ∧ (gbg2 (n : Int).toNat = fz ∧ gle2 (n : Int).toNat = az - fz ∧ gam2 (n : Int).toNat = 0) ∧ (RdW gbg2 gle2 gam2 w n) ∧ ((wr ≠ 0 ∨ most ≤ (n : Int) + 1 - n0 ∨ ¬ (wr = 0 ∧ az < w.length ∧ lat w az = 32)) ∧ n0 ≤ n ∧ (n : Int) ≤ 50 ∧ (n : Int) - n0 < most) ∧ (wr = 0 ∨ wr = 1) ∧ u9 = [(m0, mO M xth xrm xsv (w.length : Int) az xer wr ((n : Int) + 1) xlo xhi xwl xml xkl xfi xse xdn xon xtw xol xrw xgl xus xpr xmk xab), (M 6, aI (K 2) 100 gbf), (M 11, aI (K 0) 60 gbg2), (M 12, aI (K 0) 60 gle2), (M 13, aI (K 4) 60 gam2)]) := by
  refine CT.start RX11 "passWords" (by decide) rfl rfl (Nat.le_of_ble_eq_true rfl) ?_
  intro p9 e9 s9 m9 ag9 bl9 mt9 c9 A9 Q9 ls F G hR hl
  have hl : lv_has ls 5 [(0, .ref m0), (1, .int (iI most)), (2, .int (iI 0))] := hl
  have hng0 : 2 * (n0 : Int) ≤ stk w n0 := stk_ge n0 (fun j hj => (hS0.2.2.2.2 j hj).1)
  have hs0 : 0 ≤ stk w n0 ∧ stk w n0 ≤ w.length := ⟨hS0.1, hS0.2.1⟩
  refine lv_aload_n F.1 F.2.1 dX11_passWords_0 rfl (lv_at hl 0 rfl) ?_
  refine ad_get F G fl_X11_129 0 rfl rfl dX11_passWords_1 ?_
  refine lv_istore_n (lv' := [(3, .int (iI (n0 : Int))), (0, .ref m0), (1, .int (iI most)), (2, .int (iI 0))]) F.1 F.2.1 dX11_passWords_4 rfl hl (by decide) rfl (fun ls hl => ?_)
  refine ad_iconst F dX11_passWords_5 ?_
  refine lv_istore (lv' := [(4, .int (iI 1)), (3, .int (iI (n0 : Int))), (0, .ref m0), (1, .int (iI most)), (2, .int (iI 0))]) F.1 F.2.1 dX11_passWords_6 hl (by decide) rfl (fun ls hl => ?_)
  refine lv_iload F.1 F.2.1 dX11_passWords_8 (lv_at hl 0 rfl) ?_
  refine ad_if_eq (tgt := 66) F (by decide) dX11_passWords_10 (by decide) (fun cc_1 => absurd cc_1 (by decide)) (fun _ => ?_)
  have lp13 : ∀ (n13 : Nat) (n : Nat) (wz : Int) (gb : Nat → Int) (gl : Nat → Int) (gm : Nat → Int) (H : Heap) (locs : List Loc) (ls : Array Slot), (PSI am wp w n0 wt n) → (RdW gb gl gm w n) → (n0 ≤ n ∧ (n : Int) - n0 < most) → (wz = 0) → (w.length - stk w n) < (n13 : Int) → ad_G D A9 s9.heap H locs [(m0, mO M xth xrm xsv (w.length : Int) (stk w n) xer wz (n : Int) xlo xhi xwl xml xkl xfi xse xdn xon xtw xol xrw xgl xus xpr xmk xab), (M 6, aI (K 2) 100 gbf), (M 11, aI (K 0) 60 gb), (M 12, aI (K 0) 60 gl), (M 13, aI (K 4) 60 gm)] → lv_has ls 5 [(0, .ref m0), (1, .int (iI most)), (2, .int (iI 0)), (3, .int (iI (n0 : Int))), (4, .int (iI 1))] → W p9 l e9 rm_X11_passWords_0 s9 m9 ag9 bl9 mt9 c9 H locs 0 0 Q9 (F0 m9 13 ls []) := by
    intro n13
    induction n13 with
    | zero =>
      intro n wz gb gl gm H locs ls hS hRd hn hwz hm13
      exact absurd hm13 (by have := hS.2.1; omega)
    | succ n13 ih13 =>
      intro n wz gb gl gm H locs ls hS hRd hn hwz hm13 G hl
      have hng : 2 * (n : Int) ≤ stk w n := stk_ge n (fun j hj => (hS.2.2.2.2 j hj).1)
      have hs1 : 0 ≤ stk w n ∧ stk w n ≤ w.length := ⟨hS.1, hS.2.1⟩
      refine lv_iload_n F.1 F.2.1 dX11_passWords_13 rfl (lv_at hl 2 rfl) ?_
      refine ad_if_eq (tgt := 24) F (by decide) dX11_passWords_14 (by decide) (fun _ => ?_) (fun cc_2 => absurd cc_2 (by decide))
      refine lv_aload_n F.1 F.2.1 dX11_passWords_24 rfl (lv_at hl 0 rfl) ?_
      refine ad_bipush F dX11_passWords_25 (by decide) ?_
      refine ad_callV (As := [.int (iI 24)]) (rest := []) F G (c_X11_passWord l D K z0 m0 M xth xrm xsv (stk w n) xer wz (n : Int) xlo xhi xwl xml xkl xfi xse xdn xon xtw xol xrw xgl xus xpr xmk xab gbf w gb gl gm 24 hT hC hL hs1 hwz (by omega) (by omega)) my_X11_passWord mv_X11_139 (wr := []) (isC := [0, 1, 2, 3, 4]) (isR := []) ⟨rfl, rfl, rfl, rfl, by decide⟩ 11 0 rfl rfl rfl rfl ⟨Nat.le_of_ble_eq_true rfl, Nat.le_of_ble_eq_true rfl⟩ ⟨Nat.le_of_ble_eq_true rfl, Nat.le_of_ble_eq_true rfl⟩ (Nat.le_of_ble_eq_true rfl) hl.1 (cells9 := 0) (slots9 := 0) ⟨rfl, rfl⟩ dX11_passWords_27 (fun v u H locs hw_3 G => ?_)
      obtain ⟨az_4, wr_5, rfl, hc_6, hc_7, hc_8, rfl⟩ := hw_3
      replace G := G.perm (ws' := [(m0, mO M xth xrm xsv (w.length : Int) az_4 xer wr_5 ((n : Int) + 1) xlo xhi xwl xml xkl xfi xse xdn xon xtw xol xrw xgl xus xpr xmk xab), (M 6, aI (K 2) 100 gbf), (M 11, aI (K 0) 60 (va_up gb ((n : Int) : Int).toNat (stk w n))), (M 12, aI (K 0) 60 (va_up gl ((n : Int) : Int).toNat (az_4 - (stk w n)))), (M 13, aI (K 4) 60 (va_up gm ((n : Int) : Int).toNat 0))]) [0, 1, 2, 3, 4] rfl rfl
      refine W.eq (g2 := F0 m9 30 ls []) rfl ?_
      have hX : PSX am wp w n0 wt n (stk w n) az_4 wr_5 := psx_of hS (by rw [fA, if_neg (by omega)]) hc_6 hc_7
      refine lv_aload_n F.1 F.2.1 dX11_passWords_30 rfl (lv_at hl 0 rfl) ?_
      refine ad_get F G fl_X11_118 0 rfl rfl dX11_passWords_31 ?_
      refine ad_if_ne (tgt := 60) F (by omega) dX11_passWords_34 (by decide) (fun cc_9 => ?_) (fun cc_9 => ?_)
      · refine ad_iconst F dX11_passWords_60 ?_
        refine lv_istore (lv' := [(4, .int (iI 0)), (0, .ref m0), (1, .int (iI most)), (2, .int (iI 0)), (3, .int (iI (n0 : Int)))]) F.1 F.2.1 dX11_passWords_61 hl (by decide) rfl (fun ls hl => ?_)
        refine lv_goto (tgt := 8) F.1 F.2.1 dX11_passWords_63 (by decide) ?_
        refine lv_iload F.1 F.2.1 dX11_passWords_8 (lv_at hl 0 rfl) ?_
        refine ad_if_eq (tgt := 66) F (by decide) dX11_passWords_10 (by decide) (fun _ => ?_) (fun cc_10 => absurd cc_10 (by decide))
        exact ad_vreturn F G hR rfl (Nat.le_of_ble_eq_true rfl) (Nat.le_of_ble_eq_true rfl) ⟨n, (stk w n), az_4, wr_5, (va_up gb ((n : Int) : Int).toNat (stk w n)), (va_up gl ((n : Int) : Int).toNat (az_4 - (stk w n))), (va_up gm ((n : Int) : Int).toNat 0), rfl, hX, ⟨va_upI_s _ _ _, va_upI_s _ _ _, va_upI_s _ _ _⟩, (RdW_out hRd (fun j hj => by simp only [va_up]; rw [if_neg (by omega)]) (fun j hj => by simp only [va_up]; rw [if_neg (by omega)]) (fun j hj => by simp only [va_up]; rw [if_neg (by omega)])), (by omega), (by omega), rfl⟩ dX11_passWords_66
      · refine lv_aload_n F.1 F.2.1 dX11_passWords_37 rfl (lv_at hl 0 rfl) ?_
        refine ad_get F G fl_X11_129 0 rfl rfl dX11_passWords_38 ?_
        refine lv_iload_n F.1 F.2.1 dX11_passWords_41 rfl (lv_at hl 3 rfl) ?_
        refine ad_isub F dX11_passWords_42 ?_
        refine lv_iload_n F.1 F.2.1 dX11_passWords_43 rfl (lv_at hl 1 rfl) ?_
        refine ad_icmp_ge (tgt := 60) F (by omega) dX11_passWords_44 (by decide) (fun cc_11 => ?_) (fun cc_11 => ?_)
        · refine ad_iconst F dX11_passWords_60 ?_
          refine lv_istore (lv' := [(4, .int (iI 0)), (0, .ref m0), (1, .int (iI most)), (2, .int (iI 0)), (3, .int (iI (n0 : Int)))]) F.1 F.2.1 dX11_passWords_61 hl (by decide) rfl (fun ls hl => ?_)
          refine lv_goto (tgt := 8) F.1 F.2.1 dX11_passWords_63 (by decide) ?_
          refine lv_iload F.1 F.2.1 dX11_passWords_8 (lv_at hl 0 rfl) ?_
          refine ad_if_eq (tgt := 66) F (by decide) dX11_passWords_10 (by decide) (fun _ => ?_) (fun cc_12 => absurd cc_12 (by decide))
          exact ad_vreturn F G hR rfl (Nat.le_of_ble_eq_true rfl) (Nat.le_of_ble_eq_true rfl) ⟨n, (stk w n), az_4, wr_5, (va_up gb ((n : Int) : Int).toNat (stk w n)), (va_up gl ((n : Int) : Int).toNat (az_4 - (stk w n))), (va_up gm ((n : Int) : Int).toNat 0), rfl, hX, ⟨va_upI_s _ _ _, va_upI_s _ _ _, va_upI_s _ _ _⟩, (RdW_out hRd (fun j hj => by simp only [va_up]; rw [if_neg (by omega)]) (fun j hj => by simp only [va_up]; rw [if_neg (by omega)]) (fun j hj => by simp only [va_up]; rw [if_neg (by omega)])), (by omega), (by omega), rfl⟩ dX11_passWords_66
        · refine lv_aload_n F.1 F.2.1 dX11_passWords_47 rfl (lv_at hl 0 rfl) ?_
          refine ad_bipush F dX11_passWords_48 (by decide) ?_
          refine ad_callV (As := [.int (iI 32)]) (rest := []) F G (c_X11_passes l D K z0 m0 M xth xrm xsv az_4 xer wr_5 ((n : Int) + 1) xlo xhi xwl xml xkl xfi xse xdn xon xtw xol xrw xgl xus xpr xmk xab gbf w 32 hT hC hL (by omega) (by omega) (by omega)) my_X11_passes mv_X11_136 (wr := [(M 11, aI (K 0) 60 (va_up gb ((n : Int) : Int).toNat (stk w n))), (M 12, aI (K 0) 60 (va_up gl ((n : Int) : Int).toNat (az_4 - (stk w n)))), (M 13, aI (K 4) 60 (va_up gm ((n : Int) : Int).toNat 0))]) (isC := [0, 1]) (isR := [2, 3, 4]) ⟨rfl, rfl, rfl, rfl, by decide⟩ 11 0 rfl rfl rfl rfl ⟨Nat.le_of_ble_eq_true rfl, Nat.le_of_ble_eq_true rfl⟩ ⟨Nat.le_of_ble_eq_true rfl, Nat.le_of_ble_eq_true rfl⟩ (Nat.le_of_ble_eq_true rfl) hl.1 (cells9 := 0) (slots9 := 0) ⟨rfl, rfl⟩ dX11_passWords_50 (fun v u H locs hw_13 G => ?_)
          rcases hw_13 with ⟨rfl, hc_14, rfl⟩ | ⟨rfl, hc_15, rfl⟩
          · replace G := G.perm (ws' := [(m0, mO M xth xrm xsv (w.length : Int) (az_4 + 1) xer wr_5 ((n : Int) + 1) xlo xhi xwl xml xkl xfi xse xdn xon xtw xol xrw xgl xus xpr xmk xab), (M 6, aI (K 2) 100 gbf), (M 11, aI (K 0) 60 (va_up gb ((n : Int) : Int).toNat (stk w n))), (M 12, aI (K 0) 60 (va_up gl ((n : Int) : Int).toNat (az_4 - (stk w n)))), (M 13, aI (K 4) 60 (va_up gm ((n : Int) : Int).toNat 0))]) [3, 4, 0, 1, 2] rfl rfl
            refine W.eq (g2 := F0 m9 53 ls [.int (iI 1)]) rfl ?_
            refine ad_if_eq (tgt := 60) F (by decide) dX11_passWords_53 (by decide) (fun cc_16 => absurd cc_16 (by decide)) (fun _ => ?_)
            have hX0 : PSX am wp w n0 wt n (stk w n) az_4 0 := by rw [← hc_14.1]; exact hX
            have hwd9 : bW w n = (stk w n) ∧ eW w n = az_4 ∧ stk w (n + 1) = az_4 + 1 ∧ ∀ j : Nat, j < n + 1 → WdOk w j ∧ (bW w j = stk w j ∨ am = 1) := psx_wd hX0 (fun _ q => by rw [hc_14.2.2] at q; exact absurd q (by unfold isL; omega))
            have hst9 : stk w n < stk w (n + 1) := by obtain ⟨⟨x1, x2, x3, x4, x5⟩, -⟩ := hwd9.2.2.2 n (by omega); rw [stk_s]; omega
            have hS9 : PSI am wp w n0 wt (n + 1) := psx_sp hX0 hc_14.2.1 hc_14.2.2 (by omega)
            have hR9 : RdW (va_up gb (n : Int).toNat (stk w n)) (va_up gl (n : Int).toNat (az_4 - (stk w n))) (va_up gm (n : Int).toNat 0) w (n + 1) := RdW_push hRd hwd9.1 hwd9.2.1 (mk := 0) (mk_plain hX0 (by omega)) (fun j hj => by simp only [va_up]; rw [if_neg (by omega)]) (va_upI_s _ _ _)
            replace G := G.eq (ws' := [(m0, mO M xth xrm xsv (w.length : Int) (stk w (n + 1)) xer wr_5 ((n : Int) + 1) xlo xhi xwl xml xkl xfi xse xdn xon xtw xol xrw xgl xus xpr xmk xab), (M 6, aI (K 2) 100 gbf), (M 11, aI (K 0) 60 (va_up gb ((n : Int) : Int).toNat (stk w n))), (M 12, aI (K 0) 60 (va_up gl ((n : Int) : Int).toNat (az_4 - (stk w n)))), (M 13, aI (K 4) 60 (va_up gm ((n : Int) : Int).toNat 0))]) (by rw [hwd9.2.2.1])
            refine ad_iconst F dX11_passWords_56 ?_
            refine lv_goto (tgt := 61) F.1 F.2.1 dX11_passWords_57 (by decide) ?_
            refine lv_istore (lv' := [(4, .int (iI 1)), (0, .ref m0), (1, .int (iI most)), (2, .int (iI 0)), (3, .int (iI (n0 : Int)))]) F.1 F.2.1 dX11_passWords_61 hl (by decide) rfl (fun ls hl => ?_)
            refine lv_goto (tgt := 8) F.1 F.2.1 dX11_passWords_63 (by decide) ?_
            refine lv_iload F.1 F.2.1 dX11_passWords_8 (lv_at hl 0 rfl) ?_
            refine ad_if_eq (tgt := 66) F (by decide) dX11_passWords_10 (by decide) (fun cc_17 => absurd cc_17 (by decide)) (fun _ => ?_)
            exact ih13 (n + 1) wr_5 (va_up gb ((n : Int) : Int).toNat (stk w n)) (va_up gl ((n : Int) : Int).toNat (az_4 - (stk w n))) (va_up gm ((n : Int) : Int).toNat 0) _ _ _ hS9 hR9 (by omega) cc_9 (by omega) (G.perm (ws' := [(m0, mO M xth xrm xsv (w.length : Int) (stk w (n + 1)) xer wr_5 ((n + 1) : Int) xlo xhi xwl xml xkl xfi xse xdn xon xtw xol xrw xgl xus xpr xmk xab), (M 6, aI (K 2) 100 gbf), (M 11, aI (K 0) 60 (va_up gb ((n : Int) : Int).toNat (stk w n))), (M 12, aI (K 0) 60 (va_up gl ((n : Int) : Int).toNat (az_4 - (stk w n)))), (M 13, aI (K 4) 60 (va_up gm ((n : Int) : Int).toNat 0))]) [0, 1, 2, 3, 4] rfl rfl) (lv_sub hl [1, 2, 3, 4, 0] rfl)
          · replace G := G.perm (ws' := [(m0, mO M xth xrm xsv (w.length : Int) az_4 xer wr_5 ((n : Int) + 1) xlo xhi xwl xml xkl xfi xse xdn xon xtw xol xrw xgl xus xpr xmk xab), (M 6, aI (K 2) 100 gbf), (M 11, aI (K 0) 60 (va_up gb ((n : Int) : Int).toNat (stk w n))), (M 12, aI (K 0) 60 (va_up gl ((n : Int) : Int).toNat (az_4 - (stk w n)))), (M 13, aI (K 4) 60 (va_up gm ((n : Int) : Int).toNat 0))]) [3, 4, 0, 1, 2] rfl rfl
            refine W.eq (g2 := F0 m9 53 ls [.int (iI 0)]) rfl ?_
            refine ad_if_eq (tgt := 60) F (by decide) dX11_passWords_53 (by decide) (fun _ => ?_) (fun cc_18 => absurd cc_18 (by decide))
            refine ad_iconst F dX11_passWords_60 ?_
            refine lv_istore (lv' := [(4, .int (iI 0)), (0, .ref m0), (1, .int (iI most)), (2, .int (iI 0)), (3, .int (iI (n0 : Int)))]) F.1 F.2.1 dX11_passWords_61 hl (by decide) rfl (fun ls hl => ?_)
            refine lv_goto (tgt := 8) F.1 F.2.1 dX11_passWords_63 (by decide) ?_
            refine lv_iload F.1 F.2.1 dX11_passWords_8 (lv_at hl 0 rfl) ?_
            refine ad_if_eq (tgt := 66) F (by decide) dX11_passWords_10 (by decide) (fun _ => ?_) (fun cc_19 => absurd cc_19 (by decide))
            exact ad_vreturn F G hR rfl (Nat.le_of_ble_eq_true rfl) (Nat.le_of_ble_eq_true rfl) ⟨n, (stk w n), az_4, wr_5, (va_up gb ((n : Int) : Int).toNat (stk w n)), (va_up gl ((n : Int) : Int).toNat (az_4 - (stk w n))), (va_up gm ((n : Int) : Int).toNat 0), rfl, hX, ⟨va_upI_s _ _ _, va_upI_s _ _ _, va_upI_s _ _ _⟩, (RdW_out hRd (fun j hj => by simp only [va_up]; rw [if_neg (by omega)]) (fun j hj => by simp only [va_up]; rw [if_neg (by omega)]) (fun j hj => by simp only [va_up]; rw [if_neg (by omega)])), (by omega), (by omega), rfl⟩ dX11_passWords_66
  exact lp13 ((((w.length - stk w n0 : Int)) + 1).toNat) n0 xwr gbg gle gam _ _ _ hS0 hRd0 (by omega) hwr0 (by omega) (G.perm (ws' := [(m0, mO M xth xrm xsv (w.length : Int) (stk w n0) xer xwr (n0 : Int) xlo xhi xwl xml xkl xfi xse xdn xon xtw xol xrw xgl xus xpr xmk xab), (M 6, aI (K 2) 100 gbf), (M 11, aI (K 0) 60 gbg), (M 12, aI (K 0) 60 gle), (M 13, aI (K 4) 60 gam)]) [0, 1, 2, 3, 4] rfl rfl) (lv_sub hl [2, 3, 4, 1, 0] rfl)

def rm_X11_passWords_1 : Room := { frames := 4, cells := 0, slots := 0, locals := 76 }
set_option maxHeartbeats 4000000 in
set_option maxRecDepth 100000 in
theorem c_X11_passWords_1 (l : Launch) (D : va_G) (K : Nat → ClassId) (z0 : Nat) (m0 : Nat) (M : Nat → Nat) (xth : Int) (xrm : Int) (xsv : Int) (xer : Int) (xwr : Int) (xlo : Int) (xhi : Int) (xwl : Int) (xml : Int) (xkl : Int) (xfi : Int) (xse : Int) (xdn : Int) (xon : Int) (xtw : Int) (xol : Int) (xrw : Int) (xgl : Int) (xus : Int) (xpr : Int) (xmk : Int) (xab : Int) (gbf : Nat → Int) (w : List Int) (gbg : Nat → Int) (gle : Nat → Int) (gam : Nat → Int) (wp : Int) (wt : Int) (n0 : Nat) (am : Int) (most : Int) (hT : Tx gbf w) (hC : Chs w) (hL : w.length ≤ 100) (ham : am = 1) (hwr0 : xwr = 0) (hS0 : PSI am wp w n0 wt n0) (hRd0 : RdW gbg gle gam w n0) (hmo : (most = 60 ∧ wt = 0) ∨ (most = wt ∧ 1 ≤ wt ∧ wt ≤ 60)) : CT l D K z0 yX11_passWords cX11_passWords 5 none rm_X11_passWords_1 [.ref m0, .int (iI most), .int (iI 1)] [(m0, mO M xth xrm xsv (w.length : Int) (stk w n0) xer xwr (n0 : Int) xlo xhi xwl xml xkl xfi xse xdn xon xtw xol xrw xgl xus xpr xmk xab), (M 6, aI (K 2) 100 gbf), (M 11, aI (K 0) 60 gbg), (M 12, aI (K 0) 60 gle), (M 13, aI (K 4) 60 gam)] (fun v9 u9 => ∃ (n : Nat), ∃ (fz : Int), ∃ (az : Int), ∃ (wr : Int), ∃ (gbg2 : Nat → Int), ∃ (gle2 : Nat → Int), ∃ (gam2 : Nat → Int), v9 = none ∧ (PSX am wp w n0 wt n fz az wr) ∧ (gbg2 (n : Int).toNat = fz ∧ gle2 (n : Int).toNat = az - fz ∧ gam2 (n : Int).toNat = (if lat w (stk w n) = 39 then 1 else 0)) ∧ (RdW gbg2 gle2 gam2 w n) ∧ ((wr ≠ 0 ∨ most ≤ (n : Int) + 1 - n0 ∨ ¬ (wr = 0 ∧ az < w.length ∧ lat w az = 32)) ∧ n0 ≤ n ∧ (n : Int) ≤ 50 ∧ (n : Int) - n0 < most) ∧ (wr = 0 ∨ wr = 1) ∧ u9 = [(m0, mO M xth xrm xsv (w.length : Int) az xer wr ((n : Int) + 1) xlo xhi xwl xml xkl xfi xse xdn xon xtw xol xrw xgl xus xpr xmk xab), (M 6, aI (K 2) 100 gbf), (M 11, aI (K 0) 60 gbg2), (M 12, aI (K 0) 60 gle2), (M 13, aI (K 4) 60 gam2)]) := by
  refine CT.start RX11 "passWords" (by decide) rfl rfl (Nat.le_of_ble_eq_true rfl) ?_
  intro p9 e9 s9 m9 ag9 bl9 mt9 c9 A9 Q9 ls F G hR hl
  have hl : lv_has ls 5 [(0, .ref m0), (1, .int (iI most)), (2, .int (iI 1))] := hl
  have hng0 : 2 * (n0 : Int) ≤ stk w n0 := stk_ge n0 (fun j hj => (hS0.2.2.2.2 j hj).1)
  have hs0 : 0 ≤ stk w n0 ∧ stk w n0 ≤ w.length := ⟨hS0.1, hS0.2.1⟩
  refine lv_aload_n F.1 F.2.1 dX11_passWords_0 rfl (lv_at hl 0 rfl) ?_
  refine ad_get F G fl_X11_129 0 rfl rfl dX11_passWords_1 ?_
  refine lv_istore_n (lv' := [(3, .int (iI (n0 : Int))), (0, .ref m0), (1, .int (iI most)), (2, .int (iI 1))]) F.1 F.2.1 dX11_passWords_4 rfl hl (by decide) rfl (fun ls hl => ?_)
  refine ad_iconst F dX11_passWords_5 ?_
  refine lv_istore (lv' := [(4, .int (iI 1)), (3, .int (iI (n0 : Int))), (0, .ref m0), (1, .int (iI most)), (2, .int (iI 1))]) F.1 F.2.1 dX11_passWords_6 hl (by decide) rfl (fun ls hl => ?_)
  refine lv_iload F.1 F.2.1 dX11_passWords_8 (lv_at hl 0 rfl) ?_
  refine ad_if_eq (tgt := 66) F (by decide) dX11_passWords_10 (by decide) (fun cc_1 => absurd cc_1 (by decide)) (fun _ => ?_)
  have lp13 : ∀ (n13 : Nat) (n : Nat) (wz : Int) (gb : Nat → Int) (gl : Nat → Int) (gm : Nat → Int) (H : Heap) (locs : List Loc) (ls : Array Slot), (PSI am wp w n0 wt n) → (RdW gb gl gm w n) → (n0 ≤ n ∧ (n : Int) - n0 < most) → (wz = 0) → (w.length - stk w n) < (n13 : Int) → ad_G D A9 s9.heap H locs [(m0, mO M xth xrm xsv (w.length : Int) (stk w n) xer wz (n : Int) xlo xhi xwl xml xkl xfi xse xdn xon xtw xol xrw xgl xus xpr xmk xab), (M 6, aI (K 2) 100 gbf), (M 11, aI (K 0) 60 gb), (M 12, aI (K 0) 60 gl), (M 13, aI (K 4) 60 gm)] → lv_has ls 5 [(0, .ref m0), (1, .int (iI most)), (2, .int (iI 1)), (3, .int (iI (n0 : Int))), (4, .int (iI 1))] → W p9 l e9 rm_X11_passWords_1 s9 m9 ag9 bl9 mt9 c9 H locs 0 0 Q9 (F0 m9 13 ls []) := by
    intro n13
    induction n13 with
    | zero =>
      intro n wz gb gl gm H locs ls hS hRd hn hwz hm13
      exact absurd hm13 (by have := hS.2.1; omega)
    | succ n13 ih13 =>
      intro n wz gb gl gm H locs ls hS hRd hn hwz hm13 G hl
      have hng : 2 * (n : Int) ≤ stk w n := stk_ge n (fun j hj => (hS.2.2.2.2 j hj).1)
      have hs1 : 0 ≤ stk w n ∧ stk w n ≤ w.length := ⟨hS.1, hS.2.1⟩
      refine lv_iload_n F.1 F.2.1 dX11_passWords_13 rfl (lv_at hl 2 rfl) ?_
      refine ad_if_eq (tgt := 24) F (by decide) dX11_passWords_14 (by decide) (fun cc_2 => absurd cc_2 (by decide)) (fun _ => ?_)
      refine lv_aload_n F.1 F.2.1 dX11_passWords_17 rfl (lv_at hl 0 rfl) ?_
      refine ad_callV (As := []) (rest := []) F G (c_X11_passMarkedWord l D K z0 m0 M xth xrm xsv (stk w n) xer wz (n : Int) xlo xhi xwl xml xkl xfi xse xdn xon xtw xol xrw xgl xus xpr xmk xab gbf w gb gl gm hT hC hL hs1 hwz (by omega)) my_X11_passMarkedWord mv_X11_143 (wr := []) (isC := [0, 1, 2, 3, 4]) (isR := []) ⟨rfl, rfl, rfl, rfl, by decide⟩ 11 0 rfl rfl rfl rfl ⟨Nat.le_of_ble_eq_true rfl, Nat.le_of_ble_eq_true rfl⟩ ⟨Nat.le_of_ble_eq_true rfl, Nat.le_of_ble_eq_true rfl⟩ (Nat.le_of_ble_eq_true rfl) hl.1 (cells9 := 0) (slots9 := 0) ⟨rfl, rfl⟩ dX11_passWords_18 (fun v u H locs hw_3 G => ?_)
      obtain ⟨fz_4, az_5, wr_6, gam2_7, rfl, hc_8, hc_9, hc_10, hc_11, hc_12, hc_13, rfl⟩ := hw_3
      replace G := G.perm (ws' := [(m0, mO M xth xrm xsv (w.length : Int) az_5 xer wr_6 ((n : Int) + 1) xlo xhi xwl xml xkl xfi xse xdn xon xtw xol xrw xgl xus xpr xmk xab), (M 6, aI (K 2) 100 gbf), (M 11, aI (K 0) 60 (va_up gb ((n : Int) : Int).toNat fz_4)), (M 12, aI (K 0) 60 (va_up gl ((n : Int) : Int).toNat (az_5 - fz_4))), (M 13, aI (K 4) 60 gam2_7)]) [0, 1, 2, 3, 4] rfl rfl
      refine W.eq (g2 := F0 m9 21 ls []) rfl ?_
      have hX : PSX am wp w n0 wt n fz_4 az_5 wr_6 := psx_of hS (by rw [fA, if_pos (by omega)]; exact hc_8) hc_9 hc_10
      have hpx : 0 ≤ az_5 ∧ az_5 ≤ w.length := psx_rng hX
      refine lv_goto (tgt := 30) F.1 F.2.1 dX11_passWords_21 (by decide) ?_
      refine lv_aload_n F.1 F.2.1 dX11_passWords_30 rfl (lv_at hl 0 rfl) ?_
      refine ad_get F G fl_X11_118 0 rfl rfl dX11_passWords_31 ?_
      refine ad_if_ne (tgt := 60) F (by omega) dX11_passWords_34 (by decide) (fun cc_14 => ?_) (fun cc_14 => ?_)
      · refine ad_iconst F dX11_passWords_60 ?_
        refine lv_istore (lv' := [(4, .int (iI 0)), (0, .ref m0), (1, .int (iI most)), (2, .int (iI 1)), (3, .int (iI (n0 : Int)))]) F.1 F.2.1 dX11_passWords_61 hl (by decide) rfl (fun ls hl => ?_)
        refine lv_goto (tgt := 8) F.1 F.2.1 dX11_passWords_63 (by decide) ?_
        refine lv_iload F.1 F.2.1 dX11_passWords_8 (lv_at hl 0 rfl) ?_
        refine ad_if_eq (tgt := 66) F (by decide) dX11_passWords_10 (by decide) (fun _ => ?_) (fun cc_15 => absurd cc_15 (by decide))
        exact ad_vreturn F G hR rfl (Nat.le_of_ble_eq_true rfl) (Nat.le_of_ble_eq_true rfl) ⟨n, fz_4, az_5, wr_6, (va_up gb ((n : Int) : Int).toNat fz_4), (va_up gl ((n : Int) : Int).toNat (az_5 - fz_4)), gam2_7, rfl, hX, ⟨va_upI_s _ _ _, va_upI_s _ _ _, hc_12⟩, (RdW_out hRd (fun j hj => by simp only [va_up]; rw [if_neg (by omega)]) (fun j hj => by simp only [va_up]; rw [if_neg (by omega)]) hc_13), (by omega), (by omega), rfl⟩ dX11_passWords_66
      · refine lv_aload_n F.1 F.2.1 dX11_passWords_37 rfl (lv_at hl 0 rfl) ?_
        refine ad_get F G fl_X11_129 0 rfl rfl dX11_passWords_38 ?_
        refine lv_iload_n F.1 F.2.1 dX11_passWords_41 rfl (lv_at hl 3 rfl) ?_
        refine ad_isub F dX11_passWords_42 ?_
        refine lv_iload_n F.1 F.2.1 dX11_passWords_43 rfl (lv_at hl 1 rfl) ?_
        refine ad_icmp_ge (tgt := 60) F (by omega) dX11_passWords_44 (by decide) (fun cc_16 => ?_) (fun cc_16 => ?_)
        · refine ad_iconst F dX11_passWords_60 ?_
          refine lv_istore (lv' := [(4, .int (iI 0)), (0, .ref m0), (1, .int (iI most)), (2, .int (iI 1)), (3, .int (iI (n0 : Int)))]) F.1 F.2.1 dX11_passWords_61 hl (by decide) rfl (fun ls hl => ?_)
          refine lv_goto (tgt := 8) F.1 F.2.1 dX11_passWords_63 (by decide) ?_
          refine lv_iload F.1 F.2.1 dX11_passWords_8 (lv_at hl 0 rfl) ?_
          refine ad_if_eq (tgt := 66) F (by decide) dX11_passWords_10 (by decide) (fun _ => ?_) (fun cc_17 => absurd cc_17 (by decide))
          exact ad_vreturn F G hR rfl (Nat.le_of_ble_eq_true rfl) (Nat.le_of_ble_eq_true rfl) ⟨n, fz_4, az_5, wr_6, (va_up gb ((n : Int) : Int).toNat fz_4), (va_up gl ((n : Int) : Int).toNat (az_5 - fz_4)), gam2_7, rfl, hX, ⟨va_upI_s _ _ _, va_upI_s _ _ _, hc_12⟩, (RdW_out hRd (fun j hj => by simp only [va_up]; rw [if_neg (by omega)]) (fun j hj => by simp only [va_up]; rw [if_neg (by omega)]) hc_13), (by omega), (by omega), rfl⟩ dX11_passWords_66
        · refine lv_aload_n F.1 F.2.1 dX11_passWords_47 rfl (lv_at hl 0 rfl) ?_
          refine ad_bipush F dX11_passWords_48 (by decide) ?_
          refine ad_callV (As := [.int (iI 32)]) (rest := []) F G (c_X11_passes l D K z0 m0 M xth xrm xsv az_5 xer wr_6 ((n : Int) + 1) xlo xhi xwl xml xkl xfi xse xdn xon xtw xol xrw xgl xus xpr xmk xab gbf w 32 hT hC hL hpx (by omega) (by omega)) my_X11_passes mv_X11_136 (wr := [(M 11, aI (K 0) 60 (va_up gb ((n : Int) : Int).toNat fz_4)), (M 12, aI (K 0) 60 (va_up gl ((n : Int) : Int).toNat (az_5 - fz_4))), (M 13, aI (K 4) 60 gam2_7)]) (isC := [0, 1]) (isR := [2, 3, 4]) ⟨rfl, rfl, rfl, rfl, by decide⟩ 11 0 rfl rfl rfl rfl ⟨Nat.le_of_ble_eq_true rfl, Nat.le_of_ble_eq_true rfl⟩ ⟨Nat.le_of_ble_eq_true rfl, Nat.le_of_ble_eq_true rfl⟩ (Nat.le_of_ble_eq_true rfl) hl.1 (cells9 := 0) (slots9 := 0) ⟨rfl, rfl⟩ dX11_passWords_50 (fun v u H locs hw_18 G => ?_)
          rcases hw_18 with ⟨rfl, hc_19, rfl⟩ | ⟨rfl, hc_20, rfl⟩
          · replace G := G.perm (ws' := [(m0, mO M xth xrm xsv (w.length : Int) (az_5 + 1) xer wr_6 ((n : Int) + 1) xlo xhi xwl xml xkl xfi xse xdn xon xtw xol xrw xgl xus xpr xmk xab), (M 6, aI (K 2) 100 gbf), (M 11, aI (K 0) 60 (va_up gb ((n : Int) : Int).toNat fz_4)), (M 12, aI (K 0) 60 (va_up gl ((n : Int) : Int).toNat (az_5 - fz_4))), (M 13, aI (K 4) 60 gam2_7)]) [3, 4, 0, 1, 2] rfl rfl
            refine W.eq (g2 := F0 m9 53 ls [.int (iI 1)]) rfl ?_
            refine ad_if_eq (tgt := 60) F (by decide) dX11_passWords_53 (by decide) (fun cc_21 => absurd cc_21 (by decide)) (fun _ => ?_)
            have hX0 : PSX am wp w n0 wt n fz_4 az_5 0 := by rw [← hc_19.1]; exact hX
            have hwd9 : bW w n = fz_4 ∧ eW w n = az_5 ∧ stk w (n + 1) = az_5 + 1 ∧ ∀ j : Nat, j < n + 1 → WdOk w j ∧ (bW w j = stk w j ∨ am = 1) := psx_wd hX0 (fun _ q => by rw [hc_19.2.2] at q; exact absurd q (by unfold isL; omega))
            have hst9 : stk w n < stk w (n + 1) := by obtain ⟨⟨x1, x2, x3, x4, x5⟩, -⟩ := hwd9.2.2.2 n (by omega); rw [stk_s]; omega
            have hS9 : PSI am wp w n0 wt (n + 1) := psx_sp hX0 hc_19.2.1 hc_19.2.2 (by omega)
            have hR9 : RdW (va_up gb (n : Int).toNat fz_4) (va_up gl (n : Int).toNat (az_5 - fz_4)) gam2_7 w (n + 1) := RdW_push hRd hwd9.1 hwd9.2.1 (mk := if lat w (stk w n) = 39 then 1 else 0) rfl hc_13 hc_12
            replace G := G.eq (ws' := [(m0, mO M xth xrm xsv (w.length : Int) (stk w (n + 1)) xer wr_6 ((n : Int) + 1) xlo xhi xwl xml xkl xfi xse xdn xon xtw xol xrw xgl xus xpr xmk xab), (M 6, aI (K 2) 100 gbf), (M 11, aI (K 0) 60 (va_up gb ((n : Int) : Int).toNat fz_4)), (M 12, aI (K 0) 60 (va_up gl ((n : Int) : Int).toNat (az_5 - fz_4))), (M 13, aI (K 4) 60 gam2_7)]) (by rw [hwd9.2.2.1])
            refine ad_iconst F dX11_passWords_56 ?_
            refine lv_goto (tgt := 61) F.1 F.2.1 dX11_passWords_57 (by decide) ?_
            refine lv_istore (lv' := [(4, .int (iI 1)), (0, .ref m0), (1, .int (iI most)), (2, .int (iI 1)), (3, .int (iI (n0 : Int)))]) F.1 F.2.1 dX11_passWords_61 hl (by decide) rfl (fun ls hl => ?_)
            refine lv_goto (tgt := 8) F.1 F.2.1 dX11_passWords_63 (by decide) ?_
            refine lv_iload F.1 F.2.1 dX11_passWords_8 (lv_at hl 0 rfl) ?_
            refine ad_if_eq (tgt := 66) F (by decide) dX11_passWords_10 (by decide) (fun cc_22 => absurd cc_22 (by decide)) (fun _ => ?_)
            exact ih13 (n + 1) wr_6 (va_up gb ((n : Int) : Int).toNat fz_4) (va_up gl ((n : Int) : Int).toNat (az_5 - fz_4)) gam2_7 _ _ _ hS9 hR9 (by omega) cc_14 (by omega) (G.perm (ws' := [(m0, mO M xth xrm xsv (w.length : Int) (stk w (n + 1)) xer wr_6 ((n + 1) : Int) xlo xhi xwl xml xkl xfi xse xdn xon xtw xol xrw xgl xus xpr xmk xab), (M 6, aI (K 2) 100 gbf), (M 11, aI (K 0) 60 (va_up gb ((n : Int) : Int).toNat fz_4)), (M 12, aI (K 0) 60 (va_up gl ((n : Int) : Int).toNat (az_5 - fz_4))), (M 13, aI (K 4) 60 gam2_7)]) [0, 1, 2, 3, 4] rfl rfl) (lv_sub hl [1, 2, 3, 4, 0] rfl)
          · replace G := G.perm (ws' := [(m0, mO M xth xrm xsv (w.length : Int) az_5 xer wr_6 ((n : Int) + 1) xlo xhi xwl xml xkl xfi xse xdn xon xtw xol xrw xgl xus xpr xmk xab), (M 6, aI (K 2) 100 gbf), (M 11, aI (K 0) 60 (va_up gb ((n : Int) : Int).toNat fz_4)), (M 12, aI (K 0) 60 (va_up gl ((n : Int) : Int).toNat (az_5 - fz_4))), (M 13, aI (K 4) 60 gam2_7)]) [3, 4, 0, 1, 2] rfl rfl
            refine W.eq (g2 := F0 m9 53 ls [.int (iI 0)]) rfl ?_
            refine ad_if_eq (tgt := 60) F (by decide) dX11_passWords_53 (by decide) (fun _ => ?_) (fun cc_23 => absurd cc_23 (by decide))
            refine ad_iconst F dX11_passWords_60 ?_
            refine lv_istore (lv' := [(4, .int (iI 0)), (0, .ref m0), (1, .int (iI most)), (2, .int (iI 1)), (3, .int (iI (n0 : Int)))]) F.1 F.2.1 dX11_passWords_61 hl (by decide) rfl (fun ls hl => ?_)
            refine lv_goto (tgt := 8) F.1 F.2.1 dX11_passWords_63 (by decide) ?_
            refine lv_iload F.1 F.2.1 dX11_passWords_8 (lv_at hl 0 rfl) ?_
            refine ad_if_eq (tgt := 66) F (by decide) dX11_passWords_10 (by decide) (fun _ => ?_) (fun cc_24 => absurd cc_24 (by decide))
            exact ad_vreturn F G hR rfl (Nat.le_of_ble_eq_true rfl) (Nat.le_of_ble_eq_true rfl) ⟨n, fz_4, az_5, wr_6, (va_up gb ((n : Int) : Int).toNat fz_4), (va_up gl ((n : Int) : Int).toNat (az_5 - fz_4)), gam2_7, rfl, hX, ⟨va_upI_s _ _ _, va_upI_s _ _ _, hc_12⟩, (RdW_out hRd (fun j hj => by simp only [va_up]; rw [if_neg (by omega)]) (fun j hj => by simp only [va_up]; rw [if_neg (by omega)]) hc_13), (by omega), (by omega), rfl⟩ dX11_passWords_66
  exact lp13 ((((w.length - stk w n0 : Int)) + 1).toNat) n0 xwr gbg gle gam _ _ _ hS0 hRd0 (by omega) hwr0 (by omega) (G.perm (ws' := [(m0, mO M xth xrm xsv (w.length : Int) (stk w n0) xer xwr (n0 : Int) xlo xhi xwl xml xkl xfi xse xdn xon xtw xol xrw xgl xus xpr xmk xab), (M 6, aI (K 2) 100 gbf), (M 11, aI (K 0) 60 gbg), (M 12, aI (K 0) 60 gle), (M 13, aI (K 4) 60 gam)]) [0, 1, 2, 3, 4] rfl rfl) (lv_sub hl [2, 3, 4, 1, 0] rfl)
