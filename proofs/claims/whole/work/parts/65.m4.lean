theorem rd_full {gb gl gm : Nat → Int} {w : List Int} {n : Nat} (h : RdW gb gl gm w n) (h1 : gb n = bW w n) (h2 : gl n = eW w n - bW w n) (h3 : gm n = mkW w n) : RdW gb gl gm w (n + 1) := fun j hj => by
  rcases (show j < n ∨ j = n by omega) with q | q
  · exact h j q
  · subst q; exact ⟨h1, h2, h3⟩
theorem rt_of {am : Int} (ha : am = 0 ∨ am = 1) {w : List Int} {n : Nat} {f e : Int} (hX : PSX am 0 w 0 0 n f e 0) (he : e = w.length) (hL : w.length ≤ 100) {gb gl gm : Nat → Int} (hR : RdW gb gl gm w n) (hA : gb (n : Int).toNat = f ∧ gl (n : Int).toNat = e - f ∧ gm (n : Int).toNat = (if am = 1 then (if lat w (stk w n) = 39 then 1 else 0) else 0)) : PE am 0 w (-1) ∧ RT am w (n + 1) ∧ RdW gb gl gm w (n + 1) := by
  obtain ⟨w1, w2, w3, w4⟩ := psx_wd hX (fun q => by omega)
  have hg := stk_ge (n + 1) (fun j hj => (w4 j hj).1)
  refine ⟨psx_good hX he (Or.inl rfl), ⟨by omega, by omega, by omega, w4⟩, rd_full hR (by rw [w1]; exact hA.1) (by rw [w1, w2]; exact hA.2.1) ?_⟩
  have h3 := hA.2.2
  rcases ha with rfl | rfl
  · rw [mk_plain hX rfl]; exact h3
  · exact h3
def rm_X11_isMalformed_0 : Room := { frames := 1, cells := 0, slots := 0, locals := 12 }
set_option maxHeartbeats 4000000 in
set_option maxRecDepth 100000 in
theorem c_X11_isMalformed_0 (l : Launch) (D : va_G) (K : Nat → ClassId) (z0 : Nat) (m0 : Nat) (M : Nat → Nat) (xth : Int) (xrm : Int) (xsv : Int) (xln : Int) (xat : Int) (xer : Int) (xwr : Int) (xwd : Int) (xlo : Int) (xhi : Int) (xwl : Int) (xml : Int) (xkl : Int) (xfi : Int) (xse : Int) (xdn : Int) (xon : Int) (xtw : Int) (xol : Int) (xrw : Int) (xgl : Int) (xus : Int) (xpr : Int) (xmk : Int) (xab : Int) (hwr : xwr = 0 ∨ xwr = 1) (hat : 0 ≤ xat ∧ xat ≤ 100) (hln : 0 ≤ xln ∧ xln ≤ 100) : CT l D K z0 yX11_isMalformed cX11_isMalformed 2 (some .boolean) rm_X11_isMalformed_0 [.ref m0, .int (iI 0)] [(m0, mO M xth xrm xsv xln xat xer xwr xwd xlo xhi xwl xml xkl xfi xse xdn xon xtw xol xrw xgl xus xpr xmk xab)] (fun v9 u9 => (v9 = some (.int (iI 1)) ∧ (xwr = 1 ∨ xat < xln) ∧ u9 = [(m0, mO M xth xrm xsv xln xat xat 1 xwd xlo xhi xwl xml xkl xfi xse xdn xon xtw xol xrw xgl xus xpr xmk xab)]) ∨ (v9 = some (.int (iI 0)) ∧ (xwr = 0 ∧ xln ≤ xat) ∧ u9 = [(m0, mO M xth xrm xsv xln xat xer 0 xwd xlo xhi xwl xml xkl xfi xse xdn xon xtw xol xrw xgl xus xpr xmk xab)])) := by
  refine CT.start RX11 "isMalformed" (by decide) rfl rfl (Nat.le_of_ble_eq_true rfl) ?_
  intro p9 e9 s9 m9 ag9 bl9 mt9 c9 A9 Q9 ls F G hR hl
  have hl : lv_has ls 2 [(0, .ref m0), (1, .int (iI 0))] := hl
  refine lv_aload_n F.1 F.2.1 dX11_isMalformed_0 rfl (lv_at hl 0 rfl) ?_
  refine lv_dup F.1 F.2.1 dX11_isMalformed_1 rfl ?_
  refine ad_get F G fl_X11_118 0 rfl rfl dX11_isMalformed_2 ?_
  refine lv_aload_n F.1 F.2.1 dX11_isMalformed_5 rfl (lv_at hl 0 rfl) ?_
  refine ad_get F G fl_X11_122 0 rfl rfl dX11_isMalformed_6 ?_
  refine lv_aload_n F.1 F.2.1 dX11_isMalformed_9 rfl (lv_at hl 0 rfl) ?_
  refine ad_get F G fl_X11_115 0 rfl rfl dX11_isMalformed_10 ?_
  refine ad_icmp_ge (tgt := 20) F (by omega) dX11_isMalformed_13 (by decide) (fun cc_1 => ?_) (fun cc_1 => ?_)
  · refine ad_iconst F dX11_isMalformed_20 ?_
    refine ad_iorn F (by omega) dX11_isMalformed_21 ?_
    refine ad_put F G fl_X11_118 0 rfl (iI_boolN (by omega)).1 (iI_boolN (by omega)).2 (Nat.le_of_ble_eq_true rfl) (ws' := [(m0, mO M xth xrm xsv xln xat xer xwr xwd xlo xhi xwl xml xkl xfi xse xdn xon xtw xol xrw xgl xus xpr xmk xab)]) rfl dX11_isMalformed_22 (fun H locs G => ?_)
    rcases (show xwr = 0 ∨ xwr = 1 by omega) with rfl | rfl
    · refine lv_aload_n F.1 F.2.1 dX11_isMalformed_25 rfl (lv_at hl 0 rfl) ?_
      refine ad_get F G fl_X11_118 0 rfl rfl dX11_isMalformed_26 ?_
      refine ad_if_eq (tgt := 40) F (by decide) dX11_isMalformed_29 (by decide) (fun _ => ?_) (fun cc_3 => absurd cc_3 (by decide))
      refine lv_aload_n F.1 F.2.1 dX11_isMalformed_40 rfl (lv_at hl 0 rfl) ?_
      refine lv_iload_n F.1 F.2.1 dX11_isMalformed_41 rfl (lv_at hl 1 rfl) ?_
      refine ad_if_eq (tgt := 49) F (by decide) dX11_isMalformed_42 (by decide) (fun _ => ?_) (fun cc_4 => absurd cc_4 (by decide))
      refine lv_aload_n F.1 F.2.1 dX11_isMalformed_49 rfl (lv_at hl 0 rfl) ?_
      refine ad_get F G fl_X11_115 0 rfl rfl dX11_isMalformed_50 ?_
      refine ad_put F G fl_X11_115 0 rfl rfl rfl (Nat.le_of_ble_eq_true rfl) (ws' := [(m0, mO M xth xrm xsv xln xat xer 0 xwd xlo xhi xwl xml xkl xfi xse xdn xon xtw xol xrw xgl xus xpr xmk xab)]) rfl dX11_isMalformed_53 (fun H locs G => ?_)
      refine lv_aload_n F.1 F.2.1 dX11_isMalformed_56 rfl (lv_at hl 0 rfl) ?_
      refine ad_get F G fl_X11_118 0 rfl rfl dX11_isMalformed_57 ?_
      exact ad_zreturn F G hR rfl (Nat.le_of_ble_eq_true rfl) (Nat.le_of_ble_eq_true rfl) rfl (Or.inr (⟨rfl, (by omega), rfl⟩)) dX11_isMalformed_60
    · refine lv_aload_n F.1 F.2.1 dX11_isMalformed_25 rfl (lv_at hl 0 rfl) ?_
      refine ad_get F G fl_X11_118 0 rfl rfl dX11_isMalformed_26 ?_
      refine ad_if_eq (tgt := 40) F (by decide) dX11_isMalformed_29 (by decide) (fun cc_5 => absurd cc_5 (by decide)) (fun _ => ?_)
      refine lv_aload_n F.1 F.2.1 dX11_isMalformed_32 rfl (lv_at hl 0 rfl) ?_
      refine lv_aload_n F.1 F.2.1 dX11_isMalformed_33 rfl (lv_at hl 0 rfl) ?_
      refine ad_get F G fl_X11_122 0 rfl rfl dX11_isMalformed_34 ?_
      refine ad_put F G fl_X11_25 0 rfl rfl rfl (Nat.le_of_ble_eq_true rfl) (ws' := [(m0, mO M xth xrm xsv xln xat xat 1 xwd xlo xhi xwl xml xkl xfi xse xdn xon xtw xol xrw xgl xus xpr xmk xab)]) rfl dX11_isMalformed_37 (fun H locs G => ?_)
      refine lv_aload_n F.1 F.2.1 dX11_isMalformed_40 rfl (lv_at hl 0 rfl) ?_
      refine lv_iload_n F.1 F.2.1 dX11_isMalformed_41 rfl (lv_at hl 1 rfl) ?_
      refine ad_if_eq (tgt := 49) F (by decide) dX11_isMalformed_42 (by decide) (fun _ => ?_) (fun cc_6 => absurd cc_6 (by decide))
      refine lv_aload_n F.1 F.2.1 dX11_isMalformed_49 rfl (lv_at hl 0 rfl) ?_
      refine ad_get F G fl_X11_115 0 rfl rfl dX11_isMalformed_50 ?_
      refine ad_put F G fl_X11_115 0 rfl rfl rfl (Nat.le_of_ble_eq_true rfl) (ws' := [(m0, mO M xth xrm xsv xln xat xat 1 xwd xlo xhi xwl xml xkl xfi xse xdn xon xtw xol xrw xgl xus xpr xmk xab)]) rfl dX11_isMalformed_53 (fun H locs G => ?_)
      refine lv_aload_n F.1 F.2.1 dX11_isMalformed_56 rfl (lv_at hl 0 rfl) ?_
      refine ad_get F G fl_X11_118 0 rfl rfl dX11_isMalformed_57 ?_
      exact ad_zreturn F G hR rfl (Nat.le_of_ble_eq_true rfl) (Nat.le_of_ble_eq_true rfl) rfl (Or.inl ⟨rfl, (by omega), rfl⟩) dX11_isMalformed_60
  · refine ad_iconst F dX11_isMalformed_16 ?_
    refine lv_goto (tgt := 21) F.1 F.2.1 dX11_isMalformed_17 (by decide) ?_
    refine ad_iory F (by omega) dX11_isMalformed_21 ?_
    refine ad_put F G fl_X11_118 0 rfl rfl rfl (Nat.le_of_ble_eq_true rfl) (ws' := [(m0, mO M xth xrm xsv xln xat xer 1 xwd xlo xhi xwl xml xkl xfi xse xdn xon xtw xol xrw xgl xus xpr xmk xab)]) rfl dX11_isMalformed_22 (fun H locs G => ?_)
    refine lv_aload_n F.1 F.2.1 dX11_isMalformed_25 rfl (lv_at hl 0 rfl) ?_
    refine ad_get F G fl_X11_118 0 rfl rfl dX11_isMalformed_26 ?_
    refine ad_if_eq (tgt := 40) F (by decide) dX11_isMalformed_29 (by decide) (fun cc_7 => absurd cc_7 (by decide)) (fun _ => ?_)
    refine lv_aload_n F.1 F.2.1 dX11_isMalformed_32 rfl (lv_at hl 0 rfl) ?_
    refine lv_aload_n F.1 F.2.1 dX11_isMalformed_33 rfl (lv_at hl 0 rfl) ?_
    refine ad_get F G fl_X11_122 0 rfl rfl dX11_isMalformed_34 ?_
    refine ad_put F G fl_X11_25 0 rfl rfl rfl (Nat.le_of_ble_eq_true rfl) (ws' := [(m0, mO M xth xrm xsv xln xat xat 1 xwd xlo xhi xwl xml xkl xfi xse xdn xon xtw xol xrw xgl xus xpr xmk xab)]) rfl dX11_isMalformed_37 (fun H locs G => ?_)
    refine lv_aload_n F.1 F.2.1 dX11_isMalformed_40 rfl (lv_at hl 0 rfl) ?_
    refine lv_iload_n F.1 F.2.1 dX11_isMalformed_41 rfl (lv_at hl 1 rfl) ?_
    refine ad_if_eq (tgt := 49) F (by decide) dX11_isMalformed_42 (by decide) (fun _ => ?_) (fun cc_8 => absurd cc_8 (by decide))
    refine lv_aload_n F.1 F.2.1 dX11_isMalformed_49 rfl (lv_at hl 0 rfl) ?_
    refine ad_get F G fl_X11_115 0 rfl rfl dX11_isMalformed_50 ?_
    refine ad_put F G fl_X11_115 0 rfl rfl rfl (Nat.le_of_ble_eq_true rfl) (ws' := [(m0, mO M xth xrm xsv xln xat xat 1 xwd xlo xhi xwl xml xkl xfi xse xdn xon xtw xol xrw xgl xus xpr xmk xab)]) rfl dX11_isMalformed_53 (fun H locs G => ?_)
    refine lv_aload_n F.1 F.2.1 dX11_isMalformed_56 rfl (lv_at hl 0 rfl) ?_
    refine ad_get F G fl_X11_118 0 rfl rfl dX11_isMalformed_57 ?_
    exact ad_zreturn F G hR rfl (Nat.le_of_ble_eq_true rfl) (Nat.le_of_ble_eq_true rfl) rfl (Or.inl ⟨rfl, (by omega), rfl⟩) dX11_isMalformed_60

def rm_X11_isMalformed_1 : Room := { frames := 1, cells := 0, slots := 0, locals := 12 }
set_option maxHeartbeats 4000000 in
set_option maxRecDepth 100000 in
theorem c_X11_isMalformed_1 (l : Launch) (D : va_G) (K : Nat → ClassId) (z0 : Nat) (m0 : Nat) (M : Nat → Nat) (xth : Int) (xrm : Int) (xsv : Int) (xln : Int) (xat : Int) (xer : Int) (xwr : Int) (xwd : Int) (xlo : Int) (xhi : Int) (xwl : Int) (xml : Int) (xkl : Int) (xfi : Int) (xse : Int) (xdn : Int) (xon : Int) (xtw : Int) (xol : Int) (xrw : Int) (xgl : Int) (xus : Int) (xpr : Int) (xmk : Int) (xab : Int) (hwr : xwr = 0 ∨ xwr = 1) (hat : 0 ≤ xat ∧ xat ≤ 100) (hln : 0 ≤ xln ∧ xln ≤ 100) : CT l D K z0 yX11_isMalformed cX11_isMalformed 2 (some .boolean) rm_X11_isMalformed_1 [.ref m0, .int (iI 1)] [(m0, mO M xth xrm xsv xln xat xer xwr xwd xlo xhi xwl xml xkl xfi xse xdn xon xtw xol xrw xgl xus xpr xmk xab)] (fun v9 u9 => (v9 = some (.int (iI 1)) ∧ (xwr = 1 ∨ xat < xln) ∧ u9 = [(m0, mO M xth xrm xsv 0 xat xat 1 xwd xlo xhi xwl xml xkl xfi xse xdn xon xtw xol xrw xgl xus xpr xmk xab)]) ∨ (v9 = some (.int (iI 0)) ∧ (xwr = 0 ∧ xln ≤ xat) ∧ u9 = [(m0, mO M xth xrm xsv 0 xat xer 0 xwd xlo xhi xwl xml xkl xfi xse xdn xon xtw xol xrw xgl xus xpr xmk xab)])) := by
  refine CT.start RX11 "isMalformed" (by decide) rfl rfl (Nat.le_of_ble_eq_true rfl) ?_
  intro p9 e9 s9 m9 ag9 bl9 mt9 c9 A9 Q9 ls F G hR hl
  have hl : lv_has ls 2 [(0, .ref m0), (1, .int (iI 1))] := hl
  refine lv_aload_n F.1 F.2.1 dX11_isMalformed_0 rfl (lv_at hl 0 rfl) ?_
  refine lv_dup F.1 F.2.1 dX11_isMalformed_1 rfl ?_
  refine ad_get F G fl_X11_118 0 rfl rfl dX11_isMalformed_2 ?_
  refine lv_aload_n F.1 F.2.1 dX11_isMalformed_5 rfl (lv_at hl 0 rfl) ?_
  refine ad_get F G fl_X11_122 0 rfl rfl dX11_isMalformed_6 ?_
  refine lv_aload_n F.1 F.2.1 dX11_isMalformed_9 rfl (lv_at hl 0 rfl) ?_
  refine ad_get F G fl_X11_115 0 rfl rfl dX11_isMalformed_10 ?_
  refine ad_icmp_ge (tgt := 20) F (by omega) dX11_isMalformed_13 (by decide) (fun cc_1 => ?_) (fun cc_1 => ?_)
  · refine ad_iconst F dX11_isMalformed_20 ?_
    refine ad_iorn F (by omega) dX11_isMalformed_21 ?_
    refine ad_put F G fl_X11_118 0 rfl (iI_boolN (by omega)).1 (iI_boolN (by omega)).2 (Nat.le_of_ble_eq_true rfl) (ws' := [(m0, mO M xth xrm xsv xln xat xer xwr xwd xlo xhi xwl xml xkl xfi xse xdn xon xtw xol xrw xgl xus xpr xmk xab)]) rfl dX11_isMalformed_22 (fun H locs G => ?_)
    rcases (show xwr = 0 ∨ xwr = 1 by omega) with rfl | rfl
    · refine lv_aload_n F.1 F.2.1 dX11_isMalformed_25 rfl (lv_at hl 0 rfl) ?_
      refine ad_get F G fl_X11_118 0 rfl rfl dX11_isMalformed_26 ?_
      refine ad_if_eq (tgt := 40) F (by decide) dX11_isMalformed_29 (by decide) (fun _ => ?_) (fun cc_3 => absurd cc_3 (by decide))
      refine lv_aload_n F.1 F.2.1 dX11_isMalformed_40 rfl (lv_at hl 0 rfl) ?_
      refine lv_iload_n F.1 F.2.1 dX11_isMalformed_41 rfl (lv_at hl 1 rfl) ?_
      refine ad_if_eq (tgt := 49) F (by decide) dX11_isMalformed_42 (by decide) (fun cc_4 => absurd cc_4 (by decide)) (fun _ => ?_)
      refine ad_iconst F dX11_isMalformed_45 ?_
      refine lv_goto (tgt := 53) F.1 F.2.1 dX11_isMalformed_46 (by decide) ?_
      refine ad_put F G fl_X11_115 0 rfl rfl rfl (Nat.le_of_ble_eq_true rfl) (ws' := [(m0, mO M xth xrm xsv 0 xat xer 0 xwd xlo xhi xwl xml xkl xfi xse xdn xon xtw xol xrw xgl xus xpr xmk xab)]) rfl dX11_isMalformed_53 (fun H locs G => ?_)
      refine lv_aload_n F.1 F.2.1 dX11_isMalformed_56 rfl (lv_at hl 0 rfl) ?_
      refine ad_get F G fl_X11_118 0 rfl rfl dX11_isMalformed_57 ?_
      exact ad_zreturn F G hR rfl (Nat.le_of_ble_eq_true rfl) (Nat.le_of_ble_eq_true rfl) rfl (Or.inr (⟨rfl, (by omega), rfl⟩)) dX11_isMalformed_60
    · refine lv_aload_n F.1 F.2.1 dX11_isMalformed_25 rfl (lv_at hl 0 rfl) ?_
      refine ad_get F G fl_X11_118 0 rfl rfl dX11_isMalformed_26 ?_
      refine ad_if_eq (tgt := 40) F (by decide) dX11_isMalformed_29 (by decide) (fun cc_5 => absurd cc_5 (by decide)) (fun _ => ?_)
      refine lv_aload_n F.1 F.2.1 dX11_isMalformed_32 rfl (lv_at hl 0 rfl) ?_
      refine lv_aload_n F.1 F.2.1 dX11_isMalformed_33 rfl (lv_at hl 0 rfl) ?_
      refine ad_get F G fl_X11_122 0 rfl rfl dX11_isMalformed_34 ?_
      refine ad_put F G fl_X11_25 0 rfl rfl rfl (Nat.le_of_ble_eq_true rfl) (ws' := [(m0, mO M xth xrm xsv xln xat xat 1 xwd xlo xhi xwl xml xkl xfi xse xdn xon xtw xol xrw xgl xus xpr xmk xab)]) rfl dX11_isMalformed_37 (fun H locs G => ?_)
      refine lv_aload_n F.1 F.2.1 dX11_isMalformed_40 rfl (lv_at hl 0 rfl) ?_
      refine lv_iload_n F.1 F.2.1 dX11_isMalformed_41 rfl (lv_at hl 1 rfl) ?_
      refine ad_if_eq (tgt := 49) F (by decide) dX11_isMalformed_42 (by decide) (fun cc_6 => absurd cc_6 (by decide)) (fun _ => ?_)
      refine ad_iconst F dX11_isMalformed_45 ?_
      refine lv_goto (tgt := 53) F.1 F.2.1 dX11_isMalformed_46 (by decide) ?_
      refine ad_put F G fl_X11_115 0 rfl rfl rfl (Nat.le_of_ble_eq_true rfl) (ws' := [(m0, mO M xth xrm xsv 0 xat xat 1 xwd xlo xhi xwl xml xkl xfi xse xdn xon xtw xol xrw xgl xus xpr xmk xab)]) rfl dX11_isMalformed_53 (fun H locs G => ?_)
      refine lv_aload_n F.1 F.2.1 dX11_isMalformed_56 rfl (lv_at hl 0 rfl) ?_
      refine ad_get F G fl_X11_118 0 rfl rfl dX11_isMalformed_57 ?_
      exact ad_zreturn F G hR rfl (Nat.le_of_ble_eq_true rfl) (Nat.le_of_ble_eq_true rfl) rfl (Or.inl ⟨rfl, (by omega), rfl⟩) dX11_isMalformed_60
  · refine ad_iconst F dX11_isMalformed_16 ?_
    refine lv_goto (tgt := 21) F.1 F.2.1 dX11_isMalformed_17 (by decide) ?_
    refine ad_iory F (by omega) dX11_isMalformed_21 ?_
    refine ad_put F G fl_X11_118 0 rfl rfl rfl (Nat.le_of_ble_eq_true rfl) (ws' := [(m0, mO M xth xrm xsv xln xat xer 1 xwd xlo xhi xwl xml xkl xfi xse xdn xon xtw xol xrw xgl xus xpr xmk xab)]) rfl dX11_isMalformed_22 (fun H locs G => ?_)
    refine lv_aload_n F.1 F.2.1 dX11_isMalformed_25 rfl (lv_at hl 0 rfl) ?_
    refine ad_get F G fl_X11_118 0 rfl rfl dX11_isMalformed_26 ?_
    refine ad_if_eq (tgt := 40) F (by decide) dX11_isMalformed_29 (by decide) (fun cc_7 => absurd cc_7 (by decide)) (fun _ => ?_)
    refine lv_aload_n F.1 F.2.1 dX11_isMalformed_32 rfl (lv_at hl 0 rfl) ?_
    refine lv_aload_n F.1 F.2.1 dX11_isMalformed_33 rfl (lv_at hl 0 rfl) ?_
    refine ad_get F G fl_X11_122 0 rfl rfl dX11_isMalformed_34 ?_
    refine ad_put F G fl_X11_25 0 rfl rfl rfl (Nat.le_of_ble_eq_true rfl) (ws' := [(m0, mO M xth xrm xsv xln xat xat 1 xwd xlo xhi xwl xml xkl xfi xse xdn xon xtw xol xrw xgl xus xpr xmk xab)]) rfl dX11_isMalformed_37 (fun H locs G => ?_)
    refine lv_aload_n F.1 F.2.1 dX11_isMalformed_40 rfl (lv_at hl 0 rfl) ?_
    refine lv_iload_n F.1 F.2.1 dX11_isMalformed_41 rfl (lv_at hl 1 rfl) ?_
    refine ad_if_eq (tgt := 49) F (by decide) dX11_isMalformed_42 (by decide) (fun cc_8 => absurd cc_8 (by decide)) (fun _ => ?_)
    refine ad_iconst F dX11_isMalformed_45 ?_
    refine lv_goto (tgt := 53) F.1 F.2.1 dX11_isMalformed_46 (by decide) ?_
    refine ad_put F G fl_X11_115 0 rfl rfl rfl (Nat.le_of_ble_eq_true rfl) (ws' := [(m0, mO M xth xrm xsv 0 xat xat 1 xwd xlo xhi xwl xml xkl xfi xse xdn xon xtw xol xrw xgl xus xpr xmk xab)]) rfl dX11_isMalformed_53 (fun H locs G => ?_)
    refine lv_aload_n F.1 F.2.1 dX11_isMalformed_56 rfl (lv_at hl 0 rfl) ?_
    refine ad_get F G fl_X11_118 0 rfl rfl dX11_isMalformed_57 ?_
    exact ad_zreturn F G hR rfl (Nat.le_of_ble_eq_true rfl) (Nat.le_of_ble_eq_true rfl) rfl (Or.inl ⟨rfl, (by omega), rfl⟩) dX11_isMalformed_60

def rm_X11_readText_01 : Room := { frames := 4, cells := 0, slots := 0, locals := 79 }
set_option maxHeartbeats 4000000 in
set_option maxRecDepth 100000 in
theorem c_X11_readText_01 (l : Launch) (D : va_G) (K : Nat → ClassId) (z0 : Nat) (m0 : Nat) (M : Nat → Nat) (xth : Int) (xrm : Int) (xsv : Int) (xer : Int) (xlo : Int) (xhi : Int) (xwl : Int) (xml : Int) (xkl : Int) (xfi : Int) (xse : Int) (xdn : Int) (xon : Int) (xtw : Int) (xol : Int) (xrw : Int) (xgl : Int) (xus : Int) (xpr : Int) (xmk : Int) (xab : Int) (gbf : Nat → Int) (w : List Int) (gbg : Nat → Int) (gle : Nat → Int) (gam : Nat → Int) (xat : Int) (xwd : Int) (xwr : Int) (hT : Tx gbf w) (hC : Chs w) (hL : w.length ≤ 100) : CT l D K z0 yX11_readText cX11_readText 3 (some .boolean) rm_X11_readText_01 [.ref m0, .int (iI 0), .int (iI 1)] [(m0, mO M xth xrm xsv (w.length : Int) xat xer xwr xwd xlo xhi xwl xml xkl xfi xse xdn xon xtw xol xrw xgl xus xpr xmk xab), (M 6, aI (K 2) 100 gbf), (M 11, aI (K 0) 60 gbg), (M 12, aI (K 0) 60 gle), (M 13, aI (K 4) 60 gam)] (fun v9 u9 => (∃ (n : Nat), ∃ (az : Int), ∃ (gbg2 : Nat → Int), ∃ (gle2 : Nat → Int), ∃ (gam2 : Nat → Int), v9 = some (.int (iI 1)) ∧ (PE 0 0 w az) ∧ (0 ≤ az ∧ az ≤ w.length) ∧ u9 = [(m0, mO M xth xrm xsv 0 az az 1 ((n : Int) + 1) xlo xhi xwl xml xkl xfi xse xdn xon xtw xol xrw xgl xus xpr xmk xab), (M 6, aI (K 2) 100 gbf), (M 11, aI (K 0) 60 gbg2), (M 12, aI (K 0) 60 gle2), (M 13, aI (K 4) 60 gam2)]) ∨ (∃ (n : Nat), ∃ (az : Int), ∃ (gbg2 : Nat → Int), ∃ (gle2 : Nat → Int), ∃ (gam2 : Nat → Int), v9 = some (.int (iI 0)) ∧ (PE 0 0 w (-1)) ∧ (RT 0 w (n + 1)) ∧ (RdW gbg2 gle2 gam2 w (n + 1)) ∧ (az = w.length) ∧ u9 = [(m0, mO M xth xrm xsv 0 az xer 0 ((n : Int) + 1) xlo xhi xwl xml xkl xfi xse xdn xon xtw xol xrw xgl xus xpr xmk xab), (M 6, aI (K 2) 100 gbf), (M 11, aI (K 0) 60 gbg2), (M 12, aI (K 0) 60 gle2), (M 13, aI (K 4) 60 gam2)])) := by
  refine CT.start RX11 "readText" (by decide) rfl rfl (Nat.le_of_ble_eq_true rfl) ?_
  intro p9 e9 s9 m9 ag9 bl9 mt9 c9 A9 Q9 ls F G hR hl
  have hl : lv_has ls 3 [(0, .ref m0), (1, .int (iI 0)), (2, .int (iI 1))] := hl
  refine lv_aload_n F.1 F.2.1 dX11_readText_0 rfl (lv_at hl 0 rfl) ?_
  refine ad_callV (As := []) (rest := []) F G (c_X11_begin l D K z0 m0 M xth xrm xsv (w.length : Int) xat xer xwr xwd xlo xhi xwl xml xkl xfi xse xdn xon xtw xol xrw xgl xus xpr xmk xab ) my_X11_begin mv_X11_146 (wr := [(M 6, aI (K 2) 100 gbf), (M 11, aI (K 0) 60 gbg), (M 12, aI (K 0) 60 gle), (M 13, aI (K 4) 60 gam)]) (isC := [0]) (isR := [1, 2, 3, 4]) ⟨rfl, rfl, rfl, rfl, by decide⟩ 11 0 rfl rfl rfl rfl ⟨Nat.le_of_ble_eq_true rfl, Nat.le_of_ble_eq_true rfl⟩ ⟨Nat.le_of_ble_eq_true rfl, Nat.le_of_ble_eq_true rfl⟩ (Nat.le_of_ble_eq_true rfl) hl.1 (cells9 := 0) (slots9 := 0) ⟨rfl, rfl⟩ dX11_readText_1 (fun v u H locs hw_1 G => ?_)
  obtain ⟨rfl, rfl⟩ := hw_1
  replace G := G.perm (ws' := [(m0, mO M xth xrm xsv (w.length : Int) 0 xer 0 0 xlo xhi xwl xml xkl xfi xse xdn xon xtw xol xrw xgl xus xpr xmk xab), (M 6, aI (K 2) 100 gbf), (M 11, aI (K 0) 60 gbg), (M 12, aI (K 0) 60 gle), (M 13, aI (K 4) 60 gam)]) [4, 0, 1, 2, 3] rfl rfl
  refine W.eq (g2 := F0 m9 4 ls []) rfl ?_
  replace G := G.eq (ws' := [(m0, mO M xth xrm xsv (w.length : Int) (stk w 0) xer 0 ((0 : Nat) : Int) xlo xhi xwl xml xkl xfi xse xdn xon xtw xol xrw xgl xus xpr xmk xab), (M 6, aI (K 2) 100 gbf), (M 11, aI (K 0) 60 gbg), (M 12, aI (K 0) 60 gle), (M 13, aI (K 4) 60 gam)]) (rfl)
  refine lv_aload_n F.1 F.2.1 dX11_readText_4 rfl (lv_at hl 0 rfl) ?_
  refine ad_bipush F dX11_readText_5 (by decide) ?_
  refine lv_iload_n F.1 F.2.1 dX11_readText_7 rfl (lv_at hl 1 rfl) ?_
  refine ad_callV (As := [.int (iI 60), .int (iI 0)]) (rest := []) F G (c_X11_passWords_0 l D K z0 m0 M xth xrm xsv xer 0 xlo xhi xwl xml xkl xfi xse xdn xon xtw xol xrw xgl xus xpr xmk xab gbf w gbg gle gam 0 0 0 0 60 hT hC hL rfl (by omega) (psi_0 _ _ _) (fun j hj => absurd hj (Nat.not_lt_zero _)) (by omega)) my_X11_passWords mv_X11_149 (wr := []) (isC := [0, 1, 2, 3, 4]) (isR := []) ⟨rfl, rfl, rfl, rfl, by decide⟩ 11 0 rfl rfl rfl rfl ⟨Nat.le_of_ble_eq_true rfl, Nat.le_of_ble_eq_true rfl⟩ ⟨Nat.le_of_ble_eq_true rfl, Nat.le_of_ble_eq_true rfl⟩ (Nat.le_of_ble_eq_true rfl) hl.1 (cells9 := 0) (slots9 := 0) ⟨rfl, rfl⟩ dX11_readText_8 (fun v u H locs hw_2 G => ?_)
  obtain ⟨n_3, fz_4, az_5, wr_6, gbg2_7, gle2_8, gam2_9, rfl, hc_10, hc_11, hc_12, hc_13, hc_14, rfl⟩ := hw_2
  replace G := G.perm (ws' := [(m0, mO M xth xrm xsv (w.length : Int) az_5 xer wr_6 ((n_3 : Int) + 1) xlo xhi xwl xml xkl xfi xse xdn xon xtw xol xrw xgl xus xpr xmk xab), (M 6, aI (K 2) 100 gbf), (M 11, aI (K 0) 60 gbg2_7), (M 12, aI (K 0) 60 gle2_8), (M 13, aI (K 4) 60 gam2_9)]) [0, 1, 2, 3, 4] rfl rfl
  refine W.eq (g2 := F0 m9 11 ls []) rfl ?_
  have hpx : 0 ≤ az_5 ∧ az_5 ≤ w.length := psx_rng hc_10
  refine lv_aload_n F.1 F.2.1 dX11_readText_11 rfl (lv_at hl 0 rfl) ?_
  refine lv_iload_n F.1 F.2.1 dX11_readText_12 rfl (lv_at hl 2 rfl) ?_
  refine ad_callV (As := [.int (iI 1)]) (rest := []) F G (c_X11_isMalformed_1 l D K z0 m0 M xth xrm xsv (w.length : Int) az_5 xer wr_6 ((n_3 : Int) + 1) xlo xhi xwl xml xkl xfi xse xdn xon xtw xol xrw xgl xus xpr xmk xab hc_14 (by omega) (by omega)) my_X11_isMalformed mv_X11_153 (wr := [(M 6, aI (K 2) 100 gbf), (M 11, aI (K 0) 60 gbg2_7), (M 12, aI (K 0) 60 gle2_8), (M 13, aI (K 4) 60 gam2_9)]) (isC := [0]) (isR := [1, 2, 3, 4]) ⟨rfl, rfl, rfl, rfl, by decide⟩ 11 0 rfl rfl rfl rfl ⟨Nat.le_of_ble_eq_true rfl, Nat.le_of_ble_eq_true rfl⟩ ⟨Nat.le_of_ble_eq_true rfl, Nat.le_of_ble_eq_true rfl⟩ (Nat.le_of_ble_eq_true rfl) hl.1 (cells9 := 0) (slots9 := 0) ⟨rfl, rfl⟩ dX11_readText_13 (fun v u H locs hw_15 G => ?_)
  rcases hw_15 with ⟨rfl, hc_16, rfl⟩ | ⟨rfl, hc_17, rfl⟩
  · replace G := G.perm (ws' := [(m0, mO M xth xrm xsv 0 az_5 az_5 1 ((n_3 : Int) + 1) xlo xhi xwl xml xkl xfi xse xdn xon xtw xol xrw xgl xus xpr xmk xab), (M 6, aI (K 2) 100 gbf), (M 11, aI (K 0) 60 gbg2_7), (M 12, aI (K 0) 60 gle2_8), (M 13, aI (K 4) 60 gam2_9)]) [4, 0, 1, 2, 3] rfl rfl
    refine W.eq (g2 := F0 m9 16 ls [.int (iI 1)]) rfl ?_
    exact ad_zreturn F G hR rfl (Nat.le_of_ble_eq_true rfl) (Nat.le_of_ble_eq_true rfl) rfl (Or.inl ⟨n_3, az_5, gbg2_7, gle2_8, gam2_9, rfl, (psx_err hc_10 (fun q => psx_nok hc_10 q (fun r => by have := hc_13; omega) (fun _ => Or.inr (Or.inl rfl))) (fun q r => absurd q (by omega))), hpx, rfl⟩) dX11_readText_16
  · replace G := G.perm (ws' := [(m0, mO M xth xrm xsv 0 az_5 xer 0 ((n_3 : Int) + 1) xlo xhi xwl xml xkl xfi xse xdn xon xtw xol xrw xgl xus xpr xmk xab), (M 6, aI (K 2) 100 gbf), (M 11, aI (K 0) 60 gbg2_7), (M 12, aI (K 0) 60 gle2_8), (M 13, aI (K 4) 60 gam2_9)]) [4, 0, 1, 2, 3] rfl rfl
    refine W.eq (g2 := F0 m9 16 ls [.int (iI 0)]) rfl ?_
    have hrt := rt_of (am := 0) (by omega) (show PSX 0 0 w 0 0 n_3 fz_4 az_5 0 by (have q : wr_6 = 0 := (by omega)); (rw [q] at hc_10); exact hc_10) (by omega) hL hc_12 hc_11
    exact ad_zreturn F G hR rfl (Nat.le_of_ble_eq_true rfl) (Nat.le_of_ble_eq_true rfl) rfl (Or.inr (⟨n_3, az_5, gbg2_7, gle2_8, gam2_9, rfl, hrt.1, hrt.2.1, hrt.2.2, (by omega), rfl⟩)) dX11_readText_16

def rm_X11_readText_11 : Room := { frames := 5, cells := 0, slots := 0, locals := 100 }
set_option maxHeartbeats 4000000 in
set_option maxRecDepth 100000 in
theorem c_X11_readText_11 (l : Launch) (D : va_G) (K : Nat → ClassId) (z0 : Nat) (m0 : Nat) (M : Nat → Nat) (xth : Int) (xrm : Int) (xsv : Int) (xer : Int) (xlo : Int) (xhi : Int) (xwl : Int) (xml : Int) (xkl : Int) (xfi : Int) (xse : Int) (xdn : Int) (xon : Int) (xtw : Int) (xol : Int) (xrw : Int) (xgl : Int) (xus : Int) (xpr : Int) (xmk : Int) (xab : Int) (gbf : Nat → Int) (w : List Int) (gbg : Nat → Int) (gle : Nat → Int) (gam : Nat → Int) (xat : Int) (xwd : Int) (xwr : Int) (hT : Tx gbf w) (hC : Chs w) (hL : w.length ≤ 100) : CT l D K z0 yX11_readText cX11_readText 3 (some .boolean) rm_X11_readText_11 [.ref m0, .int (iI 1), .int (iI 1)] [(m0, mO M xth xrm xsv (w.length : Int) xat xer xwr xwd xlo xhi xwl xml xkl xfi xse xdn xon xtw xol xrw xgl xus xpr xmk xab), (M 6, aI (K 2) 100 gbf), (M 11, aI (K 0) 60 gbg), (M 12, aI (K 0) 60 gle), (M 13, aI (K 4) 60 gam)] (fun v9 u9 => (∃ (n : Nat), ∃ (az : Int), ∃ (gbg2 : Nat → Int), ∃ (gle2 : Nat → Int), ∃ (gam2 : Nat → Int), v9 = some (.int (iI 1)) ∧ (PE 1 0 w az) ∧ (0 ≤ az ∧ az ≤ w.length) ∧ u9 = [(m0, mO M xth xrm xsv 0 az az 1 ((n : Int) + 1) xlo xhi xwl xml xkl xfi xse xdn xon xtw xol xrw xgl xus xpr xmk xab), (M 6, aI (K 2) 100 gbf), (M 11, aI (K 0) 60 gbg2), (M 12, aI (K 0) 60 gle2), (M 13, aI (K 4) 60 gam2)]) ∨ (∃ (n : Nat), ∃ (az : Int), ∃ (gbg2 : Nat → Int), ∃ (gle2 : Nat → Int), ∃ (gam2 : Nat → Int), v9 = some (.int (iI 0)) ∧ (PE 1 0 w (-1)) ∧ (RT 1 w (n + 1)) ∧ (RdW gbg2 gle2 gam2 w (n + 1)) ∧ (az = w.length) ∧ u9 = [(m0, mO M xth xrm xsv 0 az xer 0 ((n : Int) + 1) xlo xhi xwl xml xkl xfi xse xdn xon xtw xol xrw xgl xus xpr xmk xab), (M 6, aI (K 2) 100 gbf), (M 11, aI (K 0) 60 gbg2), (M 12, aI (K 0) 60 gle2), (M 13, aI (K 4) 60 gam2)])) := by
  refine CT.start RX11 "readText" (by decide) rfl rfl (Nat.le_of_ble_eq_true rfl) ?_
  intro p9 e9 s9 m9 ag9 bl9 mt9 c9 A9 Q9 ls F G hR hl
  have hl : lv_has ls 3 [(0, .ref m0), (1, .int (iI 1)), (2, .int (iI 1))] := hl
  refine lv_aload_n F.1 F.2.1 dX11_readText_0 rfl (lv_at hl 0 rfl) ?_
  refine ad_callV (As := []) (rest := []) F G (c_X11_begin l D K z0 m0 M xth xrm xsv (w.length : Int) xat xer xwr xwd xlo xhi xwl xml xkl xfi xse xdn xon xtw xol xrw xgl xus xpr xmk xab ) my_X11_begin mv_X11_146 (wr := [(M 6, aI (K 2) 100 gbf), (M 11, aI (K 0) 60 gbg), (M 12, aI (K 0) 60 gle), (M 13, aI (K 4) 60 gam)]) (isC := [0]) (isR := [1, 2, 3, 4]) ⟨rfl, rfl, rfl, rfl, by decide⟩ 11 0 rfl rfl rfl rfl ⟨Nat.le_of_ble_eq_true rfl, Nat.le_of_ble_eq_true rfl⟩ ⟨Nat.le_of_ble_eq_true rfl, Nat.le_of_ble_eq_true rfl⟩ (Nat.le_of_ble_eq_true rfl) hl.1 (cells9 := 0) (slots9 := 0) ⟨rfl, rfl⟩ dX11_readText_1 (fun v u H locs hw_1 G => ?_)
  obtain ⟨rfl, rfl⟩ := hw_1
  replace G := G.perm (ws' := [(m0, mO M xth xrm xsv (w.length : Int) 0 xer 0 0 xlo xhi xwl xml xkl xfi xse xdn xon xtw xol xrw xgl xus xpr xmk xab), (M 6, aI (K 2) 100 gbf), (M 11, aI (K 0) 60 gbg), (M 12, aI (K 0) 60 gle), (M 13, aI (K 4) 60 gam)]) [4, 0, 1, 2, 3] rfl rfl
  refine W.eq (g2 := F0 m9 4 ls []) rfl ?_
  replace G := G.eq (ws' := [(m0, mO M xth xrm xsv (w.length : Int) (stk w 0) xer 0 ((0 : Nat) : Int) xlo xhi xwl xml xkl xfi xse xdn xon xtw xol xrw xgl xus xpr xmk xab), (M 6, aI (K 2) 100 gbf), (M 11, aI (K 0) 60 gbg), (M 12, aI (K 0) 60 gle), (M 13, aI (K 4) 60 gam)]) (rfl)
  refine lv_aload_n F.1 F.2.1 dX11_readText_4 rfl (lv_at hl 0 rfl) ?_
  refine ad_bipush F dX11_readText_5 (by decide) ?_
  refine lv_iload_n F.1 F.2.1 dX11_readText_7 rfl (lv_at hl 1 rfl) ?_
  refine ad_callV (As := [.int (iI 60), .int (iI 1)]) (rest := []) F G (c_X11_passWords_1 l D K z0 m0 M xth xrm xsv xer 0 xlo xhi xwl xml xkl xfi xse xdn xon xtw xol xrw xgl xus xpr xmk xab gbf w gbg gle gam 0 0 0 1 60 hT hC hL rfl (by omega) (psi_0 _ _ _) (fun j hj => absurd hj (Nat.not_lt_zero _)) (by omega)) my_X11_passWords mv_X11_149 (wr := []) (isC := [0, 1, 2, 3, 4]) (isR := []) ⟨rfl, rfl, rfl, rfl, by decide⟩ 11 0 rfl rfl rfl rfl ⟨Nat.le_of_ble_eq_true rfl, Nat.le_of_ble_eq_true rfl⟩ ⟨Nat.le_of_ble_eq_true rfl, Nat.le_of_ble_eq_true rfl⟩ (Nat.le_of_ble_eq_true rfl) hl.1 (cells9 := 0) (slots9 := 0) ⟨rfl, rfl⟩ dX11_readText_8 (fun v u H locs hw_2 G => ?_)
  obtain ⟨n_3, fz_4, az_5, wr_6, gbg2_7, gle2_8, gam2_9, rfl, hc_10, hc_11, hc_12, hc_13, hc_14, rfl⟩ := hw_2
  replace G := G.perm (ws' := [(m0, mO M xth xrm xsv (w.length : Int) az_5 xer wr_6 ((n_3 : Int) + 1) xlo xhi xwl xml xkl xfi xse xdn xon xtw xol xrw xgl xus xpr xmk xab), (M 6, aI (K 2) 100 gbf), (M 11, aI (K 0) 60 gbg2_7), (M 12, aI (K 0) 60 gle2_8), (M 13, aI (K 4) 60 gam2_9)]) [0, 1, 2, 3, 4] rfl rfl
  refine W.eq (g2 := F0 m9 11 ls []) rfl ?_
  have hpx : 0 ≤ az_5 ∧ az_5 ≤ w.length := psx_rng hc_10
  refine lv_aload_n F.1 F.2.1 dX11_readText_11 rfl (lv_at hl 0 rfl) ?_
  refine lv_iload_n F.1 F.2.1 dX11_readText_12 rfl (lv_at hl 2 rfl) ?_
  refine ad_callV (As := [.int (iI 1)]) (rest := []) F G (c_X11_isMalformed_1 l D K z0 m0 M xth xrm xsv (w.length : Int) az_5 xer wr_6 ((n_3 : Int) + 1) xlo xhi xwl xml xkl xfi xse xdn xon xtw xol xrw xgl xus xpr xmk xab hc_14 (by omega) (by omega)) my_X11_isMalformed mv_X11_153 (wr := [(M 6, aI (K 2) 100 gbf), (M 11, aI (K 0) 60 gbg2_7), (M 12, aI (K 0) 60 gle2_8), (M 13, aI (K 4) 60 gam2_9)]) (isC := [0]) (isR := [1, 2, 3, 4]) ⟨rfl, rfl, rfl, rfl, by decide⟩ 11 0 rfl rfl rfl rfl ⟨Nat.le_of_ble_eq_true rfl, Nat.le_of_ble_eq_true rfl⟩ ⟨Nat.le_of_ble_eq_true rfl, Nat.le_of_ble_eq_true rfl⟩ (Nat.le_of_ble_eq_true rfl) hl.1 (cells9 := 0) (slots9 := 0) ⟨rfl, rfl⟩ dX11_readText_13 (fun v u H locs hw_15 G => ?_)
  rcases hw_15 with ⟨rfl, hc_16, rfl⟩ | ⟨rfl, hc_17, rfl⟩
  · replace G := G.perm (ws' := [(m0, mO M xth xrm xsv 0 az_5 az_5 1 ((n_3 : Int) + 1) xlo xhi xwl xml xkl xfi xse xdn xon xtw xol xrw xgl xus xpr xmk xab), (M 6, aI (K 2) 100 gbf), (M 11, aI (K 0) 60 gbg2_7), (M 12, aI (K 0) 60 gle2_8), (M 13, aI (K 4) 60 gam2_9)]) [4, 0, 1, 2, 3] rfl rfl
    refine W.eq (g2 := F0 m9 16 ls [.int (iI 1)]) rfl ?_
    exact ad_zreturn F G hR rfl (Nat.le_of_ble_eq_true rfl) (Nat.le_of_ble_eq_true rfl) rfl (Or.inl ⟨n_3, az_5, gbg2_7, gle2_8, gam2_9, rfl, (psx_err hc_10 (fun q => psx_nok hc_10 q (fun r => by have := hc_13; omega) (fun _ => Or.inr (Or.inl rfl))) (fun q r => absurd q (by omega))), hpx, rfl⟩) dX11_readText_16
  · replace G := G.perm (ws' := [(m0, mO M xth xrm xsv 0 az_5 xer 0 ((n_3 : Int) + 1) xlo xhi xwl xml xkl xfi xse xdn xon xtw xol xrw xgl xus xpr xmk xab), (M 6, aI (K 2) 100 gbf), (M 11, aI (K 0) 60 gbg2_7), (M 12, aI (K 0) 60 gle2_8), (M 13, aI (K 4) 60 gam2_9)]) [4, 0, 1, 2, 3] rfl rfl
    refine W.eq (g2 := F0 m9 16 ls [.int (iI 0)]) rfl ?_
    have hrt := rt_of (am := 1) (by omega) (show PSX 1 0 w 0 0 n_3 fz_4 az_5 0 by (have q : wr_6 = 0 := (by omega)); (rw [q] at hc_10); exact hc_10) (by omega) hL hc_12 hc_11
    exact ad_zreturn F G hR rfl (Nat.le_of_ble_eq_true rfl) (Nat.le_of_ble_eq_true rfl) rfl (Or.inr (⟨n_3, az_5, gbg2_7, gle2_8, gam2_9, rfl, hrt.1, hrt.2.1, hrt.2.2, (by omega), rfl⟩)) dX11_readText_16

def rm_X11_readText_00 : Room := { frames := 4, cells := 0, slots := 0, locals := 79 }
set_option maxHeartbeats 4000000 in
set_option maxRecDepth 100000 in
theorem c_X11_readText_00 (l : Launch) (D : va_G) (K : Nat → ClassId) (z0 : Nat) (m0 : Nat) (M : Nat → Nat) (xth : Int) (xrm : Int) (xsv : Int) (xer : Int) (xlo : Int) (xhi : Int) (xwl : Int) (xml : Int) (xkl : Int) (xfi : Int) (xse : Int) (xdn : Int) (xon : Int) (xtw : Int) (xol : Int) (xrw : Int) (xgl : Int) (xus : Int) (xpr : Int) (xmk : Int) (xab : Int) (gbf : Nat → Int) (w : List Int) (gbg : Nat → Int) (gle : Nat → Int) (gam : Nat → Int) (xat : Int) (xwd : Int) (xwr : Int) (hT : Tx gbf w) (hC : Chs w) (hL : w.length ≤ 100) : CT l D K z0 yX11_readText cX11_readText 3 (some .boolean) rm_X11_readText_00 [.ref m0, .int (iI 0), .int (iI 0)] [(m0, mO M xth xrm xsv (w.length : Int) xat xer xwr xwd xlo xhi xwl xml xkl xfi xse xdn xon xtw xol xrw xgl xus xpr xmk xab), (M 6, aI (K 2) 100 gbf), (M 11, aI (K 0) 60 gbg), (M 12, aI (K 0) 60 gle), (M 13, aI (K 4) 60 gam)] (fun v9 u9 => (∃ (n : Nat), ∃ (az : Int), ∃ (gbg2 : Nat → Int), ∃ (gle2 : Nat → Int), ∃ (gam2 : Nat → Int), v9 = some (.int (iI 1)) ∧ (PE 0 0 w az) ∧ (0 ≤ az ∧ az ≤ w.length) ∧ u9 = [(m0, mO M xth xrm xsv (w.length : Int) az az 1 ((n : Int) + 1) xlo xhi xwl xml xkl xfi xse xdn xon xtw xol xrw xgl xus xpr xmk xab), (M 6, aI (K 2) 100 gbf), (M 11, aI (K 0) 60 gbg2), (M 12, aI (K 0) 60 gle2), (M 13, aI (K 4) 60 gam2)]) ∨ (∃ (n : Nat), ∃ (az : Int), ∃ (gbg2 : Nat → Int), ∃ (gle2 : Nat → Int), ∃ (gam2 : Nat → Int), v9 = some (.int (iI 0)) ∧ (PE 0 0 w (-1)) ∧ (RT 0 w (n + 1)) ∧ (RdW gbg2 gle2 gam2 w (n + 1)) ∧ (az = w.length) ∧ u9 = [(m0, mO M xth xrm xsv (w.length : Int) az xer 0 ((n : Int) + 1) xlo xhi xwl xml xkl xfi xse xdn xon xtw xol xrw xgl xus xpr xmk xab), (M 6, aI (K 2) 100 gbf), (M 11, aI (K 0) 60 gbg2), (M 12, aI (K 0) 60 gle2), (M 13, aI (K 4) 60 gam2)])) := by
  refine CT.start RX11 "readText" (by decide) rfl rfl (Nat.le_of_ble_eq_true rfl) ?_
  intro p9 e9 s9 m9 ag9 bl9 mt9 c9 A9 Q9 ls F G hR hl
  have hl : lv_has ls 3 [(0, .ref m0), (1, .int (iI 0)), (2, .int (iI 0))] := hl
  refine lv_aload_n F.1 F.2.1 dX11_readText_0 rfl (lv_at hl 0 rfl) ?_
  refine ad_callV (As := []) (rest := []) F G (c_X11_begin l D K z0 m0 M xth xrm xsv (w.length : Int) xat xer xwr xwd xlo xhi xwl xml xkl xfi xse xdn xon xtw xol xrw xgl xus xpr xmk xab ) my_X11_begin mv_X11_146 (wr := [(M 6, aI (K 2) 100 gbf), (M 11, aI (K 0) 60 gbg), (M 12, aI (K 0) 60 gle), (M 13, aI (K 4) 60 gam)]) (isC := [0]) (isR := [1, 2, 3, 4]) ⟨rfl, rfl, rfl, rfl, by decide⟩ 11 0 rfl rfl rfl rfl ⟨Nat.le_of_ble_eq_true rfl, Nat.le_of_ble_eq_true rfl⟩ ⟨Nat.le_of_ble_eq_true rfl, Nat.le_of_ble_eq_true rfl⟩ (Nat.le_of_ble_eq_true rfl) hl.1 (cells9 := 0) (slots9 := 0) ⟨rfl, rfl⟩ dX11_readText_1 (fun v u H locs hw_1 G => ?_)
  obtain ⟨rfl, rfl⟩ := hw_1
  replace G := G.perm (ws' := [(m0, mO M xth xrm xsv (w.length : Int) 0 xer 0 0 xlo xhi xwl xml xkl xfi xse xdn xon xtw xol xrw xgl xus xpr xmk xab), (M 6, aI (K 2) 100 gbf), (M 11, aI (K 0) 60 gbg), (M 12, aI (K 0) 60 gle), (M 13, aI (K 4) 60 gam)]) [4, 0, 1, 2, 3] rfl rfl
  refine W.eq (g2 := F0 m9 4 ls []) rfl ?_
  replace G := G.eq (ws' := [(m0, mO M xth xrm xsv (w.length : Int) (stk w 0) xer 0 ((0 : Nat) : Int) xlo xhi xwl xml xkl xfi xse xdn xon xtw xol xrw xgl xus xpr xmk xab), (M 6, aI (K 2) 100 gbf), (M 11, aI (K 0) 60 gbg), (M 12, aI (K 0) 60 gle), (M 13, aI (K 4) 60 gam)]) (rfl)
  refine lv_aload_n F.1 F.2.1 dX11_readText_4 rfl (lv_at hl 0 rfl) ?_
  refine ad_bipush F dX11_readText_5 (by decide) ?_
  refine lv_iload_n F.1 F.2.1 dX11_readText_7 rfl (lv_at hl 1 rfl) ?_
  refine ad_callV (As := [.int (iI 60), .int (iI 0)]) (rest := []) F G (c_X11_passWords_0 l D K z0 m0 M xth xrm xsv xer 0 xlo xhi xwl xml xkl xfi xse xdn xon xtw xol xrw xgl xus xpr xmk xab gbf w gbg gle gam 0 0 0 0 60 hT hC hL rfl (by omega) (psi_0 _ _ _) (fun j hj => absurd hj (Nat.not_lt_zero _)) (by omega)) my_X11_passWords mv_X11_149 (wr := []) (isC := [0, 1, 2, 3, 4]) (isR := []) ⟨rfl, rfl, rfl, rfl, by decide⟩ 11 0 rfl rfl rfl rfl ⟨Nat.le_of_ble_eq_true rfl, Nat.le_of_ble_eq_true rfl⟩ ⟨Nat.le_of_ble_eq_true rfl, Nat.le_of_ble_eq_true rfl⟩ (Nat.le_of_ble_eq_true rfl) hl.1 (cells9 := 0) (slots9 := 0) ⟨rfl, rfl⟩ dX11_readText_8 (fun v u H locs hw_2 G => ?_)
  obtain ⟨n_3, fz_4, az_5, wr_6, gbg2_7, gle2_8, gam2_9, rfl, hc_10, hc_11, hc_12, hc_13, hc_14, rfl⟩ := hw_2
  replace G := G.perm (ws' := [(m0, mO M xth xrm xsv (w.length : Int) az_5 xer wr_6 ((n_3 : Int) + 1) xlo xhi xwl xml xkl xfi xse xdn xon xtw xol xrw xgl xus xpr xmk xab), (M 6, aI (K 2) 100 gbf), (M 11, aI (K 0) 60 gbg2_7), (M 12, aI (K 0) 60 gle2_8), (M 13, aI (K 4) 60 gam2_9)]) [0, 1, 2, 3, 4] rfl rfl
  refine W.eq (g2 := F0 m9 11 ls []) rfl ?_
  have hpx : 0 ≤ az_5 ∧ az_5 ≤ w.length := psx_rng hc_10
  refine lv_aload_n F.1 F.2.1 dX11_readText_11 rfl (lv_at hl 0 rfl) ?_
  refine lv_iload_n F.1 F.2.1 dX11_readText_12 rfl (lv_at hl 2 rfl) ?_
  refine ad_callV (As := [.int (iI 0)]) (rest := []) F G (c_X11_isMalformed_0 l D K z0 m0 M xth xrm xsv (w.length : Int) az_5 xer wr_6 ((n_3 : Int) + 1) xlo xhi xwl xml xkl xfi xse xdn xon xtw xol xrw xgl xus xpr xmk xab hc_14 (by omega) (by omega)) my_X11_isMalformed mv_X11_153 (wr := [(M 6, aI (K 2) 100 gbf), (M 11, aI (K 0) 60 gbg2_7), (M 12, aI (K 0) 60 gle2_8), (M 13, aI (K 4) 60 gam2_9)]) (isC := [0]) (isR := [1, 2, 3, 4]) ⟨rfl, rfl, rfl, rfl, by decide⟩ 11 0 rfl rfl rfl rfl ⟨Nat.le_of_ble_eq_true rfl, Nat.le_of_ble_eq_true rfl⟩ ⟨Nat.le_of_ble_eq_true rfl, Nat.le_of_ble_eq_true rfl⟩ (Nat.le_of_ble_eq_true rfl) hl.1 (cells9 := 0) (slots9 := 0) ⟨rfl, rfl⟩ dX11_readText_13 (fun v u H locs hw_15 G => ?_)
  rcases hw_15 with ⟨rfl, hc_16, rfl⟩ | ⟨rfl, hc_17, rfl⟩
  · replace G := G.perm (ws' := [(m0, mO M xth xrm xsv (w.length : Int) az_5 az_5 1 ((n_3 : Int) + 1) xlo xhi xwl xml xkl xfi xse xdn xon xtw xol xrw xgl xus xpr xmk xab), (M 6, aI (K 2) 100 gbf), (M 11, aI (K 0) 60 gbg2_7), (M 12, aI (K 0) 60 gle2_8), (M 13, aI (K 4) 60 gam2_9)]) [4, 0, 1, 2, 3] rfl rfl
    refine W.eq (g2 := F0 m9 16 ls [.int (iI 1)]) rfl ?_
    exact ad_zreturn F G hR rfl (Nat.le_of_ble_eq_true rfl) (Nat.le_of_ble_eq_true rfl) rfl (Or.inl ⟨n_3, az_5, gbg2_7, gle2_8, gam2_9, rfl, (psx_err hc_10 (fun q => psx_nok hc_10 q (fun r => by have := hc_13; omega) (fun _ => Or.inr (Or.inl rfl))) (fun q r => absurd q (by omega))), hpx, rfl⟩) dX11_readText_16
  · replace G := G.perm (ws' := [(m0, mO M xth xrm xsv (w.length : Int) az_5 xer 0 ((n_3 : Int) + 1) xlo xhi xwl xml xkl xfi xse xdn xon xtw xol xrw xgl xus xpr xmk xab), (M 6, aI (K 2) 100 gbf), (M 11, aI (K 0) 60 gbg2_7), (M 12, aI (K 0) 60 gle2_8), (M 13, aI (K 4) 60 gam2_9)]) [4, 0, 1, 2, 3] rfl rfl
    refine W.eq (g2 := F0 m9 16 ls [.int (iI 0)]) rfl ?_
    have hrt := rt_of (am := 0) (by omega) (show PSX 0 0 w 0 0 n_3 fz_4 az_5 0 by (have q : wr_6 = 0 := (by omega)); (rw [q] at hc_10); exact hc_10) (by omega) hL hc_12 hc_11
    exact ad_zreturn F G hR rfl (Nat.le_of_ble_eq_true rfl) (Nat.le_of_ble_eq_true rfl) rfl (Or.inr (⟨n_3, az_5, gbg2_7, gle2_8, gam2_9, rfl, hrt.1, hrt.2.1, hrt.2.2, (by omega), rfl⟩)) dX11_readText_16

def rm_X11_isForm : Room := { frames := 1, cells := 0, slots := 0, locals := 12 }
set_option maxHeartbeats 4000000 in
set_option maxRecDepth 100000 in
theorem c_X11_isForm (l : Launch) (D : va_G) (K : Nat → ClassId) (z0 : Nat) (m0 : Nat) (M : Nat → Nat) (xth : Int) (xrm : Int) (xsv : Int) (xln : Int) (xat : Int) (xer : Int) (xwr : Int) (xwd : Int) (xlo : Int) (xhi : Int) (xwl : Int) (xml : Int) (xkl : Int) (xfi : Int) (xse : Int) (xdn : Int) (xon : Int) (xtw : Int) (xol : Int) (xrw : Int) (xgl : Int) (xus : Int) (xpr : Int) (xmk : Int) (xab : Int) (gle : Nat → Int) (x : Int) (y : Int) (hx : 0 ≤ x ∧ x < 60) (hy : 0 ≤ y ∧ y < 60) (hbx : 0 ≤ gle (x : Int).toNat ∧ gle (x : Int).toNat ≤ 100) (hby : 0 ≤ gle (y : Int).toNat ∧ gle (y : Int).toNat ≤ 100) : CT l D K z0 yX11_isForm cX11_isForm 3 (some .boolean) rm_X11_isForm [.ref m0, .int (iI x), .int (iI y)] [(m0, mO M xth xrm xsv xln xat xer xwr xwd xlo xhi xwl xml xkl xfi xse xdn xon xtw xol xrw xgl xus xpr xmk xab), (M 12, aI (K 0) 60 gle)] (fun v9 u9 => (v9 = some (.int (iI 1)) ∧ (gle (x : Int).toNat ≤ 6 ∧ gle (y : Int).toNat ≤ 12 ∧ gle (x : Int).toNat < gle (y : Int).toNat) ∧ u9 = [(m0, mO M xth xrm xsv xln xat xer xwr xwd xlo xhi xwl xml xkl xfi xse xdn xon xtw xol xrw xgl xus xpr xmk xab), (M 12, aI (K 0) 60 gle)]) ∨ (v9 = some (.int (iI 0)) ∧ (¬ (gle (x : Int).toNat ≤ 6 ∧ gle (y : Int).toNat ≤ 12 ∧ gle (x : Int).toNat < gle (y : Int).toNat)) ∧ u9 = [(m0, mO M xth xrm xsv xln xat xer xwr xwd xlo xhi xwl xml xkl xfi xse xdn xon xtw xol xrw xgl xus xpr xmk xab), (M 12, aI (K 0) 60 gle)])) := by
  refine CT.start RX11 "isForm" (by decide) rfl rfl (Nat.le_of_ble_eq_true rfl) ?_
  intro p9 e9 s9 m9 ag9 bl9 mt9 c9 A9 Q9 ls F G hR hl
  have hl : lv_has ls 3 [(0, .ref m0), (1, .int (iI x)), (2, .int (iI y))] := hl
  refine lv_aload_n F.1 F.2.1 dX11_isForm_0 rfl (lv_at hl 0 rfl) ?_
  refine ad_get F G fl_X11_32 0 rfl rfl dX11_isForm_1 ?_
  refine lv_iload_n F.1 F.2.1 dX11_isForm_4 rfl (lv_at hl 1 rfl) ?_
  refine ad_iald F G 1 rfl (w := gle x.toNat) (by omega) rfl dX11_isForm_5 ?_
  refine ad_bipush F dX11_isForm_6 (by decide) ?_
  refine ad_icmp_gt (tgt := 41) F (by omega) dX11_isForm_8 (by decide) (fun cc_1 => ?_) (fun cc_1 => ?_)
  · refine ad_iconst F dX11_isForm_41 ?_
    exact ad_zreturn F G hR rfl (Nat.le_of_ble_eq_true rfl) (Nat.le_of_ble_eq_true rfl) rfl (Or.inr (⟨rfl, (by omega), rfl⟩)) dX11_isForm_42
  · refine lv_aload_n F.1 F.2.1 dX11_isForm_11 rfl (lv_at hl 0 rfl) ?_
    refine ad_get F G fl_X11_32 0 rfl rfl dX11_isForm_12 ?_
    refine lv_iload_n F.1 F.2.1 dX11_isForm_15 rfl (lv_at hl 2 rfl) ?_
    refine ad_iald F G 1 rfl (w := gle y.toNat) (by omega) rfl dX11_isForm_16 ?_
    refine ad_bipush F dX11_isForm_17 (by decide) ?_
    refine ad_icmp_gt (tgt := 41) F (by omega) dX11_isForm_19 (by decide) (fun cc_2 => ?_) (fun cc_2 => ?_)
    · refine ad_iconst F dX11_isForm_41 ?_
      exact ad_zreturn F G hR rfl (Nat.le_of_ble_eq_true rfl) (Nat.le_of_ble_eq_true rfl) rfl (Or.inr (⟨rfl, (by omega), rfl⟩)) dX11_isForm_42
    · refine lv_aload_n F.1 F.2.1 dX11_isForm_22 rfl (lv_at hl 0 rfl) ?_
      refine ad_get F G fl_X11_32 0 rfl rfl dX11_isForm_23 ?_
      refine lv_iload_n F.1 F.2.1 dX11_isForm_26 rfl (lv_at hl 2 rfl) ?_
      refine ad_iald F G 1 rfl (w := gle y.toNat) (by omega) rfl dX11_isForm_27 ?_
      refine lv_aload_n F.1 F.2.1 dX11_isForm_28 rfl (lv_at hl 0 rfl) ?_
      refine ad_get F G fl_X11_32 0 rfl rfl dX11_isForm_29 ?_
      refine lv_iload_n F.1 F.2.1 dX11_isForm_32 rfl (lv_at hl 1 rfl) ?_
      refine ad_iald F G 1 rfl (w := gle x.toNat) (by omega) rfl dX11_isForm_33 ?_
      refine ad_icmp_le (tgt := 41) F (by omega) dX11_isForm_34 (by decide) (fun cc_3 => ?_) (fun cc_3 => ?_)
      · refine ad_iconst F dX11_isForm_41 ?_
        exact ad_zreturn F G hR rfl (Nat.le_of_ble_eq_true rfl) (Nat.le_of_ble_eq_true rfl) rfl (Or.inr (⟨rfl, (by omega), rfl⟩)) dX11_isForm_42
      · refine ad_iconst F dX11_isForm_37 ?_
        refine lv_goto (tgt := 42) F.1 F.2.1 dX11_isForm_38 (by decide) ?_
        exact ad_zreturn F G hR rfl (Nat.le_of_ble_eq_true rfl) (Nat.le_of_ble_eq_true rfl) rfl (Or.inl ⟨rfl, (by omega), rfl⟩) dX11_isForm_42

def rm_X11_readRule : Room := { frames := 3, cells := 0, slots := 0, locals := 55 }
set_option maxHeartbeats 4000000 in
set_option maxRecDepth 100000 in
theorem c_X11_readRule (l : Launch) (D : va_G) (K : Nat → ClassId) (z0 : Nat) (m0 : Nat) (M : Nat → Nat) (xth : Int) (xrm : Int) (xsv : Int) (xer : Int) (xlo : Int) (xhi : Int) (xwl : Int) (xml : Int) (xkl : Int) (xfi : Int) (xse : Int) (xdn : Int) (xon : Int) (xtw : Int) (xol : Int) (xrw : Int) (xgl : Int) (xus : Int) (xpr : Int) (xmk : Int) (xab : Int) (gbf : Nat → Int) (w : List Int) (gbg : Nat → Int) (gle : Nat → Int) (gam : Nat → Int) (xat : Int) (xwd : Int) (xwr : Int) (hT : Tx gbf w) (hC : Chs w) (hL : w.length ≤ 100) : CT l D K z0 yX11_readRule cX11_readRule 1 (some .boolean) rm_X11_readRule [.ref m0] [(m0, mO M xth xrm xsv (w.length : Int) xat xer xwr xwd xlo xhi xwl xml xkl xfi xse xdn xon xtw xol xrw xgl xus xpr xmk xab), (M 6, aI (K 2) 100 gbf), (M 11, aI (K 0) 60 gbg), (M 12, aI (K 0) 60 gle), (M 13, aI (K 4) 60 gam)] (fun v9 u9 => (∃ (az : Int), ∃ (wd2 : Int), ∃ (gbg2 : Nat → Int), ∃ (gle2 : Nat → Int), ∃ (gam2 : Nat → Int), v9 = some (.int (iI 1)) ∧ (errR w = az) ∧ (0 ≤ az) ∧ u9 = [(m0, mO M xth xrm xsv 0 az az 1 wd2 xlo xhi xwl xml xkl xfi xse xdn xon xtw xol xrw xgl xus xpr xmk xab), (M 6, aI (K 2) 100 gbf), (M 11, aI (K 0) 60 gbg2), (M 12, aI (K 0) 60 gle2), (M 13, aI (K 4) 60 gam2)]) ∨ (∃ (az : Int), ∃ (wd2 : Int), ∃ (gbg2 : Nat → Int), ∃ (gle2 : Nat → Int), ∃ (gam2 : Nat → Int), v9 = some (.int (iI 0)) ∧ (errR w = -1) ∧ (gbg2 0 = 0 ∧ gle2 0 = lend w 0 ∧ gbg2 1 = lend w 0 + 1 ∧ gle2 1 = w.length - (lend w 0 + 1)) ∧ u9 = [(m0, mO M xth xrm xsv 0 az xer 0 wd2 xlo xhi xwl xml xkl xfi xse xdn xon xtw xol xrw xgl xus xpr xmk xab), (M 6, aI (K 2) 100 gbf), (M 11, aI (K 0) 60 gbg2), (M 12, aI (K 0) 60 gle2), (M 13, aI (K 4) 60 gam2)])) := by
  refine CT.start RX11 "readRule" (by decide) rfl rfl (Nat.le_of_ble_eq_true rfl) ?_
  intro p9 e9 s9 m9 ag9 bl9 mt9 c9 A9 Q9 ls F G hR hl
  have hl : lv_has ls 1 [(0, .ref m0)] := hl
  refine lv_aload_n F.1 F.2.1 dX11_readRule_0 rfl (lv_at hl 0 rfl) ?_
  refine ad_callV (As := []) (rest := []) F G (c_X11_begin l D K z0 m0 M xth xrm xsv (w.length : Int) xat xer xwr xwd xlo xhi xwl xml xkl xfi xse xdn xon xtw xol xrw xgl xus xpr xmk xab ) my_X11_begin mv_X11_146 (wr := [(M 6, aI (K 2) 100 gbf), (M 11, aI (K 0) 60 gbg), (M 12, aI (K 0) 60 gle), (M 13, aI (K 4) 60 gam)]) (isC := [0]) (isR := [1, 2, 3, 4]) ⟨rfl, rfl, rfl, rfl, by decide⟩ 11 0 rfl rfl rfl rfl ⟨Nat.le_of_ble_eq_true rfl, Nat.le_of_ble_eq_true rfl⟩ ⟨Nat.le_of_ble_eq_true rfl, Nat.le_of_ble_eq_true rfl⟩ (Nat.le_of_ble_eq_true rfl) hl.1 (cells9 := 0) (slots9 := 0) ⟨rfl, rfl⟩ dX11_readRule_1 (fun v u H locs hw_1 G => ?_)
  obtain ⟨rfl, rfl⟩ := hw_1
  replace G := G.perm (ws' := [(m0, mO M xth xrm xsv (w.length : Int) 0 xer 0 0 xlo xhi xwl xml xkl xfi xse xdn xon xtw xol xrw xgl xus xpr xmk xab), (M 6, aI (K 2) 100 gbf), (M 11, aI (K 0) 60 gbg), (M 12, aI (K 0) 60 gle), (M 13, aI (K 4) 60 gam)]) [4, 0, 1, 2, 3] rfl rfl
  refine W.eq (g2 := F0 m9 4 ls []) rfl ?_
  refine lv_aload_n F.1 F.2.1 dX11_readRule_4 rfl (lv_at hl 0 rfl) ?_
  refine ad_bipush F dX11_readRule_5 (by decide) ?_
  refine ad_callV (As := [.int (iI 6)]) (rest := []) F G (c_X11_passWord l D K z0 m0 M xth xrm xsv 0 xer 0 0 xlo xhi xwl xml xkl xfi xse xdn xon xtw xol xrw xgl xus xpr xmk xab gbf w gbg gle gam 6 hT hC hL (by omega) (by omega) (by omega) (by omega)) my_X11_passWord mv_X11_139 (wr := []) (isC := [0, 1, 2, 3, 4]) (isR := []) ⟨rfl, rfl, rfl, rfl, by decide⟩ 11 0 rfl rfl rfl rfl ⟨Nat.le_of_ble_eq_true rfl, Nat.le_of_ble_eq_true rfl⟩ ⟨Nat.le_of_ble_eq_true rfl, Nat.le_of_ble_eq_true rfl⟩ (Nat.le_of_ble_eq_true rfl) hl.1 (cells9 := 0) (slots9 := 0) ⟨rfl, rfl⟩ dX11_readRule_7 (fun v u H locs hw_2 G => ?_)
  obtain ⟨az_3, wr_4, rfl, hc_5, hc_6, hc_7, rfl⟩ := hw_2
  replace G := G.perm (ws' := [(m0, mO M xth xrm xsv (w.length : Int) az_3 xer wr_4 (0 + 1) xlo xhi xwl xml xkl xfi xse xdn xon xtw xol xrw xgl xus xpr xmk xab), (M 6, aI (K 2) 100 gbf), (M 11, aI (K 0) 60 (va_up gbg (0 : Int).toNat 0)), (M 12, aI (K 0) 60 (va_up gle (0 : Int).toNat (az_3 - 0))), (M 13, aI (K 4) 60 (va_up gam (0 : Int).toNat 0))]) [0, 1, 2, 3, 4] rfl rfl
  refine W.eq (g2 := F0 m9 10 ls []) rfl ?_
  have hz9 : (0 : Int) ≤ 6 := by decide
  refine lv_aload_n F.1 F.2.1 dX11_readRule_10 rfl (lv_at hl 0 rfl) ?_
  refine lv_dup F.1 F.2.1 dX11_readRule_11 rfl ?_
  refine ad_get F G fl_X11_118 0 rfl rfl dX11_readRule_12 ?_
  refine lv_aload_n F.1 F.2.1 dX11_readRule_15 rfl (lv_at hl 0 rfl) ?_
  refine ad_bipush F dX11_readRule_16 (by decide) ?_
  refine ad_callV (As := [.int (iI 61)]) (rest := [.int (iI wr_4), .ref m0]) F G (c_X11_passes l D K z0 m0 M xth xrm xsv az_3 xer wr_4 (0 + 1) xlo xhi xwl xml xkl xfi xse xdn xon xtw xol xrw xgl xus xpr xmk xab gbf w 61 hT hC hL (by omega) (by omega) (by omega)) my_X11_passes mv_X11_136 (wr := [(M 11, aI (K 0) 60 (va_up gbg (0 : Int).toNat 0)), (M 12, aI (K 0) 60 (va_up gle (0 : Int).toNat (az_3 - 0))), (M 13, aI (K 4) 60 (va_up gam (0 : Int).toNat 0))]) (isC := [0, 1]) (isR := [2, 3, 4]) ⟨rfl, rfl, rfl, rfl, by decide⟩ 11 0 rfl rfl rfl rfl ⟨Nat.le_of_ble_eq_true rfl, Nat.le_of_ble_eq_true rfl⟩ ⟨Nat.le_of_ble_eq_true rfl, Nat.le_of_ble_eq_true rfl⟩ (Nat.le_of_ble_eq_true rfl) hl.1 (cells9 := 0) (slots9 := 0) ⟨rfl, rfl⟩ dX11_readRule_18 (fun v u H locs hw_8 G => ?_)
  rcases hw_8 with ⟨rfl, hc_9, rfl⟩ | ⟨rfl, hc_10, rfl⟩
  · replace G := G.perm (ws' := [(m0, mO M xth xrm xsv (w.length : Int) (az_3 + 1) xer wr_4 (0 + 1) xlo xhi xwl xml xkl xfi xse xdn xon xtw xol xrw xgl xus xpr xmk xab), (M 6, aI (K 2) 100 gbf), (M 11, aI (K 0) 60 (va_up gbg (0 : Int).toNat 0)), (M 12, aI (K 0) 60 (va_up gle (0 : Int).toNat (az_3 - 0))), (M 13, aI (K 4) 60 (va_up gam (0 : Int).toNat 0))]) [3, 4, 0, 1, 2] rfl rfl
    refine W.eq (g2 := F0 m9 21 ls [.int (iI 1), .int (iI wr_4), .ref m0]) rfl ?_
    refine ad_if_ne (tgt := 28) F (by decide) dX11_readRule_21 (by decide) (fun _ => ?_) (fun cc_11 => absurd cc_11 (by decide))
    refine ad_iconst F dX11_readRule_28 ?_
    refine ad_iorn F (by omega) dX11_readRule_29 ?_
    refine ad_put F G fl_X11_118 0 rfl (iI_boolN (by omega)).1 (iI_boolN (by omega)).2 (Nat.le_of_ble_eq_true rfl) (ws' := [(m0, mO M xth xrm xsv (w.length : Int) (az_3 + 1) xer wr_4 (0 + 1) xlo xhi xwl xml xkl xfi xse xdn xon xtw xol xrw xgl xus xpr xmk xab), (M 6, aI (K 2) 100 gbf), (M 11, aI (K 0) 60 (va_up gbg (0 : Int).toNat 0)), (M 12, aI (K 0) 60 (va_up gle (0 : Int).toNat (az_3 - 0))), (M 13, aI (K 4) 60 (va_up gam (0 : Int).toNat 0))]) rfl dX11_readRule_30 (fun H locs G => ?_)
    refine lv_aload_n F.1 F.2.1 dX11_readRule_33 rfl (lv_at hl 0 rfl) ?_
    refine ad_get F G fl_X11_118 0 rfl rfl dX11_readRule_34 ?_
    refine ad_if_ne (tgt := 46) F (by omega) dX11_readRule_37 (by decide) (fun cc_12 => ?_) (fun cc_12 => ?_)
    · exact absurd cc_12 (by omega)
    · refine lv_aload_n F.1 F.2.1 dX11_readRule_40 rfl (lv_at hl 0 rfl) ?_
      refine ad_bipush F dX11_readRule_41 (by decide) ?_
      refine ad_callV (As := [.int (iI 12)]) (rest := []) F G (c_X11_passWord l D K z0 m0 M xth xrm xsv (az_3 + 1) xer wr_4 (0 + 1) xlo xhi xwl xml xkl xfi xse xdn xon xtw xol xrw xgl xus xpr xmk xab gbf w (va_up gbg (0 : Int).toNat 0) (va_up gle (0 : Int).toNat (az_3 - 0)) (va_up gam (0 : Int).toNat 0) 12 hT hC hL (by omega) cc_12 (by omega) (by omega)) my_X11_passWord mv_X11_139 (wr := []) (isC := [0, 1, 2, 3, 4]) (isR := []) ⟨rfl, rfl, rfl, rfl, by decide⟩ 11 0 rfl rfl rfl rfl ⟨Nat.le_of_ble_eq_true rfl, Nat.le_of_ble_eq_true rfl⟩ ⟨Nat.le_of_ble_eq_true rfl, Nat.le_of_ble_eq_true rfl⟩ (Nat.le_of_ble_eq_true rfl) hl.1 (cells9 := 0) (slots9 := 0) ⟨rfl, rfl⟩ dX11_readRule_43 (fun v u H locs hw_13 G => ?_)
      obtain ⟨az_14, wr_15, rfl, hc_16, hc_17, hc_18, rfl⟩ := hw_13
      replace G := G.perm (ws' := [(m0, mO M xth xrm xsv (w.length : Int) az_14 xer wr_15 ((0 + 1) + 1) xlo xhi xwl xml xkl xfi xse xdn xon xtw xol xrw xgl xus xpr xmk xab), (M 6, aI (K 2) 100 gbf), (M 11, aI (K 0) 60 (va_up (va_up gbg (0 : Int).toNat 0) ((0 + 1) : Int).toNat (az_3 + 1))), (M 12, aI (K 0) 60 (va_up (va_up gle (0 : Int).toNat (az_3 - 0)) ((0 + 1) : Int).toNat (az_14 - (az_3 + 1)))), (M 13, aI (K 4) 60 (va_up (va_up gam (0 : Int).toNat 0) ((0 + 1) : Int).toNat 0))]) [0, 1, 2, 3, 4] rfl rfl
      refine W.eq (g2 := F0 m9 46 ls []) rfl ?_
      refine lv_aload_n F.1 F.2.1 dX11_readRule_46 rfl (lv_at hl 0 rfl) ?_
      refine lv_dup F.1 F.2.1 dX11_readRule_47 rfl ?_
      refine ad_get F G fl_X11_118 0 rfl rfl dX11_readRule_48 ?_
      refine lv_aload_n F.1 F.2.1 dX11_readRule_51 rfl (lv_at hl 0 rfl) ?_
      refine ad_get F G fl_X11_122 0 rfl rfl dX11_readRule_52 ?_
      refine lv_aload_n F.1 F.2.1 dX11_readRule_55 rfl (lv_at hl 0 rfl) ?_
      refine ad_get F G fl_X11_115 0 rfl rfl dX11_readRule_56 ?_
      refine ad_icmp_ne (tgt := 83) F (by omega) dX11_readRule_59 (by decide) (fun cc_19 => ?_) (fun cc_19 => ?_)
      · refine ad_iconst F dX11_readRule_83 ?_
        refine ad_iorn F (by omega) dX11_readRule_84 ?_
        refine ad_put F G fl_X11_118 0 rfl (iI_boolN (by omega)).1 (iI_boolN (by omega)).2 (Nat.le_of_ble_eq_true rfl) (ws' := [(m0, mO M xth xrm xsv (w.length : Int) az_14 xer wr_15 ((0 + 1) + 1) xlo xhi xwl xml xkl xfi xse xdn xon xtw xol xrw xgl xus xpr xmk xab), (M 6, aI (K 2) 100 gbf), (M 11, aI (K 0) 60 (va_up (va_up gbg (0 : Int).toNat 0) ((0 + 1) : Int).toNat (az_3 + 1))), (M 12, aI (K 0) 60 (va_up (va_up gle (0 : Int).toNat (az_3 - 0)) ((0 + 1) : Int).toNat (az_14 - (az_3 + 1)))), (M 13, aI (K 4) 60 (va_up (va_up gam (0 : Int).toNat 0) ((0 + 1) : Int).toNat 0))]) rfl dX11_readRule_85 (fun H locs G => ?_)
        refine lv_aload_n F.1 F.2.1 dX11_readRule_88 rfl (lv_at hl 0 rfl) ?_
        refine ad_iconst F dX11_readRule_89 ?_
        refine ad_callV (As := [.int (iI 1)]) (rest := []) F G (c_X11_isMalformed_1 l D K z0 m0 M xth xrm xsv (w.length : Int) az_14 xer wr_15 ((0 + 1) + 1) xlo xhi xwl xml xkl xfi xse xdn xon xtw xol xrw xgl xus xpr xmk xab (by omega) (by omega) (by omega)) my_X11_isMalformed mv_X11_153 (wr := [(M 6, aI (K 2) 100 gbf), (M 11, aI (K 0) 60 (va_up (va_up gbg (0 : Int).toNat 0) ((0 + 1) : Int).toNat (az_3 + 1))), (M 12, aI (K 0) 60 (va_up (va_up gle (0 : Int).toNat (az_3 - 0)) ((0 + 1) : Int).toNat (az_14 - (az_3 + 1)))), (M 13, aI (K 4) 60 (va_up (va_up gam (0 : Int).toNat 0) ((0 + 1) : Int).toNat 0))]) (isC := [0]) (isR := [1, 2, 3, 4]) ⟨rfl, rfl, rfl, rfl, by decide⟩ 11 0 rfl rfl rfl rfl ⟨Nat.le_of_ble_eq_true rfl, Nat.le_of_ble_eq_true rfl⟩ ⟨Nat.le_of_ble_eq_true rfl, Nat.le_of_ble_eq_true rfl⟩ (Nat.le_of_ble_eq_true rfl) hl.1 (cells9 := 0) (slots9 := 0) ⟨rfl, rfl⟩ dX11_readRule_90 (fun v u H locs hw_20 G => ?_)
        rcases hw_20 with ⟨rfl, hc_21, rfl⟩ | ⟨rfl, hc_22, rfl⟩
        · replace G := G.perm (ws' := [(m0, mO M xth xrm xsv 0 az_14 az_14 1 ((0 + 1) + 1) xlo xhi xwl xml xkl xfi xse xdn xon xtw xol xrw xgl xus xpr xmk xab), (M 6, aI (K 2) 100 gbf), (M 11, aI (K 0) 60 (va_up (va_up gbg (0 : Int).toNat 0) ((0 + 1) : Int).toNat (az_3 + 1))), (M 12, aI (K 0) 60 (va_up (va_up gle (0 : Int).toNat (az_3 - 0)) ((0 + 1) : Int).toNat (az_14 - (az_3 + 1)))), (M 13, aI (K 4) 60 (va_up (va_up gam (0 : Int).toNat 0) ((0 + 1) : Int).toNat 0))]) [4, 0, 1, 2, 3] rfl rfl
          refine W.eq (g2 := F0 m9 93 ls [.int (iI 1)]) rfl ?_
          exact ad_zreturn F G hR rfl (Nat.le_of_ble_eq_true rfl) (Nat.le_of_ble_eq_true rfl) rfl (Or.inl ⟨az_14, ((0 + 1) + 1), (va_up (va_up gbg (0 : Int).toNat 0) ((0 + 1) : Int).toNat (az_3 + 1)), (va_up (va_up gle (0 : Int).toNat (az_3 - 0)) ((0 + 1) : Int).toNat (az_14 - (az_3 + 1))), (va_up (va_up gam (0 : Int).toNat 0) ((0 + 1) : Int).toNat 0), rfl, (by rw [errR_b' hc_5 (by omega) hc_9.2.2 hc_16]; split; (rfl); (rw [if_neg (by omega)]; omega)), (by omega), rfl⟩) dX11_readRule_93
        · replace G := G.perm (ws' := [(m0, mO M xth xrm xsv 0 az_14 xer 0 ((0 + 1) + 1) xlo xhi xwl xml xkl xfi xse xdn xon xtw xol xrw xgl xus xpr xmk xab), (M 6, aI (K 2) 100 gbf), (M 11, aI (K 0) 60 (va_up (va_up gbg (0 : Int).toNat 0) ((0 + 1) : Int).toNat (az_3 + 1))), (M 12, aI (K 0) 60 (va_up (va_up gle (0 : Int).toNat (az_3 - 0)) ((0 + 1) : Int).toNat (az_14 - (az_3 + 1)))), (M 13, aI (K 4) 60 (va_up (va_up gam (0 : Int).toNat 0) ((0 + 1) : Int).toNat 0))]) [4, 0, 1, 2, 3] rfl rfl
          refine W.eq (g2 := F0 m9 93 ls [.int (iI 0)]) rfl ?_
          exfalso; omega
      · refine lv_aload_n F.1 F.2.1 dX11_readRule_62 rfl (lv_at hl 0 rfl) ?_
        refine ad_get F G fl_X11_129 0 rfl rfl dX11_readRule_63 ?_
        refine ad_iconst F dX11_readRule_66 ?_
        refine ad_icmp_ne (tgt := 83) F (by omega) dX11_readRule_67 (by decide) (fun cc_23 => ?_) (fun cc_23 => ?_)
        · exact absurd cc_23 (by omega)
        · refine lv_aload_n F.1 F.2.1 dX11_readRule_70 rfl (lv_at hl 0 rfl) ?_
          refine ad_iconst F dX11_readRule_71 ?_
          refine ad_iconst F dX11_readRule_72 ?_
          refine ad_callV (As := [.int (iI 0), .int (iI 1)]) (rest := [.int (iI wr_15), .ref m0]) F G (c_X11_isForm l D K z0 m0 M xth xrm xsv (w.length : Int) az_14 xer wr_15 ((0 + 1) + 1) xlo xhi xwl xml xkl xfi xse xdn xon xtw xol xrw xgl xus xpr xmk xab (va_up (va_up gle (0 : Int).toNat (az_3 - 0)) ((0 + 1) : Int).toNat (az_14 - (az_3 + 1))) 0 1 (by omega) (by omega) (show 0 ≤ az_3 - 0 ∧ az_3 - 0 ≤ 100 by omega) (show 0 ≤ az_14 - (az_3 + 1) ∧ az_14 - (az_3 + 1) ≤ 100 by omega)) my_X11_isForm mv_X11_157 (wr := [(M 6, aI (K 2) 100 gbf), (M 11, aI (K 0) 60 (va_up (va_up gbg (0 : Int).toNat 0) ((0 + 1) : Int).toNat (az_3 + 1))), (M 13, aI (K 4) 60 (va_up (va_up gam (0 : Int).toNat 0) ((0 + 1) : Int).toNat 0))]) (isC := [0, 3]) (isR := [1, 2, 4]) ⟨rfl, rfl, rfl, rfl, by decide⟩ 11 0 rfl rfl rfl rfl ⟨Nat.le_of_ble_eq_true rfl, Nat.le_of_ble_eq_true rfl⟩ ⟨Nat.le_of_ble_eq_true rfl, Nat.le_of_ble_eq_true rfl⟩ (Nat.le_of_ble_eq_true rfl) hl.1 (cells9 := 0) (slots9 := 0) ⟨rfl, rfl⟩ dX11_readRule_73 (fun v u H locs hw_24 G => ?_)
          rcases hw_24 with ⟨rfl, hc_25, rfl⟩ | ⟨rfl, hc_26, rfl⟩
          · replace G := G.perm (ws' := [(m0, mO M xth xrm xsv (w.length : Int) az_14 xer wr_15 ((0 + 1) + 1) xlo xhi xwl xml xkl xfi xse xdn xon xtw xol xrw xgl xus xpr xmk xab), (M 6, aI (K 2) 100 gbf), (M 11, aI (K 0) 60 (va_up (va_up gbg (0 : Int).toNat 0) ((0 + 1) : Int).toNat (az_3 + 1))), (M 12, aI (K 0) 60 (va_up (va_up gle (0 : Int).toNat (az_3 - 0)) ((0 + 1) : Int).toNat (az_14 - (az_3 + 1)))), (M 13, aI (K 4) 60 (va_up (va_up gam (0 : Int).toNat 0) ((0 + 1) : Int).toNat 0))]) [3, 0, 1, 4, 2] rfl rfl
            refine W.eq (g2 := F0 m9 76 ls [.int (iI 1), .int (iI wr_15), .ref m0]) rfl ?_
            refine ad_if_ne (tgt := 83) F (by decide) dX11_readRule_76 (by decide) (fun _ => ?_) (fun cc_27 => absurd cc_27 (by decide))
            refine ad_iconst F dX11_readRule_83 ?_
            refine ad_iorn F (by omega) dX11_readRule_84 ?_
            refine ad_put F G fl_X11_118 0 rfl (iI_boolN (by omega)).1 (iI_boolN (by omega)).2 (Nat.le_of_ble_eq_true rfl) (ws' := [(m0, mO M xth xrm xsv (w.length : Int) az_14 xer wr_15 ((0 + 1) + 1) xlo xhi xwl xml xkl xfi xse xdn xon xtw xol xrw xgl xus xpr xmk xab), (M 6, aI (K 2) 100 gbf), (M 11, aI (K 0) 60 (va_up (va_up gbg (0 : Int).toNat 0) ((0 + 1) : Int).toNat (az_3 + 1))), (M 12, aI (K 0) 60 (va_up (va_up gle (0 : Int).toNat (az_3 - 0)) ((0 + 1) : Int).toNat (az_14 - (az_3 + 1)))), (M 13, aI (K 4) 60 (va_up (va_up gam (0 : Int).toNat 0) ((0 + 1) : Int).toNat 0))]) rfl dX11_readRule_85 (fun H locs G => ?_)
            refine lv_aload_n F.1 F.2.1 dX11_readRule_88 rfl (lv_at hl 0 rfl) ?_
            refine ad_iconst F dX11_readRule_89 ?_
            refine ad_callV (As := [.int (iI 1)]) (rest := []) F G (c_X11_isMalformed_1 l D K z0 m0 M xth xrm xsv (w.length : Int) az_14 xer wr_15 ((0 + 1) + 1) xlo xhi xwl xml xkl xfi xse xdn xon xtw xol xrw xgl xus xpr xmk xab (by omega) (by omega) (by omega)) my_X11_isMalformed mv_X11_153 (wr := [(M 6, aI (K 2) 100 gbf), (M 11, aI (K 0) 60 (va_up (va_up gbg (0 : Int).toNat 0) ((0 + 1) : Int).toNat (az_3 + 1))), (M 12, aI (K 0) 60 (va_up (va_up gle (0 : Int).toNat (az_3 - 0)) ((0 + 1) : Int).toNat (az_14 - (az_3 + 1)))), (M 13, aI (K 4) 60 (va_up (va_up gam (0 : Int).toNat 0) ((0 + 1) : Int).toNat 0))]) (isC := [0]) (isR := [1, 2, 3, 4]) ⟨rfl, rfl, rfl, rfl, by decide⟩ 11 0 rfl rfl rfl rfl ⟨Nat.le_of_ble_eq_true rfl, Nat.le_of_ble_eq_true rfl⟩ ⟨Nat.le_of_ble_eq_true rfl, Nat.le_of_ble_eq_true rfl⟩ (Nat.le_of_ble_eq_true rfl) hl.1 (cells9 := 0) (slots9 := 0) ⟨rfl, rfl⟩ dX11_readRule_90 (fun v u H locs hw_28 G => ?_)
            rcases hw_28 with ⟨rfl, hc_29, rfl⟩ | ⟨rfl, hc_30, rfl⟩
            · replace G := G.perm (ws' := [(m0, mO M xth xrm xsv 0 az_14 az_14 1 ((0 + 1) + 1) xlo xhi xwl xml xkl xfi xse xdn xon xtw xol xrw xgl xus xpr xmk xab), (M 6, aI (K 2) 100 gbf), (M 11, aI (K 0) 60 (va_up (va_up gbg (0 : Int).toNat 0) ((0 + 1) : Int).toNat (az_3 + 1))), (M 12, aI (K 0) 60 (va_up (va_up gle (0 : Int).toNat (az_3 - 0)) ((0 + 1) : Int).toNat (az_14 - (az_3 + 1)))), (M 13, aI (K 4) 60 (va_up (va_up gam (0 : Int).toNat 0) ((0 + 1) : Int).toNat 0))]) [4, 0, 1, 2, 3] rfl rfl
              refine W.eq (g2 := F0 m9 93 ls [.int (iI 1)]) rfl ?_
              have hif : az_3 - 0 ≤ 6 ∧ az_14 - (az_3 + 1) ≤ 12 ∧ az_3 - 0 < az_14 - (az_3 + 1) := hc_25
              exfalso; omega
            · replace G := G.perm (ws' := [(m0, mO M xth xrm xsv 0 az_14 xer 0 ((0 + 1) + 1) xlo xhi xwl xml xkl xfi xse xdn xon xtw xol xrw xgl xus xpr xmk xab), (M 6, aI (K 2) 100 gbf), (M 11, aI (K 0) 60 (va_up (va_up gbg (0 : Int).toNat 0) ((0 + 1) : Int).toNat (az_3 + 1))), (M 12, aI (K 0) 60 (va_up (va_up gle (0 : Int).toNat (az_3 - 0)) ((0 + 1) : Int).toNat (az_14 - (az_3 + 1)))), (M 13, aI (K 4) 60 (va_up (va_up gam (0 : Int).toNat 0) ((0 + 1) : Int).toNat 0))]) [4, 0, 1, 2, 3] rfl rfl
              refine W.eq (g2 := F0 m9 93 ls [.int (iI 0)]) rfl ?_
              have hif : az_3 - 0 ≤ 6 ∧ az_14 - (az_3 + 1) ≤ 12 ∧ az_3 - 0 < az_14 - (az_3 + 1) := hc_25
              have her : errR w = -1 := by rw [errR_b' hc_5 (by omega) hc_9.2.2 hc_16, if_neg (by omega), if_pos (by omega)]
              have hok := errR_ok her
              have hz1 : az_3 = lend w 0 := by have hm := imin_sp (lend w 0) (0 + 6); rw [← hc_5] at hm; omega
              exact ad_zreturn F G hR rfl (Nat.le_of_ble_eq_true rfl) (Nat.le_of_ble_eq_true rfl) rfl (Or.inr (⟨az_14, ((0 + 1) + 1), (va_up (va_up gbg (0 : Int).toNat 0) ((0 + 1) : Int).toNat (az_3 + 1)), (va_up (va_up gle (0 : Int).toNat (az_3 - 0)) ((0 + 1) : Int).toNat (az_14 - (az_3 + 1))), (va_up (va_up gam (0 : Int).toNat 0) ((0 + 1) : Int).toNat 0), rfl, her, ⟨rfl, (show az_3 - 0 = lend w 0 by omega), (show az_3 + 1 = lend w 0 + 1 by omega), (show az_14 - (az_3 + 1) = w.length - (lend w 0 + 1) by omega)⟩, rfl⟩)) dX11_readRule_93
          · replace G := G.perm (ws' := [(m0, mO M xth xrm xsv (w.length : Int) az_14 xer wr_15 ((0 + 1) + 1) xlo xhi xwl xml xkl xfi xse xdn xon xtw xol xrw xgl xus xpr xmk xab), (M 6, aI (K 2) 100 gbf), (M 11, aI (K 0) 60 (va_up (va_up gbg (0 : Int).toNat 0) ((0 + 1) : Int).toNat (az_3 + 1))), (M 12, aI (K 0) 60 (va_up (va_up gle (0 : Int).toNat (az_3 - 0)) ((0 + 1) : Int).toNat (az_14 - (az_3 + 1)))), (M 13, aI (K 4) 60 (va_up (va_up gam (0 : Int).toNat 0) ((0 + 1) : Int).toNat 0))]) [3, 0, 1, 4, 2] rfl rfl
            refine W.eq (g2 := F0 m9 76 ls [.int (iI 0), .int (iI wr_15), .ref m0]) rfl ?_
            refine ad_if_ne (tgt := 83) F (by decide) dX11_readRule_76 (by decide) (fun cc_31 => absurd cc_31 (by decide)) (fun _ => ?_)
            refine ad_iconst F dX11_readRule_79 ?_
            refine lv_goto (tgt := 84) F.1 F.2.1 dX11_readRule_80 (by decide) ?_
            refine ad_iory F (by omega) dX11_readRule_84 ?_
            refine ad_put F G fl_X11_118 0 rfl rfl rfl (Nat.le_of_ble_eq_true rfl) (ws' := [(m0, mO M xth xrm xsv (w.length : Int) az_14 xer 1 ((0 + 1) + 1) xlo xhi xwl xml xkl xfi xse xdn xon xtw xol xrw xgl xus xpr xmk xab), (M 6, aI (K 2) 100 gbf), (M 11, aI (K 0) 60 (va_up (va_up gbg (0 : Int).toNat 0) ((0 + 1) : Int).toNat (az_3 + 1))), (M 12, aI (K 0) 60 (va_up (va_up gle (0 : Int).toNat (az_3 - 0)) ((0 + 1) : Int).toNat (az_14 - (az_3 + 1)))), (M 13, aI (K 4) 60 (va_up (va_up gam (0 : Int).toNat 0) ((0 + 1) : Int).toNat 0))]) rfl dX11_readRule_85 (fun H locs G => ?_)
            refine lv_aload_n F.1 F.2.1 dX11_readRule_88 rfl (lv_at hl 0 rfl) ?_
            refine ad_iconst F dX11_readRule_89 ?_
            refine ad_callV (As := [.int (iI 1)]) (rest := []) F G (c_X11_isMalformed_1 l D K z0 m0 M xth xrm xsv (w.length : Int) az_14 xer 1 ((0 + 1) + 1) xlo xhi xwl xml xkl xfi xse xdn xon xtw xol xrw xgl xus xpr xmk xab (by omega) (by omega) (by omega)) my_X11_isMalformed mv_X11_153 (wr := [(M 6, aI (K 2) 100 gbf), (M 11, aI (K 0) 60 (va_up (va_up gbg (0 : Int).toNat 0) ((0 + 1) : Int).toNat (az_3 + 1))), (M 12, aI (K 0) 60 (va_up (va_up gle (0 : Int).toNat (az_3 - 0)) ((0 + 1) : Int).toNat (az_14 - (az_3 + 1)))), (M 13, aI (K 4) 60 (va_up (va_up gam (0 : Int).toNat 0) ((0 + 1) : Int).toNat 0))]) (isC := [0]) (isR := [1, 2, 3, 4]) ⟨rfl, rfl, rfl, rfl, by decide⟩ 11 0 rfl rfl rfl rfl ⟨Nat.le_of_ble_eq_true rfl, Nat.le_of_ble_eq_true rfl⟩ ⟨Nat.le_of_ble_eq_true rfl, Nat.le_of_ble_eq_true rfl⟩ (Nat.le_of_ble_eq_true rfl) hl.1 (cells9 := 0) (slots9 := 0) ⟨rfl, rfl⟩ dX11_readRule_90 (fun v u H locs hw_32 G => ?_)
            rcases hw_32 with ⟨rfl, hc_33, rfl⟩ | ⟨rfl, hc_34, rfl⟩
            · replace G := G.perm (ws' := [(m0, mO M xth xrm xsv 0 az_14 az_14 1 ((0 + 1) + 1) xlo xhi xwl xml xkl xfi xse xdn xon xtw xol xrw xgl xus xpr xmk xab), (M 6, aI (K 2) 100 gbf), (M 11, aI (K 0) 60 (va_up (va_up gbg (0 : Int).toNat 0) ((0 + 1) : Int).toNat (az_3 + 1))), (M 12, aI (K 0) 60 (va_up (va_up gle (0 : Int).toNat (az_3 - 0)) ((0 + 1) : Int).toNat (az_14 - (az_3 + 1)))), (M 13, aI (K 4) 60 (va_up (va_up gam (0 : Int).toNat 0) ((0 + 1) : Int).toNat 0))]) [4, 0, 1, 2, 3] rfl rfl
              refine W.eq (g2 := F0 m9 93 ls [.int (iI 1)]) rfl ?_
              have hif : ¬ (az_3 - 0 ≤ 6 ∧ az_14 - (az_3 + 1) ≤ 12 ∧ az_3 - 0 < az_14 - (az_3 + 1)) := hc_26
              exact ad_zreturn F G hR rfl (Nat.le_of_ble_eq_true rfl) (Nat.le_of_ble_eq_true rfl) rfl (Or.inl ⟨az_14, ((0 + 1) + 1), (va_up (va_up gbg (0 : Int).toNat 0) ((0 + 1) : Int).toNat (az_3 + 1)), (va_up (va_up gle (0 : Int).toNat (az_3 - 0)) ((0 + 1) : Int).toNat (az_14 - (az_3 + 1))), (va_up (va_up gam (0 : Int).toNat 0) ((0 + 1) : Int).toNat 0), rfl, (by rw [errR_b' hc_5 (by omega) hc_9.2.2 hc_16]; split; (rfl); (rw [if_neg (by omega)]; omega)), (by omega), rfl⟩) dX11_readRule_93
            · replace G := G.perm (ws' := [(m0, mO M xth xrm xsv 0 az_14 xer 0 ((0 + 1) + 1) xlo xhi xwl xml xkl xfi xse xdn xon xtw xol xrw xgl xus xpr xmk xab), (M 6, aI (K 2) 100 gbf), (M 11, aI (K 0) 60 (va_up (va_up gbg (0 : Int).toNat 0) ((0 + 1) : Int).toNat (az_3 + 1))), (M 12, aI (K 0) 60 (va_up (va_up gle (0 : Int).toNat (az_3 - 0)) ((0 + 1) : Int).toNat (az_14 - (az_3 + 1)))), (M 13, aI (K 4) 60 (va_up (va_up gam (0 : Int).toNat 0) ((0 + 1) : Int).toNat 0))]) [4, 0, 1, 2, 3] rfl rfl
              refine W.eq (g2 := F0 m9 93 ls [.int (iI 0)]) rfl ?_
              exfalso; omega
  · replace G := G.perm (ws' := [(m0, mO M xth xrm xsv (w.length : Int) az_3 xer wr_4 (0 + 1) xlo xhi xwl xml xkl xfi xse xdn xon xtw xol xrw xgl xus xpr xmk xab), (M 6, aI (K 2) 100 gbf), (M 11, aI (K 0) 60 (va_up gbg (0 : Int).toNat 0)), (M 12, aI (K 0) 60 (va_up gle (0 : Int).toNat (az_3 - 0))), (M 13, aI (K 4) 60 (va_up gam (0 : Int).toNat 0))]) [3, 4, 0, 1, 2] rfl rfl
    refine W.eq (g2 := F0 m9 21 ls [.int (iI 0), .int (iI wr_4), .ref m0]) rfl ?_
    refine ad_if_ne (tgt := 28) F (by decide) dX11_readRule_21 (by decide) (fun cc_35 => absurd cc_35 (by decide)) (fun _ => ?_)
    refine ad_iconst F dX11_readRule_24 ?_
    refine lv_goto (tgt := 29) F.1 F.2.1 dX11_readRule_25 (by decide) ?_
    refine ad_iory F (by omega) dX11_readRule_29 ?_
    refine ad_put F G fl_X11_118 0 rfl rfl rfl (Nat.le_of_ble_eq_true rfl) (ws' := [(m0, mO M xth xrm xsv (w.length : Int) az_3 xer 1 (0 + 1) xlo xhi xwl xml xkl xfi xse xdn xon xtw xol xrw xgl xus xpr xmk xab), (M 6, aI (K 2) 100 gbf), (M 11, aI (K 0) 60 (va_up gbg (0 : Int).toNat 0)), (M 12, aI (K 0) 60 (va_up gle (0 : Int).toNat (az_3 - 0))), (M 13, aI (K 4) 60 (va_up gam (0 : Int).toNat 0))]) rfl dX11_readRule_30 (fun H locs G => ?_)
    refine lv_aload_n F.1 F.2.1 dX11_readRule_33 rfl (lv_at hl 0 rfl) ?_
    refine ad_get F G fl_X11_118 0 rfl rfl dX11_readRule_34 ?_
    refine ad_if_ne (tgt := 46) F (by decide) dX11_readRule_37 (by decide) (fun _ => ?_) (fun cc_36 => absurd cc_36 (by decide))
    refine lv_aload_n F.1 F.2.1 dX11_readRule_46 rfl (lv_at hl 0 rfl) ?_
    refine lv_dup F.1 F.2.1 dX11_readRule_47 rfl ?_
    refine ad_get F G fl_X11_118 0 rfl rfl dX11_readRule_48 ?_
    refine lv_aload_n F.1 F.2.1 dX11_readRule_51 rfl (lv_at hl 0 rfl) ?_
    refine ad_get F G fl_X11_122 0 rfl rfl dX11_readRule_52 ?_
    refine lv_aload_n F.1 F.2.1 dX11_readRule_55 rfl (lv_at hl 0 rfl) ?_
    refine ad_get F G fl_X11_115 0 rfl rfl dX11_readRule_56 ?_
    refine ad_icmp_ne (tgt := 83) F (by omega) dX11_readRule_59 (by decide) (fun cc_37 => ?_) (fun cc_37 => ?_)
    · refine ad_iconst F dX11_readRule_83 ?_
      refine ad_iorn F (by omega) dX11_readRule_84 ?_
      refine ad_put F G fl_X11_118 0 rfl rfl rfl (Nat.le_of_ble_eq_true rfl) (ws' := [(m0, mO M xth xrm xsv (w.length : Int) az_3 xer 1 (0 + 1) xlo xhi xwl xml xkl xfi xse xdn xon xtw xol xrw xgl xus xpr xmk xab), (M 6, aI (K 2) 100 gbf), (M 11, aI (K 0) 60 (va_up gbg (0 : Int).toNat 0)), (M 12, aI (K 0) 60 (va_up gle (0 : Int).toNat (az_3 - 0))), (M 13, aI (K 4) 60 (va_up gam (0 : Int).toNat 0))]) rfl dX11_readRule_85 (fun H locs G => ?_)
      refine lv_aload_n F.1 F.2.1 dX11_readRule_88 rfl (lv_at hl 0 rfl) ?_
      refine ad_iconst F dX11_readRule_89 ?_
      refine ad_callV (As := [.int (iI 1)]) (rest := []) F G (c_X11_isMalformed_1 l D K z0 m0 M xth xrm xsv (w.length : Int) az_3 xer 1 (0 + 1) xlo xhi xwl xml xkl xfi xse xdn xon xtw xol xrw xgl xus xpr xmk xab (by omega) (by omega) (by omega)) my_X11_isMalformed mv_X11_153 (wr := [(M 6, aI (K 2) 100 gbf), (M 11, aI (K 0) 60 (va_up gbg (0 : Int).toNat 0)), (M 12, aI (K 0) 60 (va_up gle (0 : Int).toNat (az_3 - 0))), (M 13, aI (K 4) 60 (va_up gam (0 : Int).toNat 0))]) (isC := [0]) (isR := [1, 2, 3, 4]) ⟨rfl, rfl, rfl, rfl, by decide⟩ 11 0 rfl rfl rfl rfl ⟨Nat.le_of_ble_eq_true rfl, Nat.le_of_ble_eq_true rfl⟩ ⟨Nat.le_of_ble_eq_true rfl, Nat.le_of_ble_eq_true rfl⟩ (Nat.le_of_ble_eq_true rfl) hl.1 (cells9 := 0) (slots9 := 0) ⟨rfl, rfl⟩ dX11_readRule_90 (fun v u H locs hw_38 G => ?_)
      rcases hw_38 with ⟨rfl, hc_39, rfl⟩ | ⟨rfl, hc_40, rfl⟩
      · replace G := G.perm (ws' := [(m0, mO M xth xrm xsv 0 az_3 az_3 1 (0 + 1) xlo xhi xwl xml xkl xfi xse xdn xon xtw xol xrw xgl xus xpr xmk xab), (M 6, aI (K 2) 100 gbf), (M 11, aI (K 0) 60 (va_up gbg (0 : Int).toNat 0)), (M 12, aI (K 0) 60 (va_up gle (0 : Int).toNat (az_3 - 0))), (M 13, aI (K 4) 60 (va_up gam (0 : Int).toNat 0))]) [4, 0, 1, 2, 3] rfl rfl
        refine W.eq (g2 := F0 m9 93 ls [.int (iI 1)]) rfl ?_
        exact ad_zreturn F G hR rfl (Nat.le_of_ble_eq_true rfl) (Nat.le_of_ble_eq_true rfl) rfl (Or.inl ⟨az_3, (0 + 1), (va_up gbg (0 : Int).toNat 0), (va_up gle (0 : Int).toNat (az_3 - 0)), (va_up gam (0 : Int).toNat 0), rfl, (errR_a hc_5 (by have := hc_10; have hz := lat_out (w := w) (z := az_3); omega)), (by omega), rfl⟩) dX11_readRule_93
      · replace G := G.perm (ws' := [(m0, mO M xth xrm xsv 0 az_3 xer 0 (0 + 1) xlo xhi xwl xml xkl xfi xse xdn xon xtw xol xrw xgl xus xpr xmk xab), (M 6, aI (K 2) 100 gbf), (M 11, aI (K 0) 60 (va_up gbg (0 : Int).toNat 0)), (M 12, aI (K 0) 60 (va_up gle (0 : Int).toNat (az_3 - 0))), (M 13, aI (K 4) 60 (va_up gam (0 : Int).toNat 0))]) [4, 0, 1, 2, 3] rfl rfl
        refine W.eq (g2 := F0 m9 93 ls [.int (iI 0)]) rfl ?_
        exfalso; omega
    · refine lv_aload_n F.1 F.2.1 dX11_readRule_62 rfl (lv_at hl 0 rfl) ?_
      refine ad_get F G fl_X11_129 0 rfl rfl dX11_readRule_63 ?_
      refine ad_iconst F dX11_readRule_66 ?_
      refine ad_icmp_ne (tgt := 83) F (by omega) dX11_readRule_67 (by decide) (fun cc_41 => ?_) (fun cc_41 => ?_)
      · refine ad_iconst F dX11_readRule_83 ?_
        refine ad_iorn F (by omega) dX11_readRule_84 ?_
        refine ad_put F G fl_X11_118 0 rfl rfl rfl (Nat.le_of_ble_eq_true rfl) (ws' := [(m0, mO M xth xrm xsv (w.length : Int) az_3 xer 1 (0 + 1) xlo xhi xwl xml xkl xfi xse xdn xon xtw xol xrw xgl xus xpr xmk xab), (M 6, aI (K 2) 100 gbf), (M 11, aI (K 0) 60 (va_up gbg (0 : Int).toNat 0)), (M 12, aI (K 0) 60 (va_up gle (0 : Int).toNat (az_3 - 0))), (M 13, aI (K 4) 60 (va_up gam (0 : Int).toNat 0))]) rfl dX11_readRule_85 (fun H locs G => ?_)
        refine lv_aload_n F.1 F.2.1 dX11_readRule_88 rfl (lv_at hl 0 rfl) ?_
        refine ad_iconst F dX11_readRule_89 ?_
        refine ad_callV (As := [.int (iI 1)]) (rest := []) F G (c_X11_isMalformed_1 l D K z0 m0 M xth xrm xsv (w.length : Int) az_3 xer 1 (0 + 1) xlo xhi xwl xml xkl xfi xse xdn xon xtw xol xrw xgl xus xpr xmk xab (by omega) (by omega) (by omega)) my_X11_isMalformed mv_X11_153 (wr := [(M 6, aI (K 2) 100 gbf), (M 11, aI (K 0) 60 (va_up gbg (0 : Int).toNat 0)), (M 12, aI (K 0) 60 (va_up gle (0 : Int).toNat (az_3 - 0))), (M 13, aI (K 4) 60 (va_up gam (0 : Int).toNat 0))]) (isC := [0]) (isR := [1, 2, 3, 4]) ⟨rfl, rfl, rfl, rfl, by decide⟩ 11 0 rfl rfl rfl rfl ⟨Nat.le_of_ble_eq_true rfl, Nat.le_of_ble_eq_true rfl⟩ ⟨Nat.le_of_ble_eq_true rfl, Nat.le_of_ble_eq_true rfl⟩ (Nat.le_of_ble_eq_true rfl) hl.1 (cells9 := 0) (slots9 := 0) ⟨rfl, rfl⟩ dX11_readRule_90 (fun v u H locs hw_42 G => ?_)
        rcases hw_42 with ⟨rfl, hc_43, rfl⟩ | ⟨rfl, hc_44, rfl⟩
        · replace G := G.perm (ws' := [(m0, mO M xth xrm xsv 0 az_3 az_3 1 (0 + 1) xlo xhi xwl xml xkl xfi xse xdn xon xtw xol xrw xgl xus xpr xmk xab), (M 6, aI (K 2) 100 gbf), (M 11, aI (K 0) 60 (va_up gbg (0 : Int).toNat 0)), (M 12, aI (K 0) 60 (va_up gle (0 : Int).toNat (az_3 - 0))), (M 13, aI (K 4) 60 (va_up gam (0 : Int).toNat 0))]) [4, 0, 1, 2, 3] rfl rfl
          refine W.eq (g2 := F0 m9 93 ls [.int (iI 1)]) rfl ?_
          exact ad_zreturn F G hR rfl (Nat.le_of_ble_eq_true rfl) (Nat.le_of_ble_eq_true rfl) rfl (Or.inl ⟨az_3, (0 + 1), (va_up gbg (0 : Int).toNat 0), (va_up gle (0 : Int).toNat (az_3 - 0)), (va_up gam (0 : Int).toNat 0), rfl, (errR_a hc_5 (by have := hc_10; have hz := lat_out (w := w) (z := az_3); omega)), (by omega), rfl⟩) dX11_readRule_93
        · replace G := G.perm (ws' := [(m0, mO M xth xrm xsv 0 az_3 xer 0 (0 + 1) xlo xhi xwl xml xkl xfi xse xdn xon xtw xol xrw xgl xus xpr xmk xab), (M 6, aI (K 2) 100 gbf), (M 11, aI (K 0) 60 (va_up gbg (0 : Int).toNat 0)), (M 12, aI (K 0) 60 (va_up gle (0 : Int).toNat (az_3 - 0))), (M 13, aI (K 4) 60 (va_up gam (0 : Int).toNat 0))]) [4, 0, 1, 2, 3] rfl rfl
          refine W.eq (g2 := F0 m9 93 ls [.int (iI 0)]) rfl ?_
          exfalso; omega
      · exact absurd cc_41 (by omega)
