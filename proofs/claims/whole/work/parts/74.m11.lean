theorem Tx_of_lat {g : Nat → Int} {u : List Int} (h : ∀ j : Nat, (j : Int) < u.length → g j = lat u j) : Tx g u := fun j hj => by
  rw [h j (by omega)]
  have h0 : (0 : Int) ≤ j := by omega
  rw [lat, if_pos h0, Int.toNat_natCast]
def rm_X11_takeWord : Room := { frames := 1, cells := 0, slots := 0, locals := 12 }
set_option maxHeartbeats 4000000 in
set_option maxRecDepth 100000 in
theorem c_X11_takeWord (l : Launch) (D : va_G) (K : Nat → ClassId) (z0 : Nat) (m0 : Nat) (M : Nat → Nat) (xth : Int) (xrm : Int) (xsv : Int) (xln : Int) (xat : Int) (xer : Int) (xwr : Int) (xwd : Int) (xlo : Int) (xhi : Int) (xwl : Int) (xml : Int) (xkl : Int) (xfi : Int) (xse : Int) (xdn : Int) (xon : Int) (xtw : Int) (xol : Int) (xrw : Int) (xgl : Int) (xus : Int) (xpr : Int) (xmk : Int) (xab : Int) (ggv : Nat → Int) (w : List Int) (gbg : Nat → Int) (gle : Nat → Int) (gwo : Nat → Int) (x : Int) (b1 : Int) (u : List Int) (hTg : Tx ggv w) (hC : Chs w) (hL : w.length ≤ 100) (hx : 0 ≤ x ∧ x < 60) (hgx : gbg x.toNat = b1 ∧ gle x.toNat = (u.length : Int)) (hrx : 0 ≤ b1 ∧ b1 + u.length ≤ w.length) (hux : sl w b1 (b1 + u.length) = u) (hul : 1 ≤ u.length ∧ u.length ≤ 24) : CT l D K z0 yX11_takeWord cX11_takeWord 3 none rm_X11_takeWord [.ref m0, .int (iI x)] [(m0, mO M xth xrm xsv xln xat xer xwr xwd xlo xhi xwl xml xkl xfi xse xdn xon xtw xol xrw xgl xus xpr xmk xab), (M 11, aI (K 0) 60 gbg), (M 12, aI (K 0) 60 gle), (M 25, aI (K 2) 100 ggv), (M 17, aI (K 0) 2000 gwo)] (fun v9 u9 => ∃ (gwo2 : Nat → Int), v9 = none ∧ (Tx gwo2 u) ∧ u9 = [(m0, mO M xth xrm xsv xln xat xer xwr xwd xlo xhi (u.length : Int) xml xkl xfi xse xdn xon xtw xol xrw xgl xus xpr xmk xab), (M 11, aI (K 0) 60 gbg), (M 12, aI (K 0) 60 gle), (M 25, aI (K 2) 100 ggv), (M 17, aI (K 0) 2000 gwo2)]) := by
  refine CT.start RX11 "takeWord" (by decide) rfl rfl (Nat.le_of_ble_eq_true rfl) ?_
  intro p9 e9 s9 m9 ag9 bl9 mt9 c9 A9 Q9 ls F G hR hl
  have hl : lv_has ls 3 [(0, .ref m0), (1, .int (iI x))] := hl
  refine lv_aload_n F.1 F.2.1 dX11_takeWord_0 rfl (lv_at hl 0 rfl) ?_
  refine lv_aload_n F.1 F.2.1 dX11_takeWord_1 rfl (lv_at hl 0 rfl) ?_
  refine ad_get F G fl_X11_32 0 rfl rfl dX11_takeWord_2 ?_
  refine lv_iload_n F.1 F.2.1 dX11_takeWord_5 rfl (lv_at hl 1 rfl) ?_
  refine ad_iald F G 2 rfl (w := (u.length : Int)) (by omega) hgx.2 dX11_takeWord_6 ?_
  refine ad_put F G fl_X11_233 0 rfl rfl rfl (Nat.le_of_ble_eq_true rfl) (ws' := [(m0, mO M xth xrm xsv xln xat xer xwr xwd xlo xhi (u.length : Int) xml xkl xfi xse xdn xon xtw xol xrw xgl xus xpr xmk xab), (M 11, aI (K 0) 60 gbg), (M 12, aI (K 0) 60 gle), (M 25, aI (K 2) 100 ggv), (M 17, aI (K 0) 2000 gwo)]) rfl dX11_takeWord_7 (fun H locs G => ?_)
  refine ad_iconst F dX11_takeWord_10 ?_
  refine lv_istore_n (lv' := [(2, .int (iI 0)), (0, .ref m0), (1, .int (iI x))]) F.1 F.2.1 dX11_takeWord_11 rfl hl (by decide) rfl (fun ls hl => ?_)
  have lp12 : ∀ (n12 : Nat) (k : Int) (gx : Nat → Int) (H : Heap) (locs : List Loc) (ls : Array Slot), (0 ≤ k ∧ k ≤ u.length) → (∀ j : Nat, (j : Int) < k → gx j = lat u j) → (u.length - k) < (n12 : Int) → ad_G D A9 s9.heap H locs [(m0, mO M xth xrm xsv xln xat xer xwr xwd xlo xhi (u.length : Int) xml xkl xfi xse xdn xon xtw xol xrw xgl xus xpr xmk xab), (M 11, aI (K 0) 60 gbg), (M 12, aI (K 0) 60 gle), (M 25, aI (K 2) 100 ggv), (M 17, aI (K 0) 2000 gx)] → lv_has ls 3 [(0, .ref m0), (1, .int (iI x)), (2, .int (iI k))] → W p9 l e9 rm_X11_takeWord s9 m9 ag9 bl9 mt9 c9 H locs 0 0 Q9 (F0 m9 12 ls []) := by
    intro n12
    induction n12 with
    | zero =>
      intro k gx H locs ls hk hg hm12
      exact absurd hm12 (by omega)
    | succ n12 ih12 =>
      intro k gx H locs ls hk hg hm12 G hl
      refine lv_iload_n F.1 F.2.1 dX11_takeWord_12 rfl (lv_at hl 2 rfl) ?_
      refine lv_aload_n F.1 F.2.1 dX11_takeWord_13 rfl (lv_at hl 0 rfl) ?_
      refine ad_get F G fl_X11_233 0 rfl rfl dX11_takeWord_14 ?_
      refine ad_icmp_ge (tgt := 45) F (by omega) dX11_takeWord_17 (by decide) (fun cc_1 => ?_) (fun cc_1 => ?_)
      · exact ad_vreturn F G hR rfl (Nat.le_of_ble_eq_true rfl) (Nat.le_of_ble_eq_true rfl) ⟨gx, rfl, (Tx_of_lat (fun j h => hg j (by omega))), rfl⟩ dX11_takeWord_45
      · refine lv_aload_n F.1 F.2.1 dX11_takeWord_20 rfl (lv_at hl 0 rfl) ?_
        refine ad_get F G fl_X11_39 0 rfl rfl dX11_takeWord_21 ?_
        refine lv_iload_n F.1 F.2.1 dX11_takeWord_24 rfl (lv_at hl 2 rfl) ?_
        refine lv_aload_n F.1 F.2.1 dX11_takeWord_25 rfl (lv_at hl 0 rfl) ?_
        refine ad_get F G fl_X11_48 0 rfl rfl dX11_takeWord_26 ?_
        refine lv_aload_n F.1 F.2.1 dX11_takeWord_29 rfl (lv_at hl 0 rfl) ?_
        refine ad_get F G fl_X11_29 0 rfl rfl dX11_takeWord_30 ?_
        refine lv_iload_n F.1 F.2.1 dX11_takeWord_33 rfl (lv_at hl 1 rfl) ?_
        refine ad_iald F G 1 rfl (w := b1) (by omega) hgx.1 dX11_takeWord_34 ?_
        refine lv_iload_n F.1 F.2.1 dX11_takeWord_35 rfl (lv_at hl 2 rfl) ?_
        refine ad_iadd F dX11_takeWord_36 ?_
        refine ad_cald F G 3 rfl (w := lat u k) (by omega) (by rw [Tx_at hTg (by omega) (by omega), ← sl_at (i := b1) (j := b1 + u.length) (by omega) (by omega) (by omega), hux]) dX11_takeWord_37 ?_
        refine ad_iast F G 4 rfl (by omega) (ws' := [(m0, mO M xth xrm xsv xln xat xer xwr xwd xlo xhi (u.length : Int) xml xkl xfi xse xdn xon xtw xol xrw xgl xus xpr xmk xab), (M 11, aI (K 0) 60 gbg), (M 12, aI (K 0) 60 gle), (M 25, aI (K 2) 100 ggv), (M 17, aI (K 0) 2000 (va_up gx k.toNat (lat u k)))]) rfl dX11_takeWord_38 (fun H locs G => ?_)
        refine ad_iinc (lv' := [(2, .int (iI (k + 1))), (0, .ref m0), (1, .int (iI x))]) F dX11_takeWord_39 hl (k := 2) rfl (by decide) rfl (fun ls hl => ?_)
        refine lv_goto (tgt := 12) F.1 F.2.1 dX11_takeWord_42 (by decide) ?_
        exact ih12 (k + 1) (va_up gx k.toNat (lat u k)) _ _ _ (by omega) (fun j h => by simp only [va_up]; split; (rename_i e; rw [show (j : Int) = k by omega]); exact hg j (by omega)) (by omega) (G.perm (ws' := [(m0, mO M xth xrm xsv xln xat xer xwr xwd xlo xhi (u.length : Int) xml xkl xfi xse xdn xon xtw xol xrw xgl xus xpr xmk xab), (M 11, aI (K 0) 60 gbg), (M 12, aI (K 0) 60 gle), (M 25, aI (K 2) 100 ggv), (M 17, aI (K 0) 2000 (va_up gx k.toNat (lat u k)))]) [0, 1, 2, 3, 4] rfl rfl) (lv_sub hl [1, 2, 0] rfl)
  exact lp12 ((((u.length - 0 : Int)) + 1).toNat) 0 gwo _ _ _ (by omega) (fun j h => by omega) (by omega) (G.perm (ws' := [(m0, mO M xth xrm xsv xln xat xer xwr xwd xlo xhi (u.length : Int) xml xkl xfi xse xdn xon xtw xol xrw xgl xus xpr xmk xab), (M 11, aI (K 0) 60 gbg), (M 12, aI (K 0) 60 gle), (M 25, aI (K 2) 100 ggv), (M 17, aI (K 0) 2000 gwo)]) [0, 1, 2, 3, 4] rfl rfl) (lv_sub hl [1, 2, 0] rfl)

def rm_X11_takeMade : Room := { frames := 1, cells := 0, slots := 0, locals := 12 }
set_option maxHeartbeats 4000000 in
set_option maxRecDepth 100000 in
theorem c_X11_takeMade (l : Launch) (D : va_G) (K : Nat → ClassId) (z0 : Nat) (m0 : Nat) (M : Nat → Nat) (xth : Int) (xrm : Int) (xsv : Int) (xln : Int) (xat : Int) (xer : Int) (xwr : Int) (xwd : Int) (xlo : Int) (xhi : Int) (xwl : Int) (xkl : Int) (xfi : Int) (xse : Int) (xdn : Int) (xon : Int) (xtw : Int) (xol : Int) (xrw : Int) (xgl : Int) (xus : Int) (xpr : Int) (xmk : Int) (xab : Int) (gma : Nat → Int) (gwo : Nat → Int) (mz : List Int) (hTm : Tx gma mz) (hml : mz.length ≤ 1900) : CT l D K z0 yX11_takeMade cX11_takeMade 2 none rm_X11_takeMade [.ref m0] [(m0, mO M xth xrm xsv xln xat xer xwr xwd xlo xhi xwl (mz.length : Int) xkl xfi xse xdn xon xtw xol xrw xgl xus xpr xmk xab), (M 18, aI (K 0) 2000 gma), (M 17, aI (K 0) 2000 gwo)] (fun v9 u9 => ∃ (gx2 : Nat → Int), v9 = none ∧ (Tx gx2 mz) ∧ u9 = [(m0, mO M xth xrm xsv xln xat xer xwr xwd xlo xhi (mz.length : Int) (mz.length : Int) xkl xfi xse xdn xon xtw xol xrw xgl xus xpr xmk xab), (M 18, aI (K 0) 2000 gma), (M 17, aI (K 0) 2000 gx2)]) := by
  refine CT.start RX11 "takeMade" (by decide) rfl rfl (Nat.le_of_ble_eq_true rfl) ?_
  intro p9 e9 s9 m9 ag9 bl9 mt9 c9 A9 Q9 ls F G hR hl
  have hl : lv_has ls 2 [(0, .ref m0)] := hl
  refine lv_aload_n F.1 F.2.1 dX11_takeMade_0 rfl (lv_at hl 0 rfl) ?_
  refine lv_aload_n F.1 F.2.1 dX11_takeMade_1 rfl (lv_at hl 0 rfl) ?_
  refine ad_get F G fl_X11_239 0 rfl rfl dX11_takeMade_2 ?_
  refine ad_put F G fl_X11_233 0 rfl rfl rfl (Nat.le_of_ble_eq_true rfl) (ws' := [(m0, mO M xth xrm xsv xln xat xer xwr xwd xlo xhi (mz.length : Int) (mz.length : Int) xkl xfi xse xdn xon xtw xol xrw xgl xus xpr xmk xab), (M 18, aI (K 0) 2000 gma), (M 17, aI (K 0) 2000 gwo)]) rfl dX11_takeMade_5 (fun H locs G => ?_)
  refine ad_iconst F dX11_takeMade_8 ?_
  refine lv_istore_n (lv' := [(1, .int (iI 0)), (0, .ref m0)]) F.1 F.2.1 dX11_takeMade_9 rfl hl (by decide) rfl (fun ls hl => ?_)
  have lp10 : ∀ (n10 : Nat) (k : Int) (gx : Nat → Int) (H : Heap) (locs : List Loc) (ls : Array Slot), (0 ≤ k ∧ k ≤ mz.length) → (∀ j : Nat, (j : Int) < k → gx j = gma j) → (mz.length - k) < (n10 : Int) → ad_G D A9 s9.heap H locs [(m0, mO M xth xrm xsv xln xat xer xwr xwd xlo xhi (mz.length : Int) (mz.length : Int) xkl xfi xse xdn xon xtw xol xrw xgl xus xpr xmk xab), (M 18, aI (K 0) 2000 gma), (M 17, aI (K 0) 2000 gx)] → lv_has ls 2 [(0, .ref m0), (1, .int (iI k))] → W p9 l e9 rm_X11_takeMade s9 m9 ag9 bl9 mt9 c9 H locs 0 0 Q9 (F0 m9 10 ls []) := by
    intro n10
    induction n10 with
    | zero =>
      intro k gx H locs ls hk hg hm10
      exact absurd hm10 (by omega)
    | succ n10 ih10 =>
      intro k gx H locs ls hk hg hm10 G hl
      refine lv_iload_n F.1 F.2.1 dX11_takeMade_10 rfl (lv_at hl 1 rfl) ?_
      refine lv_aload_n F.1 F.2.1 dX11_takeMade_11 rfl (lv_at hl 0 rfl) ?_
      refine ad_get F G fl_X11_239 0 rfl rfl dX11_takeMade_12 ?_
      refine ad_icmp_ge (tgt := 36) F (by omega) dX11_takeMade_15 (by decide) (fun cc_1 => ?_) (fun cc_1 => ?_)
      · exact ad_vreturn F G hR rfl (Nat.le_of_ble_eq_true rfl) (Nat.le_of_ble_eq_true rfl) ⟨gx, rfl, (Tx_congr hTm (fun j h => hg j (by omega))), rfl⟩ dX11_takeMade_36
      · refine lv_aload_n F.1 F.2.1 dX11_takeMade_18 rfl (lv_at hl 0 rfl) ?_
        refine ad_get F G fl_X11_39 0 rfl rfl dX11_takeMade_19 ?_
        refine lv_iload_n F.1 F.2.1 dX11_takeMade_22 rfl (lv_at hl 1 rfl) ?_
        refine lv_aload_n F.1 F.2.1 dX11_takeMade_23 rfl (lv_at hl 0 rfl) ?_
        refine ad_get F G fl_X11_42 0 rfl rfl dX11_takeMade_24 ?_
        refine lv_iload_n F.1 F.2.1 dX11_takeMade_27 rfl (lv_at hl 1 rfl) ?_
        refine ad_iald F G 1 rfl (w := gma k.toNat) (by omega) rfl dX11_takeMade_28 ?_
        refine ad_iast F G 2 rfl (by omega) (ws' := [(m0, mO M xth xrm xsv xln xat xer xwr xwd xlo xhi (mz.length : Int) (mz.length : Int) xkl xfi xse xdn xon xtw xol xrw xgl xus xpr xmk xab), (M 18, aI (K 0) 2000 gma), (M 17, aI (K 0) 2000 (va_up gx k.toNat (gma k.toNat)))]) rfl dX11_takeMade_29 (fun H locs G => ?_)
        refine ad_iinc (lv' := [(1, .int (iI (k + 1))), (0, .ref m0)]) F dX11_takeMade_30 hl (k := 1) rfl (by decide) rfl (fun ls hl => ?_)
        refine lv_goto (tgt := 10) F.1 F.2.1 dX11_takeMade_33 (by decide) ?_
        exact ih10 (k + 1) (va_up gx k.toNat (gma k.toNat)) _ _ _ (by omega) (fun j h => by simp only [va_up]; split; (rename_i e; rw [e]); exact hg j (by omega)) (by omega) (G.perm (ws' := [(m0, mO M xth xrm xsv xln xat xer xwr xwd xlo xhi (mz.length : Int) (mz.length : Int) xkl xfi xse xdn xon xtw xol xrw xgl xus xpr xmk xab), (M 18, aI (K 0) 2000 gma), (M 17, aI (K 0) 2000 (va_up gx k.toNat (gma k.toNat)))]) [0, 1, 2] rfl rfl) (lv_sub hl [1, 0] rfl)
  exact lp10 ((((mz.length - 0 : Int)) + 1).toNat) 0 gwo _ _ _ (by omega) (fun j h => by omega) (by omega) (G.perm (ws' := [(m0, mO M xth xrm xsv xln xat xer xwr xwd xlo xhi (mz.length : Int) (mz.length : Int) xkl xfi xse xdn xon xtw xol xrw xgl xus xpr xmk xab), (M 18, aI (K 0) 2000 gma), (M 17, aI (K 0) 2000 gwo)]) [0, 1, 2] rfl rfl) (lv_sub hl [1, 0] rfl)

def rm_X11_keep : Room := { frames := 1, cells := 0, slots := 0, locals := 12 }
set_option maxHeartbeats 4000000 in
set_option maxRecDepth 100000 in
theorem c_X11_keep (l : Launch) (D : va_G) (K : Nat → ClassId) (z0 : Nat) (m0 : Nat) (M : Nat → Nat) (xth : Int) (xrm : Int) (xsv : Int) (xln : Int) (xat : Int) (xer : Int) (xwr : Int) (xwd : Int) (xlo : Int) (xhi : Int) (xwl : Int) (xkl : Int) (xfi : Int) (xse : Int) (xdn : Int) (xon : Int) (xtw : Int) (xol : Int) (xrw : Int) (xgl : Int) (xus : Int) (xpr : Int) (xmk : Int) (xab : Int) (gma : Nat → Int) (gke : Nat → Int) (mz : List Int) (hTm : Tx gma mz) (hml : mz.length ≤ 1900) : CT l D K z0 yX11_keep cX11_keep 2 none rm_X11_keep [.ref m0] [(m0, mO M xth xrm xsv xln xat xer xwr xwd xlo xhi xwl (mz.length : Int) xkl xfi xse xdn xon xtw xol xrw xgl xus xpr xmk xab), (M 18, aI (K 0) 2000 gma), (M 19, aI (K 0) 2000 gke)] (fun v9 u9 => ∃ (gx2 : Nat → Int), v9 = none ∧ (Tx gx2 mz) ∧ u9 = [(m0, mO M xth xrm xsv xln xat xer xwr xwd xlo xhi xwl (mz.length : Int) (mz.length : Int) xfi xse xdn xon xtw xol xrw xgl xus xpr xmk xab), (M 18, aI (K 0) 2000 gma), (M 19, aI (K 0) 2000 gx2)]) := by
  refine CT.start RX11 "keep" (by decide) rfl rfl (Nat.le_of_ble_eq_true rfl) ?_
  intro p9 e9 s9 m9 ag9 bl9 mt9 c9 A9 Q9 ls F G hR hl
  have hl : lv_has ls 2 [(0, .ref m0)] := hl
  refine lv_aload_n F.1 F.2.1 dX11_keep_0 rfl (lv_at hl 0 rfl) ?_
  refine lv_aload_n F.1 F.2.1 dX11_keep_1 rfl (lv_at hl 0 rfl) ?_
  refine ad_get F G fl_X11_239 0 rfl rfl dX11_keep_2 ?_
  refine ad_put F G fl_X11_289 0 rfl rfl rfl (Nat.le_of_ble_eq_true rfl) (ws' := [(m0, mO M xth xrm xsv xln xat xer xwr xwd xlo xhi xwl (mz.length : Int) (mz.length : Int) xfi xse xdn xon xtw xol xrw xgl xus xpr xmk xab), (M 18, aI (K 0) 2000 gma), (M 19, aI (K 0) 2000 gke)]) rfl dX11_keep_5 (fun H locs G => ?_)
  refine ad_iconst F dX11_keep_8 ?_
  refine lv_istore_n (lv' := [(1, .int (iI 0)), (0, .ref m0)]) F.1 F.2.1 dX11_keep_9 rfl hl (by decide) rfl (fun ls hl => ?_)
  have lp10 : ∀ (n10 : Nat) (k : Int) (gx : Nat → Int) (H : Heap) (locs : List Loc) (ls : Array Slot), (0 ≤ k ∧ k ≤ mz.length) → (∀ j : Nat, (j : Int) < k → gx j = gma j) → (mz.length - k) < (n10 : Int) → ad_G D A9 s9.heap H locs [(m0, mO M xth xrm xsv xln xat xer xwr xwd xlo xhi xwl (mz.length : Int) (mz.length : Int) xfi xse xdn xon xtw xol xrw xgl xus xpr xmk xab), (M 18, aI (K 0) 2000 gma), (M 19, aI (K 0) 2000 gx)] → lv_has ls 2 [(0, .ref m0), (1, .int (iI k))] → W p9 l e9 rm_X11_keep s9 m9 ag9 bl9 mt9 c9 H locs 0 0 Q9 (F0 m9 10 ls []) := by
    intro n10
    induction n10 with
    | zero =>
      intro k gx H locs ls hk hg hm10
      exact absurd hm10 (by omega)
    | succ n10 ih10 =>
      intro k gx H locs ls hk hg hm10 G hl
      refine lv_iload_n F.1 F.2.1 dX11_keep_10 rfl (lv_at hl 1 rfl) ?_
      refine lv_aload_n F.1 F.2.1 dX11_keep_11 rfl (lv_at hl 0 rfl) ?_
      refine ad_get F G fl_X11_239 0 rfl rfl dX11_keep_12 ?_
      refine ad_icmp_ge (tgt := 36) F (by omega) dX11_keep_15 (by decide) (fun cc_1 => ?_) (fun cc_1 => ?_)
      · exact ad_vreturn F G hR rfl (Nat.le_of_ble_eq_true rfl) (Nat.le_of_ble_eq_true rfl) ⟨gx, rfl, (Tx_congr hTm (fun j h => hg j (by omega))), rfl⟩ dX11_keep_36
      · refine lv_aload_n F.1 F.2.1 dX11_keep_18 rfl (lv_at hl 0 rfl) ?_
        refine ad_get F G fl_X11_45 0 rfl rfl dX11_keep_19 ?_
        refine lv_iload_n F.1 F.2.1 dX11_keep_22 rfl (lv_at hl 1 rfl) ?_
        refine lv_aload_n F.1 F.2.1 dX11_keep_23 rfl (lv_at hl 0 rfl) ?_
        refine ad_get F G fl_X11_42 0 rfl rfl dX11_keep_24 ?_
        refine lv_iload_n F.1 F.2.1 dX11_keep_27 rfl (lv_at hl 1 rfl) ?_
        refine ad_iald F G 1 rfl (w := gma k.toNat) (by omega) rfl dX11_keep_28 ?_
        refine ad_iast F G 2 rfl (by omega) (ws' := [(m0, mO M xth xrm xsv xln xat xer xwr xwd xlo xhi xwl (mz.length : Int) (mz.length : Int) xfi xse xdn xon xtw xol xrw xgl xus xpr xmk xab), (M 18, aI (K 0) 2000 gma), (M 19, aI (K 0) 2000 (va_up gx k.toNat (gma k.toNat)))]) rfl dX11_keep_29 (fun H locs G => ?_)
        refine ad_iinc (lv' := [(1, .int (iI (k + 1))), (0, .ref m0)]) F dX11_keep_30 hl (k := 1) rfl (by decide) rfl (fun ls hl => ?_)
        refine lv_goto (tgt := 10) F.1 F.2.1 dX11_keep_33 (by decide) ?_
        exact ih10 (k + 1) (va_up gx k.toNat (gma k.toNat)) _ _ _ (by omega) (fun j h => by simp only [va_up]; split; (rename_i e; rw [e]); exact hg j (by omega)) (by omega) (G.perm (ws' := [(m0, mO M xth xrm xsv xln xat xer xwr xwd xlo xhi xwl (mz.length : Int) (mz.length : Int) xfi xse xdn xon xtw xol xrw xgl xus xpr xmk xab), (M 18, aI (K 0) 2000 gma), (M 19, aI (K 0) 2000 (va_up gx k.toNat (gma k.toNat)))]) [0, 1, 2] rfl rfl) (lv_sub hl [1, 0] rfl)
  exact lp10 ((((mz.length - 0 : Int)) + 1).toNat) 0 gke _ _ _ (by omega) (fun j h => by omega) (by omega) (G.perm (ws' := [(m0, mO M xth xrm xsv xln xat xer xwr xwd xlo xhi xwl (mz.length : Int) (mz.length : Int) xfi xse xdn xon xtw xol xrw xgl xus xpr xmk xab), (M 18, aI (K 0) 2000 gma), (M 19, aI (K 0) 2000 gke)]) [0, 1, 2] rfl rfl) (lv_sub hl [1, 0] rfl)

def rm_X11_keepWord : Room := { frames := 1, cells := 0, slots := 0, locals := 12 }
set_option maxHeartbeats 4000000 in
set_option maxRecDepth 100000 in
theorem c_X11_keepWord (l : Launch) (D : va_G) (K : Nat → ClassId) (z0 : Nat) (m0 : Nat) (M : Nat → Nat) (xth : Int) (xrm : Int) (xsv : Int) (xln : Int) (xat : Int) (xer : Int) (xwr : Int) (xwd : Int) (xlo : Int) (xhi : Int) (xml : Int) (xkl : Int) (xfi : Int) (xse : Int) (xdn : Int) (xon : Int) (xtw : Int) (xol : Int) (xrw : Int) (xgl : Int) (xus : Int) (xpr : Int) (xmk : Int) (xab : Int) (gwo : Nat → Int) (gke : Nat → Int) (mz : List Int) (hTm : Tx gwo mz) (hml : mz.length ≤ 1900) : CT l D K z0 yX11_keepWord cX11_keepWord 2 none rm_X11_keepWord [.ref m0] [(m0, mO M xth xrm xsv xln xat xer xwr xwd xlo xhi (mz.length : Int) xml xkl xfi xse xdn xon xtw xol xrw xgl xus xpr xmk xab), (M 17, aI (K 0) 2000 gwo), (M 19, aI (K 0) 2000 gke)] (fun v9 u9 => ∃ (gx2 : Nat → Int), v9 = none ∧ (Tx gx2 mz) ∧ u9 = [(m0, mO M xth xrm xsv xln xat xer xwr xwd xlo xhi (mz.length : Int) xml (mz.length : Int) xfi xse xdn xon xtw xol xrw xgl xus xpr xmk xab), (M 17, aI (K 0) 2000 gwo), (M 19, aI (K 0) 2000 gx2)]) := by
  refine CT.start RX11 "keepWord" (by decide) rfl rfl (Nat.le_of_ble_eq_true rfl) ?_
  intro p9 e9 s9 m9 ag9 bl9 mt9 c9 A9 Q9 ls F G hR hl
  have hl : lv_has ls 2 [(0, .ref m0)] := hl
  refine lv_aload_n F.1 F.2.1 dX11_keepWord_0 rfl (lv_at hl 0 rfl) ?_
  refine lv_aload_n F.1 F.2.1 dX11_keepWord_1 rfl (lv_at hl 0 rfl) ?_
  refine ad_get F G fl_X11_233 0 rfl rfl dX11_keepWord_2 ?_
  refine ad_put F G fl_X11_289 0 rfl rfl rfl (Nat.le_of_ble_eq_true rfl) (ws' := [(m0, mO M xth xrm xsv xln xat xer xwr xwd xlo xhi (mz.length : Int) xml (mz.length : Int) xfi xse xdn xon xtw xol xrw xgl xus xpr xmk xab), (M 17, aI (K 0) 2000 gwo), (M 19, aI (K 0) 2000 gke)]) rfl dX11_keepWord_5 (fun H locs G => ?_)
  refine ad_iconst F dX11_keepWord_8 ?_
  refine lv_istore_n (lv' := [(1, .int (iI 0)), (0, .ref m0)]) F.1 F.2.1 dX11_keepWord_9 rfl hl (by decide) rfl (fun ls hl => ?_)
  have lp10 : ∀ (n10 : Nat) (k : Int) (gx : Nat → Int) (H : Heap) (locs : List Loc) (ls : Array Slot), (0 ≤ k ∧ k ≤ mz.length) → (∀ j : Nat, (j : Int) < k → gx j = gwo j) → (mz.length - k) < (n10 : Int) → ad_G D A9 s9.heap H locs [(m0, mO M xth xrm xsv xln xat xer xwr xwd xlo xhi (mz.length : Int) xml (mz.length : Int) xfi xse xdn xon xtw xol xrw xgl xus xpr xmk xab), (M 17, aI (K 0) 2000 gwo), (M 19, aI (K 0) 2000 gx)] → lv_has ls 2 [(0, .ref m0), (1, .int (iI k))] → W p9 l e9 rm_X11_keepWord s9 m9 ag9 bl9 mt9 c9 H locs 0 0 Q9 (F0 m9 10 ls []) := by
    intro n10
    induction n10 with
    | zero =>
      intro k gx H locs ls hk hg hm10
      exact absurd hm10 (by omega)
    | succ n10 ih10 =>
      intro k gx H locs ls hk hg hm10 G hl
      refine lv_iload_n F.1 F.2.1 dX11_keepWord_10 rfl (lv_at hl 1 rfl) ?_
      refine lv_aload_n F.1 F.2.1 dX11_keepWord_11 rfl (lv_at hl 0 rfl) ?_
      refine ad_get F G fl_X11_233 0 rfl rfl dX11_keepWord_12 ?_
      refine ad_icmp_ge (tgt := 36) F (by omega) dX11_keepWord_15 (by decide) (fun cc_1 => ?_) (fun cc_1 => ?_)
      · exact ad_vreturn F G hR rfl (Nat.le_of_ble_eq_true rfl) (Nat.le_of_ble_eq_true rfl) ⟨gx, rfl, (Tx_congr hTm (fun j h => hg j (by omega))), rfl⟩ dX11_keepWord_36
      · refine lv_aload_n F.1 F.2.1 dX11_keepWord_18 rfl (lv_at hl 0 rfl) ?_
        refine ad_get F G fl_X11_45 0 rfl rfl dX11_keepWord_19 ?_
        refine lv_iload_n F.1 F.2.1 dX11_keepWord_22 rfl (lv_at hl 1 rfl) ?_
        refine lv_aload_n F.1 F.2.1 dX11_keepWord_23 rfl (lv_at hl 0 rfl) ?_
        refine ad_get F G fl_X11_39 0 rfl rfl dX11_keepWord_24 ?_
        refine lv_iload_n F.1 F.2.1 dX11_keepWord_27 rfl (lv_at hl 1 rfl) ?_
        refine ad_iald F G 1 rfl (w := gwo k.toNat) (by omega) rfl dX11_keepWord_28 ?_
        refine ad_iast F G 2 rfl (by omega) (ws' := [(m0, mO M xth xrm xsv xln xat xer xwr xwd xlo xhi (mz.length : Int) xml (mz.length : Int) xfi xse xdn xon xtw xol xrw xgl xus xpr xmk xab), (M 17, aI (K 0) 2000 gwo), (M 19, aI (K 0) 2000 (va_up gx k.toNat (gwo k.toNat)))]) rfl dX11_keepWord_29 (fun H locs G => ?_)
        refine ad_iinc (lv' := [(1, .int (iI (k + 1))), (0, .ref m0)]) F dX11_keepWord_30 hl (k := 1) rfl (by decide) rfl (fun ls hl => ?_)
        refine lv_goto (tgt := 10) F.1 F.2.1 dX11_keepWord_33 (by decide) ?_
        exact ih10 (k + 1) (va_up gx k.toNat (gwo k.toNat)) _ _ _ (by omega) (fun j h => by simp only [va_up]; split; (rename_i e; rw [e]); exact hg j (by omega)) (by omega) (G.perm (ws' := [(m0, mO M xth xrm xsv xln xat xer xwr xwd xlo xhi (mz.length : Int) xml (mz.length : Int) xfi xse xdn xon xtw xol xrw xgl xus xpr xmk xab), (M 17, aI (K 0) 2000 gwo), (M 19, aI (K 0) 2000 (va_up gx k.toNat (gwo k.toNat)))]) [0, 1, 2] rfl rfl) (lv_sub hl [1, 0] rfl)
  exact lp10 ((((mz.length - 0 : Int)) + 1).toNat) 0 gke _ _ _ (by omega) (fun j h => by omega) (by omega) (G.perm (ws' := [(m0, mO M xth xrm xsv xln xat xer xwr xwd xlo xhi (mz.length : Int) xml (mz.length : Int) xfi xse xdn xon xtw xol xrw xgl xus xpr xmk xab), (M 17, aI (K 0) 2000 gwo), (M 19, aI (K 0) 2000 gke)]) [0, 1, 2] rfl rfl) (lv_sub hl [1, 0] rfl)

def rm_X11_isMade : Room := { frames := 1, cells := 0, slots := 0, locals := 12 }
set_option maxHeartbeats 4000000 in
set_option maxRecDepth 100000 in
theorem c_X11_isMade (l : Launch) (D : va_G) (K : Nat → ClassId) (z0 : Nat) (m0 : Nat) (M : Nat → Nat) (xth : Int) (xrm : Int) (xsv : Int) (xln : Int) (xat : Int) (xer : Int) (xwr : Int) (xwd : Int) (xlo : Int) (xhi : Int) (xwl : Int) (xkl : Int) (xfi : Int) (xse : Int) (xdn : Int) (xon : Int) (xtw : Int) (xol : Int) (xrw : Int) (xgl : Int) (xus : Int) (xpr : Int) (xmk : Int) (xab : Int) (ggv : Nat → Int) (w : List Int) (gbg : Nat → Int) (gle : Nat → Int) (gma : Nat → Int) (x : Int) (b1 : Int) (u : List Int) (mz : List Int) (hTg : Tx ggv w) (hC : Chs w) (hL : w.length ≤ 100) (hx : 0 ≤ x ∧ x < 60) (hgx : gbg x.toNat = b1 ∧ gle x.toNat = (u.length : Int)) (hrx : 0 ≤ b1 ∧ b1 + u.length ≤ w.length) (hux : sl w b1 (b1 + u.length) = u) (hul : 1 ≤ u.length ∧ u.length ≤ 24) (hTm : Tx gma mz) (hLm : Lt mz) (hml : mz.length ≤ 100) : CT l D K z0 yX11_isMade cX11_isMade 4 (some .boolean) rm_X11_isMade [.ref m0, .int (iI x)] [(m0, mO M xth xrm xsv xln xat xer xwr xwd xlo xhi xwl (mz.length : Int) xkl xfi xse xdn xon xtw xol xrw xgl xus xpr xmk xab), (M 11, aI (K 0) 60 gbg), (M 12, aI (K 0) 60 gle), (M 25, aI (K 2) 100 ggv), (M 18, aI (K 0) 2000 gma)] (fun v9 u9 => (v9 = some (.int (iI 1)) ∧ (mz = u) ∧ u9 = [(m0, mO M xth xrm xsv xln xat xer xwr xwd xlo xhi xwl (mz.length : Int) xkl xfi xse xdn xon xtw xol xrw xgl xus xpr xmk xab), (M 11, aI (K 0) 60 gbg), (M 12, aI (K 0) 60 gle), (M 25, aI (K 2) 100 ggv), (M 18, aI (K 0) 2000 gma)]) ∨ (v9 = some (.int (iI 0)) ∧ (¬ mz = u) ∧ u9 = [(m0, mO M xth xrm xsv xln xat xer xwr xwd xlo xhi xwl (mz.length : Int) xkl xfi xse xdn xon xtw xol xrw xgl xus xpr xmk xab), (M 11, aI (K 0) 60 gbg), (M 12, aI (K 0) 60 gle), (M 25, aI (K 2) 100 ggv), (M 18, aI (K 0) 2000 gma)])) := by
  refine CT.start RX11 "isMade" (by decide) rfl rfl (Nat.le_of_ble_eq_true rfl) ?_
  intro p9 e9 s9 m9 ag9 bl9 mt9 c9 A9 Q9 ls F G hR hl
  have hl : lv_has ls 4 [(0, .ref m0), (1, .int (iI x))] := hl
  refine lv_aload_n F.1 F.2.1 dX11_isMade_0 rfl (lv_at hl 0 rfl) ?_
  refine ad_get F G fl_X11_239 0 rfl rfl dX11_isMade_1 ?_
  refine lv_aload_n F.1 F.2.1 dX11_isMade_4 rfl (lv_at hl 0 rfl) ?_
  refine ad_get F G fl_X11_32 0 rfl rfl dX11_isMade_5 ?_
  refine lv_iload_n F.1 F.2.1 dX11_isMade_8 rfl (lv_at hl 1 rfl) ?_
  refine ad_iald F G 2 rfl (w := (u.length : Int)) (by omega) hgx.2 dX11_isMade_9 ?_
  refine ad_icmp_ne (tgt := 17) F (by omega) dX11_isMade_10 (by decide) (fun cc_1 => ?_) (fun cc_1 => ?_)
  · refine ad_iconst F dX11_isMade_17 ?_
    refine lv_istore_n (lv' := [(2, .int (iI 0)), (0, .ref m0), (1, .int (iI x))]) F.1 F.2.1 dX11_isMade_18 rfl hl (by decide) rfl (fun ls hl => ?_)
    refine ad_iconst F dX11_isMade_19 ?_
    refine lv_istore_n (lv' := [(3, .int (iI 0)), (2, .int (iI 0)), (0, .ref m0), (1, .int (iI x))]) F.1 F.2.1 dX11_isMade_20 rfl hl (by decide) rfl (fun ls hl => ?_)
    have lp21 : ∀ (n21 : Nat) (sm : Int) (k : Int) (H : Heap) (locs : List Loc) (ls : Array Slot), (0 ≤ k ∧ k ≤ mz.length) → ((sm = 1 ∧ (mz.length : Int) = u.length ∧ ∀ j : Int, 0 ≤ j → j < k → lat mz j = lat u j) ∨ (sm = 0 ∧ ¬ mz = u)) → (mz.length - k) < (n21 : Int) → ad_G D A9 s9.heap H locs [(m0, mO M xth xrm xsv xln xat xer xwr xwd xlo xhi xwl (mz.length : Int) xkl xfi xse xdn xon xtw xol xrw xgl xus xpr xmk xab), (M 11, aI (K 0) 60 gbg), (M 12, aI (K 0) 60 gle), (M 25, aI (K 2) 100 ggv), (M 18, aI (K 0) 2000 gma)] → lv_has ls 4 [(0, .ref m0), (1, .int (iI x)), (2, .int (iI sm)), (3, .int (iI k))] → W p9 l e9 rm_X11_isMade s9 m9 ag9 bl9 mt9 c9 H locs 0 0 Q9 (F0 m9 21 ls []) := by
      intro n21
      induction n21 with
      | zero =>
        intro sm k H locs ls hk hs hm21
        exact absurd hm21 (by omega)
      | succ n21 ih21 =>
        intro sm k H locs ls hk hs hm21 G hl
        have hsm : sm = 0 ∨ sm = 1 := hs.elim (fun q => Or.inr q.1) (fun q => Or.inl q.1)
        have hsl : sm = 1 → (mz.length : Int) = u.length := fun q => hs.elim (fun q => q.2.1) (fun r => absurd r.1 (by omega))
        refine lv_iload_n F.1 F.2.1 dX11_isMade_21 rfl (lv_at hl 2 rfl) ?_
        refine ad_if_eq (tgt := 67) F (by omega) dX11_isMade_22 (by decide) (fun cc_2 => ?_) (fun cc_2 => ?_)
        · refine lv_iload_n F.1 F.2.1 dX11_isMade_67 rfl (lv_at hl 2 rfl) ?_
          exact ad_zreturn F G hR rfl (Nat.le_of_ble_eq_true rfl) (Nat.le_of_ble_eq_true rfl) (iI_boolN (by omega)).1 (Or.inr (⟨(ad_eqi (by omega)), (hs.elim (fun q => absurd q.1 (by omega)) (fun q => q.2)), rfl⟩)) dX11_isMade_68
        · refine lv_iload_n F.1 F.2.1 dX11_isMade_25 rfl (lv_at hl 3 rfl) ?_
          refine lv_aload_n F.1 F.2.1 dX11_isMade_26 rfl (lv_at hl 0 rfl) ?_
          refine ad_get F G fl_X11_239 0 rfl rfl dX11_isMade_27 ?_
          refine ad_icmp_ge (tgt := 67) F (by omega) dX11_isMade_30 (by decide) (fun cc_3 => ?_) (fun cc_3 => ?_)
          · refine lv_iload_n F.1 F.2.1 dX11_isMade_67 rfl (lv_at hl 2 rfl) ?_
            exact ad_zreturn F G hR rfl (Nat.le_of_ble_eq_true rfl) (Nat.le_of_ble_eq_true rfl) (iI_boolN (by omega)).1 (Or.inl ⟨(ad_eqi (by omega)), (hs.elim (fun q => lat_eq q.2.1 (fun j h1 h2 => q.2.2 j h1 (by omega))) (fun q => absurd q.1 (by omega))), rfl⟩) dX11_isMade_68
          · refine lv_aload_n F.1 F.2.1 dX11_isMade_33 rfl (lv_at hl 0 rfl) ?_
            refine ad_get F G fl_X11_42 0 rfl rfl dX11_isMade_34 ?_
            refine lv_iload_n F.1 F.2.1 dX11_isMade_37 rfl (lv_at hl 3 rfl) ?_
            refine ad_iald F G 4 rfl (w := lat mz k) (by omega) (Tx_at hTm (by omega) (by omega)) dX11_isMade_38 ?_
            refine lv_aload_n F.1 F.2.1 dX11_isMade_39 rfl (lv_at hl 0 rfl) ?_
            refine ad_get F G fl_X11_48 0 rfl rfl dX11_isMade_40 ?_
            refine lv_aload_n F.1 F.2.1 dX11_isMade_43 rfl (lv_at hl 0 rfl) ?_
            refine ad_get F G fl_X11_29 0 rfl rfl dX11_isMade_44 ?_
            refine lv_iload_n F.1 F.2.1 dX11_isMade_47 rfl (lv_at hl 1 rfl) ?_
            refine ad_iald F G 1 rfl (w := b1) (by omega) hgx.1 dX11_isMade_48 ?_
            refine lv_iload_n F.1 F.2.1 dX11_isMade_49 rfl (lv_at hl 3 rfl) ?_
            refine ad_iadd F dX11_isMade_50 ?_
            refine ad_cald F G 3 rfl (w := lat u k) (by omega) (by rw [Tx_at hTg (by omega) (by omega), ← sl_at (i := b1) (j := b1 + u.length) (by omega) (by omega) (by omega), hux]) dX11_isMade_51 ?_
            have hq1 := lat_Lt hLm k
            have hq2 : (0 ≤ lat u k ∧ lat u k < 65536) := by rw [← hux]; exact lat_ch (Chs_sl hC _ _) k
            refine ad_icmp_ne (tgt := 59) F (by omega) dX11_isMade_52 (by decide) (fun cc_4 => ?_) (fun cc_4 => ?_)
            · refine ad_iconst F dX11_isMade_59 ?_
              refine lv_istore_n (lv' := [(2, .int (iI 0)), (0, .ref m0), (1, .int (iI x)), (3, .int (iI k))]) F.1 F.2.1 dX11_isMade_60 rfl hl (by decide) rfl (fun ls hl => ?_)
              refine ad_iinc (lv' := [(3, .int (iI (k + 1))), (2, .int (iI 0)), (0, .ref m0), (1, .int (iI x))]) F dX11_isMade_61 hl (k := 3) rfl (by decide) rfl (fun ls hl => ?_)
              refine lv_goto (tgt := 21) F.1 F.2.1 dX11_isMade_64 (by decide) ?_
              exact ih21 0 (k + 1) _ _ _ (by omega) (Or.inr ⟨rfl, fun q => cc_4 (by rw [q])⟩) (by omega) (G.perm (ws' := [(m0, mO M xth xrm xsv xln xat xer xwr xwd xlo xhi xwl (mz.length : Int) xkl xfi xse xdn xon xtw xol xrw xgl xus xpr xmk xab), (M 11, aI (K 0) 60 gbg), (M 12, aI (K 0) 60 gle), (M 25, aI (K 2) 100 ggv), (M 18, aI (K 0) 2000 gma)]) [0, 1, 2, 3, 4] rfl rfl) (lv_sub hl [2, 3, 1, 0] rfl)
            · refine ad_iconst F dX11_isMade_55 ?_
              refine lv_goto (tgt := 60) F.1 F.2.1 dX11_isMade_56 (by decide) ?_
              refine lv_istore_n (lv' := [(2, .int (iI 1)), (0, .ref m0), (1, .int (iI x)), (3, .int (iI k))]) F.1 F.2.1 dX11_isMade_60 rfl hl (by decide) rfl (fun ls hl => ?_)
              refine ad_iinc (lv' := [(3, .int (iI (k + 1))), (2, .int (iI 1)), (0, .ref m0), (1, .int (iI x))]) F dX11_isMade_61 hl (k := 3) rfl (by decide) rfl (fun ls hl => ?_)
              refine lv_goto (tgt := 21) F.1 F.2.1 dX11_isMade_64 (by decide) ?_
              exact ih21 1 (k + 1) _ _ _ (by omega) (Or.inl ⟨rfl, by omega, fun j h1 h2 => (show j < k ∨ j = k by omega).elim (fun h => (hs.elim (fun q => q.2.2) (fun q => absurd q.1 (by omega))) j h1 h) (fun h => by rw [h]; exact cc_4)⟩) (by omega) (G.perm (ws' := [(m0, mO M xth xrm xsv xln xat xer xwr xwd xlo xhi xwl (mz.length : Int) xkl xfi xse xdn xon xtw xol xrw xgl xus xpr xmk xab), (M 11, aI (K 0) 60 gbg), (M 12, aI (K 0) 60 gle), (M 25, aI (K 2) 100 ggv), (M 18, aI (K 0) 2000 gma)]) [0, 1, 2, 3, 4] rfl rfl) (lv_sub hl [2, 3, 1, 0] rfl)
    exact lp21 ((((mz.length - 0 : Int)) + 1).toNat) 0 0 _ _ _ (by omega) (Or.inr ⟨rfl, fun q => absurd (congrArg List.length q) (by omega)⟩) (by omega) (G.perm (ws' := [(m0, mO M xth xrm xsv xln xat xer xwr xwd xlo xhi xwl (mz.length : Int) xkl xfi xse xdn xon xtw xol xrw xgl xus xpr xmk xab), (M 11, aI (K 0) 60 gbg), (M 12, aI (K 0) 60 gle), (M 25, aI (K 2) 100 ggv), (M 18, aI (K 0) 2000 gma)]) [0, 1, 2, 3, 4] rfl rfl) (lv_sub hl [2, 3, 1, 0] rfl)
  · refine ad_iconst F dX11_isMade_13 ?_
    refine lv_goto (tgt := 18) F.1 F.2.1 dX11_isMade_14 (by decide) ?_
    refine lv_istore_n (lv' := [(2, .int (iI 1)), (0, .ref m0), (1, .int (iI x))]) F.1 F.2.1 dX11_isMade_18 rfl hl (by decide) rfl (fun ls hl => ?_)
    refine ad_iconst F dX11_isMade_19 ?_
    refine lv_istore_n (lv' := [(3, .int (iI 0)), (2, .int (iI 1)), (0, .ref m0), (1, .int (iI x))]) F.1 F.2.1 dX11_isMade_20 rfl hl (by decide) rfl (fun ls hl => ?_)
    have lp21 : ∀ (n21 : Nat) (sm : Int) (k : Int) (H : Heap) (locs : List Loc) (ls : Array Slot), (0 ≤ k ∧ k ≤ mz.length) → ((sm = 1 ∧ (mz.length : Int) = u.length ∧ ∀ j : Int, 0 ≤ j → j < k → lat mz j = lat u j) ∨ (sm = 0 ∧ ¬ mz = u)) → (mz.length - k) < (n21 : Int) → ad_G D A9 s9.heap H locs [(m0, mO M xth xrm xsv xln xat xer xwr xwd xlo xhi xwl (mz.length : Int) xkl xfi xse xdn xon xtw xol xrw xgl xus xpr xmk xab), (M 11, aI (K 0) 60 gbg), (M 12, aI (K 0) 60 gle), (M 25, aI (K 2) 100 ggv), (M 18, aI (K 0) 2000 gma)] → lv_has ls 4 [(0, .ref m0), (1, .int (iI x)), (2, .int (iI sm)), (3, .int (iI k))] → W p9 l e9 rm_X11_isMade s9 m9 ag9 bl9 mt9 c9 H locs 0 0 Q9 (F0 m9 21 ls []) := by
      intro n21
      induction n21 with
      | zero =>
        intro sm k H locs ls hk hs hm21
        exact absurd hm21 (by omega)
      | succ n21 ih21 =>
        intro sm k H locs ls hk hs hm21 G hl
        have hsm : sm = 0 ∨ sm = 1 := hs.elim (fun q => Or.inr q.1) (fun q => Or.inl q.1)
        have hsl : sm = 1 → (mz.length : Int) = u.length := fun q => hs.elim (fun q => q.2.1) (fun r => absurd r.1 (by omega))
        refine lv_iload_n F.1 F.2.1 dX11_isMade_21 rfl (lv_at hl 2 rfl) ?_
        refine ad_if_eq (tgt := 67) F (by omega) dX11_isMade_22 (by decide) (fun cc_5 => ?_) (fun cc_5 => ?_)
        · refine lv_iload_n F.1 F.2.1 dX11_isMade_67 rfl (lv_at hl 2 rfl) ?_
          exact ad_zreturn F G hR rfl (Nat.le_of_ble_eq_true rfl) (Nat.le_of_ble_eq_true rfl) (iI_boolN (by omega)).1 (Or.inr (⟨(ad_eqi (by omega)), (hs.elim (fun q => absurd q.1 (by omega)) (fun q => q.2)), rfl⟩)) dX11_isMade_68
        · refine lv_iload_n F.1 F.2.1 dX11_isMade_25 rfl (lv_at hl 3 rfl) ?_
          refine lv_aload_n F.1 F.2.1 dX11_isMade_26 rfl (lv_at hl 0 rfl) ?_
          refine ad_get F G fl_X11_239 0 rfl rfl dX11_isMade_27 ?_
          refine ad_icmp_ge (tgt := 67) F (by omega) dX11_isMade_30 (by decide) (fun cc_6 => ?_) (fun cc_6 => ?_)
          · refine lv_iload_n F.1 F.2.1 dX11_isMade_67 rfl (lv_at hl 2 rfl) ?_
            exact ad_zreturn F G hR rfl (Nat.le_of_ble_eq_true rfl) (Nat.le_of_ble_eq_true rfl) (iI_boolN (by omega)).1 (Or.inl ⟨(ad_eqi (by omega)), (hs.elim (fun q => lat_eq q.2.1 (fun j h1 h2 => q.2.2 j h1 (by omega))) (fun q => absurd q.1 (by omega))), rfl⟩) dX11_isMade_68
          · refine lv_aload_n F.1 F.2.1 dX11_isMade_33 rfl (lv_at hl 0 rfl) ?_
            refine ad_get F G fl_X11_42 0 rfl rfl dX11_isMade_34 ?_
            refine lv_iload_n F.1 F.2.1 dX11_isMade_37 rfl (lv_at hl 3 rfl) ?_
            refine ad_iald F G 4 rfl (w := lat mz k) (by omega) (Tx_at hTm (by omega) (by omega)) dX11_isMade_38 ?_
            refine lv_aload_n F.1 F.2.1 dX11_isMade_39 rfl (lv_at hl 0 rfl) ?_
            refine ad_get F G fl_X11_48 0 rfl rfl dX11_isMade_40 ?_
            refine lv_aload_n F.1 F.2.1 dX11_isMade_43 rfl (lv_at hl 0 rfl) ?_
            refine ad_get F G fl_X11_29 0 rfl rfl dX11_isMade_44 ?_
            refine lv_iload_n F.1 F.2.1 dX11_isMade_47 rfl (lv_at hl 1 rfl) ?_
            refine ad_iald F G 1 rfl (w := b1) (by omega) hgx.1 dX11_isMade_48 ?_
            refine lv_iload_n F.1 F.2.1 dX11_isMade_49 rfl (lv_at hl 3 rfl) ?_
            refine ad_iadd F dX11_isMade_50 ?_
            refine ad_cald F G 3 rfl (w := lat u k) (by omega) (by rw [Tx_at hTg (by omega) (by omega), ← sl_at (i := b1) (j := b1 + u.length) (by omega) (by omega) (by omega), hux]) dX11_isMade_51 ?_
            have hq1 := lat_Lt hLm k
            have hq2 : (0 ≤ lat u k ∧ lat u k < 65536) := by rw [← hux]; exact lat_ch (Chs_sl hC _ _) k
            refine ad_icmp_ne (tgt := 59) F (by omega) dX11_isMade_52 (by decide) (fun cc_7 => ?_) (fun cc_7 => ?_)
            · refine ad_iconst F dX11_isMade_59 ?_
              refine lv_istore_n (lv' := [(2, .int (iI 0)), (0, .ref m0), (1, .int (iI x)), (3, .int (iI k))]) F.1 F.2.1 dX11_isMade_60 rfl hl (by decide) rfl (fun ls hl => ?_)
              refine ad_iinc (lv' := [(3, .int (iI (k + 1))), (2, .int (iI 0)), (0, .ref m0), (1, .int (iI x))]) F dX11_isMade_61 hl (k := 3) rfl (by decide) rfl (fun ls hl => ?_)
              refine lv_goto (tgt := 21) F.1 F.2.1 dX11_isMade_64 (by decide) ?_
              exact ih21 0 (k + 1) _ _ _ (by omega) (Or.inr ⟨rfl, fun q => cc_7 (by rw [q])⟩) (by omega) (G.perm (ws' := [(m0, mO M xth xrm xsv xln xat xer xwr xwd xlo xhi xwl (mz.length : Int) xkl xfi xse xdn xon xtw xol xrw xgl xus xpr xmk xab), (M 11, aI (K 0) 60 gbg), (M 12, aI (K 0) 60 gle), (M 25, aI (K 2) 100 ggv), (M 18, aI (K 0) 2000 gma)]) [0, 1, 2, 3, 4] rfl rfl) (lv_sub hl [2, 3, 1, 0] rfl)
            · refine ad_iconst F dX11_isMade_55 ?_
              refine lv_goto (tgt := 60) F.1 F.2.1 dX11_isMade_56 (by decide) ?_
              refine lv_istore_n (lv' := [(2, .int (iI 1)), (0, .ref m0), (1, .int (iI x)), (3, .int (iI k))]) F.1 F.2.1 dX11_isMade_60 rfl hl (by decide) rfl (fun ls hl => ?_)
              refine ad_iinc (lv' := [(3, .int (iI (k + 1))), (2, .int (iI 1)), (0, .ref m0), (1, .int (iI x))]) F dX11_isMade_61 hl (k := 3) rfl (by decide) rfl (fun ls hl => ?_)
              refine lv_goto (tgt := 21) F.1 F.2.1 dX11_isMade_64 (by decide) ?_
              exact ih21 1 (k + 1) _ _ _ (by omega) (Or.inl ⟨rfl, by omega, fun j h1 h2 => (show j < k ∨ j = k by omega).elim (fun h => (hs.elim (fun q => q.2.2) (fun q => absurd q.1 (by omega))) j h1 h) (fun h => by rw [h]; exact cc_7)⟩) (by omega) (G.perm (ws' := [(m0, mO M xth xrm xsv xln xat xer xwr xwd xlo xhi xwl (mz.length : Int) xkl xfi xse xdn xon xtw xol xrw xgl xus xpr xmk xab), (M 11, aI (K 0) 60 gbg), (M 12, aI (K 0) 60 gle), (M 25, aI (K 2) 100 ggv), (M 18, aI (K 0) 2000 gma)]) [0, 1, 2, 3, 4] rfl rfl) (lv_sub hl [2, 3, 1, 0] rfl)
    exact lp21 ((((mz.length - 0 : Int)) + 1).toNat) 1 0 _ _ _ (by omega) (Or.inl ⟨rfl, by omega, fun j h1 h2 => by omega⟩) (by omega) (G.perm (ws' := [(m0, mO M xth xrm xsv xln xat xer xwr xwd xlo xhi xwl (mz.length : Int) xkl xfi xse xdn xon xtw xol xrw xgl xus xpr xmk xab), (M 11, aI (K 0) 60 gbg), (M 12, aI (K 0) 60 gle), (M 25, aI (K 2) 100 ggv), (M 18, aI (K 0) 2000 gma)]) [0, 1, 2, 3, 4] rfl rfl) (lv_sub hl [2, 3, 1, 0] rfl)

def rm_X11_doneBy : Room := { frames := 2, cells := 0, slots := 0, locals := 34 }
set_option maxHeartbeats 4000000 in
set_option maxRecDepth 100000 in
theorem c_X11_doneBy (l : Launch) (D : va_G) (K : Nat → ClassId) (z0 : Nat) (m0 : Nat) (M : Nat → Nat) (xth : Int) (xrm : Int) (xsv : Int) (xln : Int) (xat : Int) (xer : Int) (xwr : Int) (xwd : Int) (xlo : Int) (xhi : Int) (xwl : Int) (xml : Int) (xkl : Int) (xfi : Int) (xse : Int) (xdn : Int) (xon : Int) (xtw : Int) (xol : Int) (xrw : Int) (xgl : Int) (xus : Int) (xpr : Int) (xmk : Int) (xab : Int) (g : Nat → Int) (rs : List Rl) (ps : List Pr) (md : Int) (th : Int) (nc : Int) (hM : MRow g rs ps md th nc) (hW : RW rs) (hfi : -1 ≤ xfi ∧ xfi < rs.length) (hse : -1 ≤ xse ∧ xse < rs.length) (hk0 : (rget rs xfi).1 = 0 → xse = -1) : CT l D K z0 yX11_doneBy cX11_doneBy 1 (some .int) rm_X11_doneBy [.ref m0] [(m0, mO M xth xrm xsv xln xat xer xwr xwd xlo xhi xwl xml xkl xfi xse xdn xon xtw xol xrw xgl xus xpr xmk xab), (M 1, aI (K 0) 1247 g)] (fun v9 u9 => v9 = some (.int (iI (ded rs xfi xse))) ∧ u9 = [(m0, mO M xth xrm xsv xln xat xer xwr xwd xlo xhi xwl xml xkl xfi xse xdn xon xtw xol xrw xgl xus xpr xmk xab), (M 1, aI (K 0) 1247 g)]) := by
  refine CT.start RX11 "doneBy" (by decide) rfl rfl (Nat.le_of_ble_eq_true rfl) ?_
  intro p9 e9 s9 m9 ag9 bl9 mt9 c9 A9 Q9 ls F G hR hl
  have hl : lv_has ls 1 [(0, .ref m0)] := hl
  have hn := hW.1
  refine lv_aload_n F.1 F.2.1 dX11_doneBy_0 rfl (lv_at hl 0 rfl) ?_
  refine ad_get F G fl_X11_249 0 rfl rfl dX11_doneBy_1 ?_
  refine ad_if_ge (tgt := 16) F (by omega) dX11_doneBy_4 (by decide) (fun cc_1 => ?_) (fun cc_1 => ?_)
  · refine lv_aload_n F.1 F.2.1 dX11_doneBy_16 rfl (lv_at hl 0 rfl) ?_
    refine ad_get F G fl_X11_249 0 rfl rfl dX11_doneBy_17 ?_
    refine ad_if_ge (tgt := 27) F (by omega) dX11_doneBy_20 (by decide) (fun cc_2 => ?_) (fun cc_2 => ?_)
    · refine lv_aload_n F.1 F.2.1 dX11_doneBy_27 rfl (lv_at hl 0 rfl) ?_
      refine ad_get F G fl_X11_242 0 rfl rfl dX11_doneBy_28 ?_
      refine ad_if_lt (tgt := 38) F (by omega) dX11_doneBy_31 (by decide) (fun cc_3 => ?_) (fun cc_3 => ?_)
      · refine lv_aload_n F.1 F.2.1 dX11_doneBy_38 rfl (lv_at hl 0 rfl) ?_
        refine lv_aload_n F.1 F.2.1 dX11_doneBy_39 rfl (lv_at hl 0 rfl) ?_
        refine ad_get F G fl_X11_249 0 rfl rfl dX11_doneBy_40 ?_
        refine ad_iconst F dX11_doneBy_43 ?_
        refine ad_callV (As := [.int (iI xfi), .int (iI 0)]) (rest := []) F G (c_X11_of_0 l D K z0 m0 M xth xrm xsv xln xat xer xwr xwd xlo xhi xwl xml xkl xfi xse xdn xon xtw xol xrw xgl xus xpr xmk xab g rs ps md th nc xfi hM hW (by omega)) my_X11_of mv_X11_99 (wr := []) (isC := [0, 1]) (isR := []) ⟨rfl, rfl, rfl, rfl, by decide⟩ 11 0 rfl rfl rfl rfl ⟨Nat.le_of_ble_eq_true rfl, Nat.le_of_ble_eq_true rfl⟩ ⟨Nat.le_of_ble_eq_true rfl, Nat.le_of_ble_eq_true rfl⟩ (Nat.le_of_ble_eq_true rfl) hl.1 (cells9 := 0) (slots9 := 0) ⟨rfl, rfl⟩ dX11_doneBy_44 (fun v u H locs hw_4 G => ?_)
        obtain ⟨rfl, rfl⟩ := hw_4
        replace G := G.perm (ws' := [(m0, mO M xth xrm xsv xln xat xer xwr xwd xlo xhi xwl xml xkl xfi xse xdn xon xtw xol xrw xgl xus xpr xmk xab), (M 1, aI (K 0) 1247 g)]) [0, 1] rfl rfl
        refine W.eq (g2 := F0 m9 47 ls [.int (iI ((rget rs xfi).1))]) rfl ?_
        have hbd := hW.bd (z := xfi) (by omega) (by omega)
        refine ad_if_ne (tgt := 54) F (by omega) dX11_doneBy_47 (by decide) (fun cc_5 => ?_) (fun cc_5 => ?_)
        · refine ad_iconst F dX11_doneBy_54 ?_
          exact ad_ireturn F G hR rfl (Nat.le_of_ble_eq_true rfl) (Nat.le_of_ble_eq_true rfl) ⟨(ad_eqi (by unfold ded; rw [if_neg cc_5, if_pos (by omega), if_neg (by omega)])), rfl⟩ dX11_doneBy_55
        · refine ad_iconst F dX11_doneBy_50 ?_
          refine lv_goto (tgt := 55) F.1 F.2.1 dX11_doneBy_51 (by decide) ?_
          exact ad_ireturn F G hR rfl (Nat.le_of_ble_eq_true rfl) (Nat.le_of_ble_eq_true rfl) ⟨(ad_eqi (by unfold ded; rw [if_pos cc_5])), rfl⟩ dX11_doneBy_55
      · refine ad_iconst F dX11_doneBy_34 ?_
        refine lv_goto (tgt := 55) F.1 F.2.1 dX11_doneBy_35 (by decide) ?_
        exact ad_ireturn F G hR rfl (Nat.le_of_ble_eq_true rfl) (Nat.le_of_ble_eq_true rfl) ⟨(ad_eqi (by unfold ded; rw [if_neg (fun q => by have := hk0 q; omega), if_pos (by omega), if_pos (by omega)])), rfl⟩ dX11_doneBy_55
    · refine ad_iconst F dX11_doneBy_23 ?_
      refine lv_goto (tgt := 55) F.1 F.2.1 dX11_doneBy_24 (by decide) ?_
      exact ad_ireturn F G hR rfl (Nat.le_of_ble_eq_true rfl) (Nat.le_of_ble_eq_true rfl) ⟨(ad_eqi (by unfold ded; rw [if_neg (show ¬ (rget rs xfi).1 = 0 by rw [show xfi = -1 by omega, rget_m1]; decide), if_neg (by omega)]; rw [if_pos (by omega)])), rfl⟩ dX11_doneBy_55
  · refine lv_aload_n F.1 F.2.1 dX11_doneBy_7 rfl (lv_at hl 0 rfl) ?_
    refine ad_get F G fl_X11_242 0 rfl rfl dX11_doneBy_8 ?_
    refine ad_if_ge (tgt := 16) F (by omega) dX11_doneBy_11 (by decide) (fun cc_6 => ?_) (fun cc_6 => ?_)
    · refine lv_aload_n F.1 F.2.1 dX11_doneBy_16 rfl (lv_at hl 0 rfl) ?_
      refine ad_get F G fl_X11_249 0 rfl rfl dX11_doneBy_17 ?_
      refine ad_if_ge (tgt := 27) F (by omega) dX11_doneBy_20 (by decide) (fun cc_7 => ?_) (fun cc_7 => ?_)
      · refine lv_aload_n F.1 F.2.1 dX11_doneBy_27 rfl (lv_at hl 0 rfl) ?_
        refine ad_get F G fl_X11_242 0 rfl rfl dX11_doneBy_28 ?_
        refine ad_if_lt (tgt := 38) F (by omega) dX11_doneBy_31 (by decide) (fun cc_8 => ?_) (fun cc_8 => ?_)
        · refine lv_aload_n F.1 F.2.1 dX11_doneBy_38 rfl (lv_at hl 0 rfl) ?_
          refine lv_aload_n F.1 F.2.1 dX11_doneBy_39 rfl (lv_at hl 0 rfl) ?_
          refine ad_get F G fl_X11_249 0 rfl rfl dX11_doneBy_40 ?_
          refine ad_iconst F dX11_doneBy_43 ?_
          refine ad_callV (As := [.int (iI xfi), .int (iI 0)]) (rest := []) F G (c_X11_of_0 l D K z0 m0 M xth xrm xsv xln xat xer xwr xwd xlo xhi xwl xml xkl xfi xse xdn xon xtw xol xrw xgl xus xpr xmk xab g rs ps md th nc xfi hM hW (by omega)) my_X11_of mv_X11_99 (wr := []) (isC := [0, 1]) (isR := []) ⟨rfl, rfl, rfl, rfl, by decide⟩ 11 0 rfl rfl rfl rfl ⟨Nat.le_of_ble_eq_true rfl, Nat.le_of_ble_eq_true rfl⟩ ⟨Nat.le_of_ble_eq_true rfl, Nat.le_of_ble_eq_true rfl⟩ (Nat.le_of_ble_eq_true rfl) hl.1 (cells9 := 0) (slots9 := 0) ⟨rfl, rfl⟩ dX11_doneBy_44 (fun v u H locs hw_9 G => ?_)
          obtain ⟨rfl, rfl⟩ := hw_9
          replace G := G.perm (ws' := [(m0, mO M xth xrm xsv xln xat xer xwr xwd xlo xhi xwl xml xkl xfi xse xdn xon xtw xol xrw xgl xus xpr xmk xab), (M 1, aI (K 0) 1247 g)]) [0, 1] rfl rfl
          refine W.eq (g2 := F0 m9 47 ls [.int (iI ((rget rs xfi).1))]) rfl ?_
          have hbd := hW.bd (z := xfi) (by omega) (by omega)
          refine ad_if_ne (tgt := 54) F (by omega) dX11_doneBy_47 (by decide) (fun cc_10 => ?_) (fun cc_10 => ?_)
          · refine ad_iconst F dX11_doneBy_54 ?_
            exact ad_ireturn F G hR rfl (Nat.le_of_ble_eq_true rfl) (Nat.le_of_ble_eq_true rfl) ⟨(ad_eqi (by unfold ded; rw [if_neg cc_10, if_pos (by omega), if_neg (by omega)])), rfl⟩ dX11_doneBy_55
          · refine ad_iconst F dX11_doneBy_50 ?_
            refine lv_goto (tgt := 55) F.1 F.2.1 dX11_doneBy_51 (by decide) ?_
            exact ad_ireturn F G hR rfl (Nat.le_of_ble_eq_true rfl) (Nat.le_of_ble_eq_true rfl) ⟨(ad_eqi (by unfold ded; rw [if_pos cc_10])), rfl⟩ dX11_doneBy_55
        · refine ad_iconst F dX11_doneBy_34 ?_
          refine lv_goto (tgt := 55) F.1 F.2.1 dX11_doneBy_35 (by decide) ?_
          exact ad_ireturn F G hR rfl (Nat.le_of_ble_eq_true rfl) (Nat.le_of_ble_eq_true rfl) ⟨(ad_eqi (by unfold ded; rw [if_neg (fun q => by have := hk0 q; omega), if_pos (by omega), if_pos (by omega)])), rfl⟩ dX11_doneBy_55
      · refine ad_iconst F dX11_doneBy_23 ?_
        refine lv_goto (tgt := 55) F.1 F.2.1 dX11_doneBy_24 (by decide) ?_
        exact ad_ireturn F G hR rfl (Nat.le_of_ble_eq_true rfl) (Nat.le_of_ble_eq_true rfl) ⟨(ad_eqi (by unfold ded; rw [if_neg (show ¬ (rget rs xfi).1 = 0 by rw [show xfi = -1 by omega, rget_m1]; decide), if_neg (by omega)]; rw [if_pos (by omega)])), rfl⟩ dX11_doneBy_55
    · refine ad_iconst F dX11_doneBy_14 ?_
      exact ad_ireturn F G hR rfl (Nat.le_of_ble_eq_true rfl) (Nat.le_of_ble_eq_true rfl) ⟨(ad_eqi (by unfold ded; rw [if_neg (show ¬ (rget rs xfi).1 = 0 by rw [show xfi = -1 by omega, rget_m1]; decide), if_neg (by omega)]; rw [if_neg (by omega)])), rfl⟩ dX11_doneBy_15

def rm_X11_useNone : Room := { frames := 1, cells := 0, slots := 0, locals := 12 }
set_option maxHeartbeats 4000000 in
set_option maxRecDepth 100000 in
theorem c_X11_useNone (l : Launch) (D : va_G) (K : Nat → ClassId) (z0 : Nat) (m0 : Nat) (M : Nat → Nat) (xth : Int) (xrm : Int) (xsv : Int) (xln : Int) (xat : Int) (xer : Int) (xwr : Int) (xwd : Int) (xlo : Int) (xhi : Int) (xwl : Int) (xml : Int) (xkl : Int) (xfi : Int) (xse : Int) (xdn : Int) (xon : Int) (xtw : Int) (xol : Int) (xrw : Int) (xgl : Int) (xus : Int) (xpr : Int) (xmk : Int) (xab : Int) (n : Int) : CT l D K z0 yX11_useNone cX11_useNone 2 none rm_X11_useNone [.ref m0, .int (iI n)] [(m0, mO M xth xrm xsv xln xat xer xwr xwd xlo xhi xwl xml xkl xfi xse xdn xon xtw xol xrw xgl xus xpr xmk xab)] (fun v9 u9 => v9 = none ∧ u9 = [(m0, mO M xth xrm xsv xln xat xer xwr xwd xlo xhi xwl xml xkl xfi xse n (-1) (-1) xol xrw xgl xus xpr xmk xab)]) := by
  refine CT.start RX11 "useNone" (by decide) rfl rfl (Nat.le_of_ble_eq_true rfl) ?_
  intro p9 e9 s9 m9 ag9 bl9 mt9 c9 A9 Q9 ls F G hR hl
  have hl : lv_has ls 2 [(0, .ref m0), (1, .int (iI n))] := hl
  refine lv_aload_n F.1 F.2.1 dX11_useNone_0 rfl (lv_at hl 0 rfl) ?_
  refine lv_iload_n F.1 F.2.1 dX11_useNone_1 rfl (lv_at hl 1 rfl) ?_
  refine ad_put F G fl_X11_255 0 rfl rfl rfl (Nat.le_of_ble_eq_true rfl) (ws' := [(m0, mO M xth xrm xsv xln xat xer xwr xwd xlo xhi xwl xml xkl xfi xse n xon xtw xol xrw xgl xus xpr xmk xab)]) rfl dX11_useNone_2 (fun H locs G => ?_)
  refine lv_aload_n F.1 F.2.1 dX11_useNone_5 rfl (lv_at hl 0 rfl) ?_
  refine ad_iconst F dX11_useNone_6 ?_
  refine ad_put F G fl_X11_258 0 rfl rfl rfl (Nat.le_of_ble_eq_true rfl) (ws' := [(m0, mO M xth xrm xsv xln xat xer xwr xwd xlo xhi xwl xml xkl xfi xse n (-1) xtw xol xrw xgl xus xpr xmk xab)]) rfl dX11_useNone_7 (fun H locs G => ?_)
  refine lv_aload_n F.1 F.2.1 dX11_useNone_10 rfl (lv_at hl 0 rfl) ?_
  refine ad_iconst F dX11_useNone_11 ?_
  refine ad_put F G fl_X11_261 0 rfl rfl rfl (Nat.le_of_ble_eq_true rfl) (ws' := [(m0, mO M xth xrm xsv xln xat xer xwr xwd xlo xhi xwl xml xkl xfi xse n (-1) (-1) xol xrw xgl xus xpr xmk xab)]) rfl dX11_useNone_12 (fun H locs G => ?_)
  exact ad_vreturn F G hR rfl (Nat.le_of_ble_eq_true rfl) (Nat.le_of_ble_eq_true rfl) ⟨rfl, rfl⟩ dX11_useNone_15

def rm_X11_lastOf : Room := { frames := 1, cells := 0, slots := 0, locals := 12 }
set_option maxHeartbeats 4000000 in
set_option maxRecDepth 100000 in
theorem c_X11_lastOf (l : Launch) (D : va_G) (K : Nat → ClassId) (z0 : Nat) (m0 : Nat) (M : Nat → Nat) (xth : Int) (xrm : Int) (xsv : Int) (xln : Int) (xat : Int) (xer : Int) (xwr : Int) (xwd : Int) (xlo : Int) (xhi : Int) (xwl : Int) (xml : Int) (xkl : Int) (xfi : Int) (xse : Int) (xdn : Int) (xon : Int) (xtw : Int) (xol : Int) (xrw : Int) (xgl : Int) (xus : Int) (xpr : Int) (xmk : Int) (xab : Int) (ggv : Nat → Int) (w : List Int) (gbg : Nat → Int) (gle : Nat → Int) (x : Int) (b1 : Int) (u : List Int) (hTg : Tx ggv w) (hC : Chs w) (hL : w.length ≤ 100) (hx : 0 ≤ x ∧ x < 60) (hgx : gbg x.toNat = b1 ∧ gle x.toNat = (u.length : Int)) (hrx : 0 ≤ b1 ∧ b1 + u.length ≤ w.length) (hux : sl w b1 (b1 + u.length) = u) (hul : 1 ≤ u.length ∧ u.length ≤ 24) : CT l D K z0 yX11_lastOf cX11_lastOf 2 (some .int) rm_X11_lastOf [.ref m0, .int (iI x)] [(m0, mO M xth xrm xsv xln xat xer xwr xwd xlo xhi xwl xml xkl xfi xse xdn xon xtw xol xrw xgl xus xpr xmk xab), (M 11, aI (K 0) 60 gbg), (M 12, aI (K 0) 60 gle), (M 25, aI (K 2) 100 ggv)] (fun v9 u9 => v9 = some (.int (iI (lsW u))) ∧ u9 = [(m0, mO M xth xrm xsv xln xat xer xwr xwd xlo xhi xwl xml xkl xfi xse xdn xon xtw xol xrw xgl xus xpr xmk xab), (M 11, aI (K 0) 60 gbg), (M 12, aI (K 0) 60 gle), (M 25, aI (K 2) 100 ggv)]) := by
  refine CT.start RX11 "lastOf" (by decide) rfl rfl (Nat.le_of_ble_eq_true rfl) ?_
  intro p9 e9 s9 m9 ag9 bl9 mt9 c9 A9 Q9 ls F G hR hl
  have hl : lv_has ls 2 [(0, .ref m0), (1, .int (iI x))] := hl
  refine lv_aload_n F.1 F.2.1 dX11_lastOf_0 rfl (lv_at hl 0 rfl) ?_
  refine ad_get F G fl_X11_48 0 rfl rfl dX11_lastOf_1 ?_
  refine lv_aload_n F.1 F.2.1 dX11_lastOf_4 rfl (lv_at hl 0 rfl) ?_
  refine ad_get F G fl_X11_29 0 rfl rfl dX11_lastOf_5 ?_
  refine lv_iload_n F.1 F.2.1 dX11_lastOf_8 rfl (lv_at hl 1 rfl) ?_
  refine ad_iald F G 1 rfl (w := b1) (by omega) hgx.1 dX11_lastOf_9 ?_
  refine lv_aload_n F.1 F.2.1 dX11_lastOf_10 rfl (lv_at hl 0 rfl) ?_
  refine ad_get F G fl_X11_32 0 rfl rfl dX11_lastOf_11 ?_
  refine lv_iload_n F.1 F.2.1 dX11_lastOf_14 rfl (lv_at hl 1 rfl) ?_
  refine ad_iald F G 2 rfl (w := (u.length : Int)) (by omega) hgx.2 dX11_lastOf_15 ?_
  refine ad_iadd F dX11_lastOf_16 ?_
  refine ad_iconst F dX11_lastOf_17 ?_
  refine ad_isub F dX11_lastOf_18 ?_
  refine ad_cald F G 3 rfl (w := lsW u) (by omega) (by rw [Tx_at hTg (by omega) (by omega)]; unfold lsW; (have q := sl_at (w := w) (i := b1) (j := b1 + u.length) (k := (u.length : Int) - 1) (by omega) (by omega) (by omega)); rw [hux] at q; rw [q]; congr 1; omega) dX11_lastOf_19 ?_
  exact ad_ireturn F G hR rfl (Nat.le_of_ble_eq_true rfl) (Nat.le_of_ble_eq_true rfl) ⟨rfl, rfl⟩ dX11_lastOf_20

def rm_X11_abbreviateWord : Room := { frames := 6, cells := 0, slots := 0, locals := 134 }
set_option maxHeartbeats 4000000 in
set_option maxRecDepth 100000 in
theorem c_X11_abbreviateWord (l : Launch) (D : va_G) (K : Nat → ClassId) (z0 : Nat) (m0 : Nat) (M : Nat → Nat) (xth : Int) (xrm : Int) (xsv : Int) (xln : Int) (xat : Int) (xer : Int) (xwr : Int) (xwd : Int) (xlo : Int) (xhi : Int) (xol : Int) (xrw : Int) (xgl : Int) (xus : Int) (xpr : Int) (xmk : Int) (xab : Int) (xwl : Int) (xml : Int) (xkl : Int) (xfi : Int) (xse : Int) (xdn : Int) (xon : Int) (xtw : Int) (ggv : Nat → Int) (w : List Int) (g : Nat → Int) (gbg : Nat → Int) (gle : Nat → Int) (gwo : Nat → Int) (gma : Nat → Int) (gke : Nat → Int) (rs : List Rl) (ps : List Pr) (md : Int) (th : Int) (nc : Int) (x : Int) (b1 : Int) (u : List Int) (pl : Int) (hTg : Tx ggv w) (hC : Chs w) (hL : w.length ≤ 100) (hM : MRow g rs ps md th nc) (hW : RW rs) (hx : 0 ≤ x ∧ x < 60) (hgx : gbg x.toNat = b1 ∧ gle x.toNat = (u.length : Int)) (hrx : 0 ≤ b1 ∧ b1 + u.length ≤ w.length) (hux : sl w b1 (b1 + u.length) = u) (hul : 1 ≤ u.length ∧ u.length ≤ 24) (hLu : Lt u) (hpl : 0 ≤ pl ∧ pl ≤ 2) (hmd : 0 ≤ md ∧ md ≤ 1) : CT l D K z0 yX11_abbreviateWord cX11_abbreviateWord 3 none rm_X11_abbreviateWord [.ref m0, .int (iI x), .int (iI pl)] [(m0, mO M xth xrm xsv xln xat xer xwr xwd xlo xhi xwl xml xkl xfi xse xdn xon xtw xol xrw xgl xus xpr xmk xab), (M 1, aI (K 0) 1247 g), (M 11, aI (K 0) 60 gbg), (M 12, aI (K 0) 60 gle), (M 25, aI (K 2) 100 ggv), (M 17, aI (K 0) 2000 gwo), (M 18, aI (K 0) 2000 gma), (M 19, aI (K 0) 2000 gke)] (fun v9 u9 => ∃ (k2 : List Int), ∃ (wl2 : Int), ∃ (ml2 : Int), ∃ (fi2 : Int), ∃ (se2 : Int), ∃ (gwo2 : Nat → Int), ∃ (gma2 : Nat → Int), ∃ (gke2 : Nat → Int), v9 = none ∧ (k2 = (abW rs md u pl).1) ∧ (Tx gke2 k2) ∧ u9 = [(m0, mO M xth xrm xsv xln xat xer xwr xwd xlo xhi wl2 ml2 (k2.length : Int) fi2 se2 ((abW rs md u pl).2.2.1) ((abW rs md u pl).2.2.2.1) ((abW rs md u pl).2.2.2.2) xol xrw xgl xus xpr xmk xab), (M 1, aI (K 0) 1247 g), (M 11, aI (K 0) 60 gbg), (M 12, aI (K 0) 60 gle), (M 25, aI (K 2) 100 ggv), (M 17, aI (K 0) 2000 gwo2), (M 18, aI (K 0) 2000 gma2), (M 19, aI (K 0) 2000 gke2)]) := by
  refine CT.start RX11 "abbreviateWord" (by decide) rfl rfl (Nat.le_of_ble_eq_true rfl) ?_
  intro p9 e9 s9 m9 ag9 bl9 mt9 c9 A9 Q9 ls F G hR hl
  have hl : lv_has ls 3 [(0, .ref m0), (1, .int (iI x)), (2, .int (iI pl))] := hl
  have hn := hW.1
  have ha := spw_b hW hul.1 pl 1 (Or.inr rfl)
  have haL := spw_Lt hW hLu pl 1
  have ha24 := ha.2.2.2 rfl
  have hb := spw_b hW ha.1 pl 0 (Or.inl rfl)
  have hbL := spw_Lt hW haL pl 0
  have hd := spw_b hW hul.1 pl 0 (Or.inl rfl)
  have hdL := spw_Lt hW hLu pl 0
  have hmb := spm_b rs u pl 1
  have heb := spe_b rs u pl 1
  refine lv_aload_n F.1 F.2.1 dX11_abbreviateWord_0 rfl (lv_at hl 0 rfl) ?_
  refine lv_iload_n F.1 F.2.1 dX11_abbreviateWord_1 rfl (lv_at hl 1 rfl) ?_
  refine ad_callV (As := [.int (iI x)]) (rest := []) F G (c_X11_takeWord l D K z0 m0 M xth xrm xsv xln xat xer xwr xwd xlo xhi xwl xml xkl xfi xse xdn xon xtw xol xrw xgl xus xpr xmk xab ggv w gbg gle gwo x b1 u hTg hC hL hx hgx hrx hux hul) my_X11_takeWord mv_X11_264 (wr := [(M 1, aI (K 0) 1247 g), (M 18, aI (K 0) 2000 gma), (M 19, aI (K 0) 2000 gke)]) (isC := [0, 2, 3, 4, 5]) (isR := [1, 6, 7]) ⟨rfl, rfl, rfl, rfl, by decide⟩ 11 0 rfl rfl rfl rfl ⟨Nat.le_of_ble_eq_true rfl, Nat.le_of_ble_eq_true rfl⟩ ⟨Nat.le_of_ble_eq_true rfl, Nat.le_of_ble_eq_true rfl⟩ (Nat.le_of_ble_eq_true rfl) hl.1 (cells9 := 0) (slots9 := 0) ⟨rfl, rfl⟩ dX11_abbreviateWord_2 (fun v u H locs hw_1 G => ?_)
  obtain ⟨gwo2_2, rfl, hc_3, rfl⟩ := hw_1
  replace G := G.perm (ws' := [(m0, mO M xth xrm xsv xln xat xer xwr xwd xlo xhi (u.length : Int) xml xkl xfi xse xdn xon xtw xol xrw xgl xus xpr xmk xab), (M 1, aI (K 0) 1247 g), (M 11, aI (K 0) 60 gbg), (M 12, aI (K 0) 60 gle), (M 25, aI (K 2) 100 ggv), (M 17, aI (K 0) 2000 gwo2_2), (M 18, aI (K 0) 2000 gma), (M 19, aI (K 0) 2000 gke)]) [3, 0, 4, 5, 6, 7, 1, 2] rfl rfl
  refine W.eq (g2 := F0 m9 5 ls []) rfl ?_
  refine lv_aload_n F.1 F.2.1 dX11_abbreviateWord_5 rfl (lv_at hl 0 rfl) ?_
  refine lv_iload_n F.1 F.2.1 dX11_abbreviateWord_6 rfl (lv_at hl 2 rfl) ?_
  refine ad_iconst F dX11_abbreviateWord_7 ?_
  refine ad_callV (As := [.int (iI pl), .int (iI 1)]) (rest := []) F G (c_X11_convert_1 l D K z0 m0 M xth xrm xsv xln xat xer xwr xwd xlo xhi xkl xdn xon xtw xol xrw xgl xus xpr xmk xab g gwo2_2 gma rs ps md th nc u xml xfi xse pl hM hW hc_3 hLu (by omega) hpl) my_X11_convert mv_X11_267 (wr := [(M 11, aI (K 0) 60 gbg), (M 12, aI (K 0) 60 gle), (M 25, aI (K 2) 100 ggv), (M 19, aI (K 0) 2000 gke)]) (isC := [0, 1, 5, 6]) (isR := [2, 3, 4, 7]) ⟨rfl, rfl, rfl, rfl, by decide⟩ 11 0 rfl rfl rfl rfl ⟨Nat.le_of_ble_eq_true rfl, Nat.le_of_ble_eq_true rfl⟩ ⟨Nat.le_of_ble_eq_true rfl, Nat.le_of_ble_eq_true rfl⟩ (Nat.le_of_ble_eq_true rfl) hl.1 (cells9 := 0) (slots9 := 0) ⟨rfl, rfl⟩ dX11_abbreviateWord_8 (fun v u H locs hw_4 G => ?_)
  obtain ⟨m2_5, gma2_6, rfl, hc_7, hc_8, rfl⟩ := hw_4
  replace G := G.perm (ws' := [(m0, mO M xth xrm xsv xln xat xer xwr xwd xlo xhi (u.length : Int) (m2_5.length : Int) xkl (spm rs u pl 1) (spe rs u pl 1) xdn xon xtw xol xrw xgl xus xpr xmk xab), (M 1, aI (K 0) 1247 g), (M 11, aI (K 0) 60 gbg), (M 12, aI (K 0) 60 gle), (M 25, aI (K 2) 100 ggv), (M 17, aI (K 0) 2000 gwo2_2), (M 18, aI (K 0) 2000 gma2_6), (M 19, aI (K 0) 2000 gke)]) [4, 5, 0, 1, 2, 6, 7, 3] rfl rfl
  refine W.eq (g2 := F0 m9 11 ls []) rfl ?_
  subst hc_7
  refine lv_aload_n F.1 F.2.1 dX11_abbreviateWord_11 rfl (lv_at hl 0 rfl) ?_
  refine lv_aload_n F.1 F.2.1 dX11_abbreviateWord_12 rfl (lv_at hl 0 rfl) ?_
  refine ad_callV (As := []) (rest := [.ref m0]) F G (c_X11_doneBy l D K z0 m0 M xth xrm xsv xln xat xer xwr xwd xlo xhi (u.length : Int) ((spw rs u pl 1).length : Int) xkl (spm rs u pl 1) (spe rs u pl 1) xdn xon xtw xol xrw xgl xus xpr xmk xab g rs ps md th nc hM hW (by omega) (by omega) sp_kind) my_X11_doneBy mv_X11_270 (wr := [(M 11, aI (K 0) 60 gbg), (M 12, aI (K 0) 60 gle), (M 25, aI (K 2) 100 ggv), (M 17, aI (K 0) 2000 gwo2_2), (M 18, aI (K 0) 2000 gma2_6), (M 19, aI (K 0) 2000 gke)]) (isC := [0, 1]) (isR := [2, 3, 4, 5, 6, 7]) ⟨rfl, rfl, rfl, rfl, by decide⟩ 11 0 rfl rfl rfl rfl ⟨Nat.le_of_ble_eq_true rfl, Nat.le_of_ble_eq_true rfl⟩ ⟨Nat.le_of_ble_eq_true rfl, Nat.le_of_ble_eq_true rfl⟩ (Nat.le_of_ble_eq_true rfl) hl.1 (cells9 := 0) (slots9 := 0) ⟨rfl, rfl⟩ dX11_abbreviateWord_13 (fun v u H locs hw_9 G => ?_)
  obtain ⟨rfl, rfl⟩ := hw_9
  replace G := G.perm (ws' := [(m0, mO M xth xrm xsv xln xat xer xwr xwd xlo xhi (u.length : Int) ((spw rs u pl 1).length : Int) xkl (spm rs u pl 1) (spe rs u pl 1) xdn xon xtw xol xrw xgl xus xpr xmk xab), (M 1, aI (K 0) 1247 g), (M 11, aI (K 0) 60 gbg), (M 12, aI (K 0) 60 gle), (M 25, aI (K 2) 100 ggv), (M 17, aI (K 0) 2000 gwo2_2), (M 18, aI (K 0) 2000 gma2_6), (M 19, aI (K 0) 2000 gke)]) [6, 7, 0, 1, 2, 3, 4, 5] rfl rfl
  refine W.eq (g2 := F0 m9 16 ls [.int (iI (ded rs (spm rs u pl 1) (spe rs u pl 1))), .ref m0]) rfl ?_
  refine ad_put F G fl_X11_255 0 rfl rfl rfl (Nat.le_of_ble_eq_true rfl) (ws' := [(m0, mO M xth xrm xsv xln xat xer xwr xwd xlo xhi (u.length : Int) ((spw rs u pl 1).length : Int) xkl (spm rs u pl 1) (spe rs u pl 1) (ded rs (spm rs u pl 1) (spe rs u pl 1)) xon xtw xol xrw xgl xus xpr xmk xab), (M 1, aI (K 0) 1247 g), (M 11, aI (K 0) 60 gbg), (M 12, aI (K 0) 60 gle), (M 25, aI (K 2) 100 ggv), (M 17, aI (K 0) 2000 gwo2_2), (M 18, aI (K 0) 2000 gma2_6), (M 19, aI (K 0) 2000 gke)]) rfl dX11_abbreviateWord_16 (fun H locs G => ?_)
  refine lv_aload_n F.1 F.2.1 dX11_abbreviateWord_19 rfl (lv_at hl 0 rfl) ?_
  refine lv_aload_n F.1 F.2.1 dX11_abbreviateWord_20 rfl (lv_at hl 0 rfl) ?_
  refine ad_get F G fl_X11_249 0 rfl rfl dX11_abbreviateWord_21 ?_
  refine ad_put F G fl_X11_258 0 rfl rfl rfl (Nat.le_of_ble_eq_true rfl) (ws' := [(m0, mO M xth xrm xsv xln xat xer xwr xwd xlo xhi (u.length : Int) ((spw rs u pl 1).length : Int) xkl (spm rs u pl 1) (spe rs u pl 1) (ded rs (spm rs u pl 1) (spe rs u pl 1)) (spm rs u pl 1) xtw xol xrw xgl xus xpr xmk xab), (M 1, aI (K 0) 1247 g), (M 11, aI (K 0) 60 gbg), (M 12, aI (K 0) 60 gle), (M 25, aI (K 2) 100 ggv), (M 17, aI (K 0) 2000 gwo2_2), (M 18, aI (K 0) 2000 gma2_6), (M 19, aI (K 0) 2000 gke)]) rfl dX11_abbreviateWord_24 (fun H locs G => ?_)
  refine lv_aload_n F.1 F.2.1 dX11_abbreviateWord_27 rfl (lv_at hl 0 rfl) ?_
  refine lv_aload_n F.1 F.2.1 dX11_abbreviateWord_28 rfl (lv_at hl 0 rfl) ?_
  refine ad_get F G fl_X11_242 0 rfl rfl dX11_abbreviateWord_29 ?_
  refine ad_put F G fl_X11_261 0 rfl rfl rfl (Nat.le_of_ble_eq_true rfl) (ws' := [(m0, mO M xth xrm xsv xln xat xer xwr xwd xlo xhi (u.length : Int) ((spw rs u pl 1).length : Int) xkl (spm rs u pl 1) (spe rs u pl 1) (ded rs (spm rs u pl 1) (spe rs u pl 1)) (spm rs u pl 1) (spe rs u pl 1) xol xrw xgl xus xpr xmk xab), (M 1, aI (K 0) 1247 g), (M 11, aI (K 0) 60 gbg), (M 12, aI (K 0) 60 gle), (M 25, aI (K 2) 100 ggv), (M 17, aI (K 0) 2000 gwo2_2), (M 18, aI (K 0) 2000 gma2_6), (M 19, aI (K 0) 2000 gke)]) rfl dX11_abbreviateWord_32 (fun H locs G => ?_)
  refine lv_aload_n F.1 F.2.1 dX11_abbreviateWord_35 rfl (lv_at hl 0 rfl) ?_
  refine ad_callV (As := []) (rest := []) F G (c_X11_keep l D K z0 m0 M xth xrm xsv xln xat xer xwr xwd xlo xhi (u.length : Int) xkl (spm rs u pl 1) (spe rs u pl 1) (ded rs (spm rs u pl 1) (spe rs u pl 1)) (spm rs u pl 1) (spe rs u pl 1) xol xrw xgl xus xpr xmk xab gma2_6 gke (spw rs u pl 1) hc_8 (by omega)) my_X11_keep mv_X11_274 (wr := [(M 1, aI (K 0) 1247 g), (M 11, aI (K 0) 60 gbg), (M 12, aI (K 0) 60 gle), (M 25, aI (K 2) 100 ggv), (M 17, aI (K 0) 2000 gwo2_2)]) (isC := [0, 6, 7]) (isR := [1, 2, 3, 4, 5]) ⟨rfl, rfl, rfl, rfl, by decide⟩ 11 0 rfl rfl rfl rfl ⟨Nat.le_of_ble_eq_true rfl, Nat.le_of_ble_eq_true rfl⟩ ⟨Nat.le_of_ble_eq_true rfl, Nat.le_of_ble_eq_true rfl⟩ (Nat.le_of_ble_eq_true rfl) hl.1 (cells9 := 0) (slots9 := 0) ⟨rfl, rfl⟩ dX11_abbreviateWord_36 (fun v u H locs hw_10 G => ?_)
  obtain ⟨gx2_11, rfl, hc_12, rfl⟩ := hw_10
  replace G := G.perm (ws' := [(m0, mO M xth xrm xsv xln xat xer xwr xwd xlo xhi (u.length : Int) ((spw rs u pl 1).length : Int) ((spw rs u pl 1).length : Int) (spm rs u pl 1) (spe rs u pl 1) (ded rs (spm rs u pl 1) (spe rs u pl 1)) (spm rs u pl 1) (spe rs u pl 1) xol xrw xgl xus xpr xmk xab), (M 1, aI (K 0) 1247 g), (M 11, aI (K 0) 60 gbg), (M 12, aI (K 0) 60 gle), (M 25, aI (K 2) 100 ggv), (M 17, aI (K 0) 2000 gwo2_2), (M 18, aI (K 0) 2000 gma2_6), (M 19, aI (K 0) 2000 gx2_11)]) [5, 0, 1, 2, 3, 4, 6, 7] rfl rfl
  refine W.eq (g2 := F0 m9 39 ls []) rfl ?_
  refine lv_aload_n F.1 F.2.1 dX11_abbreviateWord_39 rfl (lv_at hl 0 rfl) ?_
  refine ad_get F G fl_X11_9 0 rfl rfl dX11_abbreviateWord_40 ?_
  refine ad_iconst F dX11_abbreviateWord_43 ?_
  refine ad_iald F G 1 rfl (w := md) (by omega) (hM.1.2.2.1) dX11_abbreviateWord_44 ?_
  refine ad_iconst F dX11_abbreviateWord_45 ?_
  refine ad_icmp_ne (tgt := 111) F (by omega) dX11_abbreviateWord_46 (by decide) (fun cc_13 => ?_) (fun cc_13 => ?_)
  · have hq : abW rs md u pl = ((spw rs u pl 1), 0, ded rs (spm rs u pl 1) (spe rs u pl 1), spm rs u pl 1, spe rs u pl 1) := by unfold abW; rw [if_pos (Or.inl (by omega))]
    exact ad_vreturn F G hR rfl (Nat.le_of_ble_eq_true rfl) (Nat.le_of_ble_eq_true rfl) ⟨(spw rs u pl 1), (u.length : Int), ((spw rs u pl 1).length : Int), (spm rs u pl 1), (spe rs u pl 1), gwo2_2, gma2_6, gx2_11, rfl, (by rw [hq]), hc_12, (by rw [hq])⟩ dX11_abbreviateWord_111
  · refine lv_aload_n F.1 F.2.1 dX11_abbreviateWord_49 rfl (lv_at hl 0 rfl) ?_
    refine ad_callV (As := []) (rest := []) F G (c_X11_takeMade l D K z0 m0 M xth xrm xsv xln xat xer xwr xwd xlo xhi (u.length : Int) ((spw rs u pl 1).length : Int) (spm rs u pl 1) (spe rs u pl 1) (ded rs (spm rs u pl 1) (spe rs u pl 1)) (spm rs u pl 1) (spe rs u pl 1) xol xrw xgl xus xpr xmk xab gma2_6 gwo2_2 (spw rs u pl 1) hc_8 (by omega)) my_X11_takeMade mv_X11_277 (wr := [(M 1, aI (K 0) 1247 g), (M 11, aI (K 0) 60 gbg), (M 12, aI (K 0) 60 gle), (M 25, aI (K 2) 100 ggv), (M 19, aI (K 0) 2000 gx2_11)]) (isC := [0, 6, 5]) (isR := [1, 2, 3, 4, 7]) ⟨rfl, rfl, rfl, rfl, by decide⟩ 11 0 rfl rfl rfl rfl ⟨Nat.le_of_ble_eq_true rfl, Nat.le_of_ble_eq_true rfl⟩ ⟨Nat.le_of_ble_eq_true rfl, Nat.le_of_ble_eq_true rfl⟩ (Nat.le_of_ble_eq_true rfl) hl.1 (cells9 := 0) (slots9 := 0) ⟨rfl, rfl⟩ dX11_abbreviateWord_50 (fun v u H locs hw_14 G => ?_)
    obtain ⟨gx2_15, rfl, hc_16, rfl⟩ := hw_14
    replace G := G.perm (ws' := [(m0, mO M xth xrm xsv xln xat xer xwr xwd xlo xhi ((spw rs u pl 1).length : Int) ((spw rs u pl 1).length : Int) ((spw rs u pl 1).length : Int) (spm rs u pl 1) (spe rs u pl 1) (ded rs (spm rs u pl 1) (spe rs u pl 1)) (spm rs u pl 1) (spe rs u pl 1) xol xrw xgl xus xpr xmk xab), (M 1, aI (K 0) 1247 g), (M 11, aI (K 0) 60 gbg), (M 12, aI (K 0) 60 gle), (M 25, aI (K 2) 100 ggv), (M 17, aI (K 0) 2000 gx2_15), (M 18, aI (K 0) 2000 gma2_6), (M 19, aI (K 0) 2000 gx2_11)]) [5, 0, 1, 2, 3, 7, 6, 4] rfl rfl
    refine W.eq (g2 := F0 m9 53 ls []) rfl ?_
    refine lv_aload_n F.1 F.2.1 dX11_abbreviateWord_53 rfl (lv_at hl 0 rfl) ?_
    refine lv_iload_n F.1 F.2.1 dX11_abbreviateWord_54 rfl (lv_at hl 2 rfl) ?_
    refine ad_iconst F dX11_abbreviateWord_55 ?_
    refine ad_callV (As := [.int (iI pl), .int (iI 0)]) (rest := []) F G (c_X11_convert_0 l D K z0 m0 M xth xrm xsv xln xat xer xwr xwd xlo xhi ((spw rs u pl 1).length : Int) (ded rs (spm rs u pl 1) (spe rs u pl 1)) (spm rs u pl 1) (spe rs u pl 1) xol xrw xgl xus xpr xmk xab g gx2_15 gma2_6 rs ps md th nc (spw rs u pl 1) ((spw rs u pl 1).length : Int) (spm rs u pl 1) (spe rs u pl 1) pl hM hW hc_16 haL (by omega) hpl) my_X11_convert mv_X11_267 (wr := [(M 11, aI (K 0) 60 gbg), (M 12, aI (K 0) 60 gle), (M 25, aI (K 2) 100 ggv), (M 19, aI (K 0) 2000 gx2_11)]) (isC := [0, 1, 5, 6]) (isR := [2, 3, 4, 7]) ⟨rfl, rfl, rfl, rfl, by decide⟩ 11 0 rfl rfl rfl rfl ⟨Nat.le_of_ble_eq_true rfl, Nat.le_of_ble_eq_true rfl⟩ ⟨Nat.le_of_ble_eq_true rfl, Nat.le_of_ble_eq_true rfl⟩ (Nat.le_of_ble_eq_true rfl) hl.1 (cells9 := 0) (slots9 := 0) ⟨rfl, rfl⟩ dX11_abbreviateWord_56 (fun v u H locs hw_17 G => ?_)
    obtain ⟨m2_18, gma2_19, rfl, hc_20, hc_21, rfl⟩ := hw_17
    replace G := G.perm (ws' := [(m0, mO M xth xrm xsv xln xat xer xwr xwd xlo xhi ((spw rs u pl 1).length : Int) (m2_18.length : Int) ((spw rs u pl 1).length : Int) (spm rs (spw rs u pl 1) pl 0) (spe rs (spw rs u pl 1) pl 0) (ded rs (spm rs u pl 1) (spe rs u pl 1)) (spm rs u pl 1) (spe rs u pl 1) xol xrw xgl xus xpr xmk xab), (M 1, aI (K 0) 1247 g), (M 11, aI (K 0) 60 gbg), (M 12, aI (K 0) 60 gle), (M 25, aI (K 2) 100 ggv), (M 17, aI (K 0) 2000 gx2_15), (M 18, aI (K 0) 2000 gma2_19), (M 19, aI (K 0) 2000 gx2_11)]) [4, 5, 0, 1, 2, 6, 7, 3] rfl rfl
    refine W.eq (g2 := F0 m9 59 ls []) rfl ?_
    subst hc_20
    refine lv_aload_n F.1 F.2.1 dX11_abbreviateWord_59 rfl (lv_at hl 0 rfl) ?_
    refine lv_iload_n F.1 F.2.1 dX11_abbreviateWord_60 rfl (lv_at hl 1 rfl) ?_
    refine ad_callV (As := [.int (iI x)]) (rest := []) F G (c_X11_isMade l D K z0 m0 M xth xrm xsv xln xat xer xwr xwd xlo xhi ((spw rs u pl 1).length : Int) ((spw rs u pl 1).length : Int) (spm rs (spw rs u pl 1) pl 0) (spe rs (spw rs u pl 1) pl 0) (ded rs (spm rs u pl 1) (spe rs u pl 1)) (spm rs u pl 1) (spe rs u pl 1) xol xrw xgl xus xpr xmk xab ggv w gbg gle gma2_19 x b1 u (spw rs (spw rs u pl 1) pl 0) hTg hC hL hx hgx hrx hux hul hc_21 hbL (by omega)) my_X11_isMade mv_X11_280 (wr := [(M 1, aI (K 0) 1247 g), (M 17, aI (K 0) 2000 gx2_15), (M 19, aI (K 0) 2000 gx2_11)]) (isC := [0, 2, 3, 4, 6]) (isR := [1, 5, 7]) ⟨rfl, rfl, rfl, rfl, by decide⟩ 11 0 rfl rfl rfl rfl ⟨Nat.le_of_ble_eq_true rfl, Nat.le_of_ble_eq_true rfl⟩ ⟨Nat.le_of_ble_eq_true rfl, Nat.le_of_ble_eq_true rfl⟩ (Nat.le_of_ble_eq_true rfl) hl.1 (cells9 := 0) (slots9 := 0) ⟨rfl, rfl⟩ dX11_abbreviateWord_61 (fun v u H locs hw_22 G => ?_)
    rcases hw_22 with ⟨rfl, hc_23, rfl⟩ | ⟨rfl, hc_24, rfl⟩
    · replace G := G.perm (ws' := [(m0, mO M xth xrm xsv xln xat xer xwr xwd xlo xhi ((spw rs u pl 1).length : Int) ((spw rs (spw rs u pl 1) pl 0).length : Int) ((spw rs u pl 1).length : Int) (spm rs (spw rs u pl 1) pl 0) (spe rs (spw rs u pl 1) pl 0) (ded rs (spm rs u pl 1) (spe rs u pl 1)) (spm rs u pl 1) (spe rs u pl 1) xol xrw xgl xus xpr xmk xab), (M 1, aI (K 0) 1247 g), (M 11, aI (K 0) 60 gbg), (M 12, aI (K 0) 60 gle), (M 25, aI (K 2) 100 ggv), (M 17, aI (K 0) 2000 gx2_15), (M 18, aI (K 0) 2000 gma2_19), (M 19, aI (K 0) 2000 gx2_11)]) [3, 0, 4, 5, 6, 1, 7, 2] rfl rfl
      refine W.eq (g2 := F0 m9 64 ls [.int (iI 1)]) rfl ?_
      refine ad_if_ne (tgt := 111) F (by decide) dX11_abbreviateWord_64 (by decide) (fun _ => ?_) (fun cc_25 => absurd cc_25 (by decide))
      have hq : abW rs md u pl = ((spw rs u pl 1), 0, ded rs (spm rs u pl 1) (spe rs u pl 1), spm rs u pl 1, spe rs u pl 1) := by unfold abW; rw [if_pos (Or.inr hc_23)]
      exact ad_vreturn F G hR rfl (Nat.le_of_ble_eq_true rfl) (Nat.le_of_ble_eq_true rfl) ⟨(spw rs u pl 1), ((spw rs u pl 1).length : Int), ((spw rs (spw rs u pl 1) pl 0).length : Int), (spm rs (spw rs u pl 1) pl 0), (spe rs (spw rs u pl 1) pl 0), gx2_15, gma2_19, gx2_11, rfl, (by rw [hq]), hc_12, (by rw [hq])⟩ dX11_abbreviateWord_111
    · replace G := G.perm (ws' := [(m0, mO M xth xrm xsv xln xat xer xwr xwd xlo xhi ((spw rs u pl 1).length : Int) ((spw rs (spw rs u pl 1) pl 0).length : Int) ((spw rs u pl 1).length : Int) (spm rs (spw rs u pl 1) pl 0) (spe rs (spw rs u pl 1) pl 0) (ded rs (spm rs u pl 1) (spe rs u pl 1)) (spm rs u pl 1) (spe rs u pl 1) xol xrw xgl xus xpr xmk xab), (M 1, aI (K 0) 1247 g), (M 11, aI (K 0) 60 gbg), (M 12, aI (K 0) 60 gle), (M 25, aI (K 2) 100 ggv), (M 17, aI (K 0) 2000 gx2_15), (M 18, aI (K 0) 2000 gma2_19), (M 19, aI (K 0) 2000 gx2_11)]) [3, 0, 4, 5, 6, 1, 7, 2] rfl rfl
      refine W.eq (g2 := F0 m9 64 ls [.int (iI 0)]) rfl ?_
      refine ad_if_ne (tgt := 111) F (by decide) dX11_abbreviateWord_64 (by decide) (fun cc_26 => absurd cc_26 (by decide)) (fun _ => ?_)
      refine lv_aload_n F.1 F.2.1 dX11_abbreviateWord_67 rfl (lv_at hl 0 rfl) ?_
      refine lv_iload_n F.1 F.2.1 dX11_abbreviateWord_68 rfl (lv_at hl 1 rfl) ?_
      refine ad_callV (As := [.int (iI x)]) (rest := []) F G (c_X11_takeWord l D K z0 m0 M xth xrm xsv xln xat xer xwr xwd xlo xhi ((spw rs u pl 1).length : Int) ((spw rs (spw rs u pl 1) pl 0).length : Int) ((spw rs u pl 1).length : Int) (spm rs (spw rs u pl 1) pl 0) (spe rs (spw rs u pl 1) pl 0) (ded rs (spm rs u pl 1) (spe rs u pl 1)) (spm rs u pl 1) (spe rs u pl 1) xol xrw xgl xus xpr xmk xab ggv w gbg gle gx2_15 x b1 u hTg hC hL hx hgx hrx hux hul) my_X11_takeWord mv_X11_264 (wr := [(M 1, aI (K 0) 1247 g), (M 18, aI (K 0) 2000 gma2_19), (M 19, aI (K 0) 2000 gx2_11)]) (isC := [0, 2, 3, 4, 5]) (isR := [1, 6, 7]) ⟨rfl, rfl, rfl, rfl, by decide⟩ 11 0 rfl rfl rfl rfl ⟨Nat.le_of_ble_eq_true rfl, Nat.le_of_ble_eq_true rfl⟩ ⟨Nat.le_of_ble_eq_true rfl, Nat.le_of_ble_eq_true rfl⟩ (Nat.le_of_ble_eq_true rfl) hl.1 (cells9 := 0) (slots9 := 0) ⟨rfl, rfl⟩ dX11_abbreviateWord_69 (fun v u H locs hw_27 G => ?_)
      obtain ⟨gwo2_28, rfl, hc_29, rfl⟩ := hw_27
      replace G := G.perm (ws' := [(m0, mO M xth xrm xsv xln xat xer xwr xwd xlo xhi (u.length : Int) ((spw rs (spw rs u pl 1) pl 0).length : Int) ((spw rs u pl 1).length : Int) (spm rs (spw rs u pl 1) pl 0) (spe rs (spw rs u pl 1) pl 0) (ded rs (spm rs u pl 1) (spe rs u pl 1)) (spm rs u pl 1) (spe rs u pl 1) xol xrw xgl xus xpr xmk xab), (M 1, aI (K 0) 1247 g), (M 11, aI (K 0) 60 gbg), (M 12, aI (K 0) 60 gle), (M 25, aI (K 2) 100 ggv), (M 17, aI (K 0) 2000 gwo2_28), (M 18, aI (K 0) 2000 gma2_19), (M 19, aI (K 0) 2000 gx2_11)]) [3, 0, 4, 5, 6, 7, 1, 2] rfl rfl
      refine W.eq (g2 := F0 m9 72 ls []) rfl ?_
      refine lv_aload_n F.1 F.2.1 dX11_abbreviateWord_72 rfl (lv_at hl 0 rfl) ?_
      refine ad_callV (As := []) (rest := []) F G (c_X11_keepWord l D K z0 m0 M xth xrm xsv xln xat xer xwr xwd xlo xhi ((spw rs (spw rs u pl 1) pl 0).length : Int) ((spw rs u pl 1).length : Int) (spm rs (spw rs u pl 1) pl 0) (spe rs (spw rs u pl 1) pl 0) (ded rs (spm rs u pl 1) (spe rs u pl 1)) (spm rs u pl 1) (spe rs u pl 1) xol xrw xgl xus xpr xmk xab gwo2_28 gx2_11 u hc_29 (by omega)) my_X11_keepWord mv_X11_283 (wr := [(M 1, aI (K 0) 1247 g), (M 11, aI (K 0) 60 gbg), (M 12, aI (K 0) 60 gle), (M 25, aI (K 2) 100 ggv), (M 18, aI (K 0) 2000 gma2_19)]) (isC := [0, 5, 7]) (isR := [1, 2, 3, 4, 6]) ⟨rfl, rfl, rfl, rfl, by decide⟩ 11 0 rfl rfl rfl rfl ⟨Nat.le_of_ble_eq_true rfl, Nat.le_of_ble_eq_true rfl⟩ ⟨Nat.le_of_ble_eq_true rfl, Nat.le_of_ble_eq_true rfl⟩ (Nat.le_of_ble_eq_true rfl) hl.1 (cells9 := 0) (slots9 := 0) ⟨rfl, rfl⟩ dX11_abbreviateWord_73 (fun v u H locs hw_30 G => ?_)
      obtain ⟨gx2_31, rfl, hc_32, rfl⟩ := hw_30
      replace G := G.perm (ws' := [(m0, mO M xth xrm xsv xln xat xer xwr xwd xlo xhi (u.length : Int) ((spw rs (spw rs u pl 1) pl 0).length : Int) (u.length : Int) (spm rs (spw rs u pl 1) pl 0) (spe rs (spw rs u pl 1) pl 0) (ded rs (spm rs u pl 1) (spe rs u pl 1)) (spm rs u pl 1) (spe rs u pl 1) xol xrw xgl xus xpr xmk xab), (M 1, aI (K 0) 1247 g), (M 11, aI (K 0) 60 gbg), (M 12, aI (K 0) 60 gle), (M 25, aI (K 2) 100 ggv), (M 17, aI (K 0) 2000 gwo2_28), (M 18, aI (K 0) 2000 gma2_19), (M 19, aI (K 0) 2000 gx2_31)]) [5, 0, 1, 2, 3, 6, 4, 7] rfl rfl
      refine W.eq (g2 := F0 m9 76 ls []) rfl ?_
      refine lv_aload_n F.1 F.2.1 dX11_abbreviateWord_76 rfl (lv_at hl 0 rfl) ?_
      refine lv_iload_n F.1 F.2.1 dX11_abbreviateWord_77 rfl (lv_at hl 2 rfl) ?_
      refine ad_iconst F dX11_abbreviateWord_78 ?_
      refine ad_callV (As := [.int (iI pl), .int (iI 0)]) (rest := []) F G (c_X11_convert_0 l D K z0 m0 M xth xrm xsv xln xat xer xwr xwd xlo xhi (u.length : Int) (ded rs (spm rs u pl 1) (spe rs u pl 1)) (spm rs u pl 1) (spe rs u pl 1) xol xrw xgl xus xpr xmk xab g gwo2_28 gma2_19 rs ps md th nc u ((spw rs (spw rs u pl 1) pl 0).length : Int) (spm rs (spw rs u pl 1) pl 0) (spe rs (spw rs u pl 1) pl 0) pl hM hW hc_29 hLu (by omega) hpl) my_X11_convert mv_X11_267 (wr := [(M 11, aI (K 0) 60 gbg), (M 12, aI (K 0) 60 gle), (M 25, aI (K 2) 100 ggv), (M 19, aI (K 0) 2000 gx2_31)]) (isC := [0, 1, 5, 6]) (isR := [2, 3, 4, 7]) ⟨rfl, rfl, rfl, rfl, by decide⟩ 11 0 rfl rfl rfl rfl ⟨Nat.le_of_ble_eq_true rfl, Nat.le_of_ble_eq_true rfl⟩ ⟨Nat.le_of_ble_eq_true rfl, Nat.le_of_ble_eq_true rfl⟩ (Nat.le_of_ble_eq_true rfl) hl.1 (cells9 := 0) (slots9 := 0) ⟨rfl, rfl⟩ dX11_abbreviateWord_79 (fun v u H locs hw_33 G => ?_)
      obtain ⟨m2_34, gma2_35, rfl, hc_36, hc_37, rfl⟩ := hw_33
      replace G := G.perm (ws' := [(m0, mO M xth xrm xsv xln xat xer xwr xwd xlo xhi (u.length : Int) (m2_34.length : Int) (u.length : Int) (spm rs u pl 0) (spe rs u pl 0) (ded rs (spm rs u pl 1) (spe rs u pl 1)) (spm rs u pl 1) (spe rs u pl 1) xol xrw xgl xus xpr xmk xab), (M 1, aI (K 0) 1247 g), (M 11, aI (K 0) 60 gbg), (M 12, aI (K 0) 60 gle), (M 25, aI (K 2) 100 ggv), (M 17, aI (K 0) 2000 gwo2_28), (M 18, aI (K 0) 2000 gma2_35), (M 19, aI (K 0) 2000 gx2_31)]) [4, 5, 0, 1, 2, 6, 7, 3] rfl rfl
      refine W.eq (g2 := F0 m9 82 ls []) rfl ?_
      subst hc_36
      refine lv_aload_n F.1 F.2.1 dX11_abbreviateWord_82 rfl (lv_at hl 0 rfl) ?_
      refine lv_aload_n F.1 F.2.1 dX11_abbreviateWord_83 rfl (lv_at hl 0 rfl) ?_
      refine lv_iload_n F.1 F.2.1 dX11_abbreviateWord_84 rfl (lv_at hl 1 rfl) ?_
      refine ad_callV (As := [.int (iI x)]) (rest := [.ref m0]) F G (c_X11_isMade l D K z0 m0 M xth xrm xsv xln xat xer xwr xwd xlo xhi (u.length : Int) (u.length : Int) (spm rs u pl 0) (spe rs u pl 0) (ded rs (spm rs u pl 1) (spe rs u pl 1)) (spm rs u pl 1) (spe rs u pl 1) xol xrw xgl xus xpr xmk xab ggv w gbg gle gma2_35 x b1 u (spw rs u pl 0) hTg hC hL hx hgx hrx hux hul hc_37 hdL (by omega)) my_X11_isMade mv_X11_280 (wr := [(M 1, aI (K 0) 1247 g), (M 17, aI (K 0) 2000 gwo2_28), (M 19, aI (K 0) 2000 gx2_31)]) (isC := [0, 2, 3, 4, 6]) (isR := [1, 5, 7]) ⟨rfl, rfl, rfl, rfl, by decide⟩ 11 0 rfl rfl rfl rfl ⟨Nat.le_of_ble_eq_true rfl, Nat.le_of_ble_eq_true rfl⟩ ⟨Nat.le_of_ble_eq_true rfl, Nat.le_of_ble_eq_true rfl⟩ (Nat.le_of_ble_eq_true rfl) hl.1 (cells9 := 0) (slots9 := 0) ⟨rfl, rfl⟩ dX11_abbreviateWord_85 (fun v u H locs hw_38 G => ?_)
      rcases hw_38 with ⟨rfl, hc_39, rfl⟩ | ⟨rfl, hc_40, rfl⟩
      · replace G := G.perm (ws' := [(m0, mO M xth xrm xsv xln xat xer xwr xwd xlo xhi (u.length : Int) ((spw rs u pl 0).length : Int) (u.length : Int) (spm rs u pl 0) (spe rs u pl 0) (ded rs (spm rs u pl 1) (spe rs u pl 1)) (spm rs u pl 1) (spe rs u pl 1) xol xrw xgl xus xpr xmk xab), (M 1, aI (K 0) 1247 g), (M 11, aI (K 0) 60 gbg), (M 12, aI (K 0) 60 gle), (M 25, aI (K 2) 100 ggv), (M 17, aI (K 0) 2000 gwo2_28), (M 18, aI (K 0) 2000 gma2_35), (M 19, aI (K 0) 2000 gx2_31)]) [3, 0, 4, 5, 6, 1, 7, 2] rfl rfl
        refine W.eq (g2 := F0 m9 88 ls [.int (iI 1), .ref m0]) rfl ?_
        refine ad_if_ne (tgt := 95) F (by decide) dX11_abbreviateWord_88 (by decide) (fun _ => ?_) (fun cc_41 => absurd cc_41 (by decide))
        refine lv_aload_n F.1 F.2.1 dX11_abbreviateWord_95 rfl (lv_at hl 0 rfl) ?_
        refine ad_get F G fl_X11_255 0 rfl rfl dX11_abbreviateWord_96 ?_
        have hdb := ded_b rs (spm rs u pl 1) (spe rs u pl 1)
        refine ad_if_ne (tgt := 106) F (by omega) dX11_abbreviateWord_99 (by decide) (fun cc_42 => ?_) (fun cc_42 => ?_)
        · refine ad_bipush F dX11_abbreviateWord_106 (by decide) ?_
          refine ad_callV (As := [.int (iI 6)]) (rest := []) F G (c_X11_useNone l D K z0 m0 M xth xrm xsv xln xat xer xwr xwd xlo xhi (u.length : Int) ((spw rs u pl 0).length : Int) (u.length : Int) (spm rs u pl 0) (spe rs u pl 0) (ded rs (spm rs u pl 1) (spe rs u pl 1)) (spm rs u pl 1) (spe rs u pl 1) xol xrw xgl xus xpr xmk xab 6 ) my_X11_useNone mv_X11_286 (wr := [(M 1, aI (K 0) 1247 g), (M 11, aI (K 0) 60 gbg), (M 12, aI (K 0) 60 gle), (M 25, aI (K 2) 100 ggv), (M 17, aI (K 0) 2000 gwo2_28), (M 18, aI (K 0) 2000 gma2_35), (M 19, aI (K 0) 2000 gx2_31)]) (isC := [0]) (isR := [1, 2, 3, 4, 5, 6, 7]) ⟨rfl, rfl, rfl, rfl, by decide⟩ 11 0 rfl rfl rfl rfl ⟨Nat.le_of_ble_eq_true rfl, Nat.le_of_ble_eq_true rfl⟩ ⟨Nat.le_of_ble_eq_true rfl, Nat.le_of_ble_eq_true rfl⟩ (Nat.le_of_ble_eq_true rfl) hl.1 (cells9 := 0) (slots9 := 0) ⟨rfl, rfl⟩ dX11_abbreviateWord_108 (fun v u H locs hw_43 G => ?_)
          obtain ⟨rfl, rfl⟩ := hw_43
          replace G := G.perm (ws' := [(m0, mO M xth xrm xsv xln xat xer xwr xwd xlo xhi (u.length : Int) ((spw rs u pl 0).length : Int) (u.length : Int) (spm rs u pl 0) (spe rs u pl 0) 6 (-1) (-1) xol xrw xgl xus xpr xmk xab), (M 1, aI (K 0) 1247 g), (M 11, aI (K 0) 60 gbg), (M 12, aI (K 0) 60 gle), (M 25, aI (K 2) 100 ggv), (M 17, aI (K 0) 2000 gwo2_28), (M 18, aI (K 0) 2000 gma2_35), (M 19, aI (K 0) 2000 gx2_31)]) [7, 0, 1, 2, 3, 4, 5, 6] rfl rfl
          refine W.eq (g2 := F0 m9 111 ls []) rfl ?_
          have hq : abW rs md u pl = (u, 0, 6, -1, -1) := by unfold abW; rw [if_neg (fun q => q.elim (fun q => by omega) hc_24), if_pos hc_39]
          exact ad_vreturn F G hR rfl (Nat.le_of_ble_eq_true rfl) (Nat.le_of_ble_eq_true rfl) ⟨u, (u.length : Int), ((spw rs u pl 0).length : Int), (spm rs u pl 0), (spe rs u pl 0), gwo2_28, gma2_35, gx2_31, rfl, (by rw [hq]), hc_32, (by rw [hq])⟩ dX11_abbreviateWord_111
        · refine ad_iconst F dX11_abbreviateWord_102 ?_
          refine lv_goto (tgt := 108) F.1 F.2.1 dX11_abbreviateWord_103 (by decide) ?_
          refine ad_callV (As := [.int (iI 0)]) (rest := []) F G (c_X11_useNone l D K z0 m0 M xth xrm xsv xln xat xer xwr xwd xlo xhi (u.length : Int) ((spw rs u pl 0).length : Int) (u.length : Int) (spm rs u pl 0) (spe rs u pl 0) (ded rs (spm rs u pl 1) (spe rs u pl 1)) (spm rs u pl 1) (spe rs u pl 1) xol xrw xgl xus xpr xmk xab 0 ) my_X11_useNone mv_X11_286 (wr := [(M 1, aI (K 0) 1247 g), (M 11, aI (K 0) 60 gbg), (M 12, aI (K 0) 60 gle), (M 25, aI (K 2) 100 ggv), (M 17, aI (K 0) 2000 gwo2_28), (M 18, aI (K 0) 2000 gma2_35), (M 19, aI (K 0) 2000 gx2_31)]) (isC := [0]) (isR := [1, 2, 3, 4, 5, 6, 7]) ⟨rfl, rfl, rfl, rfl, by decide⟩ 11 0 rfl rfl rfl rfl ⟨Nat.le_of_ble_eq_true rfl, Nat.le_of_ble_eq_true rfl⟩ ⟨Nat.le_of_ble_eq_true rfl, Nat.le_of_ble_eq_true rfl⟩ (Nat.le_of_ble_eq_true rfl) hl.1 (cells9 := 0) (slots9 := 0) ⟨rfl, rfl⟩ dX11_abbreviateWord_108 (fun v u H locs hw_44 G => ?_)
          obtain ⟨rfl, rfl⟩ := hw_44
          replace G := G.perm (ws' := [(m0, mO M xth xrm xsv xln xat xer xwr xwd xlo xhi (u.length : Int) ((spw rs u pl 0).length : Int) (u.length : Int) (spm rs u pl 0) (spe rs u pl 0) 0 (-1) (-1) xol xrw xgl xus xpr xmk xab), (M 1, aI (K 0) 1247 g), (M 11, aI (K 0) 60 gbg), (M 12, aI (K 0) 60 gle), (M 25, aI (K 2) 100 ggv), (M 17, aI (K 0) 2000 gwo2_28), (M 18, aI (K 0) 2000 gma2_35), (M 19, aI (K 0) 2000 gx2_31)]) [7, 0, 1, 2, 3, 4, 5, 6] rfl rfl
          refine W.eq (g2 := F0 m9 111 ls []) rfl ?_
          exfalso
          have hq := ded_0 hW cc_42
          exact hc_24 (by rw [hq]; exact hc_39)
      · replace G := G.perm (ws' := [(m0, mO M xth xrm xsv xln xat xer xwr xwd xlo xhi (u.length : Int) ((spw rs u pl 0).length : Int) (u.length : Int) (spm rs u pl 0) (spe rs u pl 0) (ded rs (spm rs u pl 1) (spe rs u pl 1)) (spm rs u pl 1) (spe rs u pl 1) xol xrw xgl xus xpr xmk xab), (M 1, aI (K 0) 1247 g), (M 11, aI (K 0) 60 gbg), (M 12, aI (K 0) 60 gle), (M 25, aI (K 2) 100 ggv), (M 17, aI (K 0) 2000 gwo2_28), (M 18, aI (K 0) 2000 gma2_35), (M 19, aI (K 0) 2000 gx2_31)]) [3, 0, 4, 5, 6, 1, 7, 2] rfl rfl
        refine W.eq (g2 := F0 m9 88 ls [.int (iI 0), .ref m0]) rfl ?_
        refine ad_if_ne (tgt := 95) F (by decide) dX11_abbreviateWord_88 (by decide) (fun cc_45 => absurd cc_45 (by decide)) (fun _ => ?_)
        refine ad_iconst F dX11_abbreviateWord_91 ?_
        refine lv_goto (tgt := 108) F.1 F.2.1 dX11_abbreviateWord_92 (by decide) ?_
        refine ad_callV (As := [.int (iI 5)]) (rest := []) F G (c_X11_useNone l D K z0 m0 M xth xrm xsv xln xat xer xwr xwd xlo xhi (u.length : Int) ((spw rs u pl 0).length : Int) (u.length : Int) (spm rs u pl 0) (spe rs u pl 0) (ded rs (spm rs u pl 1) (spe rs u pl 1)) (spm rs u pl 1) (spe rs u pl 1) xol xrw xgl xus xpr xmk xab 5 ) my_X11_useNone mv_X11_286 (wr := [(M 1, aI (K 0) 1247 g), (M 11, aI (K 0) 60 gbg), (M 12, aI (K 0) 60 gle), (M 25, aI (K 2) 100 ggv), (M 17, aI (K 0) 2000 gwo2_28), (M 18, aI (K 0) 2000 gma2_35), (M 19, aI (K 0) 2000 gx2_31)]) (isC := [0]) (isR := [1, 2, 3, 4, 5, 6, 7]) ⟨rfl, rfl, rfl, rfl, by decide⟩ 11 0 rfl rfl rfl rfl ⟨Nat.le_of_ble_eq_true rfl, Nat.le_of_ble_eq_true rfl⟩ ⟨Nat.le_of_ble_eq_true rfl, Nat.le_of_ble_eq_true rfl⟩ (Nat.le_of_ble_eq_true rfl) hl.1 (cells9 := 0) (slots9 := 0) ⟨rfl, rfl⟩ dX11_abbreviateWord_108 (fun v u H locs hw_46 G => ?_)
        obtain ⟨rfl, rfl⟩ := hw_46
        replace G := G.perm (ws' := [(m0, mO M xth xrm xsv xln xat xer xwr xwd xlo xhi (u.length : Int) ((spw rs u pl 0).length : Int) (u.length : Int) (spm rs u pl 0) (spe rs u pl 0) 5 (-1) (-1) xol xrw xgl xus xpr xmk xab), (M 1, aI (K 0) 1247 g), (M 11, aI (K 0) 60 gbg), (M 12, aI (K 0) 60 gle), (M 25, aI (K 2) 100 ggv), (M 17, aI (K 0) 2000 gwo2_28), (M 18, aI (K 0) 2000 gma2_35), (M 19, aI (K 0) 2000 gx2_31)]) [7, 0, 1, 2, 3, 4, 5, 6] rfl rfl
        refine W.eq (g2 := F0 m9 111 ls []) rfl ?_
        have hq : abW rs md u pl = (u, 1, 5, -1, -1) := by unfold abW; rw [if_neg (fun q => q.elim (fun q => by omega) hc_24), if_neg hc_40]
        exact ad_vreturn F G hR rfl (Nat.le_of_ble_eq_true rfl) (Nat.le_of_ble_eq_true rfl) ⟨u, (u.length : Int), ((spw rs u pl 0).length : Int), (spm rs u pl 0), (spe rs u pl 0), gwo2_28, gma2_35, gx2_31, rfl, (by rw [hq]), hc_32, (by rw [hq])⟩ dX11_abbreviateWord_111

def rm_X11_expandWord_0 : Room := { frames := 6, cells := 0, slots := 0, locals := 134 }
set_option maxHeartbeats 4000000 in
set_option maxRecDepth 100000 in
theorem c_X11_expandWord_0 (l : Launch) (D : va_G) (K : Nat → ClassId) (z0 : Nat) (m0 : Nat) (M : Nat → Nat) (xth : Int) (xrm : Int) (xsv : Int) (xln : Int) (xat : Int) (xer : Int) (xwr : Int) (xwd : Int) (xlo : Int) (xhi : Int) (xol : Int) (xrw : Int) (xgl : Int) (xus : Int) (xpr : Int) (xmk : Int) (xab : Int) (xwl : Int) (xml : Int) (xkl : Int) (xfi : Int) (xse : Int) (xdn : Int) (xon : Int) (xtw : Int) (ggv : Nat → Int) (w : List Int) (g : Nat → Int) (gbg : Nat → Int) (gle : Nat → Int) (gam : Nat → Int) (gwo : Nat → Int) (gma : Nat → Int) (gke : Nat → Int) (rs : List Rl) (ps : List Pr) (md : Int) (th : Int) (nc : Int) (x : Int) (b1 : Int) (u : List Int) (pl : Int) (hTg : Tx ggv w) (hC : Chs w) (hL : w.length ≤ 100) (hM : MRow g rs ps md th nc) (hW : RW rs) (hx : 0 ≤ x ∧ x < 60) (hgx : gbg x.toNat = b1 ∧ gle x.toNat = (u.length : Int)) (hrx : 0 ≤ b1 ∧ b1 + u.length ≤ w.length) (hux : sl w b1 (b1 + u.length) = u) (hul : 1 ≤ u.length ∧ u.length ≤ 24) (hLu : Lt u) (hpl : 0 ≤ pl ∧ pl ≤ 2) (hgm : gam x.toNat = 0) : CT l D K z0 yX11_expandWord cX11_expandWord 3 none rm_X11_expandWord_0 [.ref m0, .int (iI x), .int (iI pl)] [(m0, mO M xth xrm xsv xln xat xer xwr xwd xlo xhi xwl xml xkl xfi xse xdn xon xtw xol xrw xgl xus xpr xmk xab), (M 1, aI (K 0) 1247 g), (M 11, aI (K 0) 60 gbg), (M 12, aI (K 0) 60 gle), (M 25, aI (K 2) 100 ggv), (M 17, aI (K 0) 2000 gwo), (M 18, aI (K 0) 2000 gma), (M 19, aI (K 0) 2000 gke), (M 13, aI (K 4) 60 gam)] (fun v9 u9 => ∃ (k2 : List Int), ∃ (wl2 : Int), ∃ (ml2 : Int), ∃ (fi2 : Int), ∃ (se2 : Int), ∃ (gwo2 : Nat → Int), ∃ (gma2 : Nat → Int), ∃ (gke2 : Nat → Int), v9 = none ∧ (k2 = (exW rs u pl).1) ∧ (Tx gke2 k2) ∧ u9 = [(m0, mO M xth xrm xsv xln xat xer xwr xwd xlo xhi wl2 ml2 (k2.length : Int) fi2 se2 ((exW rs u pl).2.2.1) ((exW rs u pl).2.2.2.1) ((exW rs u pl).2.2.2.2) xol xrw xgl xus xpr xmk xab), (M 1, aI (K 0) 1247 g), (M 11, aI (K 0) 60 gbg), (M 12, aI (K 0) 60 gle), (M 25, aI (K 2) 100 ggv), (M 17, aI (K 0) 2000 gwo2), (M 18, aI (K 0) 2000 gma2), (M 19, aI (K 0) 2000 gke2), (M 13, aI (K 4) 60 gam)]) := by
  refine CT.start RX11 "expandWord" (by decide) rfl rfl (Nat.le_of_ble_eq_true rfl) ?_
  intro p9 e9 s9 m9 ag9 bl9 mt9 c9 A9 Q9 ls F G hR hl
  have hl : lv_has ls 3 [(0, .ref m0), (1, .int (iI x)), (2, .int (iI pl))] := hl
  have hn := hW.1
  have hd := spw_b hW hul.1 pl 0 (Or.inl rfl)
  have hmb := spm_b rs u pl 0
  have heb := spe_b rs u pl 0
  refine lv_aload_n F.1 F.2.1 dX11_expandWord_0 rfl (lv_at hl 0 rfl) ?_
  refine lv_iload_n F.1 F.2.1 dX11_expandWord_1 rfl (lv_at hl 1 rfl) ?_
  refine ad_callV (As := [.int (iI x)]) (rest := []) F G (c_X11_takeWord l D K z0 m0 M xth xrm xsv xln xat xer xwr xwd xlo xhi xwl xml xkl xfi xse xdn xon xtw xol xrw xgl xus xpr xmk xab ggv w gbg gle gwo x b1 u hTg hC hL hx hgx hrx hux hul) my_X11_takeWord mv_X11_264 (wr := [(M 1, aI (K 0) 1247 g), (M 18, aI (K 0) 2000 gma), (M 19, aI (K 0) 2000 gke), (M 13, aI (K 4) 60 gam)]) (isC := [0, 2, 3, 4, 5]) (isR := [1, 6, 7, 8]) ⟨rfl, rfl, rfl, rfl, by decide⟩ 11 0 rfl rfl rfl rfl ⟨Nat.le_of_ble_eq_true rfl, Nat.le_of_ble_eq_true rfl⟩ ⟨Nat.le_of_ble_eq_true rfl, Nat.le_of_ble_eq_true rfl⟩ (Nat.le_of_ble_eq_true rfl) hl.1 (cells9 := 0) (slots9 := 0) ⟨rfl, rfl⟩ dX11_expandWord_2 (fun v u H locs hw_1 G => ?_)
  obtain ⟨gwo2_2, rfl, hc_3, rfl⟩ := hw_1
  replace G := G.perm (ws' := [(m0, mO M xth xrm xsv xln xat xer xwr xwd xlo xhi (u.length : Int) xml xkl xfi xse xdn xon xtw xol xrw xgl xus xpr xmk xab), (M 1, aI (K 0) 1247 g), (M 11, aI (K 0) 60 gbg), (M 12, aI (K 0) 60 gle), (M 25, aI (K 2) 100 ggv), (M 17, aI (K 0) 2000 gwo2_2), (M 18, aI (K 0) 2000 gma), (M 19, aI (K 0) 2000 gke), (M 13, aI (K 4) 60 gam)]) [4, 0, 5, 6, 7, 8, 1, 2, 3] rfl rfl
  refine W.eq (g2 := F0 m9 5 ls []) rfl ?_
  refine lv_aload_n F.1 F.2.1 dX11_expandWord_5 rfl (lv_at hl 0 rfl) ?_
  refine ad_get F G fl_X11_35 0 rfl rfl dX11_expandWord_6 ?_
  refine lv_iload_n F.1 F.2.1 dX11_expandWord_9 rfl (lv_at hl 1 rfl) ?_
  refine ad_zald F G 8 rfl (w := 0) (by omega) hgm dX11_expandWord_10 ?_
  refine ad_if_eq (tgt := 26) F (by decide) dX11_expandWord_11 (by decide) (fun _ => ?_) (fun cc_4 => absurd cc_4 (by decide))
  refine lv_aload_n F.1 F.2.1 dX11_expandWord_26 rfl (lv_at hl 0 rfl) ?_
  refine lv_iload_n F.1 F.2.1 dX11_expandWord_27 rfl (lv_at hl 2 rfl) ?_
  refine ad_iconst F dX11_expandWord_28 ?_
  refine ad_callV (As := [.int (iI pl), .int (iI 0)]) (rest := []) F G (c_X11_convert_0 l D K z0 m0 M xth xrm xsv xln xat xer xwr xwd xlo xhi xkl xdn xon xtw xol xrw xgl xus xpr xmk xab g gwo2_2 gma rs ps md th nc u xml xfi xse pl hM hW hc_3 hLu (by omega) hpl) my_X11_convert mv_X11_267 (wr := [(M 11, aI (K 0) 60 gbg), (M 12, aI (K 0) 60 gle), (M 25, aI (K 2) 100 ggv), (M 19, aI (K 0) 2000 gke), (M 13, aI (K 4) 60 gam)]) (isC := [0, 1, 5, 6]) (isR := [2, 3, 4, 7, 8]) ⟨rfl, rfl, rfl, rfl, by decide⟩ 11 0 rfl rfl rfl rfl ⟨Nat.le_of_ble_eq_true rfl, Nat.le_of_ble_eq_true rfl⟩ ⟨Nat.le_of_ble_eq_true rfl, Nat.le_of_ble_eq_true rfl⟩ (Nat.le_of_ble_eq_true rfl) hl.1 (cells9 := 0) (slots9 := 0) ⟨rfl, rfl⟩ dX11_expandWord_29 (fun v u H locs hw_5 G => ?_)
  obtain ⟨m2_6, gma2_7, rfl, hc_8, hc_9, rfl⟩ := hw_5
  replace G := G.perm (ws' := [(m0, mO M xth xrm xsv xln xat xer xwr xwd xlo xhi (u.length : Int) (m2_6.length : Int) xkl (spm rs u pl 0) (spe rs u pl 0) xdn xon xtw xol xrw xgl xus xpr xmk xab), (M 1, aI (K 0) 1247 g), (M 11, aI (K 0) 60 gbg), (M 12, aI (K 0) 60 gle), (M 25, aI (K 2) 100 ggv), (M 17, aI (K 0) 2000 gwo2_2), (M 18, aI (K 0) 2000 gma2_7), (M 19, aI (K 0) 2000 gke), (M 13, aI (K 4) 60 gam)]) [5, 6, 0, 1, 2, 7, 8, 3, 4] rfl rfl
  refine W.eq (g2 := F0 m9 32 ls []) rfl ?_
  subst hc_8
  refine lv_aload_n F.1 F.2.1 dX11_expandWord_32 rfl (lv_at hl 0 rfl) ?_
  refine ad_callV (As := []) (rest := []) F G (c_X11_keep l D K z0 m0 M xth xrm xsv xln xat xer xwr xwd xlo xhi (u.length : Int) xkl (spm rs u pl 0) (spe rs u pl 0) xdn xon xtw xol xrw xgl xus xpr xmk xab gma2_7 gke (spw rs u pl 0) hc_9 (by omega)) my_X11_keep mv_X11_274 (wr := [(M 1, aI (K 0) 1247 g), (M 11, aI (K 0) 60 gbg), (M 12, aI (K 0) 60 gle), (M 25, aI (K 2) 100 ggv), (M 17, aI (K 0) 2000 gwo2_2), (M 13, aI (K 4) 60 gam)]) (isC := [0, 6, 7]) (isR := [1, 2, 3, 4, 5, 8]) ⟨rfl, rfl, rfl, rfl, by decide⟩ 11 0 rfl rfl rfl rfl ⟨Nat.le_of_ble_eq_true rfl, Nat.le_of_ble_eq_true rfl⟩ ⟨Nat.le_of_ble_eq_true rfl, Nat.le_of_ble_eq_true rfl⟩ (Nat.le_of_ble_eq_true rfl) hl.1 (cells9 := 0) (slots9 := 0) ⟨rfl, rfl⟩ dX11_expandWord_33 (fun v u H locs hw_10 G => ?_)
  obtain ⟨gx2_11, rfl, hc_12, rfl⟩ := hw_10
  replace G := G.perm (ws' := [(m0, mO M xth xrm xsv xln xat xer xwr xwd xlo xhi (u.length : Int) ((spw rs u pl 0).length : Int) ((spw rs u pl 0).length : Int) (spm rs u pl 0) (spe rs u pl 0) xdn xon xtw xol xrw xgl xus xpr xmk xab), (M 1, aI (K 0) 1247 g), (M 11, aI (K 0) 60 gbg), (M 12, aI (K 0) 60 gle), (M 25, aI (K 2) 100 ggv), (M 17, aI (K 0) 2000 gwo2_2), (M 18, aI (K 0) 2000 gma2_7), (M 19, aI (K 0) 2000 gx2_11), (M 13, aI (K 4) 60 gam)]) [6, 0, 1, 2, 3, 4, 7, 8, 5] rfl rfl
  refine W.eq (g2 := F0 m9 36 ls []) rfl ?_
  refine lv_aload_n F.1 F.2.1 dX11_expandWord_36 rfl (lv_at hl 0 rfl) ?_
  refine lv_aload_n F.1 F.2.1 dX11_expandWord_37 rfl (lv_at hl 0 rfl) ?_
  refine ad_callV (As := []) (rest := [.ref m0]) F G (c_X11_doneBy l D K z0 m0 M xth xrm xsv xln xat xer xwr xwd xlo xhi (u.length : Int) ((spw rs u pl 0).length : Int) ((spw rs u pl 0).length : Int) (spm rs u pl 0) (spe rs u pl 0) xdn xon xtw xol xrw xgl xus xpr xmk xab g rs ps md th nc hM hW (by omega) (by omega) sp_kind) my_X11_doneBy mv_X11_270 (wr := [(M 11, aI (K 0) 60 gbg), (M 12, aI (K 0) 60 gle), (M 25, aI (K 2) 100 ggv), (M 17, aI (K 0) 2000 gwo2_2), (M 18, aI (K 0) 2000 gma2_7), (M 19, aI (K 0) 2000 gx2_11), (M 13, aI (K 4) 60 gam)]) (isC := [0, 1]) (isR := [2, 3, 4, 5, 6, 7, 8]) ⟨rfl, rfl, rfl, rfl, by decide⟩ 11 0 rfl rfl rfl rfl ⟨Nat.le_of_ble_eq_true rfl, Nat.le_of_ble_eq_true rfl⟩ ⟨Nat.le_of_ble_eq_true rfl, Nat.le_of_ble_eq_true rfl⟩ (Nat.le_of_ble_eq_true rfl) hl.1 (cells9 := 0) (slots9 := 0) ⟨rfl, rfl⟩ dX11_expandWord_38 (fun v u H locs hw_13 G => ?_)
  obtain ⟨rfl, rfl⟩ := hw_13
  replace G := G.perm (ws' := [(m0, mO M xth xrm xsv xln xat xer xwr xwd xlo xhi (u.length : Int) ((spw rs u pl 0).length : Int) ((spw rs u pl 0).length : Int) (spm rs u pl 0) (spe rs u pl 0) xdn xon xtw xol xrw xgl xus xpr xmk xab), (M 1, aI (K 0) 1247 g), (M 11, aI (K 0) 60 gbg), (M 12, aI (K 0) 60 gle), (M 25, aI (K 2) 100 ggv), (M 17, aI (K 0) 2000 gwo2_2), (M 18, aI (K 0) 2000 gma2_7), (M 19, aI (K 0) 2000 gx2_11), (M 13, aI (K 4) 60 gam)]) [7, 8, 0, 1, 2, 3, 4, 5, 6] rfl rfl
  refine W.eq (g2 := F0 m9 41 ls [.int (iI (ded rs (spm rs u pl 0) (spe rs u pl 0))), .ref m0]) rfl ?_
  refine ad_put F G fl_X11_255 0 rfl rfl rfl (Nat.le_of_ble_eq_true rfl) (ws' := [(m0, mO M xth xrm xsv xln xat xer xwr xwd xlo xhi (u.length : Int) ((spw rs u pl 0).length : Int) ((spw rs u pl 0).length : Int) (spm rs u pl 0) (spe rs u pl 0) (ded rs (spm rs u pl 0) (spe rs u pl 0)) xon xtw xol xrw xgl xus xpr xmk xab), (M 1, aI (K 0) 1247 g), (M 11, aI (K 0) 60 gbg), (M 12, aI (K 0) 60 gle), (M 25, aI (K 2) 100 ggv), (M 17, aI (K 0) 2000 gwo2_2), (M 18, aI (K 0) 2000 gma2_7), (M 19, aI (K 0) 2000 gx2_11), (M 13, aI (K 4) 60 gam)]) rfl dX11_expandWord_41 (fun H locs G => ?_)
  refine lv_aload_n F.1 F.2.1 dX11_expandWord_44 rfl (lv_at hl 0 rfl) ?_
  refine lv_aload_n F.1 F.2.1 dX11_expandWord_45 rfl (lv_at hl 0 rfl) ?_
  refine ad_get F G fl_X11_249 0 rfl rfl dX11_expandWord_46 ?_
  refine ad_put F G fl_X11_258 0 rfl rfl rfl (Nat.le_of_ble_eq_true rfl) (ws' := [(m0, mO M xth xrm xsv xln xat xer xwr xwd xlo xhi (u.length : Int) ((spw rs u pl 0).length : Int) ((spw rs u pl 0).length : Int) (spm rs u pl 0) (spe rs u pl 0) (ded rs (spm rs u pl 0) (spe rs u pl 0)) (spm rs u pl 0) xtw xol xrw xgl xus xpr xmk xab), (M 1, aI (K 0) 1247 g), (M 11, aI (K 0) 60 gbg), (M 12, aI (K 0) 60 gle), (M 25, aI (K 2) 100 ggv), (M 17, aI (K 0) 2000 gwo2_2), (M 18, aI (K 0) 2000 gma2_7), (M 19, aI (K 0) 2000 gx2_11), (M 13, aI (K 4) 60 gam)]) rfl dX11_expandWord_49 (fun H locs G => ?_)
  refine lv_aload_n F.1 F.2.1 dX11_expandWord_52 rfl (lv_at hl 0 rfl) ?_
  refine lv_aload_n F.1 F.2.1 dX11_expandWord_53 rfl (lv_at hl 0 rfl) ?_
  refine ad_get F G fl_X11_242 0 rfl rfl dX11_expandWord_54 ?_
  refine ad_put F G fl_X11_261 0 rfl rfl rfl (Nat.le_of_ble_eq_true rfl) (ws' := [(m0, mO M xth xrm xsv xln xat xer xwr xwd xlo xhi (u.length : Int) ((spw rs u pl 0).length : Int) ((spw rs u pl 0).length : Int) (spm rs u pl 0) (spe rs u pl 0) (ded rs (spm rs u pl 0) (spe rs u pl 0)) (spm rs u pl 0) (spe rs u pl 0) xol xrw xgl xus xpr xmk xab), (M 1, aI (K 0) 1247 g), (M 11, aI (K 0) 60 gbg), (M 12, aI (K 0) 60 gle), (M 25, aI (K 2) 100 ggv), (M 17, aI (K 0) 2000 gwo2_2), (M 18, aI (K 0) 2000 gma2_7), (M 19, aI (K 0) 2000 gx2_11), (M 13, aI (K 4) 60 gam)]) rfl dX11_expandWord_57 (fun H locs G => ?_)
  exact ad_vreturn F G hR rfl (Nat.le_of_ble_eq_true rfl) (Nat.le_of_ble_eq_true rfl) ⟨(spw rs u pl 0), (u.length : Int), ((spw rs u pl 0).length : Int), (spm rs u pl 0), (spe rs u pl 0), gwo2_2, gma2_7, gx2_11, rfl, rfl, hc_12, rfl⟩ dX11_expandWord_60

def rm_X11_expandWord_1 : Room := { frames := 2, cells := 0, slots := 0, locals := 34 }
set_option maxHeartbeats 4000000 in
set_option maxRecDepth 100000 in
theorem c_X11_expandWord_1 (l : Launch) (D : va_G) (K : Nat → ClassId) (z0 : Nat) (m0 : Nat) (M : Nat → Nat) (xth : Int) (xrm : Int) (xsv : Int) (xln : Int) (xat : Int) (xer : Int) (xwr : Int) (xwd : Int) (xlo : Int) (xhi : Int) (xol : Int) (xrw : Int) (xgl : Int) (xus : Int) (xpr : Int) (xmk : Int) (xab : Int) (xwl : Int) (xml : Int) (xkl : Int) (xfi : Int) (xse : Int) (xdn : Int) (xon : Int) (xtw : Int) (ggv : Nat → Int) (w : List Int) (g : Nat → Int) (gbg : Nat → Int) (gle : Nat → Int) (gam : Nat → Int) (gwo : Nat → Int) (gma : Nat → Int) (gke : Nat → Int) (rs : List Rl) (ps : List Pr) (md : Int) (th : Int) (nc : Int) (x : Int) (b1 : Int) (u : List Int) (pl : Int) (hTg : Tx ggv w) (hC : Chs w) (hL : w.length ≤ 100) (hM : MRow g rs ps md th nc) (hW : RW rs) (hx : 0 ≤ x ∧ x < 60) (hgx : gbg x.toNat = b1 ∧ gle x.toNat = (u.length : Int)) (hrx : 0 ≤ b1 ∧ b1 + u.length ≤ w.length) (hux : sl w b1 (b1 + u.length) = u) (hul : 1 ≤ u.length ∧ u.length ≤ 24) (hLu : Lt u) (hpl : 0 ≤ pl ∧ pl ≤ 2) (hgm : gam x.toNat = 1) : CT l D K z0 yX11_expandWord cX11_expandWord 3 none rm_X11_expandWord_1 [.ref m0, .int (iI x), .int (iI pl)] [(m0, mO M xth xrm xsv xln xat xer xwr xwd xlo xhi xwl xml xkl xfi xse xdn xon xtw xol xrw xgl xus xpr xmk xab), (M 1, aI (K 0) 1247 g), (M 11, aI (K 0) 60 gbg), (M 12, aI (K 0) 60 gle), (M 25, aI (K 2) 100 ggv), (M 17, aI (K 0) 2000 gwo), (M 18, aI (K 0) 2000 gma), (M 19, aI (K 0) 2000 gke), (M 13, aI (K 4) 60 gam)] (fun v9 u9 => ∃ (k2 : List Int), ∃ (wl2 : Int), ∃ (ml2 : Int), ∃ (fi2 : Int), ∃ (se2 : Int), ∃ (gwo2 : Nat → Int), ∃ (gma2 : Nat → Int), ∃ (gke2 : Nat → Int), v9 = none ∧ (k2 = (umW u).1) ∧ (Tx gke2 k2) ∧ u9 = [(m0, mO M xth xrm xsv xln xat xer xwr xwd xlo xhi wl2 ml2 (k2.length : Int) fi2 se2 ((umW u).2.2.1) ((umW u).2.2.2.1) ((umW u).2.2.2.2) xol xrw xgl xus xpr xmk xab), (M 1, aI (K 0) 1247 g), (M 11, aI (K 0) 60 gbg), (M 12, aI (K 0) 60 gle), (M 25, aI (K 2) 100 ggv), (M 17, aI (K 0) 2000 gwo2), (M 18, aI (K 0) 2000 gma2), (M 19, aI (K 0) 2000 gke2), (M 13, aI (K 4) 60 gam)]) := by
  refine CT.start RX11 "expandWord" (by decide) rfl rfl (Nat.le_of_ble_eq_true rfl) ?_
  intro p9 e9 s9 m9 ag9 bl9 mt9 c9 A9 Q9 ls F G hR hl
  have hl : lv_has ls 3 [(0, .ref m0), (1, .int (iI x)), (2, .int (iI pl))] := hl
  have hn := hW.1
  have hd := spw_b hW hul.1 pl 0 (Or.inl rfl)
  have hmb := spm_b rs u pl 0
  have heb := spe_b rs u pl 0
  refine lv_aload_n F.1 F.2.1 dX11_expandWord_0 rfl (lv_at hl 0 rfl) ?_
  refine lv_iload_n F.1 F.2.1 dX11_expandWord_1 rfl (lv_at hl 1 rfl) ?_
  refine ad_callV (As := [.int (iI x)]) (rest := []) F G (c_X11_takeWord l D K z0 m0 M xth xrm xsv xln xat xer xwr xwd xlo xhi xwl xml xkl xfi xse xdn xon xtw xol xrw xgl xus xpr xmk xab ggv w gbg gle gwo x b1 u hTg hC hL hx hgx hrx hux hul) my_X11_takeWord mv_X11_264 (wr := [(M 1, aI (K 0) 1247 g), (M 18, aI (K 0) 2000 gma), (M 19, aI (K 0) 2000 gke), (M 13, aI (K 4) 60 gam)]) (isC := [0, 2, 3, 4, 5]) (isR := [1, 6, 7, 8]) ⟨rfl, rfl, rfl, rfl, by decide⟩ 11 0 rfl rfl rfl rfl ⟨Nat.le_of_ble_eq_true rfl, Nat.le_of_ble_eq_true rfl⟩ ⟨Nat.le_of_ble_eq_true rfl, Nat.le_of_ble_eq_true rfl⟩ (Nat.le_of_ble_eq_true rfl) hl.1 (cells9 := 0) (slots9 := 0) ⟨rfl, rfl⟩ dX11_expandWord_2 (fun v u H locs hw_1 G => ?_)
  obtain ⟨gwo2_2, rfl, hc_3, rfl⟩ := hw_1
  replace G := G.perm (ws' := [(m0, mO M xth xrm xsv xln xat xer xwr xwd xlo xhi (u.length : Int) xml xkl xfi xse xdn xon xtw xol xrw xgl xus xpr xmk xab), (M 1, aI (K 0) 1247 g), (M 11, aI (K 0) 60 gbg), (M 12, aI (K 0) 60 gle), (M 25, aI (K 2) 100 ggv), (M 17, aI (K 0) 2000 gwo2_2), (M 18, aI (K 0) 2000 gma), (M 19, aI (K 0) 2000 gke), (M 13, aI (K 4) 60 gam)]) [4, 0, 5, 6, 7, 8, 1, 2, 3] rfl rfl
  refine W.eq (g2 := F0 m9 5 ls []) rfl ?_
  refine lv_aload_n F.1 F.2.1 dX11_expandWord_5 rfl (lv_at hl 0 rfl) ?_
  refine ad_get F G fl_X11_35 0 rfl rfl dX11_expandWord_6 ?_
  refine lv_iload_n F.1 F.2.1 dX11_expandWord_9 rfl (lv_at hl 1 rfl) ?_
  refine ad_zald F G 8 rfl (w := 1) (by omega) hgm dX11_expandWord_10 ?_
  refine ad_if_eq (tgt := 26) F (by decide) dX11_expandWord_11 (by decide) (fun cc_4 => absurd cc_4 (by decide)) (fun _ => ?_)
  refine lv_aload_n F.1 F.2.1 dX11_expandWord_14 rfl (lv_at hl 0 rfl) ?_
  refine ad_callV (As := []) (rest := []) F G (c_X11_keepWord l D K z0 m0 M xth xrm xsv xln xat xer xwr xwd xlo xhi xml xkl xfi xse xdn xon xtw xol xrw xgl xus xpr xmk xab gwo2_2 gke u hc_3 (by omega)) my_X11_keepWord mv_X11_283 (wr := [(M 1, aI (K 0) 1247 g), (M 11, aI (K 0) 60 gbg), (M 12, aI (K 0) 60 gle), (M 25, aI (K 2) 100 ggv), (M 18, aI (K 0) 2000 gma), (M 13, aI (K 4) 60 gam)]) (isC := [0, 5, 7]) (isR := [1, 2, 3, 4, 6, 8]) ⟨rfl, rfl, rfl, rfl, by decide⟩ 11 0 rfl rfl rfl rfl ⟨Nat.le_of_ble_eq_true rfl, Nat.le_of_ble_eq_true rfl⟩ ⟨Nat.le_of_ble_eq_true rfl, Nat.le_of_ble_eq_true rfl⟩ (Nat.le_of_ble_eq_true rfl) hl.1 (cells9 := 0) (slots9 := 0) ⟨rfl, rfl⟩ dX11_expandWord_15 (fun v u H locs hw_5 G => ?_)
  obtain ⟨gx2_6, rfl, hc_7, rfl⟩ := hw_5
  replace G := G.perm (ws' := [(m0, mO M xth xrm xsv xln xat xer xwr xwd xlo xhi (u.length : Int) xml (u.length : Int) xfi xse xdn xon xtw xol xrw xgl xus xpr xmk xab), (M 1, aI (K 0) 1247 g), (M 11, aI (K 0) 60 gbg), (M 12, aI (K 0) 60 gle), (M 25, aI (K 2) 100 ggv), (M 17, aI (K 0) 2000 gwo2_2), (M 18, aI (K 0) 2000 gma), (M 19, aI (K 0) 2000 gx2_6), (M 13, aI (K 4) 60 gam)]) [6, 0, 1, 2, 3, 7, 4, 8, 5] rfl rfl
  refine W.eq (g2 := F0 m9 18 ls []) rfl ?_
  refine lv_aload_n F.1 F.2.1 dX11_expandWord_18 rfl (lv_at hl 0 rfl) ?_
  refine ad_iconst F dX11_expandWord_19 ?_
  refine ad_callV (As := [.int (iI 5)]) (rest := []) F G (c_X11_useNone l D K z0 m0 M xth xrm xsv xln xat xer xwr xwd xlo xhi (u.length : Int) xml (u.length : Int) xfi xse xdn xon xtw xol xrw xgl xus xpr xmk xab 5 ) my_X11_useNone mv_X11_286 (wr := [(M 1, aI (K 0) 1247 g), (M 11, aI (K 0) 60 gbg), (M 12, aI (K 0) 60 gle), (M 25, aI (K 2) 100 ggv), (M 17, aI (K 0) 2000 gwo2_2), (M 18, aI (K 0) 2000 gma), (M 19, aI (K 0) 2000 gx2_6), (M 13, aI (K 4) 60 gam)]) (isC := [0]) (isR := [1, 2, 3, 4, 5, 6, 7, 8]) ⟨rfl, rfl, rfl, rfl, by decide⟩ 11 0 rfl rfl rfl rfl ⟨Nat.le_of_ble_eq_true rfl, Nat.le_of_ble_eq_true rfl⟩ ⟨Nat.le_of_ble_eq_true rfl, Nat.le_of_ble_eq_true rfl⟩ (Nat.le_of_ble_eq_true rfl) hl.1 (cells9 := 0) (slots9 := 0) ⟨rfl, rfl⟩ dX11_expandWord_20 (fun v u H locs hw_8 G => ?_)
  obtain ⟨rfl, rfl⟩ := hw_8
  replace G := G.perm (ws' := [(m0, mO M xth xrm xsv xln xat xer xwr xwd xlo xhi (u.length : Int) xml (u.length : Int) xfi xse 5 (-1) (-1) xol xrw xgl xus xpr xmk xab), (M 1, aI (K 0) 1247 g), (M 11, aI (K 0) 60 gbg), (M 12, aI (K 0) 60 gle), (M 25, aI (K 2) 100 ggv), (M 17, aI (K 0) 2000 gwo2_2), (M 18, aI (K 0) 2000 gma), (M 19, aI (K 0) 2000 gx2_6), (M 13, aI (K 4) 60 gam)]) [8, 0, 1, 2, 3, 4, 5, 6, 7] rfl rfl
  refine W.eq (g2 := F0 m9 23 ls []) rfl ?_
  refine lv_goto (tgt := 60) F.1 F.2.1 dX11_expandWord_23 (by decide) ?_
  exact ad_vreturn F G hR rfl (Nat.le_of_ble_eq_true rfl) (Nat.le_of_ble_eq_true rfl) ⟨u, (u.length : Int), xml, xfi, xse, gwo2_2, gma, gx2_6, rfl, rfl, hc_7, rfl⟩ dX11_expandWord_60
