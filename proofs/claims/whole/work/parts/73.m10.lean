theorem lat_Lt {u : List Int} (h : Lt u) (k : Int) : 0 ≤ lat u k ∧ lat u k ≤ 122 := by
  unfold lat
  split
  · by_cases hl : k.toNat < u.length
    · rw [gd_in hl]
      have := h _ (List.getElem_mem hl)
      omega
    · rw [gd_out (by omega)]; omega
  · omega
theorem stb_mk {f u : List Int} {k fr : Int} (hlen : (if k = 0 then (u.length : Int) = f.length else (f.length : Int) < u.length)) (hfr : fr = st0 f u k) (h0 : 0 ≤ fr ∧ fr + f.length ≤ u.length) (h : ∀ j : Int, 0 ≤ j → j < f.length → lat u (fr + j) = lat f j) : stb f u k = true := by
  refine decide_eq_true ⟨hlen, ?_⟩
  rw [← hfr]
  have hl := sl_len (w := u) (i := fr) (j := fr + f.length) h0.1 (by omega) h0.2
  exact lat_eq (by omega) (fun j j0 j1 => by rw [sl_at h0.1 j0 (by omega)]; exact h j j0 (by omega))
theorem stb_no {f u : List Int} {k fr j : Int} (q : stb f u k = true) (hfr : fr = st0 f u k) (h0 : 0 ≤ fr) (hj : 0 ≤ j ∧ j < f.length) (h : lat u (fr + j) ≠ lat f j) : False := by
  have e := (of_decide_eq_true q).2
  rw [← hfr] at e
  have e2 : lat (sl u fr (fr + f.length)) j = lat f j := by rw [e]
  rw [sl_at h0 hj.1 (by omega)] at e2
  exact h e2
theorem spw_eq {rs : List Rl} {u : List Int} {pl b fi se : Int} (h1 : spm rs u pl b = fi) (h2 : spe rs u pl b = se) : spw rs u pl b = fmo (rget rs fi) (1 - b) ++ sl u (fmo (rget rs fi) b).length ((u.length : Int) - (fmo (rget rs se) b).length) ++ fmo (rget rs se) (1 - b) := by
  unfold spw; rw [h1, h2]
def rm_X11_isIn : Room := { frames := 3, cells := 0, slots := 0, locals := 57 }
set_option maxHeartbeats 4000000 in
set_option maxRecDepth 100000 in
theorem c_X11_isIn (l : Launch) (D : va_G) (K : Nat → ClassId) (z0 : Nat) (m0 : Nat) (M : Nat → Nat) (xth : Int) (xrm : Int) (xsv : Int) (xln : Int) (xat : Int) (xer : Int) (xwr : Int) (xwd : Int) (xlo : Int) (xhi : Int) (xml : Int) (xkl : Int) (xfi : Int) (xse : Int) (xdn : Int) (xon : Int) (xtw : Int) (xol : Int) (xrw : Int) (xgl : Int) (xus : Int) (xpr : Int) (xmk : Int) (xab : Int) (g : Nat → Int) (gwo : Nat → Int) (rs : List Rl) (ps : List Pr) (md : Int) (th : Int) (nc : Int) (u : List Int) (z : Int) (b : Int) (hM : MRow g rs ps md th nc) (hW : RW rs) (hTu : Tx gwo u) (hLu : Lt u) (hu : 1 ≤ u.length ∧ u.length ≤ 100) (hz : 0 ≤ z ∧ z < rs.length) (hb : b = 0 ∨ b = 1) : CT l D K z0 yX11_isIn cX11_isIn 7 (some .boolean) rm_X11_isIn [.ref m0, .int (iI z), .int (iI b)] [(m0, mO M xth xrm xsv xln xat xer xwr xwd xlo xhi (u.length : Int) xml xkl xfi xse xdn xon xtw xol xrw xgl xus xpr xmk xab), (M 1, aI (K 0) 1247 g), (M 17, aI (K 0) 2000 gwo)] (fun v9 u9 => (v9 = some (.int (iI 1)) ∧ (stb (fmo (rget rs z) b) u (rget rs z).1 = true) ∧ u9 = [(m0, mO M xth xrm xsv xln xat xer xwr xwd xlo xhi (u.length : Int) xml xkl xfi xse xdn xon xtw xol xrw xgl xus xpr xmk xab), (M 1, aI (K 0) 1247 g), (M 17, aI (K 0) 2000 gwo)]) ∨ (v9 = some (.int (iI 0)) ∧ (¬ stb (fmo (rget rs z) b) u (rget rs z).1 = true) ∧ u9 = [(m0, mO M xth xrm xsv xln xat xer xwr xwd xlo xhi (u.length : Int) xml xkl xfi xse xdn xon xtw xol xrw xgl xus xpr xmk xab), (M 1, aI (K 0) 1247 g), (M 17, aI (K 0) 2000 gwo)])) := by
  refine CT.start RX11 "isIn" (by decide) rfl rfl (Nat.le_of_ble_eq_true rfl) ?_
  intro p9 e9 s9 m9 ag9 bl9 mt9 c9 A9 Q9 ls F G hR hl
  have hl : lv_has ls 7 [(0, .ref m0), (1, .int (iI z)), (2, .int (iI b))] := hl
  have hn := hW.1
  have hbd := hW.bd hz.1 hz.2
  have hf12 := fmo_len hW z b
  refine lv_aload_n F.1 F.2.1 dX11_isIn_0 rfl (lv_at hl 0 rfl) ?_
  refine lv_iload_n F.1 F.2.1 dX11_isIn_1 rfl (lv_at hl 1 rfl) ?_
  refine lv_iload_n F.1 F.2.1 dX11_isIn_2 rfl (lv_at hl 2 rfl) ?_
  refine ad_callV (As := [.int (iI z), .int (iI b)]) (rest := []) F G (c_X11_lengthOf l D K z0 m0 M xth xrm xsv xln xat xer xwr xwd xlo xhi (u.length : Int) xml xkl xfi xse xdn xon xtw xol xrw xgl xus xpr xmk xab g rs ps md th nc z b hM hW hz hb) my_X11_lengthOf mv_X11_185 (wr := [(M 17, aI (K 0) 2000 gwo)]) (isC := [0, 1]) (isR := [2]) ⟨rfl, rfl, rfl, rfl, by decide⟩ 11 0 rfl rfl rfl rfl ⟨Nat.le_of_ble_eq_true rfl, Nat.le_of_ble_eq_true rfl⟩ ⟨Nat.le_of_ble_eq_true rfl, Nat.le_of_ble_eq_true rfl⟩ (Nat.le_of_ble_eq_true rfl) hl.1 (cells9 := 0) (slots9 := 0) ⟨rfl, rfl⟩ dX11_isIn_3 (fun v u H locs hw_1 G => ?_)
  obtain ⟨rfl, rfl⟩ := hw_1
  replace G := G.perm (ws' := [(m0, mO M xth xrm xsv xln xat xer xwr xwd xlo xhi (u.length : Int) xml xkl xfi xse xdn xon xtw xol xrw xgl xus xpr xmk xab), (M 1, aI (K 0) 1247 g), (M 17, aI (K 0) 2000 gwo)]) [1, 2, 0] rfl rfl
  refine W.eq (g2 := F0 m9 6 ls [.int (iI ((fmo (rget rs z) b).length : Int))]) rfl ?_
  refine lv_istore_n (lv' := [(3, .int (iI ((fmo (rget rs z) b).length : Int))), (0, .ref m0), (1, .int (iI z)), (2, .int (iI b))]) F.1 F.2.1 dX11_isIn_6 rfl hl (by decide) rfl (fun ls hl => ?_)
  refine lv_aload_n F.1 F.2.1 dX11_isIn_7 rfl (lv_at hl 1 rfl) ?_
  refine lv_iload_n F.1 F.2.1 dX11_isIn_8 rfl (lv_at hl 2 rfl) ?_
  refine ad_iconst F dX11_isIn_9 ?_
  refine ad_callV (As := [.int (iI z), .int (iI 0)]) (rest := []) F G (c_X11_of_0 l D K z0 m0 M xth xrm xsv xln xat xer xwr xwd xlo xhi (u.length : Int) xml xkl xfi xse xdn xon xtw xol xrw xgl xus xpr xmk xab g rs ps md th nc z hM hW hz) my_X11_of mv_X11_99 (wr := [(M 17, aI (K 0) 2000 gwo)]) (isC := [0, 1]) (isR := [2]) ⟨rfl, rfl, rfl, rfl, by decide⟩ 11 0 rfl rfl rfl rfl ⟨Nat.le_of_ble_eq_true rfl, Nat.le_of_ble_eq_true rfl⟩ ⟨Nat.le_of_ble_eq_true rfl, Nat.le_of_ble_eq_true rfl⟩ (Nat.le_of_ble_eq_true rfl) hl.1 (cells9 := 0) (slots9 := 0) ⟨rfl, rfl⟩ dX11_isIn_10 (fun v u H locs hw_2 G => ?_)
  obtain ⟨rfl, rfl⟩ := hw_2
  replace G := G.perm (ws' := [(m0, mO M xth xrm xsv xln xat xer xwr xwd xlo xhi (u.length : Int) xml xkl xfi xse xdn xon xtw xol xrw xgl xus xpr xmk xab), (M 1, aI (K 0) 1247 g), (M 17, aI (K 0) 2000 gwo)]) [1, 2, 0] rfl rfl
  refine W.eq (g2 := F0 m9 13 ls [.int (iI ((rget rs z).1))]) rfl ?_
  refine ad_if_ne (tgt := 27) F (by omega) dX11_isIn_13 (by decide) (fun cc_3 => ?_) (fun cc_3 => ?_)
  · refine lv_iload_n F.1 F.2.1 dX11_isIn_27 rfl (lv_at hl 0 rfl) ?_
    refine lv_aload_n F.1 F.2.1 dX11_isIn_28 rfl (lv_at hl 1 rfl) ?_
    refine ad_get F G fl_X11_233 0 rfl rfl dX11_isIn_29 ?_
    refine ad_icmp_lt (tgt := 37) F (by omega) dX11_isIn_32 (by decide) (fun cc_4 => ?_) (fun cc_4 => ?_)
    · refine lv_aload_n F.1 F.2.1 dX11_isIn_37 rfl (lv_at hl 1 rfl) ?_
      refine lv_iload_n F.1 F.2.1 dX11_isIn_38 rfl (lv_at hl 2 rfl) ?_
      refine ad_iconst F dX11_isIn_39 ?_
      refine ad_callV (As := [.int (iI z), .int (iI 0)]) (rest := []) F G (c_X11_of_0 l D K z0 m0 M xth xrm xsv xln xat xer xwr xwd xlo xhi (u.length : Int) xml xkl xfi xse xdn xon xtw xol xrw xgl xus xpr xmk xab g rs ps md th nc z hM hW hz) my_X11_of mv_X11_99 (wr := [(M 17, aI (K 0) 2000 gwo)]) (isC := [0, 1]) (isR := [2]) ⟨rfl, rfl, rfl, rfl, by decide⟩ 11 0 rfl rfl rfl rfl ⟨Nat.le_of_ble_eq_true rfl, Nat.le_of_ble_eq_true rfl⟩ ⟨Nat.le_of_ble_eq_true rfl, Nat.le_of_ble_eq_true rfl⟩ (Nat.le_of_ble_eq_true rfl) hl.1 (cells9 := 0) (slots9 := 0) ⟨rfl, rfl⟩ dX11_isIn_40 (fun v u H locs hw_5 G => ?_)
      obtain ⟨rfl, rfl⟩ := hw_5
      replace G := G.perm (ws' := [(m0, mO M xth xrm xsv xln xat xer xwr xwd xlo xhi (u.length : Int) xml xkl xfi xse xdn xon xtw xol xrw xgl xus xpr xmk xab), (M 1, aI (K 0) 1247 g), (M 17, aI (K 0) 2000 gwo)]) [1, 2, 0] rfl rfl
      refine W.eq (g2 := F0 m9 43 ls [.int (iI ((rget rs z).1))]) rfl ?_
      refine ad_iconst F dX11_isIn_43 ?_
      refine ad_icmp_ne (tgt := 56) F (by omega) dX11_isIn_44 (by decide) (fun cc_6 => ?_) (fun cc_6 => ?_)
      · refine ad_iconst F dX11_isIn_56 ?_
        refine lv_istore (lv' := [(4, .int (iI 0)), (3, .int (iI ((fmo (rget rs z) b).length : Int))), (0, .ref m0), (1, .int (iI z)), (2, .int (iI b))]) F.1 F.2.1 dX11_isIn_57 hl (by decide) rfl (fun ls hl => ?_)
        have hlen : (if (rget rs z).1 = 0 then (u.length : Int) = (fmo (rget rs z) b).length else ((fmo (rget rs z) b).length : Int) < u.length) := by split <;> omega
        have hfr : 0 = st0 (fmo (rget rs z) b) u (rget rs z).1 := by unfold st0; split <;> omega
        refine ad_iconst F dX11_isIn_59 ?_
        refine lv_istore (lv' := [(5, .int (iI 1)), (4, .int (iI 0)), (3, .int (iI ((fmo (rget rs z) b).length : Int))), (0, .ref m0), (1, .int (iI z)), (2, .int (iI b))]) F.1 F.2.1 dX11_isIn_60 hl (by decide) rfl (fun ls hl => ?_)
        refine ad_iconst F dX11_isIn_62 ?_
        refine lv_istore (lv' := [(6, .int (iI 0)), (5, .int (iI 1)), (4, .int (iI 0)), (3, .int (iI ((fmo (rget rs z) b).length : Int))), (0, .ref m0), (1, .int (iI z)), (2, .int (iI b))]) F.1 F.2.1 dX11_isIn_63 hl (by decide) rfl (fun ls hl => ?_)
        have lp65 : ∀ (n65 : Nat) (sm : Int) (k : Int) (fr : Int) (H : Heap) (locs : List Loc) (ls : Array Slot), (0 ≤ k ∧ k ≤ (fmo (rget rs z) b).length) → ((if (rget rs z).1 = 0 then (u.length : Int) = (fmo (rget rs z) b).length else ((fmo (rget rs z) b).length : Int) < u.length)) → (fr = st0 (fmo (rget rs z) b) u (rget rs z).1) → (0 ≤ fr ∧ fr + (fmo (rget rs z) b).length ≤ u.length) → ((sm = 1 ∧ ∀ j : Int, 0 ≤ j → j < k → lat u (fr + j) = lat (fmo (rget rs z) b) j) ∨ (sm = 0 ∧ ¬ stb (fmo (rget rs z) b) u (rget rs z).1 = true)) → ((fmo (rget rs z) b).length - k) < (n65 : Int) → ad_G D A9 s9.heap H locs [(m0, mO M xth xrm xsv xln xat xer xwr xwd xlo xhi (u.length : Int) xml xkl xfi xse xdn xon xtw xol xrw xgl xus xpr xmk xab), (M 1, aI (K 0) 1247 g), (M 17, aI (K 0) 2000 gwo)] → lv_has ls 7 [(0, .ref m0), (1, .int (iI z)), (2, .int (iI b)), (3, .int (iI ((fmo (rget rs z) b).length : Int))), (4, .int (iI fr)), (5, .int (iI sm)), (6, .int (iI k))] → W p9 l e9 rm_X11_isIn s9 m9 ag9 bl9 mt9 c9 H locs 0 0 Q9 (F0 m9 65 ls []) := by
          intro n65
          induction n65 with
          | zero =>
            intro sm k fr H locs ls hk hlen hfr hf0 hs hm65
            exact absurd hm65 (by omega)
          | succ n65 ih65 =>
            intro sm k fr H locs ls hk hlen hfr hf0 hs hm65 G hl
            have hsm : sm = 0 ∨ sm = 1 := hs.elim (fun q => Or.inr q.1) (fun q => Or.inl q.1)
            refine lv_iload F.1 F.2.1 dX11_isIn_65 (lv_at hl 5 rfl) ?_
            refine ad_if_eq (tgt := 110) F (by omega) dX11_isIn_67 (by decide) (fun cc_7 => ?_) (fun cc_7 => ?_)
            · refine lv_iload F.1 F.2.1 dX11_isIn_110 (lv_at hl 5 rfl) ?_
              exact ad_zreturn F G hR rfl (Nat.le_of_ble_eq_true rfl) (Nat.le_of_ble_eq_true rfl) (iI_boolN (by omega)).1 (Or.inr (⟨(ad_eqi (by omega)), (hs.elim (fun q => absurd q.1 (by omega)) (fun q => q.2)), rfl⟩)) dX11_isIn_112
            · refine lv_iload F.1 F.2.1 dX11_isIn_70 (lv_at hl 6 rfl) ?_
              refine lv_iload_n F.1 F.2.1 dX11_isIn_72 rfl (lv_at hl 3 rfl) ?_
              refine ad_icmp_ge (tgt := 110) F (by omega) dX11_isIn_73 (by decide) (fun cc_8 => ?_) (fun cc_8 => ?_)
              · refine lv_iload F.1 F.2.1 dX11_isIn_110 (lv_at hl 5 rfl) ?_
                exact ad_zreturn F G hR rfl (Nat.le_of_ble_eq_true rfl) (Nat.le_of_ble_eq_true rfl) (iI_boolN (by omega)).1 (Or.inl ⟨(ad_eqi (by omega)), (hs.elim (fun q => stb_mk hlen hfr (by omega) (fun j h1 h2 => q.2 j h1 (by omega))) (fun q => absurd q.1 (by omega))), rfl⟩) dX11_isIn_112
              · refine lv_aload_n F.1 F.2.1 dX11_isIn_76 rfl (lv_at hl 0 rfl) ?_
                refine ad_get F G fl_X11_39 0 rfl rfl dX11_isIn_77 ?_
                refine lv_iload F.1 F.2.1 dX11_isIn_80 (lv_at hl 4 rfl) ?_
                refine lv_iload F.1 F.2.1 dX11_isIn_82 (lv_at hl 6 rfl) ?_
                refine ad_iadd F dX11_isIn_84 ?_
                refine ad_iald F G 2 rfl (w := lat u (fr + k)) (by omega) (Tx_at hTu (by omega) (by omega)) dX11_isIn_85 ?_
                refine lv_aload_n F.1 F.2.1 dX11_isIn_86 rfl (lv_at hl 0 rfl) ?_
                refine lv_iload_n F.1 F.2.1 dX11_isIn_87 rfl (lv_at hl 1 rfl) ?_
                refine lv_iload_n F.1 F.2.1 dX11_isIn_88 rfl (lv_at hl 2 rfl) ?_
                refine lv_iload F.1 F.2.1 dX11_isIn_89 (lv_at hl 6 rfl) ?_
                refine ad_callV (As := [.int (iI z), .int (iI b), .int (iI k)]) (rest := [.int (iI (lat u (fr + k)))]) F G (c_X11_letterOf l D K z0 m0 M xth xrm xsv xln xat xer xwr xwd xlo xhi (u.length : Int) xml xkl xfi xse xdn xon xtw xol xrw xgl xus xpr xmk xab g rs ps md th nc z b k hM hW hz hb (by omega)) my_X11_letterOf mv_X11_189 (wr := [(M 17, aI (K 0) 2000 gwo)]) (isC := [0, 1]) (isR := [2]) ⟨rfl, rfl, rfl, rfl, by decide⟩ 11 0 rfl rfl rfl rfl ⟨Nat.le_of_ble_eq_true rfl, Nat.le_of_ble_eq_true rfl⟩ ⟨Nat.le_of_ble_eq_true rfl, Nat.le_of_ble_eq_true rfl⟩ (Nat.le_of_ble_eq_true rfl) hl.1 (cells9 := 0) (slots9 := 0) ⟨rfl, rfl⟩ dX11_isIn_91 (fun v u H locs hw_9 G => ?_)
                obtain ⟨rfl, rfl⟩ := hw_9
                replace G := G.perm (ws' := [(m0, mO M xth xrm xsv xln xat xer xwr xwd xlo xhi (u.length : Int) xml xkl xfi xse xdn xon xtw xol xrw xgl xus xpr xmk xab), (M 1, aI (K 0) 1247 g), (M 17, aI (K 0) 2000 gwo)]) [1, 2, 0] rfl rfl
                refine W.eq (g2 := F0 m9 94 ls [.int (iI (lat (fmo (rget rs z) b) k)), .int (iI (lat u (fr + k)))]) rfl ?_
                have hq1 := lat_fw (fmo_Fw hW z b) k
                have hq2 := lat_Lt hLu (fr + k)
                refine ad_icmp_ne (tgt := 101) F (by omega) dX11_isIn_94 (by decide) (fun cc_10 => ?_) (fun cc_10 => ?_)
                · refine ad_iconst F dX11_isIn_101 ?_
                  refine lv_istore (lv' := [(5, .int (iI 0)), (0, .ref m0), (1, .int (iI z)), (2, .int (iI b)), (3, .int (iI ((fmo (rget rs z) b).length : Int))), (4, .int (iI fr)), (6, .int (iI k))]) F.1 F.2.1 dX11_isIn_102 hl (by decide) rfl (fun ls hl => ?_)
                  refine ad_iinc (lv' := [(6, .int (iI (k + 1))), (5, .int (iI 0)), (0, .ref m0), (1, .int (iI z)), (2, .int (iI b)), (3, .int (iI ((fmo (rget rs z) b).length : Int))), (4, .int (iI fr))]) F dX11_isIn_104 hl (k := 6) rfl (by decide) rfl (fun ls hl => ?_)
                  refine lv_goto (tgt := 65) F.1 F.2.1 dX11_isIn_107 (by decide) ?_
                  exact ih65 0 (k + 1) fr _ _ _ (by omega) hlen hfr hf0 (Or.inr ⟨rfl, fun q => stb_no q hfr (by omega) (by omega) cc_10⟩) (by omega) (G.perm (ws' := [(m0, mO M xth xrm xsv xln xat xer xwr xwd xlo xhi (u.length : Int) xml xkl xfi xse xdn xon xtw xol xrw xgl xus xpr xmk xab), (M 1, aI (K 0) 1247 g), (M 17, aI (K 0) 2000 gwo)]) [0, 1, 2] rfl rfl) (lv_sub hl [2, 3, 4, 5, 6, 1, 0] rfl)
                · refine ad_iconst F dX11_isIn_97 ?_
                  refine lv_goto (tgt := 102) F.1 F.2.1 dX11_isIn_98 (by decide) ?_
                  refine lv_istore (lv' := [(5, .int (iI 1)), (0, .ref m0), (1, .int (iI z)), (2, .int (iI b)), (3, .int (iI ((fmo (rget rs z) b).length : Int))), (4, .int (iI fr)), (6, .int (iI k))]) F.1 F.2.1 dX11_isIn_102 hl (by decide) rfl (fun ls hl => ?_)
                  refine ad_iinc (lv' := [(6, .int (iI (k + 1))), (5, .int (iI 1)), (0, .ref m0), (1, .int (iI z)), (2, .int (iI b)), (3, .int (iI ((fmo (rget rs z) b).length : Int))), (4, .int (iI fr))]) F dX11_isIn_104 hl (k := 6) rfl (by decide) rfl (fun ls hl => ?_)
                  refine lv_goto (tgt := 65) F.1 F.2.1 dX11_isIn_107 (by decide) ?_
                  exact ih65 1 (k + 1) fr _ _ _ (by omega) hlen hfr hf0 (Or.inl ⟨rfl, fun j h1 h2 => (show j < k ∨ j = k by omega).elim (fun h => (hs.elim (fun q => q.2) (fun q => absurd q.1 (by omega))) j h1 h) (fun h => by rw [h]; exact cc_10)⟩) (by omega) (G.perm (ws' := [(m0, mO M xth xrm xsv xln xat xer xwr xwd xlo xhi (u.length : Int) xml xkl xfi xse xdn xon xtw xol xrw xgl xus xpr xmk xab), (M 1, aI (K 0) 1247 g), (M 17, aI (K 0) 2000 gwo)]) [0, 1, 2] rfl rfl) (lv_sub hl [2, 3, 4, 5, 6, 1, 0] rfl)
        exact lp65 (((((fmo (rget rs z) b).length - 0 : Int)) + 1).toNat) 1 0 0 _ _ _ (by omega) hlen hfr (by omega) (Or.inl ⟨rfl, fun j h1 h2 => by omega⟩) (by omega) (G.perm (ws' := [(m0, mO M xth xrm xsv xln xat xer xwr xwd xlo xhi (u.length : Int) xml xkl xfi xse xdn xon xtw xol xrw xgl xus xpr xmk xab), (M 1, aI (K 0) 1247 g), (M 17, aI (K 0) 2000 gwo)]) [0, 1, 2] rfl rfl) (lv_sub hl [4, 5, 6, 3, 2, 1, 0] rfl)
      · refine lv_aload_n F.1 F.2.1 dX11_isIn_47 rfl (lv_at hl 1 rfl) ?_
        refine ad_get F G fl_X11_233 0 rfl rfl dX11_isIn_48 ?_
        refine lv_iload_n F.1 F.2.1 dX11_isIn_51 rfl (lv_at hl 0 rfl) ?_
        refine ad_isub F dX11_isIn_52 ?_
        refine lv_goto (tgt := 57) F.1 F.2.1 dX11_isIn_53 (by decide) ?_
        refine lv_istore (lv' := [(4, .int (iI ((u.length : Int) - ((fmo (rget rs z) b).length : Int)))), (3, .int (iI ((fmo (rget rs z) b).length : Int))), (0, .ref m0), (1, .int (iI z)), (2, .int (iI b))]) F.1 F.2.1 dX11_isIn_57 hl (by decide) rfl (fun ls hl => ?_)
        have hlen : (if (rget rs z).1 = 0 then (u.length : Int) = (fmo (rget rs z) b).length else ((fmo (rget rs z) b).length : Int) < u.length) := by split <;> omega
        have hfr : (u.length : Int) - ((fmo (rget rs z) b).length : Int) = st0 (fmo (rget rs z) b) u (rget rs z).1 := by unfold st0; split <;> omega
        refine ad_iconst F dX11_isIn_59 ?_
        refine lv_istore (lv' := [(5, .int (iI 1)), (4, .int (iI ((u.length : Int) - ((fmo (rget rs z) b).length : Int)))), (3, .int (iI ((fmo (rget rs z) b).length : Int))), (0, .ref m0), (1, .int (iI z)), (2, .int (iI b))]) F.1 F.2.1 dX11_isIn_60 hl (by decide) rfl (fun ls hl => ?_)
        refine ad_iconst F dX11_isIn_62 ?_
        refine lv_istore (lv' := [(6, .int (iI 0)), (5, .int (iI 1)), (4, .int (iI ((u.length : Int) - ((fmo (rget rs z) b).length : Int)))), (3, .int (iI ((fmo (rget rs z) b).length : Int))), (0, .ref m0), (1, .int (iI z)), (2, .int (iI b))]) F.1 F.2.1 dX11_isIn_63 hl (by decide) rfl (fun ls hl => ?_)
        have lp65 : ∀ (n65 : Nat) (sm : Int) (k : Int) (fr : Int) (H : Heap) (locs : List Loc) (ls : Array Slot), (0 ≤ k ∧ k ≤ (fmo (rget rs z) b).length) → ((if (rget rs z).1 = 0 then (u.length : Int) = (fmo (rget rs z) b).length else ((fmo (rget rs z) b).length : Int) < u.length)) → (fr = st0 (fmo (rget rs z) b) u (rget rs z).1) → (0 ≤ fr ∧ fr + (fmo (rget rs z) b).length ≤ u.length) → ((sm = 1 ∧ ∀ j : Int, 0 ≤ j → j < k → lat u (fr + j) = lat (fmo (rget rs z) b) j) ∨ (sm = 0 ∧ ¬ stb (fmo (rget rs z) b) u (rget rs z).1 = true)) → ((fmo (rget rs z) b).length - k) < (n65 : Int) → ad_G D A9 s9.heap H locs [(m0, mO M xth xrm xsv xln xat xer xwr xwd xlo xhi (u.length : Int) xml xkl xfi xse xdn xon xtw xol xrw xgl xus xpr xmk xab), (M 1, aI (K 0) 1247 g), (M 17, aI (K 0) 2000 gwo)] → lv_has ls 7 [(0, .ref m0), (1, .int (iI z)), (2, .int (iI b)), (3, .int (iI ((fmo (rget rs z) b).length : Int))), (4, .int (iI fr)), (5, .int (iI sm)), (6, .int (iI k))] → W p9 l e9 rm_X11_isIn s9 m9 ag9 bl9 mt9 c9 H locs 0 0 Q9 (F0 m9 65 ls []) := by
          intro n65
          induction n65 with
          | zero =>
            intro sm k fr H locs ls hk hlen hfr hf0 hs hm65
            exact absurd hm65 (by omega)
          | succ n65 ih65 =>
            intro sm k fr H locs ls hk hlen hfr hf0 hs hm65 G hl
            have hsm : sm = 0 ∨ sm = 1 := hs.elim (fun q => Or.inr q.1) (fun q => Or.inl q.1)
            refine lv_iload F.1 F.2.1 dX11_isIn_65 (lv_at hl 5 rfl) ?_
            refine ad_if_eq (tgt := 110) F (by omega) dX11_isIn_67 (by decide) (fun cc_11 => ?_) (fun cc_11 => ?_)
            · refine lv_iload F.1 F.2.1 dX11_isIn_110 (lv_at hl 5 rfl) ?_
              exact ad_zreturn F G hR rfl (Nat.le_of_ble_eq_true rfl) (Nat.le_of_ble_eq_true rfl) (iI_boolN (by omega)).1 (Or.inr (⟨(ad_eqi (by omega)), (hs.elim (fun q => absurd q.1 (by omega)) (fun q => q.2)), rfl⟩)) dX11_isIn_112
            · refine lv_iload F.1 F.2.1 dX11_isIn_70 (lv_at hl 6 rfl) ?_
              refine lv_iload_n F.1 F.2.1 dX11_isIn_72 rfl (lv_at hl 3 rfl) ?_
              refine ad_icmp_ge (tgt := 110) F (by omega) dX11_isIn_73 (by decide) (fun cc_12 => ?_) (fun cc_12 => ?_)
              · refine lv_iload F.1 F.2.1 dX11_isIn_110 (lv_at hl 5 rfl) ?_
                exact ad_zreturn F G hR rfl (Nat.le_of_ble_eq_true rfl) (Nat.le_of_ble_eq_true rfl) (iI_boolN (by omega)).1 (Or.inl ⟨(ad_eqi (by omega)), (hs.elim (fun q => stb_mk hlen hfr (by omega) (fun j h1 h2 => q.2 j h1 (by omega))) (fun q => absurd q.1 (by omega))), rfl⟩) dX11_isIn_112
              · refine lv_aload_n F.1 F.2.1 dX11_isIn_76 rfl (lv_at hl 0 rfl) ?_
                refine ad_get F G fl_X11_39 0 rfl rfl dX11_isIn_77 ?_
                refine lv_iload F.1 F.2.1 dX11_isIn_80 (lv_at hl 4 rfl) ?_
                refine lv_iload F.1 F.2.1 dX11_isIn_82 (lv_at hl 6 rfl) ?_
                refine ad_iadd F dX11_isIn_84 ?_
                refine ad_iald F G 2 rfl (w := lat u (fr + k)) (by omega) (Tx_at hTu (by omega) (by omega)) dX11_isIn_85 ?_
                refine lv_aload_n F.1 F.2.1 dX11_isIn_86 rfl (lv_at hl 0 rfl) ?_
                refine lv_iload_n F.1 F.2.1 dX11_isIn_87 rfl (lv_at hl 1 rfl) ?_
                refine lv_iload_n F.1 F.2.1 dX11_isIn_88 rfl (lv_at hl 2 rfl) ?_
                refine lv_iload F.1 F.2.1 dX11_isIn_89 (lv_at hl 6 rfl) ?_
                refine ad_callV (As := [.int (iI z), .int (iI b), .int (iI k)]) (rest := [.int (iI (lat u (fr + k)))]) F G (c_X11_letterOf l D K z0 m0 M xth xrm xsv xln xat xer xwr xwd xlo xhi (u.length : Int) xml xkl xfi xse xdn xon xtw xol xrw xgl xus xpr xmk xab g rs ps md th nc z b k hM hW hz hb (by omega)) my_X11_letterOf mv_X11_189 (wr := [(M 17, aI (K 0) 2000 gwo)]) (isC := [0, 1]) (isR := [2]) ⟨rfl, rfl, rfl, rfl, by decide⟩ 11 0 rfl rfl rfl rfl ⟨Nat.le_of_ble_eq_true rfl, Nat.le_of_ble_eq_true rfl⟩ ⟨Nat.le_of_ble_eq_true rfl, Nat.le_of_ble_eq_true rfl⟩ (Nat.le_of_ble_eq_true rfl) hl.1 (cells9 := 0) (slots9 := 0) ⟨rfl, rfl⟩ dX11_isIn_91 (fun v u H locs hw_13 G => ?_)
                obtain ⟨rfl, rfl⟩ := hw_13
                replace G := G.perm (ws' := [(m0, mO M xth xrm xsv xln xat xer xwr xwd xlo xhi (u.length : Int) xml xkl xfi xse xdn xon xtw xol xrw xgl xus xpr xmk xab), (M 1, aI (K 0) 1247 g), (M 17, aI (K 0) 2000 gwo)]) [1, 2, 0] rfl rfl
                refine W.eq (g2 := F0 m9 94 ls [.int (iI (lat (fmo (rget rs z) b) k)), .int (iI (lat u (fr + k)))]) rfl ?_
                have hq1 := lat_fw (fmo_Fw hW z b) k
                have hq2 := lat_Lt hLu (fr + k)
                refine ad_icmp_ne (tgt := 101) F (by omega) dX11_isIn_94 (by decide) (fun cc_14 => ?_) (fun cc_14 => ?_)
                · refine ad_iconst F dX11_isIn_101 ?_
                  refine lv_istore (lv' := [(5, .int (iI 0)), (0, .ref m0), (1, .int (iI z)), (2, .int (iI b)), (3, .int (iI ((fmo (rget rs z) b).length : Int))), (4, .int (iI fr)), (6, .int (iI k))]) F.1 F.2.1 dX11_isIn_102 hl (by decide) rfl (fun ls hl => ?_)
                  refine ad_iinc (lv' := [(6, .int (iI (k + 1))), (5, .int (iI 0)), (0, .ref m0), (1, .int (iI z)), (2, .int (iI b)), (3, .int (iI ((fmo (rget rs z) b).length : Int))), (4, .int (iI fr))]) F dX11_isIn_104 hl (k := 6) rfl (by decide) rfl (fun ls hl => ?_)
                  refine lv_goto (tgt := 65) F.1 F.2.1 dX11_isIn_107 (by decide) ?_
                  exact ih65 0 (k + 1) fr _ _ _ (by omega) hlen hfr hf0 (Or.inr ⟨rfl, fun q => stb_no q hfr (by omega) (by omega) cc_14⟩) (by omega) (G.perm (ws' := [(m0, mO M xth xrm xsv xln xat xer xwr xwd xlo xhi (u.length : Int) xml xkl xfi xse xdn xon xtw xol xrw xgl xus xpr xmk xab), (M 1, aI (K 0) 1247 g), (M 17, aI (K 0) 2000 gwo)]) [0, 1, 2] rfl rfl) (lv_sub hl [2, 3, 4, 5, 6, 1, 0] rfl)
                · refine ad_iconst F dX11_isIn_97 ?_
                  refine lv_goto (tgt := 102) F.1 F.2.1 dX11_isIn_98 (by decide) ?_
                  refine lv_istore (lv' := [(5, .int (iI 1)), (0, .ref m0), (1, .int (iI z)), (2, .int (iI b)), (3, .int (iI ((fmo (rget rs z) b).length : Int))), (4, .int (iI fr)), (6, .int (iI k))]) F.1 F.2.1 dX11_isIn_102 hl (by decide) rfl (fun ls hl => ?_)
                  refine ad_iinc (lv' := [(6, .int (iI (k + 1))), (5, .int (iI 1)), (0, .ref m0), (1, .int (iI z)), (2, .int (iI b)), (3, .int (iI ((fmo (rget rs z) b).length : Int))), (4, .int (iI fr))]) F dX11_isIn_104 hl (k := 6) rfl (by decide) rfl (fun ls hl => ?_)
                  refine lv_goto (tgt := 65) F.1 F.2.1 dX11_isIn_107 (by decide) ?_
                  exact ih65 1 (k + 1) fr _ _ _ (by omega) hlen hfr hf0 (Or.inl ⟨rfl, fun j h1 h2 => (show j < k ∨ j = k by omega).elim (fun h => (hs.elim (fun q => q.2) (fun q => absurd q.1 (by omega))) j h1 h) (fun h => by rw [h]; exact cc_14)⟩) (by omega) (G.perm (ws' := [(m0, mO M xth xrm xsv xln xat xer xwr xwd xlo xhi (u.length : Int) xml xkl xfi xse xdn xon xtw xol xrw xgl xus xpr xmk xab), (M 1, aI (K 0) 1247 g), (M 17, aI (K 0) 2000 gwo)]) [0, 1, 2] rfl rfl) (lv_sub hl [2, 3, 4, 5, 6, 1, 0] rfl)
        exact lp65 (((((fmo (rget rs z) b).length - 0 : Int)) + 1).toNat) 1 0 ((u.length : Int) - ((fmo (rget rs z) b).length : Int)) _ _ _ (by omega) hlen hfr (by omega) (Or.inl ⟨rfl, fun j h1 h2 => by omega⟩) (by omega) (G.perm (ws' := [(m0, mO M xth xrm xsv xln xat xer xwr xwd xlo xhi (u.length : Int) xml xkl xfi xse xdn xon xtw xol xrw xgl xus xpr xmk xab), (M 1, aI (K 0) 1247 g), (M 17, aI (K 0) 2000 gwo)]) [0, 1, 2] rfl rfl) (lv_sub hl [4, 5, 6, 3, 2, 1, 0] rfl)
    · refine ad_iconst F dX11_isIn_35 ?_
      exact ad_zreturn F G hR rfl (Nat.le_of_ble_eq_true rfl) (Nat.le_of_ble_eq_true rfl) rfl (Or.inr (⟨rfl, (fun q => by have q2 := stb_len q; omega), rfl⟩)) dX11_isIn_36
  · refine lv_iload_n F.1 F.2.1 dX11_isIn_16 rfl (lv_at hl 0 rfl) ?_
    refine lv_aload_n F.1 F.2.1 dX11_isIn_17 rfl (lv_at hl 1 rfl) ?_
    refine ad_get F G fl_X11_233 0 rfl rfl dX11_isIn_18 ?_
    refine ad_icmp_eq (tgt := 37) F (by omega) dX11_isIn_21 (by decide) (fun cc_15 => ?_) (fun cc_15 => ?_)
    · refine lv_aload_n F.1 F.2.1 dX11_isIn_37 rfl (lv_at hl 1 rfl) ?_
      refine lv_iload_n F.1 F.2.1 dX11_isIn_38 rfl (lv_at hl 2 rfl) ?_
      refine ad_iconst F dX11_isIn_39 ?_
      refine ad_callV (As := [.int (iI z), .int (iI 0)]) (rest := []) F G (c_X11_of_0 l D K z0 m0 M xth xrm xsv xln xat xer xwr xwd xlo xhi (u.length : Int) xml xkl xfi xse xdn xon xtw xol xrw xgl xus xpr xmk xab g rs ps md th nc z hM hW hz) my_X11_of mv_X11_99 (wr := [(M 17, aI (K 0) 2000 gwo)]) (isC := [0, 1]) (isR := [2]) ⟨rfl, rfl, rfl, rfl, by decide⟩ 11 0 rfl rfl rfl rfl ⟨Nat.le_of_ble_eq_true rfl, Nat.le_of_ble_eq_true rfl⟩ ⟨Nat.le_of_ble_eq_true rfl, Nat.le_of_ble_eq_true rfl⟩ (Nat.le_of_ble_eq_true rfl) hl.1 (cells9 := 0) (slots9 := 0) ⟨rfl, rfl⟩ dX11_isIn_40 (fun v u H locs hw_16 G => ?_)
      obtain ⟨rfl, rfl⟩ := hw_16
      replace G := G.perm (ws' := [(m0, mO M xth xrm xsv xln xat xer xwr xwd xlo xhi (u.length : Int) xml xkl xfi xse xdn xon xtw xol xrw xgl xus xpr xmk xab), (M 1, aI (K 0) 1247 g), (M 17, aI (K 0) 2000 gwo)]) [1, 2, 0] rfl rfl
      refine W.eq (g2 := F0 m9 43 ls [.int (iI ((rget rs z).1))]) rfl ?_
      refine ad_iconst F dX11_isIn_43 ?_
      refine ad_icmp_ne (tgt := 56) F (by omega) dX11_isIn_44 (by decide) (fun cc_17 => ?_) (fun cc_17 => ?_)
      · refine ad_iconst F dX11_isIn_56 ?_
        refine lv_istore (lv' := [(4, .int (iI 0)), (3, .int (iI ((fmo (rget rs z) b).length : Int))), (0, .ref m0), (1, .int (iI z)), (2, .int (iI b))]) F.1 F.2.1 dX11_isIn_57 hl (by decide) rfl (fun ls hl => ?_)
        have hlen : (if (rget rs z).1 = 0 then (u.length : Int) = (fmo (rget rs z) b).length else ((fmo (rget rs z) b).length : Int) < u.length) := by split <;> omega
        have hfr : 0 = st0 (fmo (rget rs z) b) u (rget rs z).1 := by unfold st0; split <;> omega
        refine ad_iconst F dX11_isIn_59 ?_
        refine lv_istore (lv' := [(5, .int (iI 1)), (4, .int (iI 0)), (3, .int (iI ((fmo (rget rs z) b).length : Int))), (0, .ref m0), (1, .int (iI z)), (2, .int (iI b))]) F.1 F.2.1 dX11_isIn_60 hl (by decide) rfl (fun ls hl => ?_)
        refine ad_iconst F dX11_isIn_62 ?_
        refine lv_istore (lv' := [(6, .int (iI 0)), (5, .int (iI 1)), (4, .int (iI 0)), (3, .int (iI ((fmo (rget rs z) b).length : Int))), (0, .ref m0), (1, .int (iI z)), (2, .int (iI b))]) F.1 F.2.1 dX11_isIn_63 hl (by decide) rfl (fun ls hl => ?_)
        have lp65 : ∀ (n65 : Nat) (sm : Int) (k : Int) (fr : Int) (H : Heap) (locs : List Loc) (ls : Array Slot), (0 ≤ k ∧ k ≤ (fmo (rget rs z) b).length) → ((if (rget rs z).1 = 0 then (u.length : Int) = (fmo (rget rs z) b).length else ((fmo (rget rs z) b).length : Int) < u.length)) → (fr = st0 (fmo (rget rs z) b) u (rget rs z).1) → (0 ≤ fr ∧ fr + (fmo (rget rs z) b).length ≤ u.length) → ((sm = 1 ∧ ∀ j : Int, 0 ≤ j → j < k → lat u (fr + j) = lat (fmo (rget rs z) b) j) ∨ (sm = 0 ∧ ¬ stb (fmo (rget rs z) b) u (rget rs z).1 = true)) → ((fmo (rget rs z) b).length - k) < (n65 : Int) → ad_G D A9 s9.heap H locs [(m0, mO M xth xrm xsv xln xat xer xwr xwd xlo xhi (u.length : Int) xml xkl xfi xse xdn xon xtw xol xrw xgl xus xpr xmk xab), (M 1, aI (K 0) 1247 g), (M 17, aI (K 0) 2000 gwo)] → lv_has ls 7 [(0, .ref m0), (1, .int (iI z)), (2, .int (iI b)), (3, .int (iI ((fmo (rget rs z) b).length : Int))), (4, .int (iI fr)), (5, .int (iI sm)), (6, .int (iI k))] → W p9 l e9 rm_X11_isIn s9 m9 ag9 bl9 mt9 c9 H locs 0 0 Q9 (F0 m9 65 ls []) := by
          intro n65
          induction n65 with
          | zero =>
            intro sm k fr H locs ls hk hlen hfr hf0 hs hm65
            exact absurd hm65 (by omega)
          | succ n65 ih65 =>
            intro sm k fr H locs ls hk hlen hfr hf0 hs hm65 G hl
            have hsm : sm = 0 ∨ sm = 1 := hs.elim (fun q => Or.inr q.1) (fun q => Or.inl q.1)
            refine lv_iload F.1 F.2.1 dX11_isIn_65 (lv_at hl 5 rfl) ?_
            refine ad_if_eq (tgt := 110) F (by omega) dX11_isIn_67 (by decide) (fun cc_18 => ?_) (fun cc_18 => ?_)
            · refine lv_iload F.1 F.2.1 dX11_isIn_110 (lv_at hl 5 rfl) ?_
              exact ad_zreturn F G hR rfl (Nat.le_of_ble_eq_true rfl) (Nat.le_of_ble_eq_true rfl) (iI_boolN (by omega)).1 (Or.inr (⟨(ad_eqi (by omega)), (hs.elim (fun q => absurd q.1 (by omega)) (fun q => q.2)), rfl⟩)) dX11_isIn_112
            · refine lv_iload F.1 F.2.1 dX11_isIn_70 (lv_at hl 6 rfl) ?_
              refine lv_iload_n F.1 F.2.1 dX11_isIn_72 rfl (lv_at hl 3 rfl) ?_
              refine ad_icmp_ge (tgt := 110) F (by omega) dX11_isIn_73 (by decide) (fun cc_19 => ?_) (fun cc_19 => ?_)
              · refine lv_iload F.1 F.2.1 dX11_isIn_110 (lv_at hl 5 rfl) ?_
                exact ad_zreturn F G hR rfl (Nat.le_of_ble_eq_true rfl) (Nat.le_of_ble_eq_true rfl) (iI_boolN (by omega)).1 (Or.inl ⟨(ad_eqi (by omega)), (hs.elim (fun q => stb_mk hlen hfr (by omega) (fun j h1 h2 => q.2 j h1 (by omega))) (fun q => absurd q.1 (by omega))), rfl⟩) dX11_isIn_112
              · refine lv_aload_n F.1 F.2.1 dX11_isIn_76 rfl (lv_at hl 0 rfl) ?_
                refine ad_get F G fl_X11_39 0 rfl rfl dX11_isIn_77 ?_
                refine lv_iload F.1 F.2.1 dX11_isIn_80 (lv_at hl 4 rfl) ?_
                refine lv_iload F.1 F.2.1 dX11_isIn_82 (lv_at hl 6 rfl) ?_
                refine ad_iadd F dX11_isIn_84 ?_
                refine ad_iald F G 2 rfl (w := lat u (fr + k)) (by omega) (Tx_at hTu (by omega) (by omega)) dX11_isIn_85 ?_
                refine lv_aload_n F.1 F.2.1 dX11_isIn_86 rfl (lv_at hl 0 rfl) ?_
                refine lv_iload_n F.1 F.2.1 dX11_isIn_87 rfl (lv_at hl 1 rfl) ?_
                refine lv_iload_n F.1 F.2.1 dX11_isIn_88 rfl (lv_at hl 2 rfl) ?_
                refine lv_iload F.1 F.2.1 dX11_isIn_89 (lv_at hl 6 rfl) ?_
                refine ad_callV (As := [.int (iI z), .int (iI b), .int (iI k)]) (rest := [.int (iI (lat u (fr + k)))]) F G (c_X11_letterOf l D K z0 m0 M xth xrm xsv xln xat xer xwr xwd xlo xhi (u.length : Int) xml xkl xfi xse xdn xon xtw xol xrw xgl xus xpr xmk xab g rs ps md th nc z b k hM hW hz hb (by omega)) my_X11_letterOf mv_X11_189 (wr := [(M 17, aI (K 0) 2000 gwo)]) (isC := [0, 1]) (isR := [2]) ⟨rfl, rfl, rfl, rfl, by decide⟩ 11 0 rfl rfl rfl rfl ⟨Nat.le_of_ble_eq_true rfl, Nat.le_of_ble_eq_true rfl⟩ ⟨Nat.le_of_ble_eq_true rfl, Nat.le_of_ble_eq_true rfl⟩ (Nat.le_of_ble_eq_true rfl) hl.1 (cells9 := 0) (slots9 := 0) ⟨rfl, rfl⟩ dX11_isIn_91 (fun v u H locs hw_20 G => ?_)
                obtain ⟨rfl, rfl⟩ := hw_20
                replace G := G.perm (ws' := [(m0, mO M xth xrm xsv xln xat xer xwr xwd xlo xhi (u.length : Int) xml xkl xfi xse xdn xon xtw xol xrw xgl xus xpr xmk xab), (M 1, aI (K 0) 1247 g), (M 17, aI (K 0) 2000 gwo)]) [1, 2, 0] rfl rfl
                refine W.eq (g2 := F0 m9 94 ls [.int (iI (lat (fmo (rget rs z) b) k)), .int (iI (lat u (fr + k)))]) rfl ?_
                have hq1 := lat_fw (fmo_Fw hW z b) k
                have hq2 := lat_Lt hLu (fr + k)
                refine ad_icmp_ne (tgt := 101) F (by omega) dX11_isIn_94 (by decide) (fun cc_21 => ?_) (fun cc_21 => ?_)
                · refine ad_iconst F dX11_isIn_101 ?_
                  refine lv_istore (lv' := [(5, .int (iI 0)), (0, .ref m0), (1, .int (iI z)), (2, .int (iI b)), (3, .int (iI ((fmo (rget rs z) b).length : Int))), (4, .int (iI fr)), (6, .int (iI k))]) F.1 F.2.1 dX11_isIn_102 hl (by decide) rfl (fun ls hl => ?_)
                  refine ad_iinc (lv' := [(6, .int (iI (k + 1))), (5, .int (iI 0)), (0, .ref m0), (1, .int (iI z)), (2, .int (iI b)), (3, .int (iI ((fmo (rget rs z) b).length : Int))), (4, .int (iI fr))]) F dX11_isIn_104 hl (k := 6) rfl (by decide) rfl (fun ls hl => ?_)
                  refine lv_goto (tgt := 65) F.1 F.2.1 dX11_isIn_107 (by decide) ?_
                  exact ih65 0 (k + 1) fr _ _ _ (by omega) hlen hfr hf0 (Or.inr ⟨rfl, fun q => stb_no q hfr (by omega) (by omega) cc_21⟩) (by omega) (G.perm (ws' := [(m0, mO M xth xrm xsv xln xat xer xwr xwd xlo xhi (u.length : Int) xml xkl xfi xse xdn xon xtw xol xrw xgl xus xpr xmk xab), (M 1, aI (K 0) 1247 g), (M 17, aI (K 0) 2000 gwo)]) [0, 1, 2] rfl rfl) (lv_sub hl [2, 3, 4, 5, 6, 1, 0] rfl)
                · refine ad_iconst F dX11_isIn_97 ?_
                  refine lv_goto (tgt := 102) F.1 F.2.1 dX11_isIn_98 (by decide) ?_
                  refine lv_istore (lv' := [(5, .int (iI 1)), (0, .ref m0), (1, .int (iI z)), (2, .int (iI b)), (3, .int (iI ((fmo (rget rs z) b).length : Int))), (4, .int (iI fr)), (6, .int (iI k))]) F.1 F.2.1 dX11_isIn_102 hl (by decide) rfl (fun ls hl => ?_)
                  refine ad_iinc (lv' := [(6, .int (iI (k + 1))), (5, .int (iI 1)), (0, .ref m0), (1, .int (iI z)), (2, .int (iI b)), (3, .int (iI ((fmo (rget rs z) b).length : Int))), (4, .int (iI fr))]) F dX11_isIn_104 hl (k := 6) rfl (by decide) rfl (fun ls hl => ?_)
                  refine lv_goto (tgt := 65) F.1 F.2.1 dX11_isIn_107 (by decide) ?_
                  exact ih65 1 (k + 1) fr _ _ _ (by omega) hlen hfr hf0 (Or.inl ⟨rfl, fun j h1 h2 => (show j < k ∨ j = k by omega).elim (fun h => (hs.elim (fun q => q.2) (fun q => absurd q.1 (by omega))) j h1 h) (fun h => by rw [h]; exact cc_21)⟩) (by omega) (G.perm (ws' := [(m0, mO M xth xrm xsv xln xat xer xwr xwd xlo xhi (u.length : Int) xml xkl xfi xse xdn xon xtw xol xrw xgl xus xpr xmk xab), (M 1, aI (K 0) 1247 g), (M 17, aI (K 0) 2000 gwo)]) [0, 1, 2] rfl rfl) (lv_sub hl [2, 3, 4, 5, 6, 1, 0] rfl)
        exact lp65 (((((fmo (rget rs z) b).length - 0 : Int)) + 1).toNat) 1 0 0 _ _ _ (by omega) hlen hfr (by omega) (Or.inl ⟨rfl, fun j h1 h2 => by omega⟩) (by omega) (G.perm (ws' := [(m0, mO M xth xrm xsv xln xat xer xwr xwd xlo xhi (u.length : Int) xml xkl xfi xse xdn xon xtw xol xrw xgl xus xpr xmk xab), (M 1, aI (K 0) 1247 g), (M 17, aI (K 0) 2000 gwo)]) [0, 1, 2] rfl rfl) (lv_sub hl [4, 5, 6, 3, 2, 1, 0] rfl)
      · refine lv_aload_n F.1 F.2.1 dX11_isIn_47 rfl (lv_at hl 1 rfl) ?_
        refine ad_get F G fl_X11_233 0 rfl rfl dX11_isIn_48 ?_
        refine lv_iload_n F.1 F.2.1 dX11_isIn_51 rfl (lv_at hl 0 rfl) ?_
        refine ad_isub F dX11_isIn_52 ?_
        refine lv_goto (tgt := 57) F.1 F.2.1 dX11_isIn_53 (by decide) ?_
        refine lv_istore (lv' := [(4, .int (iI ((u.length : Int) - ((fmo (rget rs z) b).length : Int)))), (3, .int (iI ((fmo (rget rs z) b).length : Int))), (0, .ref m0), (1, .int (iI z)), (2, .int (iI b))]) F.1 F.2.1 dX11_isIn_57 hl (by decide) rfl (fun ls hl => ?_)
        have hlen : (if (rget rs z).1 = 0 then (u.length : Int) = (fmo (rget rs z) b).length else ((fmo (rget rs z) b).length : Int) < u.length) := by split <;> omega
        have hfr : (u.length : Int) - ((fmo (rget rs z) b).length : Int) = st0 (fmo (rget rs z) b) u (rget rs z).1 := by unfold st0; split <;> omega
        refine ad_iconst F dX11_isIn_59 ?_
        refine lv_istore (lv' := [(5, .int (iI 1)), (4, .int (iI ((u.length : Int) - ((fmo (rget rs z) b).length : Int)))), (3, .int (iI ((fmo (rget rs z) b).length : Int))), (0, .ref m0), (1, .int (iI z)), (2, .int (iI b))]) F.1 F.2.1 dX11_isIn_60 hl (by decide) rfl (fun ls hl => ?_)
        refine ad_iconst F dX11_isIn_62 ?_
        refine lv_istore (lv' := [(6, .int (iI 0)), (5, .int (iI 1)), (4, .int (iI ((u.length : Int) - ((fmo (rget rs z) b).length : Int)))), (3, .int (iI ((fmo (rget rs z) b).length : Int))), (0, .ref m0), (1, .int (iI z)), (2, .int (iI b))]) F.1 F.2.1 dX11_isIn_63 hl (by decide) rfl (fun ls hl => ?_)
        have lp65 : ∀ (n65 : Nat) (sm : Int) (k : Int) (fr : Int) (H : Heap) (locs : List Loc) (ls : Array Slot), (0 ≤ k ∧ k ≤ (fmo (rget rs z) b).length) → ((if (rget rs z).1 = 0 then (u.length : Int) = (fmo (rget rs z) b).length else ((fmo (rget rs z) b).length : Int) < u.length)) → (fr = st0 (fmo (rget rs z) b) u (rget rs z).1) → (0 ≤ fr ∧ fr + (fmo (rget rs z) b).length ≤ u.length) → ((sm = 1 ∧ ∀ j : Int, 0 ≤ j → j < k → lat u (fr + j) = lat (fmo (rget rs z) b) j) ∨ (sm = 0 ∧ ¬ stb (fmo (rget rs z) b) u (rget rs z).1 = true)) → ((fmo (rget rs z) b).length - k) < (n65 : Int) → ad_G D A9 s9.heap H locs [(m0, mO M xth xrm xsv xln xat xer xwr xwd xlo xhi (u.length : Int) xml xkl xfi xse xdn xon xtw xol xrw xgl xus xpr xmk xab), (M 1, aI (K 0) 1247 g), (M 17, aI (K 0) 2000 gwo)] → lv_has ls 7 [(0, .ref m0), (1, .int (iI z)), (2, .int (iI b)), (3, .int (iI ((fmo (rget rs z) b).length : Int))), (4, .int (iI fr)), (5, .int (iI sm)), (6, .int (iI k))] → W p9 l e9 rm_X11_isIn s9 m9 ag9 bl9 mt9 c9 H locs 0 0 Q9 (F0 m9 65 ls []) := by
          intro n65
          induction n65 with
          | zero =>
            intro sm k fr H locs ls hk hlen hfr hf0 hs hm65
            exact absurd hm65 (by omega)
          | succ n65 ih65 =>
            intro sm k fr H locs ls hk hlen hfr hf0 hs hm65 G hl
            have hsm : sm = 0 ∨ sm = 1 := hs.elim (fun q => Or.inr q.1) (fun q => Or.inl q.1)
            refine lv_iload F.1 F.2.1 dX11_isIn_65 (lv_at hl 5 rfl) ?_
            refine ad_if_eq (tgt := 110) F (by omega) dX11_isIn_67 (by decide) (fun cc_22 => ?_) (fun cc_22 => ?_)
            · refine lv_iload F.1 F.2.1 dX11_isIn_110 (lv_at hl 5 rfl) ?_
              exact ad_zreturn F G hR rfl (Nat.le_of_ble_eq_true rfl) (Nat.le_of_ble_eq_true rfl) (iI_boolN (by omega)).1 (Or.inr (⟨(ad_eqi (by omega)), (hs.elim (fun q => absurd q.1 (by omega)) (fun q => q.2)), rfl⟩)) dX11_isIn_112
            · refine lv_iload F.1 F.2.1 dX11_isIn_70 (lv_at hl 6 rfl) ?_
              refine lv_iload_n F.1 F.2.1 dX11_isIn_72 rfl (lv_at hl 3 rfl) ?_
              refine ad_icmp_ge (tgt := 110) F (by omega) dX11_isIn_73 (by decide) (fun cc_23 => ?_) (fun cc_23 => ?_)
              · refine lv_iload F.1 F.2.1 dX11_isIn_110 (lv_at hl 5 rfl) ?_
                exact ad_zreturn F G hR rfl (Nat.le_of_ble_eq_true rfl) (Nat.le_of_ble_eq_true rfl) (iI_boolN (by omega)).1 (Or.inl ⟨(ad_eqi (by omega)), (hs.elim (fun q => stb_mk hlen hfr (by omega) (fun j h1 h2 => q.2 j h1 (by omega))) (fun q => absurd q.1 (by omega))), rfl⟩) dX11_isIn_112
              · refine lv_aload_n F.1 F.2.1 dX11_isIn_76 rfl (lv_at hl 0 rfl) ?_
                refine ad_get F G fl_X11_39 0 rfl rfl dX11_isIn_77 ?_
                refine lv_iload F.1 F.2.1 dX11_isIn_80 (lv_at hl 4 rfl) ?_
                refine lv_iload F.1 F.2.1 dX11_isIn_82 (lv_at hl 6 rfl) ?_
                refine ad_iadd F dX11_isIn_84 ?_
                refine ad_iald F G 2 rfl (w := lat u (fr + k)) (by omega) (Tx_at hTu (by omega) (by omega)) dX11_isIn_85 ?_
                refine lv_aload_n F.1 F.2.1 dX11_isIn_86 rfl (lv_at hl 0 rfl) ?_
                refine lv_iload_n F.1 F.2.1 dX11_isIn_87 rfl (lv_at hl 1 rfl) ?_
                refine lv_iload_n F.1 F.2.1 dX11_isIn_88 rfl (lv_at hl 2 rfl) ?_
                refine lv_iload F.1 F.2.1 dX11_isIn_89 (lv_at hl 6 rfl) ?_
                refine ad_callV (As := [.int (iI z), .int (iI b), .int (iI k)]) (rest := [.int (iI (lat u (fr + k)))]) F G (c_X11_letterOf l D K z0 m0 M xth xrm xsv xln xat xer xwr xwd xlo xhi (u.length : Int) xml xkl xfi xse xdn xon xtw xol xrw xgl xus xpr xmk xab g rs ps md th nc z b k hM hW hz hb (by omega)) my_X11_letterOf mv_X11_189 (wr := [(M 17, aI (K 0) 2000 gwo)]) (isC := [0, 1]) (isR := [2]) ⟨rfl, rfl, rfl, rfl, by decide⟩ 11 0 rfl rfl rfl rfl ⟨Nat.le_of_ble_eq_true rfl, Nat.le_of_ble_eq_true rfl⟩ ⟨Nat.le_of_ble_eq_true rfl, Nat.le_of_ble_eq_true rfl⟩ (Nat.le_of_ble_eq_true rfl) hl.1 (cells9 := 0) (slots9 := 0) ⟨rfl, rfl⟩ dX11_isIn_91 (fun v u H locs hw_24 G => ?_)
                obtain ⟨rfl, rfl⟩ := hw_24
                replace G := G.perm (ws' := [(m0, mO M xth xrm xsv xln xat xer xwr xwd xlo xhi (u.length : Int) xml xkl xfi xse xdn xon xtw xol xrw xgl xus xpr xmk xab), (M 1, aI (K 0) 1247 g), (M 17, aI (K 0) 2000 gwo)]) [1, 2, 0] rfl rfl
                refine W.eq (g2 := F0 m9 94 ls [.int (iI (lat (fmo (rget rs z) b) k)), .int (iI (lat u (fr + k)))]) rfl ?_
                have hq1 := lat_fw (fmo_Fw hW z b) k
                have hq2 := lat_Lt hLu (fr + k)
                refine ad_icmp_ne (tgt := 101) F (by omega) dX11_isIn_94 (by decide) (fun cc_25 => ?_) (fun cc_25 => ?_)
                · refine ad_iconst F dX11_isIn_101 ?_
                  refine lv_istore (lv' := [(5, .int (iI 0)), (0, .ref m0), (1, .int (iI z)), (2, .int (iI b)), (3, .int (iI ((fmo (rget rs z) b).length : Int))), (4, .int (iI fr)), (6, .int (iI k))]) F.1 F.2.1 dX11_isIn_102 hl (by decide) rfl (fun ls hl => ?_)
                  refine ad_iinc (lv' := [(6, .int (iI (k + 1))), (5, .int (iI 0)), (0, .ref m0), (1, .int (iI z)), (2, .int (iI b)), (3, .int (iI ((fmo (rget rs z) b).length : Int))), (4, .int (iI fr))]) F dX11_isIn_104 hl (k := 6) rfl (by decide) rfl (fun ls hl => ?_)
                  refine lv_goto (tgt := 65) F.1 F.2.1 dX11_isIn_107 (by decide) ?_
                  exact ih65 0 (k + 1) fr _ _ _ (by omega) hlen hfr hf0 (Or.inr ⟨rfl, fun q => stb_no q hfr (by omega) (by omega) cc_25⟩) (by omega) (G.perm (ws' := [(m0, mO M xth xrm xsv xln xat xer xwr xwd xlo xhi (u.length : Int) xml xkl xfi xse xdn xon xtw xol xrw xgl xus xpr xmk xab), (M 1, aI (K 0) 1247 g), (M 17, aI (K 0) 2000 gwo)]) [0, 1, 2] rfl rfl) (lv_sub hl [2, 3, 4, 5, 6, 1, 0] rfl)
                · refine ad_iconst F dX11_isIn_97 ?_
                  refine lv_goto (tgt := 102) F.1 F.2.1 dX11_isIn_98 (by decide) ?_
                  refine lv_istore (lv' := [(5, .int (iI 1)), (0, .ref m0), (1, .int (iI z)), (2, .int (iI b)), (3, .int (iI ((fmo (rget rs z) b).length : Int))), (4, .int (iI fr)), (6, .int (iI k))]) F.1 F.2.1 dX11_isIn_102 hl (by decide) rfl (fun ls hl => ?_)
                  refine ad_iinc (lv' := [(6, .int (iI (k + 1))), (5, .int (iI 1)), (0, .ref m0), (1, .int (iI z)), (2, .int (iI b)), (3, .int (iI ((fmo (rget rs z) b).length : Int))), (4, .int (iI fr))]) F dX11_isIn_104 hl (k := 6) rfl (by decide) rfl (fun ls hl => ?_)
                  refine lv_goto (tgt := 65) F.1 F.2.1 dX11_isIn_107 (by decide) ?_
                  exact ih65 1 (k + 1) fr _ _ _ (by omega) hlen hfr hf0 (Or.inl ⟨rfl, fun j h1 h2 => (show j < k ∨ j = k by omega).elim (fun h => (hs.elim (fun q => q.2) (fun q => absurd q.1 (by omega))) j h1 h) (fun h => by rw [h]; exact cc_25)⟩) (by omega) (G.perm (ws' := [(m0, mO M xth xrm xsv xln xat xer xwr xwd xlo xhi (u.length : Int) xml xkl xfi xse xdn xon xtw xol xrw xgl xus xpr xmk xab), (M 1, aI (K 0) 1247 g), (M 17, aI (K 0) 2000 gwo)]) [0, 1, 2] rfl rfl) (lv_sub hl [2, 3, 4, 5, 6, 1, 0] rfl)
        exact lp65 (((((fmo (rget rs z) b).length - 0 : Int)) + 1).toNat) 1 0 ((u.length : Int) - ((fmo (rget rs z) b).length : Int)) _ _ _ (by omega) hlen hfr (by omega) (Or.inl ⟨rfl, fun j h1 h2 => by omega⟩) (by omega) (G.perm (ws' := [(m0, mO M xth xrm xsv xln xat xer xwr xwd xlo xhi (u.length : Int) xml xkl xfi xse xdn xon xtw xol xrw xgl xus xpr xmk xab), (M 1, aI (K 0) 1247 g), (M 17, aI (K 0) 2000 gwo)]) [0, 1, 2] rfl rfl) (lv_sub hl [4, 5, 6, 3, 2, 1, 0] rfl)
    · refine lv_goto (tgt := 35) F.1 F.2.1 dX11_isIn_24 (by decide) ?_
      refine ad_iconst F dX11_isIn_35 ?_
      exact ad_zreturn F G hR rfl (Nat.le_of_ble_eq_true rfl) (Nat.le_of_ble_eq_true rfl) rfl (Or.inr (⟨rfl, (fun q => by have q2 := stb_len q; omega), rfl⟩)) dX11_isIn_36

def rm_X11_bestRule : Room := { frames := 4, cells := 0, slots := 0, locals := 83 }
set_option maxHeartbeats 4000000 in
set_option maxRecDepth 100000 in
theorem c_X11_bestRule (l : Launch) (D : va_G) (K : Nat → ClassId) (z0 : Nat) (m0 : Nat) (M : Nat → Nat) (xth : Int) (xrm : Int) (xsv : Int) (xln : Int) (xat : Int) (xer : Int) (xwr : Int) (xwd : Int) (xlo : Int) (xhi : Int) (xml : Int) (xkl : Int) (xfi : Int) (xse : Int) (xdn : Int) (xon : Int) (xtw : Int) (xol : Int) (xrw : Int) (xgl : Int) (xus : Int) (xpr : Int) (xmk : Int) (xab : Int) (g : Nat → Int) (gwo : Nat → Int) (rs : List Rl) (ps : List Pr) (md : Int) (th : Int) (nc : Int) (u : List Int) (kd : Int) (pl : Int) (b : Int) (hM : MRow g rs ps md th nc) (hW : RW rs) (hTu : Tx gwo u) (hLu : Lt u) (hu : 1 ≤ u.length ∧ u.length ≤ 100) (hkd : 0 ≤ kd ∧ kd ≤ 2) (hpl : 0 ≤ pl ∧ pl ≤ 2) (hb : b = 0 ∨ b = 1) : CT l D K z0 yX11_bestRule cX11_bestRule 7 (some .int) rm_X11_bestRule [.ref m0, .int (iI kd), .int (iI pl), .int (iI b)] [(m0, mO M xth xrm xsv xln xat xer xwr xwd xlo xhi (u.length : Int) xml xkl xfi xse xdn xon xtw xol xrw xgl xus xpr xmk xab), (M 1, aI (K 0) 1247 g), (M 17, aI (K 0) 2000 gwo)] (fun v9 u9 => v9 = some (.int (iI (bR rs u pl kd b))) ∧ u9 = [(m0, mO M xth xrm xsv xln xat xer xwr xwd xlo xhi (u.length : Int) xml xkl xfi xse xdn xon xtw xol xrw xgl xus xpr xmk xab), (M 1, aI (K 0) 1247 g), (M 17, aI (K 0) 2000 gwo)]) := by
  refine CT.start RX11 "bestRule" (by decide) rfl rfl (Nat.le_of_ble_eq_true rfl) ?_
  intro p9 e9 s9 m9 ag9 bl9 mt9 c9 A9 Q9 ls F G hR hl
  have hl : lv_has ls 7 [(0, .ref m0), (1, .int (iI kd)), (2, .int (iI pl)), (3, .int (iI b))] := hl
  have hn := hW.1
  refine ad_iconst F dX11_bestRule_0 ?_
  refine lv_istore (lv' := [(4, .int (iI (-1))), (0, .ref m0), (1, .int (iI kd)), (2, .int (iI pl)), (3, .int (iI b))]) F.1 F.2.1 dX11_bestRule_1 hl (by decide) rfl (fun ls hl => ?_)
  refine ad_iconst F dX11_bestRule_3 ?_
  refine lv_istore (lv' := [(5, .int (iI 0)), (4, .int (iI (-1))), (0, .ref m0), (1, .int (iI kd)), (2, .int (iI pl)), (3, .int (iI b))]) F.1 F.2.1 dX11_bestRule_4 hl (by decide) rfl (fun ls hl => ?_)
  have lp6 : ∀ (n6 : Nat) (bs : Int) (i : Int) (H : Heap) (locs : List Loc) (ls : Array Slot), (0 ≤ i ∧ i ≤ rs.length) → (bs = bst rs (cnd rs u pl kd b) i.toNat) → (rs.length - i) < (n6 : Int) → ad_G D A9 s9.heap H locs [(m0, mO M xth xrm xsv xln xat xer xwr xwd xlo xhi (u.length : Int) xml xkl xfi xse xdn xon xtw xol xrw xgl xus xpr xmk xab), (M 1, aI (K 0) 1247 g), (M 17, aI (K 0) 2000 gwo)] → lv_has ls 7 [(0, .ref m0), (1, .int (iI kd)), (2, .int (iI pl)), (3, .int (iI b)), (4, .int (iI bs)), (5, .int (iI i))] → W p9 l e9 rm_X11_bestRule s9 m9 ag9 bl9 mt9 c9 H locs 0 0 Q9 (F0 m9 6 ls []) := by
    intro n6
    induction n6 with
    | zero =>
      intro bs i H locs ls hi hb1 hm6
      exact absurd hm6 (by omega)
    | succ n6 ih6 =>
      intro bs i H locs ls hi hb1 hm6 G hl
      have hbb := bst_b rs (cnd rs u pl kd b) i.toNat
      refine lv_iload F.1 F.2.1 dX11_bestRule_6 (lv_at hl 5 rfl) ?_
      refine lv_aload_n F.1 F.2.1 dX11_bestRule_8 rfl (lv_at hl 0 rfl) ?_
      refine ad_get F G fl_X11_9 0 rfl rfl dX11_bestRule_9 ?_
      refine ad_iconst F dX11_bestRule_12 ?_
      refine ad_iald F G 1 rfl (w := (rs.length : Int)) (by omega) (hM.1.1) dX11_bestRule_13 ?_
      refine ad_icmp_ge (tgt := 95) F (by omega) dX11_bestRule_14 (by decide) (fun cc_1 => ?_) (fun cc_1 => ?_)
      · refine lv_iload F.1 F.2.1 dX11_bestRule_95 (lv_at hl 4 rfl) ?_
        exact ad_ireturn F G hR rfl (Nat.le_of_ble_eq_true rfl) (Nat.le_of_ble_eq_true rfl) ⟨(ad_eqi (by rw [hb1, show i = rs.length by omega]; rfl)), rfl⟩ dX11_bestRule_97
      · refine lv_aload_n F.1 F.2.1 dX11_bestRule_17 rfl (lv_at hl 0 rfl) ?_
        refine lv_iload F.1 F.2.1 dX11_bestRule_18 (lv_at hl 5 rfl) ?_
        refine ad_iconst F dX11_bestRule_20 ?_
        refine ad_callV (As := [.int (iI i), .int (iI 0)]) (rest := []) F G (c_X11_of_0 l D K z0 m0 M xth xrm xsv xln xat xer xwr xwd xlo xhi (u.length : Int) xml xkl xfi xse xdn xon xtw xol xrw xgl xus xpr xmk xab g rs ps md th nc i hM hW (by omega)) my_X11_of mv_X11_99 (wr := [(M 17, aI (K 0) 2000 gwo)]) (isC := [0, 1]) (isR := [2]) ⟨rfl, rfl, rfl, rfl, by decide⟩ 11 0 rfl rfl rfl rfl ⟨Nat.le_of_ble_eq_true rfl, Nat.le_of_ble_eq_true rfl⟩ ⟨Nat.le_of_ble_eq_true rfl, Nat.le_of_ble_eq_true rfl⟩ (Nat.le_of_ble_eq_true rfl) hl.1 (cells9 := 0) (slots9 := 0) ⟨rfl, rfl⟩ dX11_bestRule_21 (fun v u H locs hw_2 G => ?_)
        obtain ⟨rfl, rfl⟩ := hw_2
        replace G := G.perm (ws' := [(m0, mO M xth xrm xsv xln xat xer xwr xwd xlo xhi (u.length : Int) xml xkl xfi xse xdn xon xtw xol xrw xgl xus xpr xmk xab), (M 1, aI (K 0) 1247 g), (M 17, aI (K 0) 2000 gwo)]) [1, 2, 0] rfl rfl
        refine W.eq (g2 := F0 m9 24 ls [.int (iI ((rget rs i).1))]) rfl ?_
        have hk1 := hW.bd (z := i) (by omega) (by omega)
        refine lv_iload_n F.1 F.2.1 dX11_bestRule_24 rfl (lv_at hl 1 rfl) ?_
        refine ad_icmp_ne (tgt := 56) F (by omega) dX11_bestRule_25 (by decide) (fun cc_3 => ?_) (fun cc_3 => ?_)
        · refine ad_iconst F dX11_bestRule_56 ?_
          refine lv_istore (lv' := [(6, .int (iI 0)), (0, .ref m0), (1, .int (iI kd)), (2, .int (iI pl)), (3, .int (iI b)), (4, .int (iI bs)), (5, .int (iI i))]) F.1 F.2.1 dX11_bestRule_57 hl (by decide) rfl (fun ls hl => ?_)
          refine lv_iload F.1 F.2.1 dX11_bestRule_59 (lv_at hl 0 rfl) ?_
          refine ad_if_eq (tgt := 85) F (by decide) dX11_bestRule_61 (by decide) (fun _ => ?_) (fun cc_4 => absurd cc_4 (by decide))
          refine lv_iload F.1 F.2.1 dX11_bestRule_85 (lv_at hl 5 rfl) ?_
          refine lv_istore (lv' := [(4, .int (iI bs)), (6, .int (iI 0)), (0, .ref m0), (1, .int (iI kd)), (2, .int (iI pl)), (3, .int (iI b)), (5, .int (iI i))]) F.1 F.2.1 dX11_bestRule_87 hl (by decide) rfl (fun ls hl => ?_)
          refine ad_iinc (lv' := [(5, .int (iI (i + 1))), (4, .int (iI bs)), (6, .int (iI 0)), (0, .ref m0), (1, .int (iI kd)), (2, .int (iI pl)), (3, .int (iI b))]) F dX11_bestRule_89 hl (k := 6) rfl (by decide) rfl (fun ls hl => ?_)
          refine lv_goto (tgt := 6) F.1 F.2.1 dX11_bestRule_92 (by decide) ?_
          exact ih6 bs (i + 1) _ _ _ (by omega) (by rw [bst_s (by omega), if_neg (fun q => cc_3 (of_decide_eq_true q.1).1)]; exact hb1) (by omega) (G.perm (ws' := [(m0, mO M xth xrm xsv xln xat xer xwr xwd xlo xhi (u.length : Int) xml xkl xfi xse xdn xon xtw xol xrw xgl xus xpr xmk xab), (M 1, aI (K 0) 1247 g), (M 17, aI (K 0) 2000 gwo)]) [0, 1, 2] rfl rfl) (lv_sub hl [3, 4, 5, 6, 1, 0] rfl)
        · refine lv_aload_n F.1 F.2.1 dX11_bestRule_28 rfl (lv_at hl 0 rfl) ?_
          refine lv_iload F.1 F.2.1 dX11_bestRule_29 (lv_at hl 5 rfl) ?_
          refine ad_iconst F dX11_bestRule_31 ?_
          refine ad_callV (As := [.int (iI i), .int (iI 2)]) (rest := []) F G (c_X11_of_2 l D K z0 m0 M xth xrm xsv xln xat xer xwr xwd xlo xhi (u.length : Int) xml xkl xfi xse xdn xon xtw xol xrw xgl xus xpr xmk xab g rs ps md th nc i hM hW (by omega)) my_X11_of mv_X11_99 (wr := [(M 17, aI (K 0) 2000 gwo)]) (isC := [0, 1]) (isR := [2]) ⟨rfl, rfl, rfl, rfl, by decide⟩ 11 0 rfl rfl rfl rfl ⟨Nat.le_of_ble_eq_true rfl, Nat.le_of_ble_eq_true rfl⟩ ⟨Nat.le_of_ble_eq_true rfl, Nat.le_of_ble_eq_true rfl⟩ (Nat.le_of_ble_eq_true rfl) hl.1 (cells9 := 0) (slots9 := 0) ⟨rfl, rfl⟩ dX11_bestRule_32 (fun v u H locs hw_5 G => ?_)
          obtain ⟨rfl, rfl⟩ := hw_5
          replace G := G.perm (ws' := [(m0, mO M xth xrm xsv xln xat xer xwr xwd xlo xhi (u.length : Int) xml xkl xfi xse xdn xon xtw xol xrw xgl xus xpr xmk xab), (M 1, aI (K 0) 1247 g), (M 17, aI (K 0) 2000 gwo)]) [1, 2, 0] rfl rfl
          refine W.eq (g2 := F0 m9 35 ls [.int (iI ((rget rs i).2.2.1))]) rfl ?_
          refine lv_iload_n F.1 F.2.1 dX11_bestRule_35 rfl (lv_at hl 2 rfl) ?_
          refine ad_callS (As := [.int (iI ((rget rs i).2.2.1)), .int (iI pl)]) (rest := []) F G (c_X11_fits l D K z0 ((rget rs i).2.2.1) pl (by omega) hpl) my_X11_fits ms_X11_193 (wr := [(m0, mO M xth xrm xsv xln xat xer xwr xwd xlo xhi (u.length : Int) xml xkl xfi xse xdn xon xtw xol xrw xgl xus xpr xmk xab), (M 1, aI (K 0) 1247 g), (M 17, aI (K 0) 2000 gwo)]) (isC := []) (isR := [0, 1, 2]) ⟨rfl, rfl, rfl, rfl, by decide⟩ rfl rfl ⟨Nat.le_of_ble_eq_true rfl, Nat.le_of_ble_eq_true rfl⟩ ⟨Nat.le_of_ble_eq_true rfl, Nat.le_of_ble_eq_true rfl⟩ (Nat.le_of_ble_eq_true rfl) hl.1 (cells9 := 0) (slots9 := 0) ⟨rfl, rfl⟩ dX11_bestRule_36 (fun v u H locs hw_6 G => ?_)
          rcases hw_6 with ⟨rfl, hc_7, rfl⟩ | ⟨rfl, hc_8, rfl⟩
          · replace G := G.perm (ws' := [(m0, mO M xth xrm xsv xln xat xer xwr xwd xlo xhi (u.length : Int) xml xkl xfi xse xdn xon xtw xol xrw xgl xus xpr xmk xab), (M 1, aI (K 0) 1247 g), (M 17, aI (K 0) 2000 gwo)]) [0, 1, 2] rfl rfl
            refine W.eq (g2 := F0 m9 39 ls [.int (iI 1)]) rfl ?_
            refine ad_if_eq (tgt := 56) F (by decide) dX11_bestRule_39 (by decide) (fun cc_9 => absurd cc_9 (by decide)) (fun _ => ?_)
            refine lv_aload_n F.1 F.2.1 dX11_bestRule_42 rfl (lv_at hl 0 rfl) ?_
            refine lv_iload F.1 F.2.1 dX11_bestRule_43 (lv_at hl 5 rfl) ?_
            refine lv_iload_n F.1 F.2.1 dX11_bestRule_45 rfl (lv_at hl 3 rfl) ?_
            refine ad_callV (As := [.int (iI i), .int (iI b)]) (rest := []) F G (c_X11_isIn l D K z0 m0 M xth xrm xsv xln xat xer xwr xwd xlo xhi xml xkl xfi xse xdn xon xtw xol xrw xgl xus xpr xmk xab g gwo rs ps md th nc u i b hM hW hTu hLu hu (by omega) hb) my_X11_isIn mv_X11_236 (wr := []) (isC := [0, 1, 2]) (isR := []) ⟨rfl, rfl, rfl, rfl, by decide⟩ 11 0 rfl rfl rfl rfl ⟨Nat.le_of_ble_eq_true rfl, Nat.le_of_ble_eq_true rfl⟩ ⟨Nat.le_of_ble_eq_true rfl, Nat.le_of_ble_eq_true rfl⟩ (Nat.le_of_ble_eq_true rfl) hl.1 (cells9 := 0) (slots9 := 0) ⟨rfl, rfl⟩ dX11_bestRule_46 (fun v u H locs hw_10 G => ?_)
            rcases hw_10 with ⟨rfl, hc_11, rfl⟩ | ⟨rfl, hc_12, rfl⟩
            · replace G := G.perm (ws' := [(m0, mO M xth xrm xsv xln xat xer xwr xwd xlo xhi (u.length : Int) xml xkl xfi xse xdn xon xtw xol xrw xgl xus xpr xmk xab), (M 1, aI (K 0) 1247 g), (M 17, aI (K 0) 2000 gwo)]) [0, 1, 2] rfl rfl
              refine W.eq (g2 := F0 m9 49 ls [.int (iI 1)]) rfl ?_
              refine ad_if_eq (tgt := 56) F (by decide) dX11_bestRule_49 (by decide) (fun cc_13 => absurd cc_13 (by decide)) (fun _ => ?_)
              refine ad_iconst F dX11_bestRule_52 ?_
              refine lv_goto (tgt := 57) F.1 F.2.1 dX11_bestRule_53 (by decide) ?_
              refine lv_istore (lv' := [(6, .int (iI 1)), (0, .ref m0), (1, .int (iI kd)), (2, .int (iI pl)), (3, .int (iI b)), (4, .int (iI bs)), (5, .int (iI i))]) F.1 F.2.1 dX11_bestRule_57 hl (by decide) rfl (fun ls hl => ?_)
              refine lv_iload F.1 F.2.1 dX11_bestRule_59 (lv_at hl 0 rfl) ?_
              refine ad_if_eq (tgt := 85) F (by decide) dX11_bestRule_61 (by decide) (fun cc_14 => absurd cc_14 (by decide)) (fun _ => ?_)
              refine lv_iload F.1 F.2.1 dX11_bestRule_64 (lv_at hl 5 rfl) ?_
              refine ad_if_lt (tgt := 80) F (by omega) dX11_bestRule_66 (by decide) (fun cc_15 => ?_) (fun cc_15 => ?_)
              · refine lv_iload F.1 F.2.1 dX11_bestRule_80 (lv_at hl 6 rfl) ?_
                refine lv_goto (tgt := 87) F.1 F.2.1 dX11_bestRule_82 (by decide) ?_
                refine lv_istore (lv' := [(4, .int (iI i)), (6, .int (iI 1)), (0, .ref m0), (1, .int (iI kd)), (2, .int (iI pl)), (3, .int (iI b)), (5, .int (iI i))]) F.1 F.2.1 dX11_bestRule_87 hl (by decide) rfl (fun ls hl => ?_)
                refine ad_iinc (lv' := [(5, .int (iI (i + 1))), (4, .int (iI i)), (6, .int (iI 1)), (0, .ref m0), (1, .int (iI kd)), (2, .int (iI pl)), (3, .int (iI b))]) F dX11_bestRule_89 hl (k := 6) rfl (by decide) rfl (fun ls hl => ?_)
                refine lv_goto (tgt := 6) F.1 F.2.1 dX11_bestRule_92 (by decide) ?_
                exact ih6 i (i + 1) _ _ _ (by omega) (by rw [bst_s (by omega), if_pos ⟨(decide_eq_true ⟨cc_3, hc_7, (by have q := hc_11; rw [cc_3] at q; exact q)⟩ : cnd rs u pl kd b i = true), Or.inl (by rw [← hb1]; exact cc_15)⟩]) (by omega) (G.perm (ws' := [(m0, mO M xth xrm xsv xln xat xer xwr xwd xlo xhi (u.length : Int) xml xkl xfi xse xdn xon xtw xol xrw xgl xus xpr xmk xab), (M 1, aI (K 0) 1247 g), (M 17, aI (K 0) 2000 gwo)]) [0, 1, 2] rfl rfl) (lv_sub hl [3, 4, 5, 6, 1, 0] rfl)
              · refine lv_aload_n F.1 F.2.1 dX11_bestRule_69 rfl (lv_at hl 1 rfl) ?_
                refine lv_iload F.1 F.2.1 dX11_bestRule_70 (lv_at hl 6 rfl) ?_
                refine lv_iload F.1 F.2.1 dX11_bestRule_72 (lv_at hl 5 rfl) ?_
                refine ad_callV (As := [.int (iI i), .int (iI bs)]) (rest := []) F G (c_X11_isBetter l D K z0 m0 M xth xrm xsv xln xat xer xwr xwd xlo xhi (u.length : Int) xml xkl xfi xse xdn xon xtw xol xrw xgl xus xpr xmk xab g rs ps md th nc i bs hM hW (by omega) (by omega)) my_X11_isBetter mv_X11_178 (wr := [(M 17, aI (K 0) 2000 gwo)]) (isC := [0, 1]) (isR := [2]) ⟨rfl, rfl, rfl, rfl, by decide⟩ 11 0 rfl rfl rfl rfl ⟨Nat.le_of_ble_eq_true rfl, Nat.le_of_ble_eq_true rfl⟩ ⟨Nat.le_of_ble_eq_true rfl, Nat.le_of_ble_eq_true rfl⟩ (Nat.le_of_ble_eq_true rfl) hl.1 (cells9 := 0) (slots9 := 0) ⟨rfl, rfl⟩ dX11_bestRule_74 (fun v u H locs hw_16 G => ?_)
                rcases hw_16 with ⟨rfl, hc_17, rfl⟩ | ⟨rfl, hc_18, rfl⟩
                · replace G := G.perm (ws' := [(m0, mO M xth xrm xsv xln xat xer xwr xwd xlo xhi (u.length : Int) xml xkl xfi xse xdn xon xtw xol xrw xgl xus xpr xmk xab), (M 1, aI (K 0) 1247 g), (M 17, aI (K 0) 2000 gwo)]) [1, 2, 0] rfl rfl
                  refine W.eq (g2 := F0 m9 77 ls [.int (iI 1)]) rfl ?_
                  refine ad_if_eq (tgt := 85) F (by decide) dX11_bestRule_77 (by decide) (fun cc_19 => absurd cc_19 (by decide)) (fun _ => ?_)
                  refine lv_iload F.1 F.2.1 dX11_bestRule_80 (lv_at hl 6 rfl) ?_
                  refine lv_goto (tgt := 87) F.1 F.2.1 dX11_bestRule_82 (by decide) ?_
                  refine lv_istore (lv' := [(4, .int (iI i)), (6, .int (iI 1)), (0, .ref m0), (1, .int (iI kd)), (2, .int (iI pl)), (3, .int (iI b)), (5, .int (iI i))]) F.1 F.2.1 dX11_bestRule_87 hl (by decide) rfl (fun ls hl => ?_)
                  refine ad_iinc (lv' := [(5, .int (iI (i + 1))), (4, .int (iI i)), (6, .int (iI 1)), (0, .ref m0), (1, .int (iI kd)), (2, .int (iI pl)), (3, .int (iI b))]) F dX11_bestRule_89 hl (k := 6) rfl (by decide) rfl (fun ls hl => ?_)
                  refine lv_goto (tgt := 6) F.1 F.2.1 dX11_bestRule_92 (by decide) ?_
                  exact ih6 i (i + 1) _ _ _ (by omega) (by rw [bst_s (by omega), if_pos ⟨(decide_eq_true ⟨cc_3, hc_7, (by have q := hc_11; rw [cc_3] at q; exact q)⟩ : cnd rs u pl kd b i = true), Or.inr (by rw [← hb1]; exact btb_iff.mpr hc_17)⟩]) (by omega) (G.perm (ws' := [(m0, mO M xth xrm xsv xln xat xer xwr xwd xlo xhi (u.length : Int) xml xkl xfi xse xdn xon xtw xol xrw xgl xus xpr xmk xab), (M 1, aI (K 0) 1247 g), (M 17, aI (K 0) 2000 gwo)]) [0, 1, 2] rfl rfl) (lv_sub hl [3, 4, 5, 6, 1, 0] rfl)
                · replace G := G.perm (ws' := [(m0, mO M xth xrm xsv xln xat xer xwr xwd xlo xhi (u.length : Int) xml xkl xfi xse xdn xon xtw xol xrw xgl xus xpr xmk xab), (M 1, aI (K 0) 1247 g), (M 17, aI (K 0) 2000 gwo)]) [1, 2, 0] rfl rfl
                  refine W.eq (g2 := F0 m9 77 ls [.int (iI 0)]) rfl ?_
                  refine ad_if_eq (tgt := 85) F (by decide) dX11_bestRule_77 (by decide) (fun _ => ?_) (fun cc_20 => absurd cc_20 (by decide))
                  refine lv_iload F.1 F.2.1 dX11_bestRule_85 (lv_at hl 5 rfl) ?_
                  refine lv_istore (lv' := [(4, .int (iI bs)), (6, .int (iI 1)), (0, .ref m0), (1, .int (iI kd)), (2, .int (iI pl)), (3, .int (iI b)), (5, .int (iI i))]) F.1 F.2.1 dX11_bestRule_87 hl (by decide) rfl (fun ls hl => ?_)
                  refine ad_iinc (lv' := [(5, .int (iI (i + 1))), (4, .int (iI bs)), (6, .int (iI 1)), (0, .ref m0), (1, .int (iI kd)), (2, .int (iI pl)), (3, .int (iI b))]) F dX11_bestRule_89 hl (k := 6) rfl (by decide) rfl (fun ls hl => ?_)
                  refine lv_goto (tgt := 6) F.1 F.2.1 dX11_bestRule_92 (by decide) ?_
                  exact ih6 bs (i + 1) _ _ _ (by omega) (by rw [bst_s (by omega), if_neg (fun q => q.2.elim (fun r => by rw [← hb1] at r; omega) (fun r => hc_18 (btb_iff.mp (by rw [hb1]; exact r))))]; exact hb1) (by omega) (G.perm (ws' := [(m0, mO M xth xrm xsv xln xat xer xwr xwd xlo xhi (u.length : Int) xml xkl xfi xse xdn xon xtw xol xrw xgl xus xpr xmk xab), (M 1, aI (K 0) 1247 g), (M 17, aI (K 0) 2000 gwo)]) [0, 1, 2] rfl rfl) (lv_sub hl [3, 4, 5, 6, 1, 0] rfl)
            · replace G := G.perm (ws' := [(m0, mO M xth xrm xsv xln xat xer xwr xwd xlo xhi (u.length : Int) xml xkl xfi xse xdn xon xtw xol xrw xgl xus xpr xmk xab), (M 1, aI (K 0) 1247 g), (M 17, aI (K 0) 2000 gwo)]) [0, 1, 2] rfl rfl
              refine W.eq (g2 := F0 m9 49 ls [.int (iI 0)]) rfl ?_
              refine ad_if_eq (tgt := 56) F (by decide) dX11_bestRule_49 (by decide) (fun _ => ?_) (fun cc_21 => absurd cc_21 (by decide))
              refine ad_iconst F dX11_bestRule_56 ?_
              refine lv_istore (lv' := [(6, .int (iI 0)), (0, .ref m0), (1, .int (iI kd)), (2, .int (iI pl)), (3, .int (iI b)), (4, .int (iI bs)), (5, .int (iI i))]) F.1 F.2.1 dX11_bestRule_57 hl (by decide) rfl (fun ls hl => ?_)
              refine lv_iload F.1 F.2.1 dX11_bestRule_59 (lv_at hl 0 rfl) ?_
              refine ad_if_eq (tgt := 85) F (by decide) dX11_bestRule_61 (by decide) (fun _ => ?_) (fun cc_22 => absurd cc_22 (by decide))
              refine lv_iload F.1 F.2.1 dX11_bestRule_85 (lv_at hl 5 rfl) ?_
              refine lv_istore (lv' := [(4, .int (iI bs)), (6, .int (iI 0)), (0, .ref m0), (1, .int (iI kd)), (2, .int (iI pl)), (3, .int (iI b)), (5, .int (iI i))]) F.1 F.2.1 dX11_bestRule_87 hl (by decide) rfl (fun ls hl => ?_)
              refine ad_iinc (lv' := [(5, .int (iI (i + 1))), (4, .int (iI bs)), (6, .int (iI 0)), (0, .ref m0), (1, .int (iI kd)), (2, .int (iI pl)), (3, .int (iI b))]) F dX11_bestRule_89 hl (k := 6) rfl (by decide) rfl (fun ls hl => ?_)
              refine lv_goto (tgt := 6) F.1 F.2.1 dX11_bestRule_92 (by decide) ?_
              exact ih6 bs (i + 1) _ _ _ (by omega) (by rw [bst_s (by omega), if_neg (fun q => hc_12 (by rw [cc_3]; exact (of_decide_eq_true q.1).2.2))]; exact hb1) (by omega) (G.perm (ws' := [(m0, mO M xth xrm xsv xln xat xer xwr xwd xlo xhi (u.length : Int) xml xkl xfi xse xdn xon xtw xol xrw xgl xus xpr xmk xab), (M 1, aI (K 0) 1247 g), (M 17, aI (K 0) 2000 gwo)]) [0, 1, 2] rfl rfl) (lv_sub hl [3, 4, 5, 6, 1, 0] rfl)
          · replace G := G.perm (ws' := [(m0, mO M xth xrm xsv xln xat xer xwr xwd xlo xhi (u.length : Int) xml xkl xfi xse xdn xon xtw xol xrw xgl xus xpr xmk xab), (M 1, aI (K 0) 1247 g), (M 17, aI (K 0) 2000 gwo)]) [0, 1, 2] rfl rfl
            refine W.eq (g2 := F0 m9 39 ls [.int (iI 0)]) rfl ?_
            refine ad_if_eq (tgt := 56) F (by decide) dX11_bestRule_39 (by decide) (fun _ => ?_) (fun cc_23 => absurd cc_23 (by decide))
            refine ad_iconst F dX11_bestRule_56 ?_
            refine lv_istore (lv' := [(6, .int (iI 0)), (0, .ref m0), (1, .int (iI kd)), (2, .int (iI pl)), (3, .int (iI b)), (4, .int (iI bs)), (5, .int (iI i))]) F.1 F.2.1 dX11_bestRule_57 hl (by decide) rfl (fun ls hl => ?_)
            refine lv_iload F.1 F.2.1 dX11_bestRule_59 (lv_at hl 0 rfl) ?_
            refine ad_if_eq (tgt := 85) F (by decide) dX11_bestRule_61 (by decide) (fun _ => ?_) (fun cc_24 => absurd cc_24 (by decide))
            refine lv_iload F.1 F.2.1 dX11_bestRule_85 (lv_at hl 5 rfl) ?_
            refine lv_istore (lv' := [(4, .int (iI bs)), (6, .int (iI 0)), (0, .ref m0), (1, .int (iI kd)), (2, .int (iI pl)), (3, .int (iI b)), (5, .int (iI i))]) F.1 F.2.1 dX11_bestRule_87 hl (by decide) rfl (fun ls hl => ?_)
            refine ad_iinc (lv' := [(5, .int (iI (i + 1))), (4, .int (iI bs)), (6, .int (iI 0)), (0, .ref m0), (1, .int (iI kd)), (2, .int (iI pl)), (3, .int (iI b))]) F dX11_bestRule_89 hl (k := 6) rfl (by decide) rfl (fun ls hl => ?_)
            refine lv_goto (tgt := 6) F.1 F.2.1 dX11_bestRule_92 (by decide) ?_
            exact ih6 bs (i + 1) _ _ _ (by omega) (by rw [bst_s (by omega), if_neg (fun q => hc_8 (of_decide_eq_true q.1).2.1)]; exact hb1) (by omega) (G.perm (ws' := [(m0, mO M xth xrm xsv xln xat xer xwr xwd xlo xhi (u.length : Int) xml xkl xfi xse xdn xon xtw xol xrw xgl xus xpr xmk xab), (M 1, aI (K 0) 1247 g), (M 17, aI (K 0) 2000 gwo)]) [0, 1, 2] rfl rfl) (lv_sub hl [3, 4, 5, 6, 1, 0] rfl)
  exact lp6 ((((rs.length - 0 : Int)) + 1).toNat) (-1) 0 _ _ _ (by omega) rfl (by omega) (G.perm (ws' := [(m0, mO M xth xrm xsv xln xat xer xwr xwd xlo xhi (u.length : Int) xml xkl xfi xse xdn xon xtw xol xrw xgl xus xpr xmk xab), (M 1, aI (K 0) 1247 g), (M 17, aI (K 0) 2000 gwo)]) [0, 1, 2] rfl rfl) (lv_sub hl [2, 3, 4, 5, 1, 0] rfl)

def rm_X11_addForm : Room := { frames := 3, cells := 0, slots := 0, locals := 57 }
set_option maxHeartbeats 4000000 in
set_option maxRecDepth 100000 in
theorem c_X11_addForm (l : Launch) (D : va_G) (K : Nat → ClassId) (z0 : Nat) (m0 : Nat) (M : Nat → Nat) (xth : Int) (xrm : Int) (xsv : Int) (xln : Int) (xat : Int) (xer : Int) (xwr : Int) (xwd : Int) (xlo : Int) (xhi : Int) (xwl : Int) (xkl : Int) (xfi : Int) (xse : Int) (xdn : Int) (xon : Int) (xtw : Int) (xol : Int) (xrw : Int) (xgl : Int) (xus : Int) (xpr : Int) (xmk : Int) (xab : Int) (g : Nat → Int) (gma : Nat → Int) (rs : List Rl) (ps : List Pr) (md : Int) (th : Int) (nc : Int) (mz : List Int) (z : Int) (b : Int) (hM : MRow g rs ps md th nc) (hW : RW rs) (hTm : Tx gma mz) (hml : mz.length ≤ 1900) (hz : -1 ≤ z ∧ z < rs.length) (hb : b = 0 ∨ b = 1) : CT l D K z0 yX11_addForm cX11_addForm 4 none rm_X11_addForm [.ref m0, .int (iI z), .int (iI b)] [(m0, mO M xth xrm xsv xln xat xer xwr xwd xlo xhi xwl (mz.length : Int) xkl xfi xse xdn xon xtw xol xrw xgl xus xpr xmk xab), (M 1, aI (K 0) 1247 g), (M 18, aI (K 0) 2000 gma)] (fun v9 u9 => ∃ (m2 : List Int), ∃ (gma2 : Nat → Int), v9 = none ∧ (m2 = mz ++ fmo (rget rs z) b) ∧ (Tx gma2 m2) ∧ u9 = [(m0, mO M xth xrm xsv xln xat xer xwr xwd xlo xhi xwl (m2.length : Int) xkl xfi xse xdn xon xtw xol xrw xgl xus xpr xmk xab), (M 1, aI (K 0) 1247 g), (M 18, aI (K 0) 2000 gma2)]) := by
  refine CT.start RX11 "addForm" (by decide) rfl rfl (Nat.le_of_ble_eq_true rfl) ?_
  intro p9 e9 s9 m9 ag9 bl9 mt9 c9 A9 Q9 ls F G hR hl
  have hl : lv_has ls 4 [(0, .ref m0), (1, .int (iI z)), (2, .int (iI b))] := hl
  have hn := hW.1
  have hf12 := fmo_len hW z b
  refine ad_iconst F dX11_addForm_0 ?_
  refine lv_istore_n (lv' := [(3, .int (iI 0)), (0, .ref m0), (1, .int (iI z)), (2, .int (iI b))]) F.1 F.2.1 dX11_addForm_1 rfl hl (by decide) rfl (fun ls hl => ?_)
  have lp2 : ∀ (n2 : Nat) (k : Int) (gx : Nat → Int) (mx : List Int) (H : Heap) (locs : List Loc) (ls : Array Slot), (0 ≤ k ∧ k ≤ (fmo (rget rs z) b).length) → (mx = mz ++ sl (fmo (rget rs z) b) 0 k) → (Tx gx mx) → ((fmo (rget rs z) b).length - k) < (n2 : Int) → ad_G D A9 s9.heap H locs [(m0, mO M xth xrm xsv xln xat xer xwr xwd xlo xhi xwl (mx.length : Int) xkl xfi xse xdn xon xtw xol xrw xgl xus xpr xmk xab), (M 1, aI (K 0) 1247 g), (M 18, aI (K 0) 2000 gx)] → lv_has ls 4 [(0, .ref m0), (1, .int (iI z)), (2, .int (iI b)), (3, .int (iI k))] → W p9 l e9 rm_X11_addForm s9 m9 ag9 bl9 mt9 c9 H locs 0 0 Q9 (F0 m9 2 ls []) := by
    intro n2
    induction n2 with
    | zero =>
      intro k gx mx H locs ls hk hmx hTx hm2
      exact absurd hm2 (by omega)
    | succ n2 ih2 =>
      intro k gx mx H locs ls hk hmx hTx hm2 G hl
      have hmxl : (mx.length : Int) = mz.length + k := by rw [hmx, List.length_append, Int.natCast_add, sl_len (by omega) (by omega) (by omega)]; omega
      refine lv_iload_n F.1 F.2.1 dX11_addForm_2 rfl (lv_at hl 1 rfl) ?_
      refine ad_if_lt (tgt := 48) F (by omega) dX11_addForm_3 (by decide) (fun cc_1 => ?_) (fun cc_1 => ?_)
      · exact ad_vreturn F G hR rfl (Nat.le_of_ble_eq_true rfl) (Nat.le_of_ble_eq_true rfl) ⟨mx, gx, rfl, (by rw [hmx]; congr 1; rw [show z = -1 by omega, fmo_m1]; simp [sl]), hTx, rfl⟩ dX11_addForm_48
      · refine lv_iload_n F.1 F.2.1 dX11_addForm_6 rfl (lv_at hl 3 rfl) ?_
        refine lv_aload_n F.1 F.2.1 dX11_addForm_7 rfl (lv_at hl 0 rfl) ?_
        refine lv_iload_n F.1 F.2.1 dX11_addForm_8 rfl (lv_at hl 1 rfl) ?_
        refine lv_iload_n F.1 F.2.1 dX11_addForm_9 rfl (lv_at hl 2 rfl) ?_
        refine ad_callV (As := [.int (iI z), .int (iI b)]) (rest := [.int (iI k)]) F G (c_X11_lengthOf l D K z0 m0 M xth xrm xsv xln xat xer xwr xwd xlo xhi xwl (mx.length : Int) xkl xfi xse xdn xon xtw xol xrw xgl xus xpr xmk xab g rs ps md th nc z b hM hW (by omega) hb) my_X11_lengthOf mv_X11_185 (wr := [(M 18, aI (K 0) 2000 gx)]) (isC := [0, 1]) (isR := [2]) ⟨rfl, rfl, rfl, rfl, by decide⟩ 11 0 rfl rfl rfl rfl ⟨Nat.le_of_ble_eq_true rfl, Nat.le_of_ble_eq_true rfl⟩ ⟨Nat.le_of_ble_eq_true rfl, Nat.le_of_ble_eq_true rfl⟩ (Nat.le_of_ble_eq_true rfl) hl.1 (cells9 := 0) (slots9 := 0) ⟨rfl, rfl⟩ dX11_addForm_10 (fun v u H locs hw_2 G => ?_)
        obtain ⟨rfl, rfl⟩ := hw_2
        replace G := G.perm (ws' := [(m0, mO M xth xrm xsv xln xat xer xwr xwd xlo xhi xwl (mx.length : Int) xkl xfi xse xdn xon xtw xol xrw xgl xus xpr xmk xab), (M 1, aI (K 0) 1247 g), (M 18, aI (K 0) 2000 gx)]) [1, 2, 0] rfl rfl
        refine W.eq (g2 := F0 m9 13 ls [.int (iI ((fmo (rget rs z) b).length : Int)), .int (iI k)]) rfl ?_
        refine ad_icmp_ge (tgt := 48) F (by omega) dX11_addForm_13 (by decide) (fun cc_3 => ?_) (fun cc_3 => ?_)
        · exact ad_vreturn F G hR rfl (Nat.le_of_ble_eq_true rfl) (Nat.le_of_ble_eq_true rfl) ⟨mx, gx, rfl, (by rw [hmx, show k = (fmo (rget rs z) b).length by omega, sl_all]), hTx, rfl⟩ dX11_addForm_48
        · refine lv_aload_n F.1 F.2.1 dX11_addForm_16 rfl (lv_at hl 0 rfl) ?_
          refine ad_get F G fl_X11_42 0 rfl rfl dX11_addForm_17 ?_
          refine lv_aload_n F.1 F.2.1 dX11_addForm_20 rfl (lv_at hl 0 rfl) ?_
          refine ad_get F G fl_X11_239 0 rfl rfl dX11_addForm_21 ?_
          refine lv_aload_n F.1 F.2.1 dX11_addForm_24 rfl (lv_at hl 0 rfl) ?_
          refine lv_iload_n F.1 F.2.1 dX11_addForm_25 rfl (lv_at hl 1 rfl) ?_
          refine lv_iload_n F.1 F.2.1 dX11_addForm_26 rfl (lv_at hl 2 rfl) ?_
          refine lv_iload_n F.1 F.2.1 dX11_addForm_27 rfl (lv_at hl 3 rfl) ?_
          refine ad_callV (As := [.int (iI z), .int (iI b), .int (iI k)]) (rest := [.int (iI (mx.length : Int)), .ref (M 18)]) F G (c_X11_letterOf l D K z0 m0 M xth xrm xsv xln xat xer xwr xwd xlo xhi xwl (mx.length : Int) xkl xfi xse xdn xon xtw xol xrw xgl xus xpr xmk xab g rs ps md th nc z b k hM hW (by omega) hb (by omega)) my_X11_letterOf mv_X11_189 (wr := [(M 18, aI (K 0) 2000 gx)]) (isC := [0, 1]) (isR := [2]) ⟨rfl, rfl, rfl, rfl, by decide⟩ 11 0 rfl rfl rfl rfl ⟨Nat.le_of_ble_eq_true rfl, Nat.le_of_ble_eq_true rfl⟩ ⟨Nat.le_of_ble_eq_true rfl, Nat.le_of_ble_eq_true rfl⟩ (Nat.le_of_ble_eq_true rfl) hl.1 (cells9 := 0) (slots9 := 0) ⟨rfl, rfl⟩ dX11_addForm_28 (fun v u H locs hw_4 G => ?_)
          obtain ⟨rfl, rfl⟩ := hw_4
          replace G := G.perm (ws' := [(m0, mO M xth xrm xsv xln xat xer xwr xwd xlo xhi xwl (mx.length : Int) xkl xfi xse xdn xon xtw xol xrw xgl xus xpr xmk xab), (M 1, aI (K 0) 1247 g), (M 18, aI (K 0) 2000 gx)]) [1, 2, 0] rfl rfl
          refine W.eq (g2 := F0 m9 31 ls [.int (iI (lat (fmo (rget rs z) b) k)), .int (iI (mx.length : Int)), .ref (M 18)]) rfl ?_
          refine ad_iast F G 2 rfl (by omega) (ws' := [(m0, mO M xth xrm xsv xln xat xer xwr xwd xlo xhi xwl (mx.length : Int) xkl xfi xse xdn xon xtw xol xrw xgl xus xpr xmk xab), (M 1, aI (K 0) 1247 g), (M 18, aI (K 0) 2000 (va_up gx (mx.length : Int).toNat (lat (fmo (rget rs z) b) k)))]) rfl dX11_addForm_31 (fun H locs G => ?_)
          refine lv_aload_n F.1 F.2.1 dX11_addForm_32 rfl (lv_at hl 0 rfl) ?_
          refine lv_dup F.1 F.2.1 dX11_addForm_33 rfl ?_
          refine ad_get F G fl_X11_239 0 rfl rfl dX11_addForm_34 ?_
          refine ad_iconst F dX11_addForm_37 ?_
          refine ad_iadd F dX11_addForm_38 ?_
          refine ad_put F G fl_X11_239 0 rfl rfl rfl (Nat.le_of_ble_eq_true rfl) (ws' := [(m0, mO M xth xrm xsv xln xat xer xwr xwd xlo xhi xwl ((mx.length : Int) + 1) xkl xfi xse xdn xon xtw xol xrw xgl xus xpr xmk xab), (M 1, aI (K 0) 1247 g), (M 18, aI (K 0) 2000 (va_up gx (mx.length : Int).toNat (lat (fmo (rget rs z) b) k)))]) rfl dX11_addForm_39 (fun H locs G => ?_)
          have hpl : (((mx ++ [lat (fmo (rget rs z) b) k]).length : Nat) : Int) = (mx.length : Int) + 1 := by simp
          replace G := G.eq (ws' := [(m0, mO M xth xrm xsv xln xat xer xwr xwd xlo xhi xwl ((mx ++ [lat (fmo (rget rs z) b) k]).length : Int) xkl xfi xse xdn xon xtw xol xrw xgl xus xpr xmk xab), (M 1, aI (K 0) 1247 g), (M 18, aI (K 0) 2000 (va_up gx (mx.length : Int).toNat (lat (fmo (rget rs z) b) k)))]) (by rw [hpl])
          refine ad_iinc (lv' := [(3, .int (iI (k + 1))), (0, .ref m0), (1, .int (iI z)), (2, .int (iI b))]) F dX11_addForm_42 hl (k := 3) rfl (by decide) rfl (fun ls hl => ?_)
          refine lv_goto (tgt := 2) F.1 F.2.1 dX11_addForm_45 (by decide) ?_
          exact ih2 (k + 1) (va_up gx (mx.length : Int).toNat (lat (fmo (rget rs z) b) k)) (mx ++ [lat (fmo (rget rs z) b) k]) _ _ _ (by omega) (by rw [sl_succ (by omega) (by omega) (by omega), hmx, List.append_assoc]) (Tx_push hTx _) (by omega) (G.perm (ws' := [(m0, mO M xth xrm xsv xln xat xer xwr xwd xlo xhi xwl ((mx ++ [lat (fmo (rget rs z) b) k]).length : Int) xkl xfi xse xdn xon xtw xol xrw xgl xus xpr xmk xab), (M 1, aI (K 0) 1247 g), (M 18, aI (K 0) 2000 (va_up gx (mx.length : Int).toNat (lat (fmo (rget rs z) b) k)))]) [0, 1, 2] rfl rfl) (lv_sub hl [1, 2, 3, 0] rfl)
  exact lp2 (((((fmo (rget rs z) b).length - 0 : Int)) + 1).toNat) 0 gma mz _ _ _ (by omega) (by rw [sl_self, List.append_nil]) hTm (by omega) (G.perm (ws' := [(m0, mO M xth xrm xsv xln xat xer xwr xwd xlo xhi xwl (mz.length : Int) xkl xfi xse xdn xon xtw xol xrw xgl xus xpr xmk xab), (M 1, aI (K 0) 1247 g), (M 18, aI (K 0) 2000 gma)]) [0, 1, 2] rfl rfl) (lv_sub hl [1, 2, 3, 0] rfl)

def rm_X11_convert_0 : Room := { frames := 5, cells := 0, slots := 0, locals := 109 }
set_option maxHeartbeats 4000000 in
set_option maxRecDepth 100000 in
theorem c_X11_convert_0 (l : Launch) (D : va_G) (K : Nat → ClassId) (z0 : Nat) (m0 : Nat) (M : Nat → Nat) (xth : Int) (xrm : Int) (xsv : Int) (xln : Int) (xat : Int) (xer : Int) (xwr : Int) (xwd : Int) (xlo : Int) (xhi : Int) (xkl : Int) (xdn : Int) (xon : Int) (xtw : Int) (xol : Int) (xrw : Int) (xgl : Int) (xus : Int) (xpr : Int) (xmk : Int) (xab : Int) (g : Nat → Int) (gwo : Nat → Int) (gma : Nat → Int) (rs : List Rl) (ps : List Pr) (md : Int) (th : Int) (nc : Int) (u : List Int) (xml : Int) (xfi : Int) (xse : Int) (pl : Int) (hM : MRow g rs ps md th nc) (hW : RW rs) (hTu : Tx gwo u) (hLu : Lt u) (hu : 1 ≤ u.length ∧ u.length ≤ 100) (hpl : 0 ≤ pl ∧ pl ≤ 2) : CT l D K z0 yX11_convert cX11_convert 6 none rm_X11_convert_0 [.ref m0, .int (iI pl), .int (iI 0)] [(m0, mO M xth xrm xsv xln xat xer xwr xwd xlo xhi (u.length : Int) xml xkl xfi xse xdn xon xtw xol xrw xgl xus xpr xmk xab), (M 1, aI (K 0) 1247 g), (M 17, aI (K 0) 2000 gwo), (M 18, aI (K 0) 2000 gma)] (fun v9 u9 => ∃ (m2 : List Int), ∃ (gma2 : Nat → Int), v9 = none ∧ (m2 = spw rs u pl 0) ∧ (Tx gma2 m2) ∧ u9 = [(m0, mO M xth xrm xsv xln xat xer xwr xwd xlo xhi (u.length : Int) (m2.length : Int) xkl (spm rs u pl 0) (spe rs u pl 0) xdn xon xtw xol xrw xgl xus xpr xmk xab), (M 1, aI (K 0) 1247 g), (M 17, aI (K 0) 2000 gwo), (M 18, aI (K 0) 2000 gma2)]) := by
  refine CT.start RX11 "convert" (by decide) rfl rfl (Nat.le_of_ble_eq_true rfl) ?_
  intro p9 e9 s9 m9 ag9 bl9 mt9 c9 A9 Q9 ls F G hR hl
  have hl : lv_has ls 6 [(0, .ref m0), (1, .int (iI pl)), (2, .int (iI 0))] := hl
  have hn := hW.1
  have hr0 := bR_b rs u pl 0 0
  have hr1 := bR_b rs u pl 1 0
  have hr2 := bR_b rs u pl 2 0
  have hx1 := fmo_len hW (bR rs u pl 1 0) 0
  have hx2 := fmo_len hW (bR rs u pl 2 0) 0
  refine lv_aload_n F.1 F.2.1 dX11_convert_0 rfl (lv_at hl 0 rfl) ?_
  refine ad_iconst F dX11_convert_1 ?_
  refine ad_put F G fl_X11_239 0 rfl rfl rfl (Nat.le_of_ble_eq_true rfl) (ws' := [(m0, mO M xth xrm xsv xln xat xer xwr xwd xlo xhi (u.length : Int) 0 xkl xfi xse xdn xon xtw xol xrw xgl xus xpr xmk xab), (M 1, aI (K 0) 1247 g), (M 17, aI (K 0) 2000 gwo), (M 18, aI (K 0) 2000 gma)]) rfl dX11_convert_2 (fun H locs G => ?_)
  replace G := G.eq (ws' := [(m0, mO M xth xrm xsv xln xat xer xwr xwd xlo xhi (u.length : Int) (([] : List Int).length : Int) xkl xfi xse xdn xon xtw xol xrw xgl xus xpr xmk xab), (M 1, aI (K 0) 1247 g), (M 17, aI (K 0) 2000 gwo), (M 18, aI (K 0) 2000 gma)]) (rfl)
  refine lv_aload_n F.1 F.2.1 dX11_convert_5 rfl (lv_at hl 0 rfl) ?_
  refine ad_iconst F dX11_convert_6 ?_
  refine ad_put F G fl_X11_242 0 rfl rfl rfl (Nat.le_of_ble_eq_true rfl) (ws' := [(m0, mO M xth xrm xsv xln xat xer xwr xwd xlo xhi (u.length : Int) (([] : List Int).length : Int) xkl xfi (-1) xdn xon xtw xol xrw xgl xus xpr xmk xab), (M 1, aI (K 0) 1247 g), (M 17, aI (K 0) 2000 gwo), (M 18, aI (K 0) 2000 gma)]) rfl dX11_convert_7 (fun H locs G => ?_)
  refine lv_aload_n F.1 F.2.1 dX11_convert_10 rfl (lv_at hl 0 rfl) ?_
  refine lv_aload_n F.1 F.2.1 dX11_convert_11 rfl (lv_at hl 0 rfl) ?_
  refine ad_iconst F dX11_convert_12 ?_
  refine lv_iload_n F.1 F.2.1 dX11_convert_13 rfl (lv_at hl 1 rfl) ?_
  refine lv_iload_n F.1 F.2.1 dX11_convert_14 rfl (lv_at hl 2 rfl) ?_
  refine ad_callV (As := [.int (iI 0), .int (iI pl), .int (iI 0)]) (rest := [.ref m0]) F G (c_X11_bestRule l D K z0 m0 M xth xrm xsv xln xat xer xwr xwd xlo xhi (([] : List Int).length : Int) xkl xfi (-1) xdn xon xtw xol xrw xgl xus xpr xmk xab g gwo rs ps md th nc u 0 pl 0 hM hW hTu hLu hu (by omega) hpl (by omega)) my_X11_bestRule mv_X11_245 (wr := [(M 18, aI (K 0) 2000 gma)]) (isC := [0, 1, 2]) (isR := [3]) ⟨rfl, rfl, rfl, rfl, by decide⟩ 11 0 rfl rfl rfl rfl ⟨Nat.le_of_ble_eq_true rfl, Nat.le_of_ble_eq_true rfl⟩ ⟨Nat.le_of_ble_eq_true rfl, Nat.le_of_ble_eq_true rfl⟩ (Nat.le_of_ble_eq_true rfl) hl.1 (cells9 := 0) (slots9 := 0) ⟨rfl, rfl⟩ dX11_convert_15 (fun v u H locs hw_1 G => ?_)
  obtain ⟨rfl, rfl⟩ := hw_1
  replace G := G.perm (ws' := [(m0, mO M xth xrm xsv xln xat xer xwr xwd xlo xhi (u.length : Int) (([] : List Int).length : Int) xkl xfi (-1) xdn xon xtw xol xrw xgl xus xpr xmk xab), (M 1, aI (K 0) 1247 g), (M 17, aI (K 0) 2000 gwo), (M 18, aI (K 0) 2000 gma)]) [1, 2, 3, 0] rfl rfl
  refine W.eq (g2 := F0 m9 18 ls [.int (iI (bR rs u pl 0 0)), .ref m0]) rfl ?_
  refine ad_put F G fl_X11_249 0 rfl rfl rfl (Nat.le_of_ble_eq_true rfl) (ws' := [(m0, mO M xth xrm xsv xln xat xer xwr xwd xlo xhi (u.length : Int) (([] : List Int).length : Int) xkl (bR rs u pl 0 0) (-1) xdn xon xtw xol xrw xgl xus xpr xmk xab), (M 1, aI (K 0) 1247 g), (M 17, aI (K 0) 2000 gwo), (M 18, aI (K 0) 2000 gma)]) rfl dX11_convert_18 (fun H locs G => ?_)
  refine lv_aload_n F.1 F.2.1 dX11_convert_21 rfl (lv_at hl 0 rfl) ?_
  refine ad_get F G fl_X11_249 0 rfl rfl dX11_convert_22 ?_
  refine ad_if_lt (tgt := 46) F (by omega) dX11_convert_25 (by decide) (fun cc_2 => ?_) (fun cc_2 => ?_)
  · refine lv_aload_n F.1 F.2.1 dX11_convert_46 rfl (lv_at hl 0 rfl) ?_
    refine lv_aload_n F.1 F.2.1 dX11_convert_47 rfl (lv_at hl 0 rfl) ?_
    refine ad_iconst F dX11_convert_48 ?_
    refine lv_iload_n F.1 F.2.1 dX11_convert_49 rfl (lv_at hl 1 rfl) ?_
    refine lv_iload_n F.1 F.2.1 dX11_convert_50 rfl (lv_at hl 2 rfl) ?_
    refine ad_callV (As := [.int (iI 1), .int (iI pl), .int (iI 0)]) (rest := [.ref m0]) F G (c_X11_bestRule l D K z0 m0 M xth xrm xsv xln xat xer xwr xwd xlo xhi (([] : List Int).length : Int) xkl (bR rs u pl 0 0) (-1) xdn xon xtw xol xrw xgl xus xpr xmk xab g gwo rs ps md th nc u 1 pl 0 hM hW hTu hLu hu (by omega) hpl (by omega)) my_X11_bestRule mv_X11_245 (wr := [(M 18, aI (K 0) 2000 gma)]) (isC := [0, 1, 2]) (isR := [3]) ⟨rfl, rfl, rfl, rfl, by decide⟩ 11 0 rfl rfl rfl rfl ⟨Nat.le_of_ble_eq_true rfl, Nat.le_of_ble_eq_true rfl⟩ ⟨Nat.le_of_ble_eq_true rfl, Nat.le_of_ble_eq_true rfl⟩ (Nat.le_of_ble_eq_true rfl) hl.1 (cells9 := 0) (slots9 := 0) ⟨rfl, rfl⟩ dX11_convert_51 (fun v u H locs hw_3 G => ?_)
    obtain ⟨rfl, rfl⟩ := hw_3
    replace G := G.perm (ws' := [(m0, mO M xth xrm xsv xln xat xer xwr xwd xlo xhi (u.length : Int) (([] : List Int).length : Int) xkl (bR rs u pl 0 0) (-1) xdn xon xtw xol xrw xgl xus xpr xmk xab), (M 1, aI (K 0) 1247 g), (M 17, aI (K 0) 2000 gwo), (M 18, aI (K 0) 2000 gma)]) [1, 2, 3, 0] rfl rfl
    refine W.eq (g2 := F0 m9 54 ls [.int (iI (bR rs u pl 1 0)), .ref m0]) rfl ?_
    refine ad_put F G fl_X11_249 0 rfl rfl rfl (Nat.le_of_ble_eq_true rfl) (ws' := [(m0, mO M xth xrm xsv xln xat xer xwr xwd xlo xhi (u.length : Int) (([] : List Int).length : Int) xkl (bR rs u pl 1 0) (-1) xdn xon xtw xol xrw xgl xus xpr xmk xab), (M 1, aI (K 0) 1247 g), (M 17, aI (K 0) 2000 gwo), (M 18, aI (K 0) 2000 gma)]) rfl dX11_convert_54 (fun H locs G => ?_)
    refine lv_aload_n F.1 F.2.1 dX11_convert_57 rfl (lv_at hl 0 rfl) ?_
    refine lv_aload_n F.1 F.2.1 dX11_convert_58 rfl (lv_at hl 0 rfl) ?_
    refine ad_iconst F dX11_convert_59 ?_
    refine lv_iload_n F.1 F.2.1 dX11_convert_60 rfl (lv_at hl 1 rfl) ?_
    refine lv_iload_n F.1 F.2.1 dX11_convert_61 rfl (lv_at hl 2 rfl) ?_
    refine ad_callV (As := [.int (iI 2), .int (iI pl), .int (iI 0)]) (rest := [.ref m0]) F G (c_X11_bestRule l D K z0 m0 M xth xrm xsv xln xat xer xwr xwd xlo xhi (([] : List Int).length : Int) xkl (bR rs u pl 1 0) (-1) xdn xon xtw xol xrw xgl xus xpr xmk xab g gwo rs ps md th nc u 2 pl 0 hM hW hTu hLu hu (by omega) hpl (by omega)) my_X11_bestRule mv_X11_245 (wr := [(M 18, aI (K 0) 2000 gma)]) (isC := [0, 1, 2]) (isR := [3]) ⟨rfl, rfl, rfl, rfl, by decide⟩ 11 0 rfl rfl rfl rfl ⟨Nat.le_of_ble_eq_true rfl, Nat.le_of_ble_eq_true rfl⟩ ⟨Nat.le_of_ble_eq_true rfl, Nat.le_of_ble_eq_true rfl⟩ (Nat.le_of_ble_eq_true rfl) hl.1 (cells9 := 0) (slots9 := 0) ⟨rfl, rfl⟩ dX11_convert_62 (fun v u H locs hw_4 G => ?_)
    obtain ⟨rfl, rfl⟩ := hw_4
    replace G := G.perm (ws' := [(m0, mO M xth xrm xsv xln xat xer xwr xwd xlo xhi (u.length : Int) (([] : List Int).length : Int) xkl (bR rs u pl 1 0) (-1) xdn xon xtw xol xrw xgl xus xpr xmk xab), (M 1, aI (K 0) 1247 g), (M 17, aI (K 0) 2000 gwo), (M 18, aI (K 0) 2000 gma)]) [1, 2, 3, 0] rfl rfl
    refine W.eq (g2 := F0 m9 65 ls [.int (iI (bR rs u pl 2 0)), .ref m0]) rfl ?_
    refine ad_put F G fl_X11_242 0 rfl rfl rfl (Nat.le_of_ble_eq_true rfl) (ws' := [(m0, mO M xth xrm xsv xln xat xer xwr xwd xlo xhi (u.length : Int) (([] : List Int).length : Int) xkl (bR rs u pl 1 0) (bR rs u pl 2 0) xdn xon xtw xol xrw xgl xus xpr xmk xab), (M 1, aI (K 0) 1247 g), (M 17, aI (K 0) 2000 gwo), (M 18, aI (K 0) 2000 gma)]) rfl dX11_convert_65 (fun H locs G => ?_)
    refine lv_aload_n F.1 F.2.1 dX11_convert_68 rfl (lv_at hl 0 rfl) ?_
    refine ad_get F G fl_X11_249 0 rfl rfl dX11_convert_69 ?_
    refine ad_if_lt (tgt := 153) F (by omega) dX11_convert_72 (by decide) (fun cc_5 => ?_) (fun cc_5 => ?_)
    · have hss : spm rs u pl 0 = bR rs u pl 1 0 ∧ spe rs u pl 0 = bR rs u pl 2 0 := sp_n cc_2 (by omega)
      refine lv_aload_n F.1 F.2.1 dX11_convert_153 rfl (lv_at hl 0 rfl) ?_
      refine ad_get F G fl_X11_249 0 rfl rfl dX11_convert_154 ?_
      refine ad_if_ge (tgt := 164) F (by omega) dX11_convert_157 (by decide) (fun cc_6 => ?_) (fun cc_6 => ?_)
      · refine lv_aload_n F.1 F.2.1 dX11_convert_164 rfl (lv_at hl 0 rfl) ?_
        refine lv_aload_n F.1 F.2.1 dX11_convert_165 rfl (lv_at hl 0 rfl) ?_
        refine ad_get F G fl_X11_249 0 rfl rfl dX11_convert_166 ?_
        refine lv_iload_n F.1 F.2.1 dX11_convert_169 rfl (lv_at hl 2 rfl) ?_
        refine ad_callV (As := [.int (iI (bR rs u pl 1 0)), .int (iI 0)]) (rest := []) F G (c_X11_lengthOf l D K z0 m0 M xth xrm xsv xln xat xer xwr xwd xlo xhi (u.length : Int) (([] : List Int).length : Int) xkl (bR rs u pl 1 0) (bR rs u pl 2 0) xdn xon xtw xol xrw xgl xus xpr xmk xab g rs ps md th nc (bR rs u pl 1 0) 0 hM hW (by omega) (by omega)) my_X11_lengthOf mv_X11_185 (wr := [(M 17, aI (K 0) 2000 gwo), (M 18, aI (K 0) 2000 gma)]) (isC := [0, 1]) (isR := [2, 3]) ⟨rfl, rfl, rfl, rfl, by decide⟩ 11 0 rfl rfl rfl rfl ⟨Nat.le_of_ble_eq_true rfl, Nat.le_of_ble_eq_true rfl⟩ ⟨Nat.le_of_ble_eq_true rfl, Nat.le_of_ble_eq_true rfl⟩ (Nat.le_of_ble_eq_true rfl) hl.1 (cells9 := 0) (slots9 := 0) ⟨rfl, rfl⟩ dX11_convert_170 (fun v u H locs hw_7 G => ?_)
        obtain ⟨rfl, rfl⟩ := hw_7
        replace G := G.perm (ws' := [(m0, mO M xth xrm xsv xln xat xer xwr xwd xlo xhi (u.length : Int) (([] : List Int).length : Int) xkl (bR rs u pl 1 0) (bR rs u pl 2 0) xdn xon xtw xol xrw xgl xus xpr xmk xab), (M 1, aI (K 0) 1247 g), (M 17, aI (K 0) 2000 gwo), (M 18, aI (K 0) 2000 gma)]) [2, 3, 0, 1] rfl rfl
        refine W.eq (g2 := F0 m9 173 ls [.int (iI ((fmo (rget rs (bR rs u pl 1 0)) 0).length : Int))]) rfl ?_
        refine lv_istore_n (lv' := [(3, .int (iI ((fmo (rget rs (bR rs u pl 1 0)) 0).length : Int))), (0, .ref m0), (1, .int (iI pl)), (2, .int (iI 0))]) F.1 F.2.1 dX11_convert_173 rfl hl (by decide) rfl (fun ls hl => ?_)
        refine lv_aload_n F.1 F.2.1 dX11_convert_174 rfl (lv_at hl 1 rfl) ?_
        refine ad_get F G fl_X11_233 0 rfl rfl dX11_convert_175 ?_
        refine lv_aload_n F.1 F.2.1 dX11_convert_178 rfl (lv_at hl 1 rfl) ?_
        refine ad_get F G fl_X11_242 0 rfl rfl dX11_convert_179 ?_
        refine ad_if_ge (tgt := 189) F (by omega) dX11_convert_182 (by decide) (fun cc_8 => ?_) (fun cc_8 => ?_)
        · refine lv_aload_n F.1 F.2.1 dX11_convert_189 rfl (lv_at hl 1 rfl) ?_
          refine lv_aload_n F.1 F.2.1 dX11_convert_190 rfl (lv_at hl 1 rfl) ?_
          refine ad_get F G fl_X11_242 0 rfl rfl dX11_convert_191 ?_
          refine lv_iload_n F.1 F.2.1 dX11_convert_194 rfl (lv_at hl 3 rfl) ?_
          refine ad_callV (As := [.int (iI (bR rs u pl 2 0)), .int (iI 0)]) (rest := [.int (iI (u.length : Int))]) F G (c_X11_lengthOf l D K z0 m0 M xth xrm xsv xln xat xer xwr xwd xlo xhi (u.length : Int) (([] : List Int).length : Int) xkl (bR rs u pl 1 0) (bR rs u pl 2 0) xdn xon xtw xol xrw xgl xus xpr xmk xab g rs ps md th nc (bR rs u pl 2 0) 0 hM hW (by omega) (by omega)) my_X11_lengthOf mv_X11_185 (wr := [(M 17, aI (K 0) 2000 gwo), (M 18, aI (K 0) 2000 gma)]) (isC := [0, 1]) (isR := [2, 3]) ⟨rfl, rfl, rfl, rfl, by decide⟩ 11 0 rfl rfl rfl rfl ⟨Nat.le_of_ble_eq_true rfl, Nat.le_of_ble_eq_true rfl⟩ ⟨Nat.le_of_ble_eq_true rfl, Nat.le_of_ble_eq_true rfl⟩ (Nat.le_of_ble_eq_true rfl) hl.1 (cells9 := 0) (slots9 := 0) ⟨rfl, rfl⟩ dX11_convert_195 (fun v u H locs hw_9 G => ?_)
          obtain ⟨rfl, rfl⟩ := hw_9
          replace G := G.perm (ws' := [(m0, mO M xth xrm xsv xln xat xer xwr xwd xlo xhi (u.length : Int) (([] : List Int).length : Int) xkl (bR rs u pl 1 0) (bR rs u pl 2 0) xdn xon xtw xol xrw xgl xus xpr xmk xab), (M 1, aI (K 0) 1247 g), (M 17, aI (K 0) 2000 gwo), (M 18, aI (K 0) 2000 gma)]) [2, 3, 0, 1] rfl rfl
          refine W.eq (g2 := F0 m9 198 ls [.int (iI ((fmo (rget rs (bR rs u pl 2 0)) 0).length : Int)), .int (iI (u.length : Int))]) rfl ?_
          refine ad_isub F dX11_convert_198 ?_
          refine lv_istore (lv' := [(4, .int (iI ((u.length : Int) - ((fmo (rget rs (bR rs u pl 2 0)) 0).length : Int)))), (3, .int (iI ((fmo (rget rs (bR rs u pl 1 0)) 0).length : Int))), (0, .ref m0), (1, .int (iI pl)), (2, .int (iI 0))]) F.1 F.2.1 dX11_convert_199 hl (by decide) rfl (fun ls hl => ?_)
          refine lv_aload_n F.1 F.2.1 dX11_convert_201 rfl (lv_at hl 2 rfl) ?_
          refine lv_aload_n F.1 F.2.1 dX11_convert_202 rfl (lv_at hl 2 rfl) ?_
          refine ad_get F G fl_X11_249 0 rfl rfl dX11_convert_203 ?_
          refine lv_iload_n F.1 F.2.1 dX11_convert_206 rfl (lv_at hl 4 rfl) ?_
          refine ad_if_ne (tgt := 214) F (by decide) dX11_convert_207 (by decide) (fun cc_10 => absurd cc_10 (by decide)) (fun _ => ?_)
          refine ad_iconst F dX11_convert_210 ?_
          refine lv_goto (tgt := 215) F.1 F.2.1 dX11_convert_211 (by decide) ?_
          refine ad_callV (As := [.int (iI (bR rs u pl 1 0)), .int (iI 1)]) (rest := []) F G (c_X11_addForm l D K z0 m0 M xth xrm xsv xln xat xer xwr xwd xlo xhi (u.length : Int) xkl (bR rs u pl 1 0) (bR rs u pl 2 0) xdn xon xtw xol xrw xgl xus xpr xmk xab g gma rs ps md th nc ([] : List Int) (bR rs u pl 1 0) 1 hM hW Tx_nil (by simp) (by omega) (by omega)) my_X11_addForm mv_X11_252 (wr := [(M 17, aI (K 0) 2000 gwo)]) (isC := [0, 1, 3]) (isR := [2]) ⟨rfl, rfl, rfl, rfl, by decide⟩ 11 0 rfl rfl rfl rfl ⟨Nat.le_of_ble_eq_true rfl, Nat.le_of_ble_eq_true rfl⟩ ⟨Nat.le_of_ble_eq_true rfl, Nat.le_of_ble_eq_true rfl⟩ (Nat.le_of_ble_eq_true rfl) hl.1 (cells9 := 0) (slots9 := 0) ⟨rfl, rfl⟩ dX11_convert_215 (fun v u H locs hw_11 G => ?_)
          obtain ⟨m2_12, gma2_13, rfl, hc_14, hc_15, rfl⟩ := hw_11
          replace G := G.perm (ws' := [(m0, mO M xth xrm xsv xln xat xer xwr xwd xlo xhi (u.length : Int) (m2_12.length : Int) xkl (bR rs u pl 1 0) (bR rs u pl 2 0) xdn xon xtw xol xrw xgl xus xpr xmk xab), (M 1, aI (K 0) 1247 g), (M 17, aI (K 0) 2000 gwo), (M 18, aI (K 0) 2000 gma2_13)]) [1, 2, 0, 3] rfl rfl
          refine W.eq (g2 := F0 m9 218 ls []) rfl ?_
          refine lv_iload_n F.1 F.2.1 dX11_convert_218 rfl (lv_at hl 1 rfl) ?_
          refine lv_istore (lv' := [(5, .int (iI ((fmo (rget rs (bR rs u pl 1 0)) 0).length : Int))), (4, .int (iI ((u.length : Int) - ((fmo (rget rs (bR rs u pl 2 0)) 0).length : Int)))), (3, .int (iI ((fmo (rget rs (bR rs u pl 1 0)) 0).length : Int))), (0, .ref m0), (1, .int (iI pl)), (2, .int (iI 0))]) F.1 F.2.1 dX11_convert_219 hl (by decide) rfl (fun ls hl => ?_)
          have hfr : ((fmo (rget rs (bR rs u pl 1 0)) 0).length : Int) = ((fmo (rget rs (bR rs u pl 1 0)) 0).length : Int) := by first | rfl | (rw [show (bR rs u pl 1 0) = -1 by omega, fmo_m1]; rfl)
          have hto : (u.length : Int) - ((fmo (rget rs (bR rs u pl 2 0)) 0).length : Int) = (u.length : Int) - ((fmo (rget rs (bR rs u pl 2 0)) 0).length : Int) := by first | rfl | (rw [show (bR rs u pl 2 0) = -1 by omega, fmo_m1]; rfl)
          have hsl := spl_le rs u pl 0
          rw [hss.1, hss.2] at hsl
          have lp221 : ∀ (n221 : Nat) (k : Int) (gx : Nat → Int) (mx : List Int) (A0 : List Int) (fi : Int) (se : Int) (fr : Int) (to : Int) (H : Heap) (locs : List Loc) (ls : Array Slot), (0 ≤ fr ∧ fr ≤ k ∧ k ≤ to ∧ to ≤ u.length) → (spm rs u pl 0 = fi ∧ spe rs u pl 0 = se) → (A0 = (fmo (rget rs fi) 1)) → (fr = ((fmo (rget rs fi) 0).length : Int)) → (to = (u.length : Int) - ((fmo (rget rs se) 0).length : Int)) → (mx = A0 ++ sl u fr k) → (Tx gx mx) → (to - k) < (n221 : Int) → ad_G D A9 s9.heap H locs [(m0, mO M xth xrm xsv xln xat xer xwr xwd xlo xhi (u.length : Int) (mx.length : Int) xkl fi se xdn xon xtw xol xrw xgl xus xpr xmk xab), (M 1, aI (K 0) 1247 g), (M 17, aI (K 0) 2000 gwo), (M 18, aI (K 0) 2000 gx)] → lv_has ls 6 [(0, .ref m0), (1, .int (iI pl)), (2, .int (iI 0)), (3, .int (iI fr)), (4, .int (iI to)), (5, .int (iI k))] → W p9 l e9 rm_X11_convert_0 s9 m9 ag9 bl9 mt9 c9 H locs 0 0 Q9 (F0 m9 221 ls []) := by
            intro n221
            induction n221 with
            | zero =>
              intro k gx mx A0 fi se fr to H locs ls hk hss hA hfr hto hmx hTx hm221
              exact absurd hm221 (by omega)
            | succ n221 ih221 =>
              intro k gx mx A0 fi se fr to H locs ls hk hss hA hfr hto hmx hTx hm221 G hl
              have hA12 := fmo_len hW fi 1
              have hmxl : (mx.length : Int) = A0.length + (k - fr) := by rw [hmx, List.length_append, Int.natCast_add, sl_len (by omega) (by omega) (by omega)]
              have hAl : A0.length ≤ 12 := by rw [hA]; exact hA12
              have hseb := spe_b rs u pl 0
              refine lv_iload F.1 F.2.1 dX11_convert_221 (lv_at hl 5 rfl) ?_
              refine lv_iload F.1 F.2.1 dX11_convert_223 (lv_at hl 4 rfl) ?_
              refine ad_icmp_ge (tgt := 260) F (by omega) dX11_convert_225 (by decide) (fun cc_16 => ?_) (fun cc_16 => ?_)
              · refine lv_aload_n F.1 F.2.1 dX11_convert_260 rfl (lv_at hl 0 rfl) ?_
                refine lv_aload_n F.1 F.2.1 dX11_convert_261 rfl (lv_at hl 0 rfl) ?_
                refine ad_get F G fl_X11_242 0 rfl rfl dX11_convert_262 ?_
                refine lv_iload_n F.1 F.2.1 dX11_convert_265 rfl (lv_at hl 2 rfl) ?_
                refine ad_if_ne (tgt := 273) F (by decide) dX11_convert_266 (by decide) (fun cc_17 => absurd cc_17 (by decide)) (fun _ => ?_)
                refine ad_iconst F dX11_convert_269 ?_
                refine lv_goto (tgt := 274) F.1 F.2.1 dX11_convert_270 (by decide) ?_
                refine ad_callV (As := [.int (iI se), .int (iI 1)]) (rest := []) F G (c_X11_addForm l D K z0 m0 M xth xrm xsv xln xat xer xwr xwd xlo xhi (u.length : Int) xkl fi se xdn xon xtw xol xrw xgl xus xpr xmk xab g gx rs ps md th nc mx se 1 hM hW hTx (by omega) (by rw [← hss.2]; exact hseb) (by omega)) my_X11_addForm mv_X11_252 (wr := [(M 17, aI (K 0) 2000 gwo)]) (isC := [0, 1, 3]) (isR := [2]) ⟨rfl, rfl, rfl, rfl, by decide⟩ 11 0 rfl rfl rfl rfl ⟨Nat.le_of_ble_eq_true rfl, Nat.le_of_ble_eq_true rfl⟩ ⟨Nat.le_of_ble_eq_true rfl, Nat.le_of_ble_eq_true rfl⟩ (Nat.le_of_ble_eq_true rfl) hl.1 (cells9 := 0) (slots9 := 0) ⟨rfl, rfl⟩ dX11_convert_274 (fun v u H locs hw_18 G => ?_)
                obtain ⟨m2_19, gma2_20, rfl, hc_21, hc_22, rfl⟩ := hw_18
                replace G := G.perm (ws' := [(m0, mO M xth xrm xsv xln xat xer xwr xwd xlo xhi (u.length : Int) (m2_19.length : Int) xkl fi se xdn xon xtw xol xrw xgl xus xpr xmk xab), (M 1, aI (K 0) 1247 g), (M 17, aI (K 0) 2000 gwo), (M 18, aI (K 0) 2000 gma2_20)]) [1, 2, 0, 3] rfl rfl
                refine W.eq (g2 := F0 m9 277 ls []) rfl ?_
                exact ad_vreturn F G hR rfl (Nat.le_of_ble_eq_true rfl) (Nat.le_of_ble_eq_true rfl) ⟨m2_19, gma2_20, rfl, (by rw [hc_21, hmx, hA, spw_eq hss.1 hss.2, ← hfr, ← hto, show k = to by omega]; rfl), hc_22, (by rw [hss.1, hss.2])⟩ dX11_convert_277
              · refine lv_aload_n F.1 F.2.1 dX11_convert_228 rfl (lv_at hl 0 rfl) ?_
                refine ad_get F G fl_X11_42 0 rfl rfl dX11_convert_229 ?_
                refine lv_aload_n F.1 F.2.1 dX11_convert_232 rfl (lv_at hl 0 rfl) ?_
                refine ad_get F G fl_X11_239 0 rfl rfl dX11_convert_233 ?_
                refine lv_aload_n F.1 F.2.1 dX11_convert_236 rfl (lv_at hl 0 rfl) ?_
                refine ad_get F G fl_X11_39 0 rfl rfl dX11_convert_237 ?_
                refine lv_iload F.1 F.2.1 dX11_convert_240 (lv_at hl 5 rfl) ?_
                refine ad_iald F G 2 rfl (w := lat u k) (by omega) (Tx_at hTu (by omega) (by omega)) dX11_convert_242 ?_
                refine ad_iast F G 3 rfl (by omega) (ws' := [(m0, mO M xth xrm xsv xln xat xer xwr xwd xlo xhi (u.length : Int) (mx.length : Int) xkl fi se xdn xon xtw xol xrw xgl xus xpr xmk xab), (M 1, aI (K 0) 1247 g), (M 17, aI (K 0) 2000 gwo), (M 18, aI (K 0) 2000 (va_up gx (mx.length : Int).toNat (lat u k)))]) rfl dX11_convert_243 (fun H locs G => ?_)
                refine lv_aload_n F.1 F.2.1 dX11_convert_244 rfl (lv_at hl 0 rfl) ?_
                refine lv_dup F.1 F.2.1 dX11_convert_245 rfl ?_
                refine ad_get F G fl_X11_239 0 rfl rfl dX11_convert_246 ?_
                refine ad_iconst F dX11_convert_249 ?_
                refine ad_iadd F dX11_convert_250 ?_
                refine ad_put F G fl_X11_239 0 rfl rfl rfl (Nat.le_of_ble_eq_true rfl) (ws' := [(m0, mO M xth xrm xsv xln xat xer xwr xwd xlo xhi (u.length : Int) ((mx.length : Int) + 1) xkl fi se xdn xon xtw xol xrw xgl xus xpr xmk xab), (M 1, aI (K 0) 1247 g), (M 17, aI (K 0) 2000 gwo), (M 18, aI (K 0) 2000 (va_up gx (mx.length : Int).toNat (lat u k)))]) rfl dX11_convert_251 (fun H locs G => ?_)
                have hpl : (((mx ++ [lat u k]).length : Nat) : Int) = (mx.length : Int) + 1 := by simp
                replace G := G.eq (ws' := [(m0, mO M xth xrm xsv xln xat xer xwr xwd xlo xhi (u.length : Int) ((mx ++ [lat u k]).length : Int) xkl fi se xdn xon xtw xol xrw xgl xus xpr xmk xab), (M 1, aI (K 0) 1247 g), (M 17, aI (K 0) 2000 gwo), (M 18, aI (K 0) 2000 (va_up gx (mx.length : Int).toNat (lat u k)))]) (by rw [hpl])
                refine ad_iinc (lv' := [(5, .int (iI (k + 1))), (0, .ref m0), (1, .int (iI pl)), (2, .int (iI 0)), (3, .int (iI fr)), (4, .int (iI to))]) F dX11_convert_254 hl (k := 5) rfl (by decide) rfl (fun ls hl => ?_)
                refine lv_goto (tgt := 221) F.1 F.2.1 dX11_convert_257 (by decide) ?_
                exact ih221 (k + 1) (va_up gx (mx.length : Int).toNat (lat u k)) (mx ++ [lat u k]) A0 fi se fr to _ _ _ (by omega) hss hA hfr hto (by rw [sl_succ (by omega) (by omega) (by omega), hmx, List.append_assoc]) (Tx_push hTx _) (by omega) (G.perm (ws' := [(m0, mO M xth xrm xsv xln xat xer xwr xwd xlo xhi (u.length : Int) ((mx ++ [lat u k]).length : Int) xkl fi se xdn xon xtw xol xrw xgl xus xpr xmk xab), (M 1, aI (K 0) 1247 g), (M 17, aI (K 0) 2000 gwo), (M 18, aI (K 0) 2000 (va_up gx (mx.length : Int).toNat (lat u k)))]) [0, 1, 2, 3] rfl rfl) (lv_sub hl [1, 2, 3, 4, 5, 0] rfl)
          exact lp221 ((((((u.length : Int) - ((fmo (rget rs (bR rs u pl 2 0)) 0).length : Int)) - ((fmo (rget rs (bR rs u pl 1 0)) 0).length : Int) : Int)) + 1).toNat) ((fmo (rget rs (bR rs u pl 1 0)) 0).length : Int) gma2_13 m2_12 m2_12 (bR rs u pl 1 0) (bR rs u pl 2 0) ((fmo (rget rs (bR rs u pl 1 0)) 0).length : Int) ((u.length : Int) - ((fmo (rget rs (bR rs u pl 2 0)) 0).length : Int)) _ _ _ (by omega) hss (by rw [hc_14, List.nil_append]) hfr hto (by rw [sl_self, List.append_nil]) hc_15 (by omega) (G.perm (ws' := [(m0, mO M xth xrm xsv xln xat xer xwr xwd xlo xhi (u.length : Int) (m2_12.length : Int) xkl (bR rs u pl 1 0) (bR rs u pl 2 0) xdn xon xtw xol xrw xgl xus xpr xmk xab), (M 1, aI (K 0) 1247 g), (M 17, aI (K 0) 2000 gwo), (M 18, aI (K 0) 2000 gma2_13)]) [0, 1, 2, 3] rfl rfl) (lv_sub hl [3, 4, 5, 2, 1, 0] rfl)
        · refine ad_iconst F dX11_convert_185 ?_
          refine lv_goto (tgt := 198) F.1 F.2.1 dX11_convert_186 (by decide) ?_
          refine ad_isub F dX11_convert_198 ?_
          refine lv_istore (lv' := [(4, .int (iI ((u.length : Int) - 0))), (3, .int (iI ((fmo (rget rs (bR rs u pl 1 0)) 0).length : Int))), (0, .ref m0), (1, .int (iI pl)), (2, .int (iI 0))]) F.1 F.2.1 dX11_convert_199 hl (by decide) rfl (fun ls hl => ?_)
          refine lv_aload_n F.1 F.2.1 dX11_convert_201 rfl (lv_at hl 2 rfl) ?_
          refine lv_aload_n F.1 F.2.1 dX11_convert_202 rfl (lv_at hl 2 rfl) ?_
          refine ad_get F G fl_X11_249 0 rfl rfl dX11_convert_203 ?_
          refine lv_iload_n F.1 F.2.1 dX11_convert_206 rfl (lv_at hl 4 rfl) ?_
          refine ad_if_ne (tgt := 214) F (by decide) dX11_convert_207 (by decide) (fun cc_23 => absurd cc_23 (by decide)) (fun _ => ?_)
          refine ad_iconst F dX11_convert_210 ?_
          refine lv_goto (tgt := 215) F.1 F.2.1 dX11_convert_211 (by decide) ?_
          refine ad_callV (As := [.int (iI (bR rs u pl 1 0)), .int (iI 1)]) (rest := []) F G (c_X11_addForm l D K z0 m0 M xth xrm xsv xln xat xer xwr xwd xlo xhi (u.length : Int) xkl (bR rs u pl 1 0) (bR rs u pl 2 0) xdn xon xtw xol xrw xgl xus xpr xmk xab g gma rs ps md th nc ([] : List Int) (bR rs u pl 1 0) 1 hM hW Tx_nil (by simp) (by omega) (by omega)) my_X11_addForm mv_X11_252 (wr := [(M 17, aI (K 0) 2000 gwo)]) (isC := [0, 1, 3]) (isR := [2]) ⟨rfl, rfl, rfl, rfl, by decide⟩ 11 0 rfl rfl rfl rfl ⟨Nat.le_of_ble_eq_true rfl, Nat.le_of_ble_eq_true rfl⟩ ⟨Nat.le_of_ble_eq_true rfl, Nat.le_of_ble_eq_true rfl⟩ (Nat.le_of_ble_eq_true rfl) hl.1 (cells9 := 0) (slots9 := 0) ⟨rfl, rfl⟩ dX11_convert_215 (fun v u H locs hw_24 G => ?_)
          obtain ⟨m2_25, gma2_26, rfl, hc_27, hc_28, rfl⟩ := hw_24
          replace G := G.perm (ws' := [(m0, mO M xth xrm xsv xln xat xer xwr xwd xlo xhi (u.length : Int) (m2_25.length : Int) xkl (bR rs u pl 1 0) (bR rs u pl 2 0) xdn xon xtw xol xrw xgl xus xpr xmk xab), (M 1, aI (K 0) 1247 g), (M 17, aI (K 0) 2000 gwo), (M 18, aI (K 0) 2000 gma2_26)]) [1, 2, 0, 3] rfl rfl
          refine W.eq (g2 := F0 m9 218 ls []) rfl ?_
          refine lv_iload_n F.1 F.2.1 dX11_convert_218 rfl (lv_at hl 1 rfl) ?_
          refine lv_istore (lv' := [(5, .int (iI ((fmo (rget rs (bR rs u pl 1 0)) 0).length : Int))), (4, .int (iI ((u.length : Int) - 0))), (3, .int (iI ((fmo (rget rs (bR rs u pl 1 0)) 0).length : Int))), (0, .ref m0), (1, .int (iI pl)), (2, .int (iI 0))]) F.1 F.2.1 dX11_convert_219 hl (by decide) rfl (fun ls hl => ?_)
          have hfr : ((fmo (rget rs (bR rs u pl 1 0)) 0).length : Int) = ((fmo (rget rs (bR rs u pl 1 0)) 0).length : Int) := by first | rfl | (rw [show (bR rs u pl 1 0) = -1 by omega, fmo_m1]; rfl)
          have hto : (u.length : Int) - 0 = (u.length : Int) - ((fmo (rget rs (bR rs u pl 2 0)) 0).length : Int) := by first | rfl | (rw [show (bR rs u pl 2 0) = -1 by omega, fmo_m1]; rfl)
          have hsl := spl_le rs u pl 0
          rw [hss.1, hss.2] at hsl
          have lp221 : ∀ (n221 : Nat) (k : Int) (gx : Nat → Int) (mx : List Int) (A0 : List Int) (fi : Int) (se : Int) (fr : Int) (to : Int) (H : Heap) (locs : List Loc) (ls : Array Slot), (0 ≤ fr ∧ fr ≤ k ∧ k ≤ to ∧ to ≤ u.length) → (spm rs u pl 0 = fi ∧ spe rs u pl 0 = se) → (A0 = (fmo (rget rs fi) 1)) → (fr = ((fmo (rget rs fi) 0).length : Int)) → (to = (u.length : Int) - ((fmo (rget rs se) 0).length : Int)) → (mx = A0 ++ sl u fr k) → (Tx gx mx) → (to - k) < (n221 : Int) → ad_G D A9 s9.heap H locs [(m0, mO M xth xrm xsv xln xat xer xwr xwd xlo xhi (u.length : Int) (mx.length : Int) xkl fi se xdn xon xtw xol xrw xgl xus xpr xmk xab), (M 1, aI (K 0) 1247 g), (M 17, aI (K 0) 2000 gwo), (M 18, aI (K 0) 2000 gx)] → lv_has ls 6 [(0, .ref m0), (1, .int (iI pl)), (2, .int (iI 0)), (3, .int (iI fr)), (4, .int (iI to)), (5, .int (iI k))] → W p9 l e9 rm_X11_convert_0 s9 m9 ag9 bl9 mt9 c9 H locs 0 0 Q9 (F0 m9 221 ls []) := by
            intro n221
            induction n221 with
            | zero =>
              intro k gx mx A0 fi se fr to H locs ls hk hss hA hfr hto hmx hTx hm221
              exact absurd hm221 (by omega)
            | succ n221 ih221 =>
              intro k gx mx A0 fi se fr to H locs ls hk hss hA hfr hto hmx hTx hm221 G hl
              have hA12 := fmo_len hW fi 1
              have hmxl : (mx.length : Int) = A0.length + (k - fr) := by rw [hmx, List.length_append, Int.natCast_add, sl_len (by omega) (by omega) (by omega)]
              have hAl : A0.length ≤ 12 := by rw [hA]; exact hA12
              have hseb := spe_b rs u pl 0
              refine lv_iload F.1 F.2.1 dX11_convert_221 (lv_at hl 5 rfl) ?_
              refine lv_iload F.1 F.2.1 dX11_convert_223 (lv_at hl 4 rfl) ?_
              refine ad_icmp_ge (tgt := 260) F (by omega) dX11_convert_225 (by decide) (fun cc_29 => ?_) (fun cc_29 => ?_)
              · refine lv_aload_n F.1 F.2.1 dX11_convert_260 rfl (lv_at hl 0 rfl) ?_
                refine lv_aload_n F.1 F.2.1 dX11_convert_261 rfl (lv_at hl 0 rfl) ?_
                refine ad_get F G fl_X11_242 0 rfl rfl dX11_convert_262 ?_
                refine lv_iload_n F.1 F.2.1 dX11_convert_265 rfl (lv_at hl 2 rfl) ?_
                refine ad_if_ne (tgt := 273) F (by decide) dX11_convert_266 (by decide) (fun cc_30 => absurd cc_30 (by decide)) (fun _ => ?_)
                refine ad_iconst F dX11_convert_269 ?_
                refine lv_goto (tgt := 274) F.1 F.2.1 dX11_convert_270 (by decide) ?_
                refine ad_callV (As := [.int (iI se), .int (iI 1)]) (rest := []) F G (c_X11_addForm l D K z0 m0 M xth xrm xsv xln xat xer xwr xwd xlo xhi (u.length : Int) xkl fi se xdn xon xtw xol xrw xgl xus xpr xmk xab g gx rs ps md th nc mx se 1 hM hW hTx (by omega) (by rw [← hss.2]; exact hseb) (by omega)) my_X11_addForm mv_X11_252 (wr := [(M 17, aI (K 0) 2000 gwo)]) (isC := [0, 1, 3]) (isR := [2]) ⟨rfl, rfl, rfl, rfl, by decide⟩ 11 0 rfl rfl rfl rfl ⟨Nat.le_of_ble_eq_true rfl, Nat.le_of_ble_eq_true rfl⟩ ⟨Nat.le_of_ble_eq_true rfl, Nat.le_of_ble_eq_true rfl⟩ (Nat.le_of_ble_eq_true rfl) hl.1 (cells9 := 0) (slots9 := 0) ⟨rfl, rfl⟩ dX11_convert_274 (fun v u H locs hw_31 G => ?_)
                obtain ⟨m2_32, gma2_33, rfl, hc_34, hc_35, rfl⟩ := hw_31
                replace G := G.perm (ws' := [(m0, mO M xth xrm xsv xln xat xer xwr xwd xlo xhi (u.length : Int) (m2_32.length : Int) xkl fi se xdn xon xtw xol xrw xgl xus xpr xmk xab), (M 1, aI (K 0) 1247 g), (M 17, aI (K 0) 2000 gwo), (M 18, aI (K 0) 2000 gma2_33)]) [1, 2, 0, 3] rfl rfl
                refine W.eq (g2 := F0 m9 277 ls []) rfl ?_
                exact ad_vreturn F G hR rfl (Nat.le_of_ble_eq_true rfl) (Nat.le_of_ble_eq_true rfl) ⟨m2_32, gma2_33, rfl, (by rw [hc_34, hmx, hA, spw_eq hss.1 hss.2, ← hfr, ← hto, show k = to by omega]; rfl), hc_35, (by rw [hss.1, hss.2])⟩ dX11_convert_277
              · refine lv_aload_n F.1 F.2.1 dX11_convert_228 rfl (lv_at hl 0 rfl) ?_
                refine ad_get F G fl_X11_42 0 rfl rfl dX11_convert_229 ?_
                refine lv_aload_n F.1 F.2.1 dX11_convert_232 rfl (lv_at hl 0 rfl) ?_
                refine ad_get F G fl_X11_239 0 rfl rfl dX11_convert_233 ?_
                refine lv_aload_n F.1 F.2.1 dX11_convert_236 rfl (lv_at hl 0 rfl) ?_
                refine ad_get F G fl_X11_39 0 rfl rfl dX11_convert_237 ?_
                refine lv_iload F.1 F.2.1 dX11_convert_240 (lv_at hl 5 rfl) ?_
                refine ad_iald F G 2 rfl (w := lat u k) (by omega) (Tx_at hTu (by omega) (by omega)) dX11_convert_242 ?_
                refine ad_iast F G 3 rfl (by omega) (ws' := [(m0, mO M xth xrm xsv xln xat xer xwr xwd xlo xhi (u.length : Int) (mx.length : Int) xkl fi se xdn xon xtw xol xrw xgl xus xpr xmk xab), (M 1, aI (K 0) 1247 g), (M 17, aI (K 0) 2000 gwo), (M 18, aI (K 0) 2000 (va_up gx (mx.length : Int).toNat (lat u k)))]) rfl dX11_convert_243 (fun H locs G => ?_)
                refine lv_aload_n F.1 F.2.1 dX11_convert_244 rfl (lv_at hl 0 rfl) ?_
                refine lv_dup F.1 F.2.1 dX11_convert_245 rfl ?_
                refine ad_get F G fl_X11_239 0 rfl rfl dX11_convert_246 ?_
                refine ad_iconst F dX11_convert_249 ?_
                refine ad_iadd F dX11_convert_250 ?_
                refine ad_put F G fl_X11_239 0 rfl rfl rfl (Nat.le_of_ble_eq_true rfl) (ws' := [(m0, mO M xth xrm xsv xln xat xer xwr xwd xlo xhi (u.length : Int) ((mx.length : Int) + 1) xkl fi se xdn xon xtw xol xrw xgl xus xpr xmk xab), (M 1, aI (K 0) 1247 g), (M 17, aI (K 0) 2000 gwo), (M 18, aI (K 0) 2000 (va_up gx (mx.length : Int).toNat (lat u k)))]) rfl dX11_convert_251 (fun H locs G => ?_)
                have hpl : (((mx ++ [lat u k]).length : Nat) : Int) = (mx.length : Int) + 1 := by simp
                replace G := G.eq (ws' := [(m0, mO M xth xrm xsv xln xat xer xwr xwd xlo xhi (u.length : Int) ((mx ++ [lat u k]).length : Int) xkl fi se xdn xon xtw xol xrw xgl xus xpr xmk xab), (M 1, aI (K 0) 1247 g), (M 17, aI (K 0) 2000 gwo), (M 18, aI (K 0) 2000 (va_up gx (mx.length : Int).toNat (lat u k)))]) (by rw [hpl])
                refine ad_iinc (lv' := [(5, .int (iI (k + 1))), (0, .ref m0), (1, .int (iI pl)), (2, .int (iI 0)), (3, .int (iI fr)), (4, .int (iI to))]) F dX11_convert_254 hl (k := 5) rfl (by decide) rfl (fun ls hl => ?_)
                refine lv_goto (tgt := 221) F.1 F.2.1 dX11_convert_257 (by decide) ?_
                exact ih221 (k + 1) (va_up gx (mx.length : Int).toNat (lat u k)) (mx ++ [lat u k]) A0 fi se fr to _ _ _ (by omega) hss hA hfr hto (by rw [sl_succ (by omega) (by omega) (by omega), hmx, List.append_assoc]) (Tx_push hTx _) (by omega) (G.perm (ws' := [(m0, mO M xth xrm xsv xln xat xer xwr xwd xlo xhi (u.length : Int) ((mx ++ [lat u k]).length : Int) xkl fi se xdn xon xtw xol xrw xgl xus xpr xmk xab), (M 1, aI (K 0) 1247 g), (M 17, aI (K 0) 2000 gwo), (M 18, aI (K 0) 2000 (va_up gx (mx.length : Int).toNat (lat u k)))]) [0, 1, 2, 3] rfl rfl) (lv_sub hl [1, 2, 3, 4, 5, 0] rfl)
          exact lp221 ((((((u.length : Int) - 0) - ((fmo (rget rs (bR rs u pl 1 0)) 0).length : Int) : Int)) + 1).toNat) ((fmo (rget rs (bR rs u pl 1 0)) 0).length : Int) gma2_26 m2_25 m2_25 (bR rs u pl 1 0) (bR rs u pl 2 0) ((fmo (rget rs (bR rs u pl 1 0)) 0).length : Int) ((u.length : Int) - 0) _ _ _ (by omega) hss (by rw [hc_27, List.nil_append]) hfr hto (by rw [sl_self, List.append_nil]) hc_28 (by omega) (G.perm (ws' := [(m0, mO M xth xrm xsv xln xat xer xwr xwd xlo xhi (u.length : Int) (m2_25.length : Int) xkl (bR rs u pl 1 0) (bR rs u pl 2 0) xdn xon xtw xol xrw xgl xus xpr xmk xab), (M 1, aI (K 0) 1247 g), (M 17, aI (K 0) 2000 gwo), (M 18, aI (K 0) 2000 gma2_26)]) [0, 1, 2, 3] rfl rfl) (lv_sub hl [3, 4, 5, 2, 1, 0] rfl)
      · refine ad_iconst F dX11_convert_160 ?_
        refine lv_goto (tgt := 173) F.1 F.2.1 dX11_convert_161 (by decide) ?_
        refine lv_istore_n (lv' := [(3, .int (iI 0)), (0, .ref m0), (1, .int (iI pl)), (2, .int (iI 0))]) F.1 F.2.1 dX11_convert_173 rfl hl (by decide) rfl (fun ls hl => ?_)
        refine lv_aload_n F.1 F.2.1 dX11_convert_174 rfl (lv_at hl 1 rfl) ?_
        refine ad_get F G fl_X11_233 0 rfl rfl dX11_convert_175 ?_
        refine lv_aload_n F.1 F.2.1 dX11_convert_178 rfl (lv_at hl 1 rfl) ?_
        refine ad_get F G fl_X11_242 0 rfl rfl dX11_convert_179 ?_
        refine ad_if_ge (tgt := 189) F (by omega) dX11_convert_182 (by decide) (fun cc_36 => ?_) (fun cc_36 => ?_)
        · refine lv_aload_n F.1 F.2.1 dX11_convert_189 rfl (lv_at hl 1 rfl) ?_
          refine lv_aload_n F.1 F.2.1 dX11_convert_190 rfl (lv_at hl 1 rfl) ?_
          refine ad_get F G fl_X11_242 0 rfl rfl dX11_convert_191 ?_
          refine lv_iload_n F.1 F.2.1 dX11_convert_194 rfl (lv_at hl 3 rfl) ?_
          refine ad_callV (As := [.int (iI (bR rs u pl 2 0)), .int (iI 0)]) (rest := [.int (iI (u.length : Int))]) F G (c_X11_lengthOf l D K z0 m0 M xth xrm xsv xln xat xer xwr xwd xlo xhi (u.length : Int) (([] : List Int).length : Int) xkl (bR rs u pl 1 0) (bR rs u pl 2 0) xdn xon xtw xol xrw xgl xus xpr xmk xab g rs ps md th nc (bR rs u pl 2 0) 0 hM hW (by omega) (by omega)) my_X11_lengthOf mv_X11_185 (wr := [(M 17, aI (K 0) 2000 gwo), (M 18, aI (K 0) 2000 gma)]) (isC := [0, 1]) (isR := [2, 3]) ⟨rfl, rfl, rfl, rfl, by decide⟩ 11 0 rfl rfl rfl rfl ⟨Nat.le_of_ble_eq_true rfl, Nat.le_of_ble_eq_true rfl⟩ ⟨Nat.le_of_ble_eq_true rfl, Nat.le_of_ble_eq_true rfl⟩ (Nat.le_of_ble_eq_true rfl) hl.1 (cells9 := 0) (slots9 := 0) ⟨rfl, rfl⟩ dX11_convert_195 (fun v u H locs hw_37 G => ?_)
          obtain ⟨rfl, rfl⟩ := hw_37
          replace G := G.perm (ws' := [(m0, mO M xth xrm xsv xln xat xer xwr xwd xlo xhi (u.length : Int) (([] : List Int).length : Int) xkl (bR rs u pl 1 0) (bR rs u pl 2 0) xdn xon xtw xol xrw xgl xus xpr xmk xab), (M 1, aI (K 0) 1247 g), (M 17, aI (K 0) 2000 gwo), (M 18, aI (K 0) 2000 gma)]) [2, 3, 0, 1] rfl rfl
          refine W.eq (g2 := F0 m9 198 ls [.int (iI ((fmo (rget rs (bR rs u pl 2 0)) 0).length : Int)), .int (iI (u.length : Int))]) rfl ?_
          refine ad_isub F dX11_convert_198 ?_
          refine lv_istore (lv' := [(4, .int (iI ((u.length : Int) - ((fmo (rget rs (bR rs u pl 2 0)) 0).length : Int)))), (3, .int (iI 0)), (0, .ref m0), (1, .int (iI pl)), (2, .int (iI 0))]) F.1 F.2.1 dX11_convert_199 hl (by decide) rfl (fun ls hl => ?_)
          refine lv_aload_n F.1 F.2.1 dX11_convert_201 rfl (lv_at hl 2 rfl) ?_
          refine lv_aload_n F.1 F.2.1 dX11_convert_202 rfl (lv_at hl 2 rfl) ?_
          refine ad_get F G fl_X11_249 0 rfl rfl dX11_convert_203 ?_
          refine lv_iload_n F.1 F.2.1 dX11_convert_206 rfl (lv_at hl 4 rfl) ?_
          refine ad_if_ne (tgt := 214) F (by decide) dX11_convert_207 (by decide) (fun cc_38 => absurd cc_38 (by decide)) (fun _ => ?_)
          refine ad_iconst F dX11_convert_210 ?_
          refine lv_goto (tgt := 215) F.1 F.2.1 dX11_convert_211 (by decide) ?_
          refine ad_callV (As := [.int (iI (bR rs u pl 1 0)), .int (iI 1)]) (rest := []) F G (c_X11_addForm l D K z0 m0 M xth xrm xsv xln xat xer xwr xwd xlo xhi (u.length : Int) xkl (bR rs u pl 1 0) (bR rs u pl 2 0) xdn xon xtw xol xrw xgl xus xpr xmk xab g gma rs ps md th nc ([] : List Int) (bR rs u pl 1 0) 1 hM hW Tx_nil (by simp) (by omega) (by omega)) my_X11_addForm mv_X11_252 (wr := [(M 17, aI (K 0) 2000 gwo)]) (isC := [0, 1, 3]) (isR := [2]) ⟨rfl, rfl, rfl, rfl, by decide⟩ 11 0 rfl rfl rfl rfl ⟨Nat.le_of_ble_eq_true rfl, Nat.le_of_ble_eq_true rfl⟩ ⟨Nat.le_of_ble_eq_true rfl, Nat.le_of_ble_eq_true rfl⟩ (Nat.le_of_ble_eq_true rfl) hl.1 (cells9 := 0) (slots9 := 0) ⟨rfl, rfl⟩ dX11_convert_215 (fun v u H locs hw_39 G => ?_)
          obtain ⟨m2_40, gma2_41, rfl, hc_42, hc_43, rfl⟩ := hw_39
          replace G := G.perm (ws' := [(m0, mO M xth xrm xsv xln xat xer xwr xwd xlo xhi (u.length : Int) (m2_40.length : Int) xkl (bR rs u pl 1 0) (bR rs u pl 2 0) xdn xon xtw xol xrw xgl xus xpr xmk xab), (M 1, aI (K 0) 1247 g), (M 17, aI (K 0) 2000 gwo), (M 18, aI (K 0) 2000 gma2_41)]) [1, 2, 0, 3] rfl rfl
          refine W.eq (g2 := F0 m9 218 ls []) rfl ?_
          refine lv_iload_n F.1 F.2.1 dX11_convert_218 rfl (lv_at hl 1 rfl) ?_
          refine lv_istore (lv' := [(5, .int (iI 0)), (4, .int (iI ((u.length : Int) - ((fmo (rget rs (bR rs u pl 2 0)) 0).length : Int)))), (3, .int (iI 0)), (0, .ref m0), (1, .int (iI pl)), (2, .int (iI 0))]) F.1 F.2.1 dX11_convert_219 hl (by decide) rfl (fun ls hl => ?_)
          have hfr : 0 = ((fmo (rget rs (bR rs u pl 1 0)) 0).length : Int) := by first | rfl | (rw [show (bR rs u pl 1 0) = -1 by omega, fmo_m1]; rfl)
          have hto : (u.length : Int) - ((fmo (rget rs (bR rs u pl 2 0)) 0).length : Int) = (u.length : Int) - ((fmo (rget rs (bR rs u pl 2 0)) 0).length : Int) := by first | rfl | (rw [show (bR rs u pl 2 0) = -1 by omega, fmo_m1]; rfl)
          have hsl := spl_le rs u pl 0
          rw [hss.1, hss.2] at hsl
          have lp221 : ∀ (n221 : Nat) (k : Int) (gx : Nat → Int) (mx : List Int) (A0 : List Int) (fi : Int) (se : Int) (fr : Int) (to : Int) (H : Heap) (locs : List Loc) (ls : Array Slot), (0 ≤ fr ∧ fr ≤ k ∧ k ≤ to ∧ to ≤ u.length) → (spm rs u pl 0 = fi ∧ spe rs u pl 0 = se) → (A0 = (fmo (rget rs fi) 1)) → (fr = ((fmo (rget rs fi) 0).length : Int)) → (to = (u.length : Int) - ((fmo (rget rs se) 0).length : Int)) → (mx = A0 ++ sl u fr k) → (Tx gx mx) → (to - k) < (n221 : Int) → ad_G D A9 s9.heap H locs [(m0, mO M xth xrm xsv xln xat xer xwr xwd xlo xhi (u.length : Int) (mx.length : Int) xkl fi se xdn xon xtw xol xrw xgl xus xpr xmk xab), (M 1, aI (K 0) 1247 g), (M 17, aI (K 0) 2000 gwo), (M 18, aI (K 0) 2000 gx)] → lv_has ls 6 [(0, .ref m0), (1, .int (iI pl)), (2, .int (iI 0)), (3, .int (iI fr)), (4, .int (iI to)), (5, .int (iI k))] → W p9 l e9 rm_X11_convert_0 s9 m9 ag9 bl9 mt9 c9 H locs 0 0 Q9 (F0 m9 221 ls []) := by
            intro n221
            induction n221 with
            | zero =>
              intro k gx mx A0 fi se fr to H locs ls hk hss hA hfr hto hmx hTx hm221
              exact absurd hm221 (by omega)
            | succ n221 ih221 =>
              intro k gx mx A0 fi se fr to H locs ls hk hss hA hfr hto hmx hTx hm221 G hl
              have hA12 := fmo_len hW fi 1
              have hmxl : (mx.length : Int) = A0.length + (k - fr) := by rw [hmx, List.length_append, Int.natCast_add, sl_len (by omega) (by omega) (by omega)]
              have hAl : A0.length ≤ 12 := by rw [hA]; exact hA12
              have hseb := spe_b rs u pl 0
              refine lv_iload F.1 F.2.1 dX11_convert_221 (lv_at hl 5 rfl) ?_
              refine lv_iload F.1 F.2.1 dX11_convert_223 (lv_at hl 4 rfl) ?_
              refine ad_icmp_ge (tgt := 260) F (by omega) dX11_convert_225 (by decide) (fun cc_44 => ?_) (fun cc_44 => ?_)
              · refine lv_aload_n F.1 F.2.1 dX11_convert_260 rfl (lv_at hl 0 rfl) ?_
                refine lv_aload_n F.1 F.2.1 dX11_convert_261 rfl (lv_at hl 0 rfl) ?_
                refine ad_get F G fl_X11_242 0 rfl rfl dX11_convert_262 ?_
                refine lv_iload_n F.1 F.2.1 dX11_convert_265 rfl (lv_at hl 2 rfl) ?_
                refine ad_if_ne (tgt := 273) F (by decide) dX11_convert_266 (by decide) (fun cc_45 => absurd cc_45 (by decide)) (fun _ => ?_)
                refine ad_iconst F dX11_convert_269 ?_
                refine lv_goto (tgt := 274) F.1 F.2.1 dX11_convert_270 (by decide) ?_
                refine ad_callV (As := [.int (iI se), .int (iI 1)]) (rest := []) F G (c_X11_addForm l D K z0 m0 M xth xrm xsv xln xat xer xwr xwd xlo xhi (u.length : Int) xkl fi se xdn xon xtw xol xrw xgl xus xpr xmk xab g gx rs ps md th nc mx se 1 hM hW hTx (by omega) (by rw [← hss.2]; exact hseb) (by omega)) my_X11_addForm mv_X11_252 (wr := [(M 17, aI (K 0) 2000 gwo)]) (isC := [0, 1, 3]) (isR := [2]) ⟨rfl, rfl, rfl, rfl, by decide⟩ 11 0 rfl rfl rfl rfl ⟨Nat.le_of_ble_eq_true rfl, Nat.le_of_ble_eq_true rfl⟩ ⟨Nat.le_of_ble_eq_true rfl, Nat.le_of_ble_eq_true rfl⟩ (Nat.le_of_ble_eq_true rfl) hl.1 (cells9 := 0) (slots9 := 0) ⟨rfl, rfl⟩ dX11_convert_274 (fun v u H locs hw_46 G => ?_)
                obtain ⟨m2_47, gma2_48, rfl, hc_49, hc_50, rfl⟩ := hw_46
                replace G := G.perm (ws' := [(m0, mO M xth xrm xsv xln xat xer xwr xwd xlo xhi (u.length : Int) (m2_47.length : Int) xkl fi se xdn xon xtw xol xrw xgl xus xpr xmk xab), (M 1, aI (K 0) 1247 g), (M 17, aI (K 0) 2000 gwo), (M 18, aI (K 0) 2000 gma2_48)]) [1, 2, 0, 3] rfl rfl
                refine W.eq (g2 := F0 m9 277 ls []) rfl ?_
                exact ad_vreturn F G hR rfl (Nat.le_of_ble_eq_true rfl) (Nat.le_of_ble_eq_true rfl) ⟨m2_47, gma2_48, rfl, (by rw [hc_49, hmx, hA, spw_eq hss.1 hss.2, ← hfr, ← hto, show k = to by omega]; rfl), hc_50, (by rw [hss.1, hss.2])⟩ dX11_convert_277
              · refine lv_aload_n F.1 F.2.1 dX11_convert_228 rfl (lv_at hl 0 rfl) ?_
                refine ad_get F G fl_X11_42 0 rfl rfl dX11_convert_229 ?_
                refine lv_aload_n F.1 F.2.1 dX11_convert_232 rfl (lv_at hl 0 rfl) ?_
                refine ad_get F G fl_X11_239 0 rfl rfl dX11_convert_233 ?_
                refine lv_aload_n F.1 F.2.1 dX11_convert_236 rfl (lv_at hl 0 rfl) ?_
                refine ad_get F G fl_X11_39 0 rfl rfl dX11_convert_237 ?_
                refine lv_iload F.1 F.2.1 dX11_convert_240 (lv_at hl 5 rfl) ?_
                refine ad_iald F G 2 rfl (w := lat u k) (by omega) (Tx_at hTu (by omega) (by omega)) dX11_convert_242 ?_
                refine ad_iast F G 3 rfl (by omega) (ws' := [(m0, mO M xth xrm xsv xln xat xer xwr xwd xlo xhi (u.length : Int) (mx.length : Int) xkl fi se xdn xon xtw xol xrw xgl xus xpr xmk xab), (M 1, aI (K 0) 1247 g), (M 17, aI (K 0) 2000 gwo), (M 18, aI (K 0) 2000 (va_up gx (mx.length : Int).toNat (lat u k)))]) rfl dX11_convert_243 (fun H locs G => ?_)
                refine lv_aload_n F.1 F.2.1 dX11_convert_244 rfl (lv_at hl 0 rfl) ?_
                refine lv_dup F.1 F.2.1 dX11_convert_245 rfl ?_
                refine ad_get F G fl_X11_239 0 rfl rfl dX11_convert_246 ?_
                refine ad_iconst F dX11_convert_249 ?_
                refine ad_iadd F dX11_convert_250 ?_
                refine ad_put F G fl_X11_239 0 rfl rfl rfl (Nat.le_of_ble_eq_true rfl) (ws' := [(m0, mO M xth xrm xsv xln xat xer xwr xwd xlo xhi (u.length : Int) ((mx.length : Int) + 1) xkl fi se xdn xon xtw xol xrw xgl xus xpr xmk xab), (M 1, aI (K 0) 1247 g), (M 17, aI (K 0) 2000 gwo), (M 18, aI (K 0) 2000 (va_up gx (mx.length : Int).toNat (lat u k)))]) rfl dX11_convert_251 (fun H locs G => ?_)
                have hpl : (((mx ++ [lat u k]).length : Nat) : Int) = (mx.length : Int) + 1 := by simp
                replace G := G.eq (ws' := [(m0, mO M xth xrm xsv xln xat xer xwr xwd xlo xhi (u.length : Int) ((mx ++ [lat u k]).length : Int) xkl fi se xdn xon xtw xol xrw xgl xus xpr xmk xab), (M 1, aI (K 0) 1247 g), (M 17, aI (K 0) 2000 gwo), (M 18, aI (K 0) 2000 (va_up gx (mx.length : Int).toNat (lat u k)))]) (by rw [hpl])
                refine ad_iinc (lv' := [(5, .int (iI (k + 1))), (0, .ref m0), (1, .int (iI pl)), (2, .int (iI 0)), (3, .int (iI fr)), (4, .int (iI to))]) F dX11_convert_254 hl (k := 5) rfl (by decide) rfl (fun ls hl => ?_)
                refine lv_goto (tgt := 221) F.1 F.2.1 dX11_convert_257 (by decide) ?_
                exact ih221 (k + 1) (va_up gx (mx.length : Int).toNat (lat u k)) (mx ++ [lat u k]) A0 fi se fr to _ _ _ (by omega) hss hA hfr hto (by rw [sl_succ (by omega) (by omega) (by omega), hmx, List.append_assoc]) (Tx_push hTx _) (by omega) (G.perm (ws' := [(m0, mO M xth xrm xsv xln xat xer xwr xwd xlo xhi (u.length : Int) ((mx ++ [lat u k]).length : Int) xkl fi se xdn xon xtw xol xrw xgl xus xpr xmk xab), (M 1, aI (K 0) 1247 g), (M 17, aI (K 0) 2000 gwo), (M 18, aI (K 0) 2000 (va_up gx (mx.length : Int).toNat (lat u k)))]) [0, 1, 2, 3] rfl rfl) (lv_sub hl [1, 2, 3, 4, 5, 0] rfl)
          exact lp221 ((((((u.length : Int) - ((fmo (rget rs (bR rs u pl 2 0)) 0).length : Int)) - 0 : Int)) + 1).toNat) 0 gma2_41 m2_40 m2_40 (bR rs u pl 1 0) (bR rs u pl 2 0) 0 ((u.length : Int) - ((fmo (rget rs (bR rs u pl 2 0)) 0).length : Int)) _ _ _ (by omega) hss (by rw [hc_42, List.nil_append]) hfr hto (by rw [sl_self, List.append_nil]) hc_43 (by omega) (G.perm (ws' := [(m0, mO M xth xrm xsv xln xat xer xwr xwd xlo xhi (u.length : Int) (m2_40.length : Int) xkl (bR rs u pl 1 0) (bR rs u pl 2 0) xdn xon xtw xol xrw xgl xus xpr xmk xab), (M 1, aI (K 0) 1247 g), (M 17, aI (K 0) 2000 gwo), (M 18, aI (K 0) 2000 gma2_41)]) [0, 1, 2, 3] rfl rfl) (lv_sub hl [3, 4, 5, 2, 1, 0] rfl)
        · refine ad_iconst F dX11_convert_185 ?_
          refine lv_goto (tgt := 198) F.1 F.2.1 dX11_convert_186 (by decide) ?_
          refine ad_isub F dX11_convert_198 ?_
          refine lv_istore (lv' := [(4, .int (iI ((u.length : Int) - 0))), (3, .int (iI 0)), (0, .ref m0), (1, .int (iI pl)), (2, .int (iI 0))]) F.1 F.2.1 dX11_convert_199 hl (by decide) rfl (fun ls hl => ?_)
          refine lv_aload_n F.1 F.2.1 dX11_convert_201 rfl (lv_at hl 2 rfl) ?_
          refine lv_aload_n F.1 F.2.1 dX11_convert_202 rfl (lv_at hl 2 rfl) ?_
          refine ad_get F G fl_X11_249 0 rfl rfl dX11_convert_203 ?_
          refine lv_iload_n F.1 F.2.1 dX11_convert_206 rfl (lv_at hl 4 rfl) ?_
          refine ad_if_ne (tgt := 214) F (by decide) dX11_convert_207 (by decide) (fun cc_51 => absurd cc_51 (by decide)) (fun _ => ?_)
          refine ad_iconst F dX11_convert_210 ?_
          refine lv_goto (tgt := 215) F.1 F.2.1 dX11_convert_211 (by decide) ?_
          refine ad_callV (As := [.int (iI (bR rs u pl 1 0)), .int (iI 1)]) (rest := []) F G (c_X11_addForm l D K z0 m0 M xth xrm xsv xln xat xer xwr xwd xlo xhi (u.length : Int) xkl (bR rs u pl 1 0) (bR rs u pl 2 0) xdn xon xtw xol xrw xgl xus xpr xmk xab g gma rs ps md th nc ([] : List Int) (bR rs u pl 1 0) 1 hM hW Tx_nil (by simp) (by omega) (by omega)) my_X11_addForm mv_X11_252 (wr := [(M 17, aI (K 0) 2000 gwo)]) (isC := [0, 1, 3]) (isR := [2]) ⟨rfl, rfl, rfl, rfl, by decide⟩ 11 0 rfl rfl rfl rfl ⟨Nat.le_of_ble_eq_true rfl, Nat.le_of_ble_eq_true rfl⟩ ⟨Nat.le_of_ble_eq_true rfl, Nat.le_of_ble_eq_true rfl⟩ (Nat.le_of_ble_eq_true rfl) hl.1 (cells9 := 0) (slots9 := 0) ⟨rfl, rfl⟩ dX11_convert_215 (fun v u H locs hw_52 G => ?_)
          obtain ⟨m2_53, gma2_54, rfl, hc_55, hc_56, rfl⟩ := hw_52
          replace G := G.perm (ws' := [(m0, mO M xth xrm xsv xln xat xer xwr xwd xlo xhi (u.length : Int) (m2_53.length : Int) xkl (bR rs u pl 1 0) (bR rs u pl 2 0) xdn xon xtw xol xrw xgl xus xpr xmk xab), (M 1, aI (K 0) 1247 g), (M 17, aI (K 0) 2000 gwo), (M 18, aI (K 0) 2000 gma2_54)]) [1, 2, 0, 3] rfl rfl
          refine W.eq (g2 := F0 m9 218 ls []) rfl ?_
          refine lv_iload_n F.1 F.2.1 dX11_convert_218 rfl (lv_at hl 1 rfl) ?_
          refine lv_istore (lv' := [(5, .int (iI 0)), (4, .int (iI ((u.length : Int) - 0))), (3, .int (iI 0)), (0, .ref m0), (1, .int (iI pl)), (2, .int (iI 0))]) F.1 F.2.1 dX11_convert_219 hl (by decide) rfl (fun ls hl => ?_)
          have hfr : 0 = ((fmo (rget rs (bR rs u pl 1 0)) 0).length : Int) := by first | rfl | (rw [show (bR rs u pl 1 0) = -1 by omega, fmo_m1]; rfl)
          have hto : (u.length : Int) - 0 = (u.length : Int) - ((fmo (rget rs (bR rs u pl 2 0)) 0).length : Int) := by first | rfl | (rw [show (bR rs u pl 2 0) = -1 by omega, fmo_m1]; rfl)
          have hsl := spl_le rs u pl 0
          rw [hss.1, hss.2] at hsl
          have lp221 : ∀ (n221 : Nat) (k : Int) (gx : Nat → Int) (mx : List Int) (A0 : List Int) (fi : Int) (se : Int) (fr : Int) (to : Int) (H : Heap) (locs : List Loc) (ls : Array Slot), (0 ≤ fr ∧ fr ≤ k ∧ k ≤ to ∧ to ≤ u.length) → (spm rs u pl 0 = fi ∧ spe rs u pl 0 = se) → (A0 = (fmo (rget rs fi) 1)) → (fr = ((fmo (rget rs fi) 0).length : Int)) → (to = (u.length : Int) - ((fmo (rget rs se) 0).length : Int)) → (mx = A0 ++ sl u fr k) → (Tx gx mx) → (to - k) < (n221 : Int) → ad_G D A9 s9.heap H locs [(m0, mO M xth xrm xsv xln xat xer xwr xwd xlo xhi (u.length : Int) (mx.length : Int) xkl fi se xdn xon xtw xol xrw xgl xus xpr xmk xab), (M 1, aI (K 0) 1247 g), (M 17, aI (K 0) 2000 gwo), (M 18, aI (K 0) 2000 gx)] → lv_has ls 6 [(0, .ref m0), (1, .int (iI pl)), (2, .int (iI 0)), (3, .int (iI fr)), (4, .int (iI to)), (5, .int (iI k))] → W p9 l e9 rm_X11_convert_0 s9 m9 ag9 bl9 mt9 c9 H locs 0 0 Q9 (F0 m9 221 ls []) := by
            intro n221
            induction n221 with
            | zero =>
              intro k gx mx A0 fi se fr to H locs ls hk hss hA hfr hto hmx hTx hm221
              exact absurd hm221 (by omega)
            | succ n221 ih221 =>
              intro k gx mx A0 fi se fr to H locs ls hk hss hA hfr hto hmx hTx hm221 G hl
              have hA12 := fmo_len hW fi 1
              have hmxl : (mx.length : Int) = A0.length + (k - fr) := by rw [hmx, List.length_append, Int.natCast_add, sl_len (by omega) (by omega) (by omega)]
              have hAl : A0.length ≤ 12 := by rw [hA]; exact hA12
              have hseb := spe_b rs u pl 0
              refine lv_iload F.1 F.2.1 dX11_convert_221 (lv_at hl 5 rfl) ?_
              refine lv_iload F.1 F.2.1 dX11_convert_223 (lv_at hl 4 rfl) ?_
              refine ad_icmp_ge (tgt := 260) F (by omega) dX11_convert_225 (by decide) (fun cc_57 => ?_) (fun cc_57 => ?_)
              · refine lv_aload_n F.1 F.2.1 dX11_convert_260 rfl (lv_at hl 0 rfl) ?_
                refine lv_aload_n F.1 F.2.1 dX11_convert_261 rfl (lv_at hl 0 rfl) ?_
                refine ad_get F G fl_X11_242 0 rfl rfl dX11_convert_262 ?_
                refine lv_iload_n F.1 F.2.1 dX11_convert_265 rfl (lv_at hl 2 rfl) ?_
                refine ad_if_ne (tgt := 273) F (by decide) dX11_convert_266 (by decide) (fun cc_58 => absurd cc_58 (by decide)) (fun _ => ?_)
                refine ad_iconst F dX11_convert_269 ?_
                refine lv_goto (tgt := 274) F.1 F.2.1 dX11_convert_270 (by decide) ?_
                refine ad_callV (As := [.int (iI se), .int (iI 1)]) (rest := []) F G (c_X11_addForm l D K z0 m0 M xth xrm xsv xln xat xer xwr xwd xlo xhi (u.length : Int) xkl fi se xdn xon xtw xol xrw xgl xus xpr xmk xab g gx rs ps md th nc mx se 1 hM hW hTx (by omega) (by rw [← hss.2]; exact hseb) (by omega)) my_X11_addForm mv_X11_252 (wr := [(M 17, aI (K 0) 2000 gwo)]) (isC := [0, 1, 3]) (isR := [2]) ⟨rfl, rfl, rfl, rfl, by decide⟩ 11 0 rfl rfl rfl rfl ⟨Nat.le_of_ble_eq_true rfl, Nat.le_of_ble_eq_true rfl⟩ ⟨Nat.le_of_ble_eq_true rfl, Nat.le_of_ble_eq_true rfl⟩ (Nat.le_of_ble_eq_true rfl) hl.1 (cells9 := 0) (slots9 := 0) ⟨rfl, rfl⟩ dX11_convert_274 (fun v u H locs hw_59 G => ?_)
                obtain ⟨m2_60, gma2_61, rfl, hc_62, hc_63, rfl⟩ := hw_59
                replace G := G.perm (ws' := [(m0, mO M xth xrm xsv xln xat xer xwr xwd xlo xhi (u.length : Int) (m2_60.length : Int) xkl fi se xdn xon xtw xol xrw xgl xus xpr xmk xab), (M 1, aI (K 0) 1247 g), (M 17, aI (K 0) 2000 gwo), (M 18, aI (K 0) 2000 gma2_61)]) [1, 2, 0, 3] rfl rfl
                refine W.eq (g2 := F0 m9 277 ls []) rfl ?_
                exact ad_vreturn F G hR rfl (Nat.le_of_ble_eq_true rfl) (Nat.le_of_ble_eq_true rfl) ⟨m2_60, gma2_61, rfl, (by rw [hc_62, hmx, hA, spw_eq hss.1 hss.2, ← hfr, ← hto, show k = to by omega]; rfl), hc_63, (by rw [hss.1, hss.2])⟩ dX11_convert_277
              · refine lv_aload_n F.1 F.2.1 dX11_convert_228 rfl (lv_at hl 0 rfl) ?_
                refine ad_get F G fl_X11_42 0 rfl rfl dX11_convert_229 ?_
                refine lv_aload_n F.1 F.2.1 dX11_convert_232 rfl (lv_at hl 0 rfl) ?_
                refine ad_get F G fl_X11_239 0 rfl rfl dX11_convert_233 ?_
                refine lv_aload_n F.1 F.2.1 dX11_convert_236 rfl (lv_at hl 0 rfl) ?_
                refine ad_get F G fl_X11_39 0 rfl rfl dX11_convert_237 ?_
                refine lv_iload F.1 F.2.1 dX11_convert_240 (lv_at hl 5 rfl) ?_
                refine ad_iald F G 2 rfl (w := lat u k) (by omega) (Tx_at hTu (by omega) (by omega)) dX11_convert_242 ?_
                refine ad_iast F G 3 rfl (by omega) (ws' := [(m0, mO M xth xrm xsv xln xat xer xwr xwd xlo xhi (u.length : Int) (mx.length : Int) xkl fi se xdn xon xtw xol xrw xgl xus xpr xmk xab), (M 1, aI (K 0) 1247 g), (M 17, aI (K 0) 2000 gwo), (M 18, aI (K 0) 2000 (va_up gx (mx.length : Int).toNat (lat u k)))]) rfl dX11_convert_243 (fun H locs G => ?_)
                refine lv_aload_n F.1 F.2.1 dX11_convert_244 rfl (lv_at hl 0 rfl) ?_
                refine lv_dup F.1 F.2.1 dX11_convert_245 rfl ?_
                refine ad_get F G fl_X11_239 0 rfl rfl dX11_convert_246 ?_
                refine ad_iconst F dX11_convert_249 ?_
                refine ad_iadd F dX11_convert_250 ?_
                refine ad_put F G fl_X11_239 0 rfl rfl rfl (Nat.le_of_ble_eq_true rfl) (ws' := [(m0, mO M xth xrm xsv xln xat xer xwr xwd xlo xhi (u.length : Int) ((mx.length : Int) + 1) xkl fi se xdn xon xtw xol xrw xgl xus xpr xmk xab), (M 1, aI (K 0) 1247 g), (M 17, aI (K 0) 2000 gwo), (M 18, aI (K 0) 2000 (va_up gx (mx.length : Int).toNat (lat u k)))]) rfl dX11_convert_251 (fun H locs G => ?_)
                have hpl : (((mx ++ [lat u k]).length : Nat) : Int) = (mx.length : Int) + 1 := by simp
                replace G := G.eq (ws' := [(m0, mO M xth xrm xsv xln xat xer xwr xwd xlo xhi (u.length : Int) ((mx ++ [lat u k]).length : Int) xkl fi se xdn xon xtw xol xrw xgl xus xpr xmk xab), (M 1, aI (K 0) 1247 g), (M 17, aI (K 0) 2000 gwo), (M 18, aI (K 0) 2000 (va_up gx (mx.length : Int).toNat (lat u k)))]) (by rw [hpl])
                refine ad_iinc (lv' := [(5, .int (iI (k + 1))), (0, .ref m0), (1, .int (iI pl)), (2, .int (iI 0)), (3, .int (iI fr)), (4, .int (iI to))]) F dX11_convert_254 hl (k := 5) rfl (by decide) rfl (fun ls hl => ?_)
                refine lv_goto (tgt := 221) F.1 F.2.1 dX11_convert_257 (by decide) ?_
                exact ih221 (k + 1) (va_up gx (mx.length : Int).toNat (lat u k)) (mx ++ [lat u k]) A0 fi se fr to _ _ _ (by omega) hss hA hfr hto (by rw [sl_succ (by omega) (by omega) (by omega), hmx, List.append_assoc]) (Tx_push hTx _) (by omega) (G.perm (ws' := [(m0, mO M xth xrm xsv xln xat xer xwr xwd xlo xhi (u.length : Int) ((mx ++ [lat u k]).length : Int) xkl fi se xdn xon xtw xol xrw xgl xus xpr xmk xab), (M 1, aI (K 0) 1247 g), (M 17, aI (K 0) 2000 gwo), (M 18, aI (K 0) 2000 (va_up gx (mx.length : Int).toNat (lat u k)))]) [0, 1, 2, 3] rfl rfl) (lv_sub hl [1, 2, 3, 4, 5, 0] rfl)
          exact lp221 ((((((u.length : Int) - 0) - 0 : Int)) + 1).toNat) 0 gma2_54 m2_53 m2_53 (bR rs u pl 1 0) (bR rs u pl 2 0) 0 ((u.length : Int) - 0) _ _ _ (by omega) hss (by rw [hc_55, List.nil_append]) hfr hto (by rw [sl_self, List.append_nil]) hc_56 (by omega) (G.perm (ws' := [(m0, mO M xth xrm xsv xln xat xer xwr xwd xlo xhi (u.length : Int) (m2_53.length : Int) xkl (bR rs u pl 1 0) (bR rs u pl 2 0) xdn xon xtw xol xrw xgl xus xpr xmk xab), (M 1, aI (K 0) 1247 g), (M 17, aI (K 0) 2000 gwo), (M 18, aI (K 0) 2000 gma2_54)]) [0, 1, 2, 3] rfl rfl) (lv_sub hl [3, 4, 5, 2, 1, 0] rfl)
    · refine lv_aload_n F.1 F.2.1 dX11_convert_75 rfl (lv_at hl 0 rfl) ?_
      refine ad_get F G fl_X11_242 0 rfl rfl dX11_convert_76 ?_
      refine ad_if_lt (tgt := 153) F (by omega) dX11_convert_79 (by decide) (fun cc_64 => ?_) (fun cc_64 => ?_)
      · have hss : spm rs u pl 0 = bR rs u pl 1 0 ∧ spe rs u pl 0 = bR rs u pl 2 0 := sp_n cc_2 (by omega)
        refine lv_aload_n F.1 F.2.1 dX11_convert_153 rfl (lv_at hl 0 rfl) ?_
        refine ad_get F G fl_X11_249 0 rfl rfl dX11_convert_154 ?_
        refine ad_if_ge (tgt := 164) F (by omega) dX11_convert_157 (by decide) (fun cc_65 => ?_) (fun cc_65 => ?_)
        · refine lv_aload_n F.1 F.2.1 dX11_convert_164 rfl (lv_at hl 0 rfl) ?_
          refine lv_aload_n F.1 F.2.1 dX11_convert_165 rfl (lv_at hl 0 rfl) ?_
          refine ad_get F G fl_X11_249 0 rfl rfl dX11_convert_166 ?_
          refine lv_iload_n F.1 F.2.1 dX11_convert_169 rfl (lv_at hl 2 rfl) ?_
          refine ad_callV (As := [.int (iI (bR rs u pl 1 0)), .int (iI 0)]) (rest := []) F G (c_X11_lengthOf l D K z0 m0 M xth xrm xsv xln xat xer xwr xwd xlo xhi (u.length : Int) (([] : List Int).length : Int) xkl (bR rs u pl 1 0) (bR rs u pl 2 0) xdn xon xtw xol xrw xgl xus xpr xmk xab g rs ps md th nc (bR rs u pl 1 0) 0 hM hW (by omega) (by omega)) my_X11_lengthOf mv_X11_185 (wr := [(M 17, aI (K 0) 2000 gwo), (M 18, aI (K 0) 2000 gma)]) (isC := [0, 1]) (isR := [2, 3]) ⟨rfl, rfl, rfl, rfl, by decide⟩ 11 0 rfl rfl rfl rfl ⟨Nat.le_of_ble_eq_true rfl, Nat.le_of_ble_eq_true rfl⟩ ⟨Nat.le_of_ble_eq_true rfl, Nat.le_of_ble_eq_true rfl⟩ (Nat.le_of_ble_eq_true rfl) hl.1 (cells9 := 0) (slots9 := 0) ⟨rfl, rfl⟩ dX11_convert_170 (fun v u H locs hw_66 G => ?_)
          obtain ⟨rfl, rfl⟩ := hw_66
          replace G := G.perm (ws' := [(m0, mO M xth xrm xsv xln xat xer xwr xwd xlo xhi (u.length : Int) (([] : List Int).length : Int) xkl (bR rs u pl 1 0) (bR rs u pl 2 0) xdn xon xtw xol xrw xgl xus xpr xmk xab), (M 1, aI (K 0) 1247 g), (M 17, aI (K 0) 2000 gwo), (M 18, aI (K 0) 2000 gma)]) [2, 3, 0, 1] rfl rfl
          refine W.eq (g2 := F0 m9 173 ls [.int (iI ((fmo (rget rs (bR rs u pl 1 0)) 0).length : Int))]) rfl ?_
          refine lv_istore_n (lv' := [(3, .int (iI ((fmo (rget rs (bR rs u pl 1 0)) 0).length : Int))), (0, .ref m0), (1, .int (iI pl)), (2, .int (iI 0))]) F.1 F.2.1 dX11_convert_173 rfl hl (by decide) rfl (fun ls hl => ?_)
          refine lv_aload_n F.1 F.2.1 dX11_convert_174 rfl (lv_at hl 1 rfl) ?_
          refine ad_get F G fl_X11_233 0 rfl rfl dX11_convert_175 ?_
          refine lv_aload_n F.1 F.2.1 dX11_convert_178 rfl (lv_at hl 1 rfl) ?_
          refine ad_get F G fl_X11_242 0 rfl rfl dX11_convert_179 ?_
          refine ad_if_ge (tgt := 189) F (by omega) dX11_convert_182 (by decide) (fun cc_67 => ?_) (fun cc_67 => ?_)
          · refine lv_aload_n F.1 F.2.1 dX11_convert_189 rfl (lv_at hl 1 rfl) ?_
            refine lv_aload_n F.1 F.2.1 dX11_convert_190 rfl (lv_at hl 1 rfl) ?_
            refine ad_get F G fl_X11_242 0 rfl rfl dX11_convert_191 ?_
            refine lv_iload_n F.1 F.2.1 dX11_convert_194 rfl (lv_at hl 3 rfl) ?_
            refine ad_callV (As := [.int (iI (bR rs u pl 2 0)), .int (iI 0)]) (rest := [.int (iI (u.length : Int))]) F G (c_X11_lengthOf l D K z0 m0 M xth xrm xsv xln xat xer xwr xwd xlo xhi (u.length : Int) (([] : List Int).length : Int) xkl (bR rs u pl 1 0) (bR rs u pl 2 0) xdn xon xtw xol xrw xgl xus xpr xmk xab g rs ps md th nc (bR rs u pl 2 0) 0 hM hW (by omega) (by omega)) my_X11_lengthOf mv_X11_185 (wr := [(M 17, aI (K 0) 2000 gwo), (M 18, aI (K 0) 2000 gma)]) (isC := [0, 1]) (isR := [2, 3]) ⟨rfl, rfl, rfl, rfl, by decide⟩ 11 0 rfl rfl rfl rfl ⟨Nat.le_of_ble_eq_true rfl, Nat.le_of_ble_eq_true rfl⟩ ⟨Nat.le_of_ble_eq_true rfl, Nat.le_of_ble_eq_true rfl⟩ (Nat.le_of_ble_eq_true rfl) hl.1 (cells9 := 0) (slots9 := 0) ⟨rfl, rfl⟩ dX11_convert_195 (fun v u H locs hw_68 G => ?_)
            obtain ⟨rfl, rfl⟩ := hw_68
            replace G := G.perm (ws' := [(m0, mO M xth xrm xsv xln xat xer xwr xwd xlo xhi (u.length : Int) (([] : List Int).length : Int) xkl (bR rs u pl 1 0) (bR rs u pl 2 0) xdn xon xtw xol xrw xgl xus xpr xmk xab), (M 1, aI (K 0) 1247 g), (M 17, aI (K 0) 2000 gwo), (M 18, aI (K 0) 2000 gma)]) [2, 3, 0, 1] rfl rfl
            refine W.eq (g2 := F0 m9 198 ls [.int (iI ((fmo (rget rs (bR rs u pl 2 0)) 0).length : Int)), .int (iI (u.length : Int))]) rfl ?_
            refine ad_isub F dX11_convert_198 ?_
            refine lv_istore (lv' := [(4, .int (iI ((u.length : Int) - ((fmo (rget rs (bR rs u pl 2 0)) 0).length : Int)))), (3, .int (iI ((fmo (rget rs (bR rs u pl 1 0)) 0).length : Int))), (0, .ref m0), (1, .int (iI pl)), (2, .int (iI 0))]) F.1 F.2.1 dX11_convert_199 hl (by decide) rfl (fun ls hl => ?_)
            refine lv_aload_n F.1 F.2.1 dX11_convert_201 rfl (lv_at hl 2 rfl) ?_
            refine lv_aload_n F.1 F.2.1 dX11_convert_202 rfl (lv_at hl 2 rfl) ?_
            refine ad_get F G fl_X11_249 0 rfl rfl dX11_convert_203 ?_
            refine lv_iload_n F.1 F.2.1 dX11_convert_206 rfl (lv_at hl 4 rfl) ?_
            refine ad_if_ne (tgt := 214) F (by decide) dX11_convert_207 (by decide) (fun cc_69 => absurd cc_69 (by decide)) (fun _ => ?_)
            refine ad_iconst F dX11_convert_210 ?_
            refine lv_goto (tgt := 215) F.1 F.2.1 dX11_convert_211 (by decide) ?_
            refine ad_callV (As := [.int (iI (bR rs u pl 1 0)), .int (iI 1)]) (rest := []) F G (c_X11_addForm l D K z0 m0 M xth xrm xsv xln xat xer xwr xwd xlo xhi (u.length : Int) xkl (bR rs u pl 1 0) (bR rs u pl 2 0) xdn xon xtw xol xrw xgl xus xpr xmk xab g gma rs ps md th nc ([] : List Int) (bR rs u pl 1 0) 1 hM hW Tx_nil (by simp) (by omega) (by omega)) my_X11_addForm mv_X11_252 (wr := [(M 17, aI (K 0) 2000 gwo)]) (isC := [0, 1, 3]) (isR := [2]) ⟨rfl, rfl, rfl, rfl, by decide⟩ 11 0 rfl rfl rfl rfl ⟨Nat.le_of_ble_eq_true rfl, Nat.le_of_ble_eq_true rfl⟩ ⟨Nat.le_of_ble_eq_true rfl, Nat.le_of_ble_eq_true rfl⟩ (Nat.le_of_ble_eq_true rfl) hl.1 (cells9 := 0) (slots9 := 0) ⟨rfl, rfl⟩ dX11_convert_215 (fun v u H locs hw_70 G => ?_)
            obtain ⟨m2_71, gma2_72, rfl, hc_73, hc_74, rfl⟩ := hw_70
            replace G := G.perm (ws' := [(m0, mO M xth xrm xsv xln xat xer xwr xwd xlo xhi (u.length : Int) (m2_71.length : Int) xkl (bR rs u pl 1 0) (bR rs u pl 2 0) xdn xon xtw xol xrw xgl xus xpr xmk xab), (M 1, aI (K 0) 1247 g), (M 17, aI (K 0) 2000 gwo), (M 18, aI (K 0) 2000 gma2_72)]) [1, 2, 0, 3] rfl rfl
            refine W.eq (g2 := F0 m9 218 ls []) rfl ?_
            refine lv_iload_n F.1 F.2.1 dX11_convert_218 rfl (lv_at hl 1 rfl) ?_
            refine lv_istore (lv' := [(5, .int (iI ((fmo (rget rs (bR rs u pl 1 0)) 0).length : Int))), (4, .int (iI ((u.length : Int) - ((fmo (rget rs (bR rs u pl 2 0)) 0).length : Int)))), (3, .int (iI ((fmo (rget rs (bR rs u pl 1 0)) 0).length : Int))), (0, .ref m0), (1, .int (iI pl)), (2, .int (iI 0))]) F.1 F.2.1 dX11_convert_219 hl (by decide) rfl (fun ls hl => ?_)
            have hfr : ((fmo (rget rs (bR rs u pl 1 0)) 0).length : Int) = ((fmo (rget rs (bR rs u pl 1 0)) 0).length : Int) := by first | rfl | (rw [show (bR rs u pl 1 0) = -1 by omega, fmo_m1]; rfl)
            have hto : (u.length : Int) - ((fmo (rget rs (bR rs u pl 2 0)) 0).length : Int) = (u.length : Int) - ((fmo (rget rs (bR rs u pl 2 0)) 0).length : Int) := by first | rfl | (rw [show (bR rs u pl 2 0) = -1 by omega, fmo_m1]; rfl)
            have hsl := spl_le rs u pl 0
            rw [hss.1, hss.2] at hsl
            have lp221 : ∀ (n221 : Nat) (k : Int) (gx : Nat → Int) (mx : List Int) (A0 : List Int) (fi : Int) (se : Int) (fr : Int) (to : Int) (H : Heap) (locs : List Loc) (ls : Array Slot), (0 ≤ fr ∧ fr ≤ k ∧ k ≤ to ∧ to ≤ u.length) → (spm rs u pl 0 = fi ∧ spe rs u pl 0 = se) → (A0 = (fmo (rget rs fi) 1)) → (fr = ((fmo (rget rs fi) 0).length : Int)) → (to = (u.length : Int) - ((fmo (rget rs se) 0).length : Int)) → (mx = A0 ++ sl u fr k) → (Tx gx mx) → (to - k) < (n221 : Int) → ad_G D A9 s9.heap H locs [(m0, mO M xth xrm xsv xln xat xer xwr xwd xlo xhi (u.length : Int) (mx.length : Int) xkl fi se xdn xon xtw xol xrw xgl xus xpr xmk xab), (M 1, aI (K 0) 1247 g), (M 17, aI (K 0) 2000 gwo), (M 18, aI (K 0) 2000 gx)] → lv_has ls 6 [(0, .ref m0), (1, .int (iI pl)), (2, .int (iI 0)), (3, .int (iI fr)), (4, .int (iI to)), (5, .int (iI k))] → W p9 l e9 rm_X11_convert_0 s9 m9 ag9 bl9 mt9 c9 H locs 0 0 Q9 (F0 m9 221 ls []) := by
              intro n221
              induction n221 with
              | zero =>
                intro k gx mx A0 fi se fr to H locs ls hk hss hA hfr hto hmx hTx hm221
                exact absurd hm221 (by omega)
              | succ n221 ih221 =>
                intro k gx mx A0 fi se fr to H locs ls hk hss hA hfr hto hmx hTx hm221 G hl
                have hA12 := fmo_len hW fi 1
                have hmxl : (mx.length : Int) = A0.length + (k - fr) := by rw [hmx, List.length_append, Int.natCast_add, sl_len (by omega) (by omega) (by omega)]
                have hAl : A0.length ≤ 12 := by rw [hA]; exact hA12
                have hseb := spe_b rs u pl 0
                refine lv_iload F.1 F.2.1 dX11_convert_221 (lv_at hl 5 rfl) ?_
                refine lv_iload F.1 F.2.1 dX11_convert_223 (lv_at hl 4 rfl) ?_
                refine ad_icmp_ge (tgt := 260) F (by omega) dX11_convert_225 (by decide) (fun cc_75 => ?_) (fun cc_75 => ?_)
                · refine lv_aload_n F.1 F.2.1 dX11_convert_260 rfl (lv_at hl 0 rfl) ?_
                  refine lv_aload_n F.1 F.2.1 dX11_convert_261 rfl (lv_at hl 0 rfl) ?_
                  refine ad_get F G fl_X11_242 0 rfl rfl dX11_convert_262 ?_
                  refine lv_iload_n F.1 F.2.1 dX11_convert_265 rfl (lv_at hl 2 rfl) ?_
                  refine ad_if_ne (tgt := 273) F (by decide) dX11_convert_266 (by decide) (fun cc_76 => absurd cc_76 (by decide)) (fun _ => ?_)
                  refine ad_iconst F dX11_convert_269 ?_
                  refine lv_goto (tgt := 274) F.1 F.2.1 dX11_convert_270 (by decide) ?_
                  refine ad_callV (As := [.int (iI se), .int (iI 1)]) (rest := []) F G (c_X11_addForm l D K z0 m0 M xth xrm xsv xln xat xer xwr xwd xlo xhi (u.length : Int) xkl fi se xdn xon xtw xol xrw xgl xus xpr xmk xab g gx rs ps md th nc mx se 1 hM hW hTx (by omega) (by rw [← hss.2]; exact hseb) (by omega)) my_X11_addForm mv_X11_252 (wr := [(M 17, aI (K 0) 2000 gwo)]) (isC := [0, 1, 3]) (isR := [2]) ⟨rfl, rfl, rfl, rfl, by decide⟩ 11 0 rfl rfl rfl rfl ⟨Nat.le_of_ble_eq_true rfl, Nat.le_of_ble_eq_true rfl⟩ ⟨Nat.le_of_ble_eq_true rfl, Nat.le_of_ble_eq_true rfl⟩ (Nat.le_of_ble_eq_true rfl) hl.1 (cells9 := 0) (slots9 := 0) ⟨rfl, rfl⟩ dX11_convert_274 (fun v u H locs hw_77 G => ?_)
                  obtain ⟨m2_78, gma2_79, rfl, hc_80, hc_81, rfl⟩ := hw_77
                  replace G := G.perm (ws' := [(m0, mO M xth xrm xsv xln xat xer xwr xwd xlo xhi (u.length : Int) (m2_78.length : Int) xkl fi se xdn xon xtw xol xrw xgl xus xpr xmk xab), (M 1, aI (K 0) 1247 g), (M 17, aI (K 0) 2000 gwo), (M 18, aI (K 0) 2000 gma2_79)]) [1, 2, 0, 3] rfl rfl
                  refine W.eq (g2 := F0 m9 277 ls []) rfl ?_
                  exact ad_vreturn F G hR rfl (Nat.le_of_ble_eq_true rfl) (Nat.le_of_ble_eq_true rfl) ⟨m2_78, gma2_79, rfl, (by rw [hc_80, hmx, hA, spw_eq hss.1 hss.2, ← hfr, ← hto, show k = to by omega]; rfl), hc_81, (by rw [hss.1, hss.2])⟩ dX11_convert_277
                · refine lv_aload_n F.1 F.2.1 dX11_convert_228 rfl (lv_at hl 0 rfl) ?_
                  refine ad_get F G fl_X11_42 0 rfl rfl dX11_convert_229 ?_
                  refine lv_aload_n F.1 F.2.1 dX11_convert_232 rfl (lv_at hl 0 rfl) ?_
                  refine ad_get F G fl_X11_239 0 rfl rfl dX11_convert_233 ?_
                  refine lv_aload_n F.1 F.2.1 dX11_convert_236 rfl (lv_at hl 0 rfl) ?_
                  refine ad_get F G fl_X11_39 0 rfl rfl dX11_convert_237 ?_
                  refine lv_iload F.1 F.2.1 dX11_convert_240 (lv_at hl 5 rfl) ?_
                  refine ad_iald F G 2 rfl (w := lat u k) (by omega) (Tx_at hTu (by omega) (by omega)) dX11_convert_242 ?_
                  refine ad_iast F G 3 rfl (by omega) (ws' := [(m0, mO M xth xrm xsv xln xat xer xwr xwd xlo xhi (u.length : Int) (mx.length : Int) xkl fi se xdn xon xtw xol xrw xgl xus xpr xmk xab), (M 1, aI (K 0) 1247 g), (M 17, aI (K 0) 2000 gwo), (M 18, aI (K 0) 2000 (va_up gx (mx.length : Int).toNat (lat u k)))]) rfl dX11_convert_243 (fun H locs G => ?_)
                  refine lv_aload_n F.1 F.2.1 dX11_convert_244 rfl (lv_at hl 0 rfl) ?_
                  refine lv_dup F.1 F.2.1 dX11_convert_245 rfl ?_
                  refine ad_get F G fl_X11_239 0 rfl rfl dX11_convert_246 ?_
                  refine ad_iconst F dX11_convert_249 ?_
                  refine ad_iadd F dX11_convert_250 ?_
                  refine ad_put F G fl_X11_239 0 rfl rfl rfl (Nat.le_of_ble_eq_true rfl) (ws' := [(m0, mO M xth xrm xsv xln xat xer xwr xwd xlo xhi (u.length : Int) ((mx.length : Int) + 1) xkl fi se xdn xon xtw xol xrw xgl xus xpr xmk xab), (M 1, aI (K 0) 1247 g), (M 17, aI (K 0) 2000 gwo), (M 18, aI (K 0) 2000 (va_up gx (mx.length : Int).toNat (lat u k)))]) rfl dX11_convert_251 (fun H locs G => ?_)
                  have hpl : (((mx ++ [lat u k]).length : Nat) : Int) = (mx.length : Int) + 1 := by simp
                  replace G := G.eq (ws' := [(m0, mO M xth xrm xsv xln xat xer xwr xwd xlo xhi (u.length : Int) ((mx ++ [lat u k]).length : Int) xkl fi se xdn xon xtw xol xrw xgl xus xpr xmk xab), (M 1, aI (K 0) 1247 g), (M 17, aI (K 0) 2000 gwo), (M 18, aI (K 0) 2000 (va_up gx (mx.length : Int).toNat (lat u k)))]) (by rw [hpl])
                  refine ad_iinc (lv' := [(5, .int (iI (k + 1))), (0, .ref m0), (1, .int (iI pl)), (2, .int (iI 0)), (3, .int (iI fr)), (4, .int (iI to))]) F dX11_convert_254 hl (k := 5) rfl (by decide) rfl (fun ls hl => ?_)
                  refine lv_goto (tgt := 221) F.1 F.2.1 dX11_convert_257 (by decide) ?_
                  exact ih221 (k + 1) (va_up gx (mx.length : Int).toNat (lat u k)) (mx ++ [lat u k]) A0 fi se fr to _ _ _ (by omega) hss hA hfr hto (by rw [sl_succ (by omega) (by omega) (by omega), hmx, List.append_assoc]) (Tx_push hTx _) (by omega) (G.perm (ws' := [(m0, mO M xth xrm xsv xln xat xer xwr xwd xlo xhi (u.length : Int) ((mx ++ [lat u k]).length : Int) xkl fi se xdn xon xtw xol xrw xgl xus xpr xmk xab), (M 1, aI (K 0) 1247 g), (M 17, aI (K 0) 2000 gwo), (M 18, aI (K 0) 2000 (va_up gx (mx.length : Int).toNat (lat u k)))]) [0, 1, 2, 3] rfl rfl) (lv_sub hl [1, 2, 3, 4, 5, 0] rfl)
            exact lp221 ((((((u.length : Int) - ((fmo (rget rs (bR rs u pl 2 0)) 0).length : Int)) - ((fmo (rget rs (bR rs u pl 1 0)) 0).length : Int) : Int)) + 1).toNat) ((fmo (rget rs (bR rs u pl 1 0)) 0).length : Int) gma2_72 m2_71 m2_71 (bR rs u pl 1 0) (bR rs u pl 2 0) ((fmo (rget rs (bR rs u pl 1 0)) 0).length : Int) ((u.length : Int) - ((fmo (rget rs (bR rs u pl 2 0)) 0).length : Int)) _ _ _ (by omega) hss (by rw [hc_73, List.nil_append]) hfr hto (by rw [sl_self, List.append_nil]) hc_74 (by omega) (G.perm (ws' := [(m0, mO M xth xrm xsv xln xat xer xwr xwd xlo xhi (u.length : Int) (m2_71.length : Int) xkl (bR rs u pl 1 0) (bR rs u pl 2 0) xdn xon xtw xol xrw xgl xus xpr xmk xab), (M 1, aI (K 0) 1247 g), (M 17, aI (K 0) 2000 gwo), (M 18, aI (K 0) 2000 gma2_72)]) [0, 1, 2, 3] rfl rfl) (lv_sub hl [3, 4, 5, 2, 1, 0] rfl)
          · refine ad_iconst F dX11_convert_185 ?_
            refine lv_goto (tgt := 198) F.1 F.2.1 dX11_convert_186 (by decide) ?_
            refine ad_isub F dX11_convert_198 ?_
            refine lv_istore (lv' := [(4, .int (iI ((u.length : Int) - 0))), (3, .int (iI ((fmo (rget rs (bR rs u pl 1 0)) 0).length : Int))), (0, .ref m0), (1, .int (iI pl)), (2, .int (iI 0))]) F.1 F.2.1 dX11_convert_199 hl (by decide) rfl (fun ls hl => ?_)
            refine lv_aload_n F.1 F.2.1 dX11_convert_201 rfl (lv_at hl 2 rfl) ?_
            refine lv_aload_n F.1 F.2.1 dX11_convert_202 rfl (lv_at hl 2 rfl) ?_
            refine ad_get F G fl_X11_249 0 rfl rfl dX11_convert_203 ?_
            refine lv_iload_n F.1 F.2.1 dX11_convert_206 rfl (lv_at hl 4 rfl) ?_
            refine ad_if_ne (tgt := 214) F (by decide) dX11_convert_207 (by decide) (fun cc_82 => absurd cc_82 (by decide)) (fun _ => ?_)
            refine ad_iconst F dX11_convert_210 ?_
            refine lv_goto (tgt := 215) F.1 F.2.1 dX11_convert_211 (by decide) ?_
            refine ad_callV (As := [.int (iI (bR rs u pl 1 0)), .int (iI 1)]) (rest := []) F G (c_X11_addForm l D K z0 m0 M xth xrm xsv xln xat xer xwr xwd xlo xhi (u.length : Int) xkl (bR rs u pl 1 0) (bR rs u pl 2 0) xdn xon xtw xol xrw xgl xus xpr xmk xab g gma rs ps md th nc ([] : List Int) (bR rs u pl 1 0) 1 hM hW Tx_nil (by simp) (by omega) (by omega)) my_X11_addForm mv_X11_252 (wr := [(M 17, aI (K 0) 2000 gwo)]) (isC := [0, 1, 3]) (isR := [2]) ⟨rfl, rfl, rfl, rfl, by decide⟩ 11 0 rfl rfl rfl rfl ⟨Nat.le_of_ble_eq_true rfl, Nat.le_of_ble_eq_true rfl⟩ ⟨Nat.le_of_ble_eq_true rfl, Nat.le_of_ble_eq_true rfl⟩ (Nat.le_of_ble_eq_true rfl) hl.1 (cells9 := 0) (slots9 := 0) ⟨rfl, rfl⟩ dX11_convert_215 (fun v u H locs hw_83 G => ?_)
            obtain ⟨m2_84, gma2_85, rfl, hc_86, hc_87, rfl⟩ := hw_83
            replace G := G.perm (ws' := [(m0, mO M xth xrm xsv xln xat xer xwr xwd xlo xhi (u.length : Int) (m2_84.length : Int) xkl (bR rs u pl 1 0) (bR rs u pl 2 0) xdn xon xtw xol xrw xgl xus xpr xmk xab), (M 1, aI (K 0) 1247 g), (M 17, aI (K 0) 2000 gwo), (M 18, aI (K 0) 2000 gma2_85)]) [1, 2, 0, 3] rfl rfl
            refine W.eq (g2 := F0 m9 218 ls []) rfl ?_
            refine lv_iload_n F.1 F.2.1 dX11_convert_218 rfl (lv_at hl 1 rfl) ?_
            refine lv_istore (lv' := [(5, .int (iI ((fmo (rget rs (bR rs u pl 1 0)) 0).length : Int))), (4, .int (iI ((u.length : Int) - 0))), (3, .int (iI ((fmo (rget rs (bR rs u pl 1 0)) 0).length : Int))), (0, .ref m0), (1, .int (iI pl)), (2, .int (iI 0))]) F.1 F.2.1 dX11_convert_219 hl (by decide) rfl (fun ls hl => ?_)
            have hfr : ((fmo (rget rs (bR rs u pl 1 0)) 0).length : Int) = ((fmo (rget rs (bR rs u pl 1 0)) 0).length : Int) := by first | rfl | (rw [show (bR rs u pl 1 0) = -1 by omega, fmo_m1]; rfl)
            have hto : (u.length : Int) - 0 = (u.length : Int) - ((fmo (rget rs (bR rs u pl 2 0)) 0).length : Int) := by first | rfl | (rw [show (bR rs u pl 2 0) = -1 by omega, fmo_m1]; rfl)
            have hsl := spl_le rs u pl 0
            rw [hss.1, hss.2] at hsl
            have lp221 : ∀ (n221 : Nat) (k : Int) (gx : Nat → Int) (mx : List Int) (A0 : List Int) (fi : Int) (se : Int) (fr : Int) (to : Int) (H : Heap) (locs : List Loc) (ls : Array Slot), (0 ≤ fr ∧ fr ≤ k ∧ k ≤ to ∧ to ≤ u.length) → (spm rs u pl 0 = fi ∧ spe rs u pl 0 = se) → (A0 = (fmo (rget rs fi) 1)) → (fr = ((fmo (rget rs fi) 0).length : Int)) → (to = (u.length : Int) - ((fmo (rget rs se) 0).length : Int)) → (mx = A0 ++ sl u fr k) → (Tx gx mx) → (to - k) < (n221 : Int) → ad_G D A9 s9.heap H locs [(m0, mO M xth xrm xsv xln xat xer xwr xwd xlo xhi (u.length : Int) (mx.length : Int) xkl fi se xdn xon xtw xol xrw xgl xus xpr xmk xab), (M 1, aI (K 0) 1247 g), (M 17, aI (K 0) 2000 gwo), (M 18, aI (K 0) 2000 gx)] → lv_has ls 6 [(0, .ref m0), (1, .int (iI pl)), (2, .int (iI 0)), (3, .int (iI fr)), (4, .int (iI to)), (5, .int (iI k))] → W p9 l e9 rm_X11_convert_0 s9 m9 ag9 bl9 mt9 c9 H locs 0 0 Q9 (F0 m9 221 ls []) := by
              intro n221
              induction n221 with
              | zero =>
                intro k gx mx A0 fi se fr to H locs ls hk hss hA hfr hto hmx hTx hm221
                exact absurd hm221 (by omega)
              | succ n221 ih221 =>
                intro k gx mx A0 fi se fr to H locs ls hk hss hA hfr hto hmx hTx hm221 G hl
                have hA12 := fmo_len hW fi 1
                have hmxl : (mx.length : Int) = A0.length + (k - fr) := by rw [hmx, List.length_append, Int.natCast_add, sl_len (by omega) (by omega) (by omega)]
                have hAl : A0.length ≤ 12 := by rw [hA]; exact hA12
                have hseb := spe_b rs u pl 0
                refine lv_iload F.1 F.2.1 dX11_convert_221 (lv_at hl 5 rfl) ?_
                refine lv_iload F.1 F.2.1 dX11_convert_223 (lv_at hl 4 rfl) ?_
                refine ad_icmp_ge (tgt := 260) F (by omega) dX11_convert_225 (by decide) (fun cc_88 => ?_) (fun cc_88 => ?_)
                · refine lv_aload_n F.1 F.2.1 dX11_convert_260 rfl (lv_at hl 0 rfl) ?_
                  refine lv_aload_n F.1 F.2.1 dX11_convert_261 rfl (lv_at hl 0 rfl) ?_
                  refine ad_get F G fl_X11_242 0 rfl rfl dX11_convert_262 ?_
                  refine lv_iload_n F.1 F.2.1 dX11_convert_265 rfl (lv_at hl 2 rfl) ?_
                  refine ad_if_ne (tgt := 273) F (by decide) dX11_convert_266 (by decide) (fun cc_89 => absurd cc_89 (by decide)) (fun _ => ?_)
                  refine ad_iconst F dX11_convert_269 ?_
                  refine lv_goto (tgt := 274) F.1 F.2.1 dX11_convert_270 (by decide) ?_
                  refine ad_callV (As := [.int (iI se), .int (iI 1)]) (rest := []) F G (c_X11_addForm l D K z0 m0 M xth xrm xsv xln xat xer xwr xwd xlo xhi (u.length : Int) xkl fi se xdn xon xtw xol xrw xgl xus xpr xmk xab g gx rs ps md th nc mx se 1 hM hW hTx (by omega) (by rw [← hss.2]; exact hseb) (by omega)) my_X11_addForm mv_X11_252 (wr := [(M 17, aI (K 0) 2000 gwo)]) (isC := [0, 1, 3]) (isR := [2]) ⟨rfl, rfl, rfl, rfl, by decide⟩ 11 0 rfl rfl rfl rfl ⟨Nat.le_of_ble_eq_true rfl, Nat.le_of_ble_eq_true rfl⟩ ⟨Nat.le_of_ble_eq_true rfl, Nat.le_of_ble_eq_true rfl⟩ (Nat.le_of_ble_eq_true rfl) hl.1 (cells9 := 0) (slots9 := 0) ⟨rfl, rfl⟩ dX11_convert_274 (fun v u H locs hw_90 G => ?_)
                  obtain ⟨m2_91, gma2_92, rfl, hc_93, hc_94, rfl⟩ := hw_90
                  replace G := G.perm (ws' := [(m0, mO M xth xrm xsv xln xat xer xwr xwd xlo xhi (u.length : Int) (m2_91.length : Int) xkl fi se xdn xon xtw xol xrw xgl xus xpr xmk xab), (M 1, aI (K 0) 1247 g), (M 17, aI (K 0) 2000 gwo), (M 18, aI (K 0) 2000 gma2_92)]) [1, 2, 0, 3] rfl rfl
                  refine W.eq (g2 := F0 m9 277 ls []) rfl ?_
                  exact ad_vreturn F G hR rfl (Nat.le_of_ble_eq_true rfl) (Nat.le_of_ble_eq_true rfl) ⟨m2_91, gma2_92, rfl, (by rw [hc_93, hmx, hA, spw_eq hss.1 hss.2, ← hfr, ← hto, show k = to by omega]; rfl), hc_94, (by rw [hss.1, hss.2])⟩ dX11_convert_277
                · refine lv_aload_n F.1 F.2.1 dX11_convert_228 rfl (lv_at hl 0 rfl) ?_
                  refine ad_get F G fl_X11_42 0 rfl rfl dX11_convert_229 ?_
                  refine lv_aload_n F.1 F.2.1 dX11_convert_232 rfl (lv_at hl 0 rfl) ?_
                  refine ad_get F G fl_X11_239 0 rfl rfl dX11_convert_233 ?_
                  refine lv_aload_n F.1 F.2.1 dX11_convert_236 rfl (lv_at hl 0 rfl) ?_
                  refine ad_get F G fl_X11_39 0 rfl rfl dX11_convert_237 ?_
                  refine lv_iload F.1 F.2.1 dX11_convert_240 (lv_at hl 5 rfl) ?_
                  refine ad_iald F G 2 rfl (w := lat u k) (by omega) (Tx_at hTu (by omega) (by omega)) dX11_convert_242 ?_
                  refine ad_iast F G 3 rfl (by omega) (ws' := [(m0, mO M xth xrm xsv xln xat xer xwr xwd xlo xhi (u.length : Int) (mx.length : Int) xkl fi se xdn xon xtw xol xrw xgl xus xpr xmk xab), (M 1, aI (K 0) 1247 g), (M 17, aI (K 0) 2000 gwo), (M 18, aI (K 0) 2000 (va_up gx (mx.length : Int).toNat (lat u k)))]) rfl dX11_convert_243 (fun H locs G => ?_)
                  refine lv_aload_n F.1 F.2.1 dX11_convert_244 rfl (lv_at hl 0 rfl) ?_
                  refine lv_dup F.1 F.2.1 dX11_convert_245 rfl ?_
                  refine ad_get F G fl_X11_239 0 rfl rfl dX11_convert_246 ?_
                  refine ad_iconst F dX11_convert_249 ?_
                  refine ad_iadd F dX11_convert_250 ?_
                  refine ad_put F G fl_X11_239 0 rfl rfl rfl (Nat.le_of_ble_eq_true rfl) (ws' := [(m0, mO M xth xrm xsv xln xat xer xwr xwd xlo xhi (u.length : Int) ((mx.length : Int) + 1) xkl fi se xdn xon xtw xol xrw xgl xus xpr xmk xab), (M 1, aI (K 0) 1247 g), (M 17, aI (K 0) 2000 gwo), (M 18, aI (K 0) 2000 (va_up gx (mx.length : Int).toNat (lat u k)))]) rfl dX11_convert_251 (fun H locs G => ?_)
                  have hpl : (((mx ++ [lat u k]).length : Nat) : Int) = (mx.length : Int) + 1 := by simp
                  replace G := G.eq (ws' := [(m0, mO M xth xrm xsv xln xat xer xwr xwd xlo xhi (u.length : Int) ((mx ++ [lat u k]).length : Int) xkl fi se xdn xon xtw xol xrw xgl xus xpr xmk xab), (M 1, aI (K 0) 1247 g), (M 17, aI (K 0) 2000 gwo), (M 18, aI (K 0) 2000 (va_up gx (mx.length : Int).toNat (lat u k)))]) (by rw [hpl])
                  refine ad_iinc (lv' := [(5, .int (iI (k + 1))), (0, .ref m0), (1, .int (iI pl)), (2, .int (iI 0)), (3, .int (iI fr)), (4, .int (iI to))]) F dX11_convert_254 hl (k := 5) rfl (by decide) rfl (fun ls hl => ?_)
                  refine lv_goto (tgt := 221) F.1 F.2.1 dX11_convert_257 (by decide) ?_
                  exact ih221 (k + 1) (va_up gx (mx.length : Int).toNat (lat u k)) (mx ++ [lat u k]) A0 fi se fr to _ _ _ (by omega) hss hA hfr hto (by rw [sl_succ (by omega) (by omega) (by omega), hmx, List.append_assoc]) (Tx_push hTx _) (by omega) (G.perm (ws' := [(m0, mO M xth xrm xsv xln xat xer xwr xwd xlo xhi (u.length : Int) ((mx ++ [lat u k]).length : Int) xkl fi se xdn xon xtw xol xrw xgl xus xpr xmk xab), (M 1, aI (K 0) 1247 g), (M 17, aI (K 0) 2000 gwo), (M 18, aI (K 0) 2000 (va_up gx (mx.length : Int).toNat (lat u k)))]) [0, 1, 2, 3] rfl rfl) (lv_sub hl [1, 2, 3, 4, 5, 0] rfl)
            exact lp221 ((((((u.length : Int) - 0) - ((fmo (rget rs (bR rs u pl 1 0)) 0).length : Int) : Int)) + 1).toNat) ((fmo (rget rs (bR rs u pl 1 0)) 0).length : Int) gma2_85 m2_84 m2_84 (bR rs u pl 1 0) (bR rs u pl 2 0) ((fmo (rget rs (bR rs u pl 1 0)) 0).length : Int) ((u.length : Int) - 0) _ _ _ (by omega) hss (by rw [hc_86, List.nil_append]) hfr hto (by rw [sl_self, List.append_nil]) hc_87 (by omega) (G.perm (ws' := [(m0, mO M xth xrm xsv xln xat xer xwr xwd xlo xhi (u.length : Int) (m2_84.length : Int) xkl (bR rs u pl 1 0) (bR rs u pl 2 0) xdn xon xtw xol xrw xgl xus xpr xmk xab), (M 1, aI (K 0) 1247 g), (M 17, aI (K 0) 2000 gwo), (M 18, aI (K 0) 2000 gma2_85)]) [0, 1, 2, 3] rfl rfl) (lv_sub hl [3, 4, 5, 2, 1, 0] rfl)
        · refine ad_iconst F dX11_convert_160 ?_
          refine lv_goto (tgt := 173) F.1 F.2.1 dX11_convert_161 (by decide) ?_
          refine lv_istore_n (lv' := [(3, .int (iI 0)), (0, .ref m0), (1, .int (iI pl)), (2, .int (iI 0))]) F.1 F.2.1 dX11_convert_173 rfl hl (by decide) rfl (fun ls hl => ?_)
          refine lv_aload_n F.1 F.2.1 dX11_convert_174 rfl (lv_at hl 1 rfl) ?_
          refine ad_get F G fl_X11_233 0 rfl rfl dX11_convert_175 ?_
          refine lv_aload_n F.1 F.2.1 dX11_convert_178 rfl (lv_at hl 1 rfl) ?_
          refine ad_get F G fl_X11_242 0 rfl rfl dX11_convert_179 ?_
          refine ad_if_ge (tgt := 189) F (by omega) dX11_convert_182 (by decide) (fun cc_95 => ?_) (fun cc_95 => ?_)
          · refine lv_aload_n F.1 F.2.1 dX11_convert_189 rfl (lv_at hl 1 rfl) ?_
            refine lv_aload_n F.1 F.2.1 dX11_convert_190 rfl (lv_at hl 1 rfl) ?_
            refine ad_get F G fl_X11_242 0 rfl rfl dX11_convert_191 ?_
            refine lv_iload_n F.1 F.2.1 dX11_convert_194 rfl (lv_at hl 3 rfl) ?_
            refine ad_callV (As := [.int (iI (bR rs u pl 2 0)), .int (iI 0)]) (rest := [.int (iI (u.length : Int))]) F G (c_X11_lengthOf l D K z0 m0 M xth xrm xsv xln xat xer xwr xwd xlo xhi (u.length : Int) (([] : List Int).length : Int) xkl (bR rs u pl 1 0) (bR rs u pl 2 0) xdn xon xtw xol xrw xgl xus xpr xmk xab g rs ps md th nc (bR rs u pl 2 0) 0 hM hW (by omega) (by omega)) my_X11_lengthOf mv_X11_185 (wr := [(M 17, aI (K 0) 2000 gwo), (M 18, aI (K 0) 2000 gma)]) (isC := [0, 1]) (isR := [2, 3]) ⟨rfl, rfl, rfl, rfl, by decide⟩ 11 0 rfl rfl rfl rfl ⟨Nat.le_of_ble_eq_true rfl, Nat.le_of_ble_eq_true rfl⟩ ⟨Nat.le_of_ble_eq_true rfl, Nat.le_of_ble_eq_true rfl⟩ (Nat.le_of_ble_eq_true rfl) hl.1 (cells9 := 0) (slots9 := 0) ⟨rfl, rfl⟩ dX11_convert_195 (fun v u H locs hw_96 G => ?_)
            obtain ⟨rfl, rfl⟩ := hw_96
            replace G := G.perm (ws' := [(m0, mO M xth xrm xsv xln xat xer xwr xwd xlo xhi (u.length : Int) (([] : List Int).length : Int) xkl (bR rs u pl 1 0) (bR rs u pl 2 0) xdn xon xtw xol xrw xgl xus xpr xmk xab), (M 1, aI (K 0) 1247 g), (M 17, aI (K 0) 2000 gwo), (M 18, aI (K 0) 2000 gma)]) [2, 3, 0, 1] rfl rfl
            refine W.eq (g2 := F0 m9 198 ls [.int (iI ((fmo (rget rs (bR rs u pl 2 0)) 0).length : Int)), .int (iI (u.length : Int))]) rfl ?_
            refine ad_isub F dX11_convert_198 ?_
            refine lv_istore (lv' := [(4, .int (iI ((u.length : Int) - ((fmo (rget rs (bR rs u pl 2 0)) 0).length : Int)))), (3, .int (iI 0)), (0, .ref m0), (1, .int (iI pl)), (2, .int (iI 0))]) F.1 F.2.1 dX11_convert_199 hl (by decide) rfl (fun ls hl => ?_)
            refine lv_aload_n F.1 F.2.1 dX11_convert_201 rfl (lv_at hl 2 rfl) ?_
            refine lv_aload_n F.1 F.2.1 dX11_convert_202 rfl (lv_at hl 2 rfl) ?_
            refine ad_get F G fl_X11_249 0 rfl rfl dX11_convert_203 ?_
            refine lv_iload_n F.1 F.2.1 dX11_convert_206 rfl (lv_at hl 4 rfl) ?_
            refine ad_if_ne (tgt := 214) F (by decide) dX11_convert_207 (by decide) (fun cc_97 => absurd cc_97 (by decide)) (fun _ => ?_)
            refine ad_iconst F dX11_convert_210 ?_
            refine lv_goto (tgt := 215) F.1 F.2.1 dX11_convert_211 (by decide) ?_
            refine ad_callV (As := [.int (iI (bR rs u pl 1 0)), .int (iI 1)]) (rest := []) F G (c_X11_addForm l D K z0 m0 M xth xrm xsv xln xat xer xwr xwd xlo xhi (u.length : Int) xkl (bR rs u pl 1 0) (bR rs u pl 2 0) xdn xon xtw xol xrw xgl xus xpr xmk xab g gma rs ps md th nc ([] : List Int) (bR rs u pl 1 0) 1 hM hW Tx_nil (by simp) (by omega) (by omega)) my_X11_addForm mv_X11_252 (wr := [(M 17, aI (K 0) 2000 gwo)]) (isC := [0, 1, 3]) (isR := [2]) ⟨rfl, rfl, rfl, rfl, by decide⟩ 11 0 rfl rfl rfl rfl ⟨Nat.le_of_ble_eq_true rfl, Nat.le_of_ble_eq_true rfl⟩ ⟨Nat.le_of_ble_eq_true rfl, Nat.le_of_ble_eq_true rfl⟩ (Nat.le_of_ble_eq_true rfl) hl.1 (cells9 := 0) (slots9 := 0) ⟨rfl, rfl⟩ dX11_convert_215 (fun v u H locs hw_98 G => ?_)
            obtain ⟨m2_99, gma2_100, rfl, hc_101, hc_102, rfl⟩ := hw_98
            replace G := G.perm (ws' := [(m0, mO M xth xrm xsv xln xat xer xwr xwd xlo xhi (u.length : Int) (m2_99.length : Int) xkl (bR rs u pl 1 0) (bR rs u pl 2 0) xdn xon xtw xol xrw xgl xus xpr xmk xab), (M 1, aI (K 0) 1247 g), (M 17, aI (K 0) 2000 gwo), (M 18, aI (K 0) 2000 gma2_100)]) [1, 2, 0, 3] rfl rfl
            refine W.eq (g2 := F0 m9 218 ls []) rfl ?_
            refine lv_iload_n F.1 F.2.1 dX11_convert_218 rfl (lv_at hl 1 rfl) ?_
            refine lv_istore (lv' := [(5, .int (iI 0)), (4, .int (iI ((u.length : Int) - ((fmo (rget rs (bR rs u pl 2 0)) 0).length : Int)))), (3, .int (iI 0)), (0, .ref m0), (1, .int (iI pl)), (2, .int (iI 0))]) F.1 F.2.1 dX11_convert_219 hl (by decide) rfl (fun ls hl => ?_)
            have hfr : 0 = ((fmo (rget rs (bR rs u pl 1 0)) 0).length : Int) := by first | rfl | (rw [show (bR rs u pl 1 0) = -1 by omega, fmo_m1]; rfl)
            have hto : (u.length : Int) - ((fmo (rget rs (bR rs u pl 2 0)) 0).length : Int) = (u.length : Int) - ((fmo (rget rs (bR rs u pl 2 0)) 0).length : Int) := by first | rfl | (rw [show (bR rs u pl 2 0) = -1 by omega, fmo_m1]; rfl)
            have hsl := spl_le rs u pl 0
            rw [hss.1, hss.2] at hsl
            have lp221 : ∀ (n221 : Nat) (k : Int) (gx : Nat → Int) (mx : List Int) (A0 : List Int) (fi : Int) (se : Int) (fr : Int) (to : Int) (H : Heap) (locs : List Loc) (ls : Array Slot), (0 ≤ fr ∧ fr ≤ k ∧ k ≤ to ∧ to ≤ u.length) → (spm rs u pl 0 = fi ∧ spe rs u pl 0 = se) → (A0 = (fmo (rget rs fi) 1)) → (fr = ((fmo (rget rs fi) 0).length : Int)) → (to = (u.length : Int) - ((fmo (rget rs se) 0).length : Int)) → (mx = A0 ++ sl u fr k) → (Tx gx mx) → (to - k) < (n221 : Int) → ad_G D A9 s9.heap H locs [(m0, mO M xth xrm xsv xln xat xer xwr xwd xlo xhi (u.length : Int) (mx.length : Int) xkl fi se xdn xon xtw xol xrw xgl xus xpr xmk xab), (M 1, aI (K 0) 1247 g), (M 17, aI (K 0) 2000 gwo), (M 18, aI (K 0) 2000 gx)] → lv_has ls 6 [(0, .ref m0), (1, .int (iI pl)), (2, .int (iI 0)), (3, .int (iI fr)), (4, .int (iI to)), (5, .int (iI k))] → W p9 l e9 rm_X11_convert_0 s9 m9 ag9 bl9 mt9 c9 H locs 0 0 Q9 (F0 m9 221 ls []) := by
              intro n221
              induction n221 with
              | zero =>
                intro k gx mx A0 fi se fr to H locs ls hk hss hA hfr hto hmx hTx hm221
                exact absurd hm221 (by omega)
              | succ n221 ih221 =>
                intro k gx mx A0 fi se fr to H locs ls hk hss hA hfr hto hmx hTx hm221 G hl
                have hA12 := fmo_len hW fi 1
                have hmxl : (mx.length : Int) = A0.length + (k - fr) := by rw [hmx, List.length_append, Int.natCast_add, sl_len (by omega) (by omega) (by omega)]
                have hAl : A0.length ≤ 12 := by rw [hA]; exact hA12
                have hseb := spe_b rs u pl 0
                refine lv_iload F.1 F.2.1 dX11_convert_221 (lv_at hl 5 rfl) ?_
                refine lv_iload F.1 F.2.1 dX11_convert_223 (lv_at hl 4 rfl) ?_
                refine ad_icmp_ge (tgt := 260) F (by omega) dX11_convert_225 (by decide) (fun cc_103 => ?_) (fun cc_103 => ?_)
                · refine lv_aload_n F.1 F.2.1 dX11_convert_260 rfl (lv_at hl 0 rfl) ?_
                  refine lv_aload_n F.1 F.2.1 dX11_convert_261 rfl (lv_at hl 0 rfl) ?_
                  refine ad_get F G fl_X11_242 0 rfl rfl dX11_convert_262 ?_
                  refine lv_iload_n F.1 F.2.1 dX11_convert_265 rfl (lv_at hl 2 rfl) ?_
                  refine ad_if_ne (tgt := 273) F (by decide) dX11_convert_266 (by decide) (fun cc_104 => absurd cc_104 (by decide)) (fun _ => ?_)
                  refine ad_iconst F dX11_convert_269 ?_
                  refine lv_goto (tgt := 274) F.1 F.2.1 dX11_convert_270 (by decide) ?_
                  refine ad_callV (As := [.int (iI se), .int (iI 1)]) (rest := []) F G (c_X11_addForm l D K z0 m0 M xth xrm xsv xln xat xer xwr xwd xlo xhi (u.length : Int) xkl fi se xdn xon xtw xol xrw xgl xus xpr xmk xab g gx rs ps md th nc mx se 1 hM hW hTx (by omega) (by rw [← hss.2]; exact hseb) (by omega)) my_X11_addForm mv_X11_252 (wr := [(M 17, aI (K 0) 2000 gwo)]) (isC := [0, 1, 3]) (isR := [2]) ⟨rfl, rfl, rfl, rfl, by decide⟩ 11 0 rfl rfl rfl rfl ⟨Nat.le_of_ble_eq_true rfl, Nat.le_of_ble_eq_true rfl⟩ ⟨Nat.le_of_ble_eq_true rfl, Nat.le_of_ble_eq_true rfl⟩ (Nat.le_of_ble_eq_true rfl) hl.1 (cells9 := 0) (slots9 := 0) ⟨rfl, rfl⟩ dX11_convert_274 (fun v u H locs hw_105 G => ?_)
                  obtain ⟨m2_106, gma2_107, rfl, hc_108, hc_109, rfl⟩ := hw_105
                  replace G := G.perm (ws' := [(m0, mO M xth xrm xsv xln xat xer xwr xwd xlo xhi (u.length : Int) (m2_106.length : Int) xkl fi se xdn xon xtw xol xrw xgl xus xpr xmk xab), (M 1, aI (K 0) 1247 g), (M 17, aI (K 0) 2000 gwo), (M 18, aI (K 0) 2000 gma2_107)]) [1, 2, 0, 3] rfl rfl
                  refine W.eq (g2 := F0 m9 277 ls []) rfl ?_
                  exact ad_vreturn F G hR rfl (Nat.le_of_ble_eq_true rfl) (Nat.le_of_ble_eq_true rfl) ⟨m2_106, gma2_107, rfl, (by rw [hc_108, hmx, hA, spw_eq hss.1 hss.2, ← hfr, ← hto, show k = to by omega]; rfl), hc_109, (by rw [hss.1, hss.2])⟩ dX11_convert_277
                · refine lv_aload_n F.1 F.2.1 dX11_convert_228 rfl (lv_at hl 0 rfl) ?_
                  refine ad_get F G fl_X11_42 0 rfl rfl dX11_convert_229 ?_
                  refine lv_aload_n F.1 F.2.1 dX11_convert_232 rfl (lv_at hl 0 rfl) ?_
                  refine ad_get F G fl_X11_239 0 rfl rfl dX11_convert_233 ?_
                  refine lv_aload_n F.1 F.2.1 dX11_convert_236 rfl (lv_at hl 0 rfl) ?_
                  refine ad_get F G fl_X11_39 0 rfl rfl dX11_convert_237 ?_
                  refine lv_iload F.1 F.2.1 dX11_convert_240 (lv_at hl 5 rfl) ?_
                  refine ad_iald F G 2 rfl (w := lat u k) (by omega) (Tx_at hTu (by omega) (by omega)) dX11_convert_242 ?_
                  refine ad_iast F G 3 rfl (by omega) (ws' := [(m0, mO M xth xrm xsv xln xat xer xwr xwd xlo xhi (u.length : Int) (mx.length : Int) xkl fi se xdn xon xtw xol xrw xgl xus xpr xmk xab), (M 1, aI (K 0) 1247 g), (M 17, aI (K 0) 2000 gwo), (M 18, aI (K 0) 2000 (va_up gx (mx.length : Int).toNat (lat u k)))]) rfl dX11_convert_243 (fun H locs G => ?_)
                  refine lv_aload_n F.1 F.2.1 dX11_convert_244 rfl (lv_at hl 0 rfl) ?_
                  refine lv_dup F.1 F.2.1 dX11_convert_245 rfl ?_
                  refine ad_get F G fl_X11_239 0 rfl rfl dX11_convert_246 ?_
                  refine ad_iconst F dX11_convert_249 ?_
                  refine ad_iadd F dX11_convert_250 ?_
                  refine ad_put F G fl_X11_239 0 rfl rfl rfl (Nat.le_of_ble_eq_true rfl) (ws' := [(m0, mO M xth xrm xsv xln xat xer xwr xwd xlo xhi (u.length : Int) ((mx.length : Int) + 1) xkl fi se xdn xon xtw xol xrw xgl xus xpr xmk xab), (M 1, aI (K 0) 1247 g), (M 17, aI (K 0) 2000 gwo), (M 18, aI (K 0) 2000 (va_up gx (mx.length : Int).toNat (lat u k)))]) rfl dX11_convert_251 (fun H locs G => ?_)
                  have hpl : (((mx ++ [lat u k]).length : Nat) : Int) = (mx.length : Int) + 1 := by simp
                  replace G := G.eq (ws' := [(m0, mO M xth xrm xsv xln xat xer xwr xwd xlo xhi (u.length : Int) ((mx ++ [lat u k]).length : Int) xkl fi se xdn xon xtw xol xrw xgl xus xpr xmk xab), (M 1, aI (K 0) 1247 g), (M 17, aI (K 0) 2000 gwo), (M 18, aI (K 0) 2000 (va_up gx (mx.length : Int).toNat (lat u k)))]) (by rw [hpl])
                  refine ad_iinc (lv' := [(5, .int (iI (k + 1))), (0, .ref m0), (1, .int (iI pl)), (2, .int (iI 0)), (3, .int (iI fr)), (4, .int (iI to))]) F dX11_convert_254 hl (k := 5) rfl (by decide) rfl (fun ls hl => ?_)
                  refine lv_goto (tgt := 221) F.1 F.2.1 dX11_convert_257 (by decide) ?_
                  exact ih221 (k + 1) (va_up gx (mx.length : Int).toNat (lat u k)) (mx ++ [lat u k]) A0 fi se fr to _ _ _ (by omega) hss hA hfr hto (by rw [sl_succ (by omega) (by omega) (by omega), hmx, List.append_assoc]) (Tx_push hTx _) (by omega) (G.perm (ws' := [(m0, mO M xth xrm xsv xln xat xer xwr xwd xlo xhi (u.length : Int) ((mx ++ [lat u k]).length : Int) xkl fi se xdn xon xtw xol xrw xgl xus xpr xmk xab), (M 1, aI (K 0) 1247 g), (M 17, aI (K 0) 2000 gwo), (M 18, aI (K 0) 2000 (va_up gx (mx.length : Int).toNat (lat u k)))]) [0, 1, 2, 3] rfl rfl) (lv_sub hl [1, 2, 3, 4, 5, 0] rfl)
            exact lp221 ((((((u.length : Int) - ((fmo (rget rs (bR rs u pl 2 0)) 0).length : Int)) - 0 : Int)) + 1).toNat) 0 gma2_100 m2_99 m2_99 (bR rs u pl 1 0) (bR rs u pl 2 0) 0 ((u.length : Int) - ((fmo (rget rs (bR rs u pl 2 0)) 0).length : Int)) _ _ _ (by omega) hss (by rw [hc_101, List.nil_append]) hfr hto (by rw [sl_self, List.append_nil]) hc_102 (by omega) (G.perm (ws' := [(m0, mO M xth xrm xsv xln xat xer xwr xwd xlo xhi (u.length : Int) (m2_99.length : Int) xkl (bR rs u pl 1 0) (bR rs u pl 2 0) xdn xon xtw xol xrw xgl xus xpr xmk xab), (M 1, aI (K 0) 1247 g), (M 17, aI (K 0) 2000 gwo), (M 18, aI (K 0) 2000 gma2_100)]) [0, 1, 2, 3] rfl rfl) (lv_sub hl [3, 4, 5, 2, 1, 0] rfl)
          · refine ad_iconst F dX11_convert_185 ?_
            refine lv_goto (tgt := 198) F.1 F.2.1 dX11_convert_186 (by decide) ?_
            refine ad_isub F dX11_convert_198 ?_
            refine lv_istore (lv' := [(4, .int (iI ((u.length : Int) - 0))), (3, .int (iI 0)), (0, .ref m0), (1, .int (iI pl)), (2, .int (iI 0))]) F.1 F.2.1 dX11_convert_199 hl (by decide) rfl (fun ls hl => ?_)
            refine lv_aload_n F.1 F.2.1 dX11_convert_201 rfl (lv_at hl 2 rfl) ?_
            refine lv_aload_n F.1 F.2.1 dX11_convert_202 rfl (lv_at hl 2 rfl) ?_
            refine ad_get F G fl_X11_249 0 rfl rfl dX11_convert_203 ?_
            refine lv_iload_n F.1 F.2.1 dX11_convert_206 rfl (lv_at hl 4 rfl) ?_
            refine ad_if_ne (tgt := 214) F (by decide) dX11_convert_207 (by decide) (fun cc_110 => absurd cc_110 (by decide)) (fun _ => ?_)
            refine ad_iconst F dX11_convert_210 ?_
            refine lv_goto (tgt := 215) F.1 F.2.1 dX11_convert_211 (by decide) ?_
            refine ad_callV (As := [.int (iI (bR rs u pl 1 0)), .int (iI 1)]) (rest := []) F G (c_X11_addForm l D K z0 m0 M xth xrm xsv xln xat xer xwr xwd xlo xhi (u.length : Int) xkl (bR rs u pl 1 0) (bR rs u pl 2 0) xdn xon xtw xol xrw xgl xus xpr xmk xab g gma rs ps md th nc ([] : List Int) (bR rs u pl 1 0) 1 hM hW Tx_nil (by simp) (by omega) (by omega)) my_X11_addForm mv_X11_252 (wr := [(M 17, aI (K 0) 2000 gwo)]) (isC := [0, 1, 3]) (isR := [2]) ⟨rfl, rfl, rfl, rfl, by decide⟩ 11 0 rfl rfl rfl rfl ⟨Nat.le_of_ble_eq_true rfl, Nat.le_of_ble_eq_true rfl⟩ ⟨Nat.le_of_ble_eq_true rfl, Nat.le_of_ble_eq_true rfl⟩ (Nat.le_of_ble_eq_true rfl) hl.1 (cells9 := 0) (slots9 := 0) ⟨rfl, rfl⟩ dX11_convert_215 (fun v u H locs hw_111 G => ?_)
            obtain ⟨m2_112, gma2_113, rfl, hc_114, hc_115, rfl⟩ := hw_111
            replace G := G.perm (ws' := [(m0, mO M xth xrm xsv xln xat xer xwr xwd xlo xhi (u.length : Int) (m2_112.length : Int) xkl (bR rs u pl 1 0) (bR rs u pl 2 0) xdn xon xtw xol xrw xgl xus xpr xmk xab), (M 1, aI (K 0) 1247 g), (M 17, aI (K 0) 2000 gwo), (M 18, aI (K 0) 2000 gma2_113)]) [1, 2, 0, 3] rfl rfl
            refine W.eq (g2 := F0 m9 218 ls []) rfl ?_
            refine lv_iload_n F.1 F.2.1 dX11_convert_218 rfl (lv_at hl 1 rfl) ?_
            refine lv_istore (lv' := [(5, .int (iI 0)), (4, .int (iI ((u.length : Int) - 0))), (3, .int (iI 0)), (0, .ref m0), (1, .int (iI pl)), (2, .int (iI 0))]) F.1 F.2.1 dX11_convert_219 hl (by decide) rfl (fun ls hl => ?_)
            have hfr : 0 = ((fmo (rget rs (bR rs u pl 1 0)) 0).length : Int) := by first | rfl | (rw [show (bR rs u pl 1 0) = -1 by omega, fmo_m1]; rfl)
            have hto : (u.length : Int) - 0 = (u.length : Int) - ((fmo (rget rs (bR rs u pl 2 0)) 0).length : Int) := by first | rfl | (rw [show (bR rs u pl 2 0) = -1 by omega, fmo_m1]; rfl)
            have hsl := spl_le rs u pl 0
            rw [hss.1, hss.2] at hsl
            have lp221 : ∀ (n221 : Nat) (k : Int) (gx : Nat → Int) (mx : List Int) (A0 : List Int) (fi : Int) (se : Int) (fr : Int) (to : Int) (H : Heap) (locs : List Loc) (ls : Array Slot), (0 ≤ fr ∧ fr ≤ k ∧ k ≤ to ∧ to ≤ u.length) → (spm rs u pl 0 = fi ∧ spe rs u pl 0 = se) → (A0 = (fmo (rget rs fi) 1)) → (fr = ((fmo (rget rs fi) 0).length : Int)) → (to = (u.length : Int) - ((fmo (rget rs se) 0).length : Int)) → (mx = A0 ++ sl u fr k) → (Tx gx mx) → (to - k) < (n221 : Int) → ad_G D A9 s9.heap H locs [(m0, mO M xth xrm xsv xln xat xer xwr xwd xlo xhi (u.length : Int) (mx.length : Int) xkl fi se xdn xon xtw xol xrw xgl xus xpr xmk xab), (M 1, aI (K 0) 1247 g), (M 17, aI (K 0) 2000 gwo), (M 18, aI (K 0) 2000 gx)] → lv_has ls 6 [(0, .ref m0), (1, .int (iI pl)), (2, .int (iI 0)), (3, .int (iI fr)), (4, .int (iI to)), (5, .int (iI k))] → W p9 l e9 rm_X11_convert_0 s9 m9 ag9 bl9 mt9 c9 H locs 0 0 Q9 (F0 m9 221 ls []) := by
              intro n221
              induction n221 with
              | zero =>
                intro k gx mx A0 fi se fr to H locs ls hk hss hA hfr hto hmx hTx hm221
                exact absurd hm221 (by omega)
              | succ n221 ih221 =>
                intro k gx mx A0 fi se fr to H locs ls hk hss hA hfr hto hmx hTx hm221 G hl
                have hA12 := fmo_len hW fi 1
                have hmxl : (mx.length : Int) = A0.length + (k - fr) := by rw [hmx, List.length_append, Int.natCast_add, sl_len (by omega) (by omega) (by omega)]
                have hAl : A0.length ≤ 12 := by rw [hA]; exact hA12
                have hseb := spe_b rs u pl 0
                refine lv_iload F.1 F.2.1 dX11_convert_221 (lv_at hl 5 rfl) ?_
                refine lv_iload F.1 F.2.1 dX11_convert_223 (lv_at hl 4 rfl) ?_
                refine ad_icmp_ge (tgt := 260) F (by omega) dX11_convert_225 (by decide) (fun cc_116 => ?_) (fun cc_116 => ?_)
                · refine lv_aload_n F.1 F.2.1 dX11_convert_260 rfl (lv_at hl 0 rfl) ?_
                  refine lv_aload_n F.1 F.2.1 dX11_convert_261 rfl (lv_at hl 0 rfl) ?_
                  refine ad_get F G fl_X11_242 0 rfl rfl dX11_convert_262 ?_
                  refine lv_iload_n F.1 F.2.1 dX11_convert_265 rfl (lv_at hl 2 rfl) ?_
                  refine ad_if_ne (tgt := 273) F (by decide) dX11_convert_266 (by decide) (fun cc_117 => absurd cc_117 (by decide)) (fun _ => ?_)
                  refine ad_iconst F dX11_convert_269 ?_
                  refine lv_goto (tgt := 274) F.1 F.2.1 dX11_convert_270 (by decide) ?_
                  refine ad_callV (As := [.int (iI se), .int (iI 1)]) (rest := []) F G (c_X11_addForm l D K z0 m0 M xth xrm xsv xln xat xer xwr xwd xlo xhi (u.length : Int) xkl fi se xdn xon xtw xol xrw xgl xus xpr xmk xab g gx rs ps md th nc mx se 1 hM hW hTx (by omega) (by rw [← hss.2]; exact hseb) (by omega)) my_X11_addForm mv_X11_252 (wr := [(M 17, aI (K 0) 2000 gwo)]) (isC := [0, 1, 3]) (isR := [2]) ⟨rfl, rfl, rfl, rfl, by decide⟩ 11 0 rfl rfl rfl rfl ⟨Nat.le_of_ble_eq_true rfl, Nat.le_of_ble_eq_true rfl⟩ ⟨Nat.le_of_ble_eq_true rfl, Nat.le_of_ble_eq_true rfl⟩ (Nat.le_of_ble_eq_true rfl) hl.1 (cells9 := 0) (slots9 := 0) ⟨rfl, rfl⟩ dX11_convert_274 (fun v u H locs hw_118 G => ?_)
                  obtain ⟨m2_119, gma2_120, rfl, hc_121, hc_122, rfl⟩ := hw_118
                  replace G := G.perm (ws' := [(m0, mO M xth xrm xsv xln xat xer xwr xwd xlo xhi (u.length : Int) (m2_119.length : Int) xkl fi se xdn xon xtw xol xrw xgl xus xpr xmk xab), (M 1, aI (K 0) 1247 g), (M 17, aI (K 0) 2000 gwo), (M 18, aI (K 0) 2000 gma2_120)]) [1, 2, 0, 3] rfl rfl
                  refine W.eq (g2 := F0 m9 277 ls []) rfl ?_
                  exact ad_vreturn F G hR rfl (Nat.le_of_ble_eq_true rfl) (Nat.le_of_ble_eq_true rfl) ⟨m2_119, gma2_120, rfl, (by rw [hc_121, hmx, hA, spw_eq hss.1 hss.2, ← hfr, ← hto, show k = to by omega]; rfl), hc_122, (by rw [hss.1, hss.2])⟩ dX11_convert_277
                · refine lv_aload_n F.1 F.2.1 dX11_convert_228 rfl (lv_at hl 0 rfl) ?_
                  refine ad_get F G fl_X11_42 0 rfl rfl dX11_convert_229 ?_
                  refine lv_aload_n F.1 F.2.1 dX11_convert_232 rfl (lv_at hl 0 rfl) ?_
                  refine ad_get F G fl_X11_239 0 rfl rfl dX11_convert_233 ?_
                  refine lv_aload_n F.1 F.2.1 dX11_convert_236 rfl (lv_at hl 0 rfl) ?_
                  refine ad_get F G fl_X11_39 0 rfl rfl dX11_convert_237 ?_
                  refine lv_iload F.1 F.2.1 dX11_convert_240 (lv_at hl 5 rfl) ?_
                  refine ad_iald F G 2 rfl (w := lat u k) (by omega) (Tx_at hTu (by omega) (by omega)) dX11_convert_242 ?_
                  refine ad_iast F G 3 rfl (by omega) (ws' := [(m0, mO M xth xrm xsv xln xat xer xwr xwd xlo xhi (u.length : Int) (mx.length : Int) xkl fi se xdn xon xtw xol xrw xgl xus xpr xmk xab), (M 1, aI (K 0) 1247 g), (M 17, aI (K 0) 2000 gwo), (M 18, aI (K 0) 2000 (va_up gx (mx.length : Int).toNat (lat u k)))]) rfl dX11_convert_243 (fun H locs G => ?_)
                  refine lv_aload_n F.1 F.2.1 dX11_convert_244 rfl (lv_at hl 0 rfl) ?_
                  refine lv_dup F.1 F.2.1 dX11_convert_245 rfl ?_
                  refine ad_get F G fl_X11_239 0 rfl rfl dX11_convert_246 ?_
                  refine ad_iconst F dX11_convert_249 ?_
                  refine ad_iadd F dX11_convert_250 ?_
                  refine ad_put F G fl_X11_239 0 rfl rfl rfl (Nat.le_of_ble_eq_true rfl) (ws' := [(m0, mO M xth xrm xsv xln xat xer xwr xwd xlo xhi (u.length : Int) ((mx.length : Int) + 1) xkl fi se xdn xon xtw xol xrw xgl xus xpr xmk xab), (M 1, aI (K 0) 1247 g), (M 17, aI (K 0) 2000 gwo), (M 18, aI (K 0) 2000 (va_up gx (mx.length : Int).toNat (lat u k)))]) rfl dX11_convert_251 (fun H locs G => ?_)
                  have hpl : (((mx ++ [lat u k]).length : Nat) : Int) = (mx.length : Int) + 1 := by simp
                  replace G := G.eq (ws' := [(m0, mO M xth xrm xsv xln xat xer xwr xwd xlo xhi (u.length : Int) ((mx ++ [lat u k]).length : Int) xkl fi se xdn xon xtw xol xrw xgl xus xpr xmk xab), (M 1, aI (K 0) 1247 g), (M 17, aI (K 0) 2000 gwo), (M 18, aI (K 0) 2000 (va_up gx (mx.length : Int).toNat (lat u k)))]) (by rw [hpl])
                  refine ad_iinc (lv' := [(5, .int (iI (k + 1))), (0, .ref m0), (1, .int (iI pl)), (2, .int (iI 0)), (3, .int (iI fr)), (4, .int (iI to))]) F dX11_convert_254 hl (k := 5) rfl (by decide) rfl (fun ls hl => ?_)
                  refine lv_goto (tgt := 221) F.1 F.2.1 dX11_convert_257 (by decide) ?_
                  exact ih221 (k + 1) (va_up gx (mx.length : Int).toNat (lat u k)) (mx ++ [lat u k]) A0 fi se fr to _ _ _ (by omega) hss hA hfr hto (by rw [sl_succ (by omega) (by omega) (by omega), hmx, List.append_assoc]) (Tx_push hTx _) (by omega) (G.perm (ws' := [(m0, mO M xth xrm xsv xln xat xer xwr xwd xlo xhi (u.length : Int) ((mx ++ [lat u k]).length : Int) xkl fi se xdn xon xtw xol xrw xgl xus xpr xmk xab), (M 1, aI (K 0) 1247 g), (M 17, aI (K 0) 2000 gwo), (M 18, aI (K 0) 2000 (va_up gx (mx.length : Int).toNat (lat u k)))]) [0, 1, 2, 3] rfl rfl) (lv_sub hl [1, 2, 3, 4, 5, 0] rfl)
            exact lp221 ((((((u.length : Int) - 0) - 0 : Int)) + 1).toNat) 0 gma2_113 m2_112 m2_112 (bR rs u pl 1 0) (bR rs u pl 2 0) 0 ((u.length : Int) - 0) _ _ _ (by omega) hss (by rw [hc_114, List.nil_append]) hfr hto (by rw [sl_self, List.append_nil]) hc_115 (by omega) (G.perm (ws' := [(m0, mO M xth xrm xsv xln xat xer xwr xwd xlo xhi (u.length : Int) (m2_112.length : Int) xkl (bR rs u pl 1 0) (bR rs u pl 2 0) xdn xon xtw xol xrw xgl xus xpr xmk xab), (M 1, aI (K 0) 1247 g), (M 17, aI (K 0) 2000 gwo), (M 18, aI (K 0) 2000 gma2_113)]) [0, 1, 2, 3] rfl rfl) (lv_sub hl [3, 4, 5, 2, 1, 0] rfl)
      · refine lv_aload_n F.1 F.2.1 dX11_convert_82 rfl (lv_at hl 0 rfl) ?_
        refine lv_aload_n F.1 F.2.1 dX11_convert_83 rfl (lv_at hl 0 rfl) ?_
        refine ad_get F G fl_X11_249 0 rfl rfl dX11_convert_84 ?_
        refine lv_iload_n F.1 F.2.1 dX11_convert_87 rfl (lv_at hl 2 rfl) ?_
        refine ad_callV (As := [.int (iI (bR rs u pl 1 0)), .int (iI 0)]) (rest := []) F G (c_X11_lengthOf l D K z0 m0 M xth xrm xsv xln xat xer xwr xwd xlo xhi (u.length : Int) (([] : List Int).length : Int) xkl (bR rs u pl 1 0) (bR rs u pl 2 0) xdn xon xtw xol xrw xgl xus xpr xmk xab g rs ps md th nc (bR rs u pl 1 0) 0 hM hW (by omega) (by omega)) my_X11_lengthOf mv_X11_185 (wr := [(M 17, aI (K 0) 2000 gwo), (M 18, aI (K 0) 2000 gma)]) (isC := [0, 1]) (isR := [2, 3]) ⟨rfl, rfl, rfl, rfl, by decide⟩ 11 0 rfl rfl rfl rfl ⟨Nat.le_of_ble_eq_true rfl, Nat.le_of_ble_eq_true rfl⟩ ⟨Nat.le_of_ble_eq_true rfl, Nat.le_of_ble_eq_true rfl⟩ (Nat.le_of_ble_eq_true rfl) hl.1 (cells9 := 0) (slots9 := 0) ⟨rfl, rfl⟩ dX11_convert_88 (fun v u H locs hw_123 G => ?_)
        obtain ⟨rfl, rfl⟩ := hw_123
        replace G := G.perm (ws' := [(m0, mO M xth xrm xsv xln xat xer xwr xwd xlo xhi (u.length : Int) (([] : List Int).length : Int) xkl (bR rs u pl 1 0) (bR rs u pl 2 0) xdn xon xtw xol xrw xgl xus xpr xmk xab), (M 1, aI (K 0) 1247 g), (M 17, aI (K 0) 2000 gwo), (M 18, aI (K 0) 2000 gma)]) [2, 3, 0, 1] rfl rfl
        refine W.eq (g2 := F0 m9 91 ls [.int (iI ((fmo (rget rs (bR rs u pl 1 0)) 0).length : Int))]) rfl ?_
        refine lv_aload_n F.1 F.2.1 dX11_convert_91 rfl (lv_at hl 0 rfl) ?_
        refine lv_aload_n F.1 F.2.1 dX11_convert_92 rfl (lv_at hl 0 rfl) ?_
        refine ad_get F G fl_X11_242 0 rfl rfl dX11_convert_93 ?_
        refine lv_iload_n F.1 F.2.1 dX11_convert_96 rfl (lv_at hl 2 rfl) ?_
        refine ad_callV (As := [.int (iI (bR rs u pl 2 0)), .int (iI 0)]) (rest := [.int (iI ((fmo (rget rs (bR rs u pl 1 0)) 0).length : Int))]) F G (c_X11_lengthOf l D K z0 m0 M xth xrm xsv xln xat xer xwr xwd xlo xhi (u.length : Int) (([] : List Int).length : Int) xkl (bR rs u pl 1 0) (bR rs u pl 2 0) xdn xon xtw xol xrw xgl xus xpr xmk xab g rs ps md th nc (bR rs u pl 2 0) 0 hM hW (by omega) (by omega)) my_X11_lengthOf mv_X11_185 (wr := [(M 17, aI (K 0) 2000 gwo), (M 18, aI (K 0) 2000 gma)]) (isC := [0, 1]) (isR := [2, 3]) ⟨rfl, rfl, rfl, rfl, by decide⟩ 11 0 rfl rfl rfl rfl ⟨Nat.le_of_ble_eq_true rfl, Nat.le_of_ble_eq_true rfl⟩ ⟨Nat.le_of_ble_eq_true rfl, Nat.le_of_ble_eq_true rfl⟩ (Nat.le_of_ble_eq_true rfl) hl.1 (cells9 := 0) (slots9 := 0) ⟨rfl, rfl⟩ dX11_convert_97 (fun v u H locs hw_124 G => ?_)
        obtain ⟨rfl, rfl⟩ := hw_124
        replace G := G.perm (ws' := [(m0, mO M xth xrm xsv xln xat xer xwr xwd xlo xhi (u.length : Int) (([] : List Int).length : Int) xkl (bR rs u pl 1 0) (bR rs u pl 2 0) xdn xon xtw xol xrw xgl xus xpr xmk xab), (M 1, aI (K 0) 1247 g), (M 17, aI (K 0) 2000 gwo), (M 18, aI (K 0) 2000 gma)]) [2, 3, 0, 1] rfl rfl
        refine W.eq (g2 := F0 m9 100 ls [.int (iI ((fmo (rget rs (bR rs u pl 2 0)) 0).length : Int)), .int (iI ((fmo (rget rs (bR rs u pl 1 0)) 0).length : Int))]) rfl ?_
        refine ad_iadd F dX11_convert_100 ?_
        refine lv_aload_n F.1 F.2.1 dX11_convert_101 rfl (lv_at hl 0 rfl) ?_
        refine ad_get F G fl_X11_233 0 rfl rfl dX11_convert_102 ?_
        refine ad_icmp_le (tgt := 153) F (by omega) dX11_convert_105 (by decide) (fun cc_125 => ?_) (fun cc_125 => ?_)
        · have hss : spm rs u pl 0 = bR rs u pl 1 0 ∧ spe rs u pl 0 = bR rs u pl 2 0 := sp_n cc_2 (by omega)
          refine lv_aload_n F.1 F.2.1 dX11_convert_153 rfl (lv_at hl 0 rfl) ?_
          refine ad_get F G fl_X11_249 0 rfl rfl dX11_convert_154 ?_
          refine ad_if_ge (tgt := 164) F (by omega) dX11_convert_157 (by decide) (fun cc_126 => ?_) (fun cc_126 => ?_)
          · refine lv_aload_n F.1 F.2.1 dX11_convert_164 rfl (lv_at hl 0 rfl) ?_
            refine lv_aload_n F.1 F.2.1 dX11_convert_165 rfl (lv_at hl 0 rfl) ?_
            refine ad_get F G fl_X11_249 0 rfl rfl dX11_convert_166 ?_
            refine lv_iload_n F.1 F.2.1 dX11_convert_169 rfl (lv_at hl 2 rfl) ?_
            refine ad_callV (As := [.int (iI (bR rs u pl 1 0)), .int (iI 0)]) (rest := []) F G (c_X11_lengthOf l D K z0 m0 M xth xrm xsv xln xat xer xwr xwd xlo xhi (u.length : Int) (([] : List Int).length : Int) xkl (bR rs u pl 1 0) (bR rs u pl 2 0) xdn xon xtw xol xrw xgl xus xpr xmk xab g rs ps md th nc (bR rs u pl 1 0) 0 hM hW (by omega) (by omega)) my_X11_lengthOf mv_X11_185 (wr := [(M 17, aI (K 0) 2000 gwo), (M 18, aI (K 0) 2000 gma)]) (isC := [0, 1]) (isR := [2, 3]) ⟨rfl, rfl, rfl, rfl, by decide⟩ 11 0 rfl rfl rfl rfl ⟨Nat.le_of_ble_eq_true rfl, Nat.le_of_ble_eq_true rfl⟩ ⟨Nat.le_of_ble_eq_true rfl, Nat.le_of_ble_eq_true rfl⟩ (Nat.le_of_ble_eq_true rfl) hl.1 (cells9 := 0) (slots9 := 0) ⟨rfl, rfl⟩ dX11_convert_170 (fun v u H locs hw_127 G => ?_)
            obtain ⟨rfl, rfl⟩ := hw_127
            replace G := G.perm (ws' := [(m0, mO M xth xrm xsv xln xat xer xwr xwd xlo xhi (u.length : Int) (([] : List Int).length : Int) xkl (bR rs u pl 1 0) (bR rs u pl 2 0) xdn xon xtw xol xrw xgl xus xpr xmk xab), (M 1, aI (K 0) 1247 g), (M 17, aI (K 0) 2000 gwo), (M 18, aI (K 0) 2000 gma)]) [2, 3, 0, 1] rfl rfl
            refine W.eq (g2 := F0 m9 173 ls [.int (iI ((fmo (rget rs (bR rs u pl 1 0)) 0).length : Int))]) rfl ?_
            refine lv_istore_n (lv' := [(3, .int (iI ((fmo (rget rs (bR rs u pl 1 0)) 0).length : Int))), (0, .ref m0), (1, .int (iI pl)), (2, .int (iI 0))]) F.1 F.2.1 dX11_convert_173 rfl hl (by decide) rfl (fun ls hl => ?_)
            refine lv_aload_n F.1 F.2.1 dX11_convert_174 rfl (lv_at hl 1 rfl) ?_
            refine ad_get F G fl_X11_233 0 rfl rfl dX11_convert_175 ?_
            refine lv_aload_n F.1 F.2.1 dX11_convert_178 rfl (lv_at hl 1 rfl) ?_
            refine ad_get F G fl_X11_242 0 rfl rfl dX11_convert_179 ?_
            refine ad_if_ge (tgt := 189) F (by omega) dX11_convert_182 (by decide) (fun cc_128 => ?_) (fun cc_128 => ?_)
            · refine lv_aload_n F.1 F.2.1 dX11_convert_189 rfl (lv_at hl 1 rfl) ?_
              refine lv_aload_n F.1 F.2.1 dX11_convert_190 rfl (lv_at hl 1 rfl) ?_
              refine ad_get F G fl_X11_242 0 rfl rfl dX11_convert_191 ?_
              refine lv_iload_n F.1 F.2.1 dX11_convert_194 rfl (lv_at hl 3 rfl) ?_
              refine ad_callV (As := [.int (iI (bR rs u pl 2 0)), .int (iI 0)]) (rest := [.int (iI (u.length : Int))]) F G (c_X11_lengthOf l D K z0 m0 M xth xrm xsv xln xat xer xwr xwd xlo xhi (u.length : Int) (([] : List Int).length : Int) xkl (bR rs u pl 1 0) (bR rs u pl 2 0) xdn xon xtw xol xrw xgl xus xpr xmk xab g rs ps md th nc (bR rs u pl 2 0) 0 hM hW (by omega) (by omega)) my_X11_lengthOf mv_X11_185 (wr := [(M 17, aI (K 0) 2000 gwo), (M 18, aI (K 0) 2000 gma)]) (isC := [0, 1]) (isR := [2, 3]) ⟨rfl, rfl, rfl, rfl, by decide⟩ 11 0 rfl rfl rfl rfl ⟨Nat.le_of_ble_eq_true rfl, Nat.le_of_ble_eq_true rfl⟩ ⟨Nat.le_of_ble_eq_true rfl, Nat.le_of_ble_eq_true rfl⟩ (Nat.le_of_ble_eq_true rfl) hl.1 (cells9 := 0) (slots9 := 0) ⟨rfl, rfl⟩ dX11_convert_195 (fun v u H locs hw_129 G => ?_)
              obtain ⟨rfl, rfl⟩ := hw_129
              replace G := G.perm (ws' := [(m0, mO M xth xrm xsv xln xat xer xwr xwd xlo xhi (u.length : Int) (([] : List Int).length : Int) xkl (bR rs u pl 1 0) (bR rs u pl 2 0) xdn xon xtw xol xrw xgl xus xpr xmk xab), (M 1, aI (K 0) 1247 g), (M 17, aI (K 0) 2000 gwo), (M 18, aI (K 0) 2000 gma)]) [2, 3, 0, 1] rfl rfl
              refine W.eq (g2 := F0 m9 198 ls [.int (iI ((fmo (rget rs (bR rs u pl 2 0)) 0).length : Int)), .int (iI (u.length : Int))]) rfl ?_
              refine ad_isub F dX11_convert_198 ?_
              refine lv_istore (lv' := [(4, .int (iI ((u.length : Int) - ((fmo (rget rs (bR rs u pl 2 0)) 0).length : Int)))), (3, .int (iI ((fmo (rget rs (bR rs u pl 1 0)) 0).length : Int))), (0, .ref m0), (1, .int (iI pl)), (2, .int (iI 0))]) F.1 F.2.1 dX11_convert_199 hl (by decide) rfl (fun ls hl => ?_)
              refine lv_aload_n F.1 F.2.1 dX11_convert_201 rfl (lv_at hl 2 rfl) ?_
              refine lv_aload_n F.1 F.2.1 dX11_convert_202 rfl (lv_at hl 2 rfl) ?_
              refine ad_get F G fl_X11_249 0 rfl rfl dX11_convert_203 ?_
              refine lv_iload_n F.1 F.2.1 dX11_convert_206 rfl (lv_at hl 4 rfl) ?_
              refine ad_if_ne (tgt := 214) F (by decide) dX11_convert_207 (by decide) (fun cc_130 => absurd cc_130 (by decide)) (fun _ => ?_)
              refine ad_iconst F dX11_convert_210 ?_
              refine lv_goto (tgt := 215) F.1 F.2.1 dX11_convert_211 (by decide) ?_
              refine ad_callV (As := [.int (iI (bR rs u pl 1 0)), .int (iI 1)]) (rest := []) F G (c_X11_addForm l D K z0 m0 M xth xrm xsv xln xat xer xwr xwd xlo xhi (u.length : Int) xkl (bR rs u pl 1 0) (bR rs u pl 2 0) xdn xon xtw xol xrw xgl xus xpr xmk xab g gma rs ps md th nc ([] : List Int) (bR rs u pl 1 0) 1 hM hW Tx_nil (by simp) (by omega) (by omega)) my_X11_addForm mv_X11_252 (wr := [(M 17, aI (K 0) 2000 gwo)]) (isC := [0, 1, 3]) (isR := [2]) ⟨rfl, rfl, rfl, rfl, by decide⟩ 11 0 rfl rfl rfl rfl ⟨Nat.le_of_ble_eq_true rfl, Nat.le_of_ble_eq_true rfl⟩ ⟨Nat.le_of_ble_eq_true rfl, Nat.le_of_ble_eq_true rfl⟩ (Nat.le_of_ble_eq_true rfl) hl.1 (cells9 := 0) (slots9 := 0) ⟨rfl, rfl⟩ dX11_convert_215 (fun v u H locs hw_131 G => ?_)
              obtain ⟨m2_132, gma2_133, rfl, hc_134, hc_135, rfl⟩ := hw_131
              replace G := G.perm (ws' := [(m0, mO M xth xrm xsv xln xat xer xwr xwd xlo xhi (u.length : Int) (m2_132.length : Int) xkl (bR rs u pl 1 0) (bR rs u pl 2 0) xdn xon xtw xol xrw xgl xus xpr xmk xab), (M 1, aI (K 0) 1247 g), (M 17, aI (K 0) 2000 gwo), (M 18, aI (K 0) 2000 gma2_133)]) [1, 2, 0, 3] rfl rfl
              refine W.eq (g2 := F0 m9 218 ls []) rfl ?_
              refine lv_iload_n F.1 F.2.1 dX11_convert_218 rfl (lv_at hl 1 rfl) ?_
              refine lv_istore (lv' := [(5, .int (iI ((fmo (rget rs (bR rs u pl 1 0)) 0).length : Int))), (4, .int (iI ((u.length : Int) - ((fmo (rget rs (bR rs u pl 2 0)) 0).length : Int)))), (3, .int (iI ((fmo (rget rs (bR rs u pl 1 0)) 0).length : Int))), (0, .ref m0), (1, .int (iI pl)), (2, .int (iI 0))]) F.1 F.2.1 dX11_convert_219 hl (by decide) rfl (fun ls hl => ?_)
              have hfr : ((fmo (rget rs (bR rs u pl 1 0)) 0).length : Int) = ((fmo (rget rs (bR rs u pl 1 0)) 0).length : Int) := by first | rfl | (rw [show (bR rs u pl 1 0) = -1 by omega, fmo_m1]; rfl)
              have hto : (u.length : Int) - ((fmo (rget rs (bR rs u pl 2 0)) 0).length : Int) = (u.length : Int) - ((fmo (rget rs (bR rs u pl 2 0)) 0).length : Int) := by first | rfl | (rw [show (bR rs u pl 2 0) = -1 by omega, fmo_m1]; rfl)
              have hsl := spl_le rs u pl 0
              rw [hss.1, hss.2] at hsl
              have lp221 : ∀ (n221 : Nat) (k : Int) (gx : Nat → Int) (mx : List Int) (A0 : List Int) (fi : Int) (se : Int) (fr : Int) (to : Int) (H : Heap) (locs : List Loc) (ls : Array Slot), (0 ≤ fr ∧ fr ≤ k ∧ k ≤ to ∧ to ≤ u.length) → (spm rs u pl 0 = fi ∧ spe rs u pl 0 = se) → (A0 = (fmo (rget rs fi) 1)) → (fr = ((fmo (rget rs fi) 0).length : Int)) → (to = (u.length : Int) - ((fmo (rget rs se) 0).length : Int)) → (mx = A0 ++ sl u fr k) → (Tx gx mx) → (to - k) < (n221 : Int) → ad_G D A9 s9.heap H locs [(m0, mO M xth xrm xsv xln xat xer xwr xwd xlo xhi (u.length : Int) (mx.length : Int) xkl fi se xdn xon xtw xol xrw xgl xus xpr xmk xab), (M 1, aI (K 0) 1247 g), (M 17, aI (K 0) 2000 gwo), (M 18, aI (K 0) 2000 gx)] → lv_has ls 6 [(0, .ref m0), (1, .int (iI pl)), (2, .int (iI 0)), (3, .int (iI fr)), (4, .int (iI to)), (5, .int (iI k))] → W p9 l e9 rm_X11_convert_0 s9 m9 ag9 bl9 mt9 c9 H locs 0 0 Q9 (F0 m9 221 ls []) := by
                intro n221
                induction n221 with
                | zero =>
                  intro k gx mx A0 fi se fr to H locs ls hk hss hA hfr hto hmx hTx hm221
                  exact absurd hm221 (by omega)
                | succ n221 ih221 =>
                  intro k gx mx A0 fi se fr to H locs ls hk hss hA hfr hto hmx hTx hm221 G hl
                  have hA12 := fmo_len hW fi 1
                  have hmxl : (mx.length : Int) = A0.length + (k - fr) := by rw [hmx, List.length_append, Int.natCast_add, sl_len (by omega) (by omega) (by omega)]
                  have hAl : A0.length ≤ 12 := by rw [hA]; exact hA12
                  have hseb := spe_b rs u pl 0
                  refine lv_iload F.1 F.2.1 dX11_convert_221 (lv_at hl 5 rfl) ?_
                  refine lv_iload F.1 F.2.1 dX11_convert_223 (lv_at hl 4 rfl) ?_
                  refine ad_icmp_ge (tgt := 260) F (by omega) dX11_convert_225 (by decide) (fun cc_136 => ?_) (fun cc_136 => ?_)
                  · refine lv_aload_n F.1 F.2.1 dX11_convert_260 rfl (lv_at hl 0 rfl) ?_
                    refine lv_aload_n F.1 F.2.1 dX11_convert_261 rfl (lv_at hl 0 rfl) ?_
                    refine ad_get F G fl_X11_242 0 rfl rfl dX11_convert_262 ?_
                    refine lv_iload_n F.1 F.2.1 dX11_convert_265 rfl (lv_at hl 2 rfl) ?_
                    refine ad_if_ne (tgt := 273) F (by decide) dX11_convert_266 (by decide) (fun cc_137 => absurd cc_137 (by decide)) (fun _ => ?_)
                    refine ad_iconst F dX11_convert_269 ?_
                    refine lv_goto (tgt := 274) F.1 F.2.1 dX11_convert_270 (by decide) ?_
                    refine ad_callV (As := [.int (iI se), .int (iI 1)]) (rest := []) F G (c_X11_addForm l D K z0 m0 M xth xrm xsv xln xat xer xwr xwd xlo xhi (u.length : Int) xkl fi se xdn xon xtw xol xrw xgl xus xpr xmk xab g gx rs ps md th nc mx se 1 hM hW hTx (by omega) (by rw [← hss.2]; exact hseb) (by omega)) my_X11_addForm mv_X11_252 (wr := [(M 17, aI (K 0) 2000 gwo)]) (isC := [0, 1, 3]) (isR := [2]) ⟨rfl, rfl, rfl, rfl, by decide⟩ 11 0 rfl rfl rfl rfl ⟨Nat.le_of_ble_eq_true rfl, Nat.le_of_ble_eq_true rfl⟩ ⟨Nat.le_of_ble_eq_true rfl, Nat.le_of_ble_eq_true rfl⟩ (Nat.le_of_ble_eq_true rfl) hl.1 (cells9 := 0) (slots9 := 0) ⟨rfl, rfl⟩ dX11_convert_274 (fun v u H locs hw_138 G => ?_)
                    obtain ⟨m2_139, gma2_140, rfl, hc_141, hc_142, rfl⟩ := hw_138
                    replace G := G.perm (ws' := [(m0, mO M xth xrm xsv xln xat xer xwr xwd xlo xhi (u.length : Int) (m2_139.length : Int) xkl fi se xdn xon xtw xol xrw xgl xus xpr xmk xab), (M 1, aI (K 0) 1247 g), (M 17, aI (K 0) 2000 gwo), (M 18, aI (K 0) 2000 gma2_140)]) [1, 2, 0, 3] rfl rfl
                    refine W.eq (g2 := F0 m9 277 ls []) rfl ?_
                    exact ad_vreturn F G hR rfl (Nat.le_of_ble_eq_true rfl) (Nat.le_of_ble_eq_true rfl) ⟨m2_139, gma2_140, rfl, (by rw [hc_141, hmx, hA, spw_eq hss.1 hss.2, ← hfr, ← hto, show k = to by omega]; rfl), hc_142, (by rw [hss.1, hss.2])⟩ dX11_convert_277
                  · refine lv_aload_n F.1 F.2.1 dX11_convert_228 rfl (lv_at hl 0 rfl) ?_
                    refine ad_get F G fl_X11_42 0 rfl rfl dX11_convert_229 ?_
                    refine lv_aload_n F.1 F.2.1 dX11_convert_232 rfl (lv_at hl 0 rfl) ?_
                    refine ad_get F G fl_X11_239 0 rfl rfl dX11_convert_233 ?_
                    refine lv_aload_n F.1 F.2.1 dX11_convert_236 rfl (lv_at hl 0 rfl) ?_
                    refine ad_get F G fl_X11_39 0 rfl rfl dX11_convert_237 ?_
                    refine lv_iload F.1 F.2.1 dX11_convert_240 (lv_at hl 5 rfl) ?_
                    refine ad_iald F G 2 rfl (w := lat u k) (by omega) (Tx_at hTu (by omega) (by omega)) dX11_convert_242 ?_
                    refine ad_iast F G 3 rfl (by omega) (ws' := [(m0, mO M xth xrm xsv xln xat xer xwr xwd xlo xhi (u.length : Int) (mx.length : Int) xkl fi se xdn xon xtw xol xrw xgl xus xpr xmk xab), (M 1, aI (K 0) 1247 g), (M 17, aI (K 0) 2000 gwo), (M 18, aI (K 0) 2000 (va_up gx (mx.length : Int).toNat (lat u k)))]) rfl dX11_convert_243 (fun H locs G => ?_)
                    refine lv_aload_n F.1 F.2.1 dX11_convert_244 rfl (lv_at hl 0 rfl) ?_
                    refine lv_dup F.1 F.2.1 dX11_convert_245 rfl ?_
                    refine ad_get F G fl_X11_239 0 rfl rfl dX11_convert_246 ?_
                    refine ad_iconst F dX11_convert_249 ?_
                    refine ad_iadd F dX11_convert_250 ?_
                    refine ad_put F G fl_X11_239 0 rfl rfl rfl (Nat.le_of_ble_eq_true rfl) (ws' := [(m0, mO M xth xrm xsv xln xat xer xwr xwd xlo xhi (u.length : Int) ((mx.length : Int) + 1) xkl fi se xdn xon xtw xol xrw xgl xus xpr xmk xab), (M 1, aI (K 0) 1247 g), (M 17, aI (K 0) 2000 gwo), (M 18, aI (K 0) 2000 (va_up gx (mx.length : Int).toNat (lat u k)))]) rfl dX11_convert_251 (fun H locs G => ?_)
                    have hpl : (((mx ++ [lat u k]).length : Nat) : Int) = (mx.length : Int) + 1 := by simp
                    replace G := G.eq (ws' := [(m0, mO M xth xrm xsv xln xat xer xwr xwd xlo xhi (u.length : Int) ((mx ++ [lat u k]).length : Int) xkl fi se xdn xon xtw xol xrw xgl xus xpr xmk xab), (M 1, aI (K 0) 1247 g), (M 17, aI (K 0) 2000 gwo), (M 18, aI (K 0) 2000 (va_up gx (mx.length : Int).toNat (lat u k)))]) (by rw [hpl])
                    refine ad_iinc (lv' := [(5, .int (iI (k + 1))), (0, .ref m0), (1, .int (iI pl)), (2, .int (iI 0)), (3, .int (iI fr)), (4, .int (iI to))]) F dX11_convert_254 hl (k := 5) rfl (by decide) rfl (fun ls hl => ?_)
                    refine lv_goto (tgt := 221) F.1 F.2.1 dX11_convert_257 (by decide) ?_
                    exact ih221 (k + 1) (va_up gx (mx.length : Int).toNat (lat u k)) (mx ++ [lat u k]) A0 fi se fr to _ _ _ (by omega) hss hA hfr hto (by rw [sl_succ (by omega) (by omega) (by omega), hmx, List.append_assoc]) (Tx_push hTx _) (by omega) (G.perm (ws' := [(m0, mO M xth xrm xsv xln xat xer xwr xwd xlo xhi (u.length : Int) ((mx ++ [lat u k]).length : Int) xkl fi se xdn xon xtw xol xrw xgl xus xpr xmk xab), (M 1, aI (K 0) 1247 g), (M 17, aI (K 0) 2000 gwo), (M 18, aI (K 0) 2000 (va_up gx (mx.length : Int).toNat (lat u k)))]) [0, 1, 2, 3] rfl rfl) (lv_sub hl [1, 2, 3, 4, 5, 0] rfl)
              exact lp221 ((((((u.length : Int) - ((fmo (rget rs (bR rs u pl 2 0)) 0).length : Int)) - ((fmo (rget rs (bR rs u pl 1 0)) 0).length : Int) : Int)) + 1).toNat) ((fmo (rget rs (bR rs u pl 1 0)) 0).length : Int) gma2_133 m2_132 m2_132 (bR rs u pl 1 0) (bR rs u pl 2 0) ((fmo (rget rs (bR rs u pl 1 0)) 0).length : Int) ((u.length : Int) - ((fmo (rget rs (bR rs u pl 2 0)) 0).length : Int)) _ _ _ (by omega) hss (by rw [hc_134, List.nil_append]) hfr hto (by rw [sl_self, List.append_nil]) hc_135 (by omega) (G.perm (ws' := [(m0, mO M xth xrm xsv xln xat xer xwr xwd xlo xhi (u.length : Int) (m2_132.length : Int) xkl (bR rs u pl 1 0) (bR rs u pl 2 0) xdn xon xtw xol xrw xgl xus xpr xmk xab), (M 1, aI (K 0) 1247 g), (M 17, aI (K 0) 2000 gwo), (M 18, aI (K 0) 2000 gma2_133)]) [0, 1, 2, 3] rfl rfl) (lv_sub hl [3, 4, 5, 2, 1, 0] rfl)
            · refine ad_iconst F dX11_convert_185 ?_
              refine lv_goto (tgt := 198) F.1 F.2.1 dX11_convert_186 (by decide) ?_
              refine ad_isub F dX11_convert_198 ?_
              refine lv_istore (lv' := [(4, .int (iI ((u.length : Int) - 0))), (3, .int (iI ((fmo (rget rs (bR rs u pl 1 0)) 0).length : Int))), (0, .ref m0), (1, .int (iI pl)), (2, .int (iI 0))]) F.1 F.2.1 dX11_convert_199 hl (by decide) rfl (fun ls hl => ?_)
              refine lv_aload_n F.1 F.2.1 dX11_convert_201 rfl (lv_at hl 2 rfl) ?_
              refine lv_aload_n F.1 F.2.1 dX11_convert_202 rfl (lv_at hl 2 rfl) ?_
              refine ad_get F G fl_X11_249 0 rfl rfl dX11_convert_203 ?_
              refine lv_iload_n F.1 F.2.1 dX11_convert_206 rfl (lv_at hl 4 rfl) ?_
              refine ad_if_ne (tgt := 214) F (by decide) dX11_convert_207 (by decide) (fun cc_143 => absurd cc_143 (by decide)) (fun _ => ?_)
              refine ad_iconst F dX11_convert_210 ?_
              refine lv_goto (tgt := 215) F.1 F.2.1 dX11_convert_211 (by decide) ?_
              refine ad_callV (As := [.int (iI (bR rs u pl 1 0)), .int (iI 1)]) (rest := []) F G (c_X11_addForm l D K z0 m0 M xth xrm xsv xln xat xer xwr xwd xlo xhi (u.length : Int) xkl (bR rs u pl 1 0) (bR rs u pl 2 0) xdn xon xtw xol xrw xgl xus xpr xmk xab g gma rs ps md th nc ([] : List Int) (bR rs u pl 1 0) 1 hM hW Tx_nil (by simp) (by omega) (by omega)) my_X11_addForm mv_X11_252 (wr := [(M 17, aI (K 0) 2000 gwo)]) (isC := [0, 1, 3]) (isR := [2]) ⟨rfl, rfl, rfl, rfl, by decide⟩ 11 0 rfl rfl rfl rfl ⟨Nat.le_of_ble_eq_true rfl, Nat.le_of_ble_eq_true rfl⟩ ⟨Nat.le_of_ble_eq_true rfl, Nat.le_of_ble_eq_true rfl⟩ (Nat.le_of_ble_eq_true rfl) hl.1 (cells9 := 0) (slots9 := 0) ⟨rfl, rfl⟩ dX11_convert_215 (fun v u H locs hw_144 G => ?_)
              obtain ⟨m2_145, gma2_146, rfl, hc_147, hc_148, rfl⟩ := hw_144
              replace G := G.perm (ws' := [(m0, mO M xth xrm xsv xln xat xer xwr xwd xlo xhi (u.length : Int) (m2_145.length : Int) xkl (bR rs u pl 1 0) (bR rs u pl 2 0) xdn xon xtw xol xrw xgl xus xpr xmk xab), (M 1, aI (K 0) 1247 g), (M 17, aI (K 0) 2000 gwo), (M 18, aI (K 0) 2000 gma2_146)]) [1, 2, 0, 3] rfl rfl
              refine W.eq (g2 := F0 m9 218 ls []) rfl ?_
              refine lv_iload_n F.1 F.2.1 dX11_convert_218 rfl (lv_at hl 1 rfl) ?_
              refine lv_istore (lv' := [(5, .int (iI ((fmo (rget rs (bR rs u pl 1 0)) 0).length : Int))), (4, .int (iI ((u.length : Int) - 0))), (3, .int (iI ((fmo (rget rs (bR rs u pl 1 0)) 0).length : Int))), (0, .ref m0), (1, .int (iI pl)), (2, .int (iI 0))]) F.1 F.2.1 dX11_convert_219 hl (by decide) rfl (fun ls hl => ?_)
              have hfr : ((fmo (rget rs (bR rs u pl 1 0)) 0).length : Int) = ((fmo (rget rs (bR rs u pl 1 0)) 0).length : Int) := by first | rfl | (rw [show (bR rs u pl 1 0) = -1 by omega, fmo_m1]; rfl)
              have hto : (u.length : Int) - 0 = (u.length : Int) - ((fmo (rget rs (bR rs u pl 2 0)) 0).length : Int) := by first | rfl | (rw [show (bR rs u pl 2 0) = -1 by omega, fmo_m1]; rfl)
              have hsl := spl_le rs u pl 0
              rw [hss.1, hss.2] at hsl
              have lp221 : ∀ (n221 : Nat) (k : Int) (gx : Nat → Int) (mx : List Int) (A0 : List Int) (fi : Int) (se : Int) (fr : Int) (to : Int) (H : Heap) (locs : List Loc) (ls : Array Slot), (0 ≤ fr ∧ fr ≤ k ∧ k ≤ to ∧ to ≤ u.length) → (spm rs u pl 0 = fi ∧ spe rs u pl 0 = se) → (A0 = (fmo (rget rs fi) 1)) → (fr = ((fmo (rget rs fi) 0).length : Int)) → (to = (u.length : Int) - ((fmo (rget rs se) 0).length : Int)) → (mx = A0 ++ sl u fr k) → (Tx gx mx) → (to - k) < (n221 : Int) → ad_G D A9 s9.heap H locs [(m0, mO M xth xrm xsv xln xat xer xwr xwd xlo xhi (u.length : Int) (mx.length : Int) xkl fi se xdn xon xtw xol xrw xgl xus xpr xmk xab), (M 1, aI (K 0) 1247 g), (M 17, aI (K 0) 2000 gwo), (M 18, aI (K 0) 2000 gx)] → lv_has ls 6 [(0, .ref m0), (1, .int (iI pl)), (2, .int (iI 0)), (3, .int (iI fr)), (4, .int (iI to)), (5, .int (iI k))] → W p9 l e9 rm_X11_convert_0 s9 m9 ag9 bl9 mt9 c9 H locs 0 0 Q9 (F0 m9 221 ls []) := by
                intro n221
                induction n221 with
                | zero =>
                  intro k gx mx A0 fi se fr to H locs ls hk hss hA hfr hto hmx hTx hm221
                  exact absurd hm221 (by omega)
                | succ n221 ih221 =>
                  intro k gx mx A0 fi se fr to H locs ls hk hss hA hfr hto hmx hTx hm221 G hl
                  have hA12 := fmo_len hW fi 1
                  have hmxl : (mx.length : Int) = A0.length + (k - fr) := by rw [hmx, List.length_append, Int.natCast_add, sl_len (by omega) (by omega) (by omega)]
                  have hAl : A0.length ≤ 12 := by rw [hA]; exact hA12
                  have hseb := spe_b rs u pl 0
                  refine lv_iload F.1 F.2.1 dX11_convert_221 (lv_at hl 5 rfl) ?_
                  refine lv_iload F.1 F.2.1 dX11_convert_223 (lv_at hl 4 rfl) ?_
                  refine ad_icmp_ge (tgt := 260) F (by omega) dX11_convert_225 (by decide) (fun cc_149 => ?_) (fun cc_149 => ?_)
                  · refine lv_aload_n F.1 F.2.1 dX11_convert_260 rfl (lv_at hl 0 rfl) ?_
                    refine lv_aload_n F.1 F.2.1 dX11_convert_261 rfl (lv_at hl 0 rfl) ?_
                    refine ad_get F G fl_X11_242 0 rfl rfl dX11_convert_262 ?_
                    refine lv_iload_n F.1 F.2.1 dX11_convert_265 rfl (lv_at hl 2 rfl) ?_
                    refine ad_if_ne (tgt := 273) F (by decide) dX11_convert_266 (by decide) (fun cc_150 => absurd cc_150 (by decide)) (fun _ => ?_)
                    refine ad_iconst F dX11_convert_269 ?_
                    refine lv_goto (tgt := 274) F.1 F.2.1 dX11_convert_270 (by decide) ?_
                    refine ad_callV (As := [.int (iI se), .int (iI 1)]) (rest := []) F G (c_X11_addForm l D K z0 m0 M xth xrm xsv xln xat xer xwr xwd xlo xhi (u.length : Int) xkl fi se xdn xon xtw xol xrw xgl xus xpr xmk xab g gx rs ps md th nc mx se 1 hM hW hTx (by omega) (by rw [← hss.2]; exact hseb) (by omega)) my_X11_addForm mv_X11_252 (wr := [(M 17, aI (K 0) 2000 gwo)]) (isC := [0, 1, 3]) (isR := [2]) ⟨rfl, rfl, rfl, rfl, by decide⟩ 11 0 rfl rfl rfl rfl ⟨Nat.le_of_ble_eq_true rfl, Nat.le_of_ble_eq_true rfl⟩ ⟨Nat.le_of_ble_eq_true rfl, Nat.le_of_ble_eq_true rfl⟩ (Nat.le_of_ble_eq_true rfl) hl.1 (cells9 := 0) (slots9 := 0) ⟨rfl, rfl⟩ dX11_convert_274 (fun v u H locs hw_151 G => ?_)
                    obtain ⟨m2_152, gma2_153, rfl, hc_154, hc_155, rfl⟩ := hw_151
                    replace G := G.perm (ws' := [(m0, mO M xth xrm xsv xln xat xer xwr xwd xlo xhi (u.length : Int) (m2_152.length : Int) xkl fi se xdn xon xtw xol xrw xgl xus xpr xmk xab), (M 1, aI (K 0) 1247 g), (M 17, aI (K 0) 2000 gwo), (M 18, aI (K 0) 2000 gma2_153)]) [1, 2, 0, 3] rfl rfl
                    refine W.eq (g2 := F0 m9 277 ls []) rfl ?_
                    exact ad_vreturn F G hR rfl (Nat.le_of_ble_eq_true rfl) (Nat.le_of_ble_eq_true rfl) ⟨m2_152, gma2_153, rfl, (by rw [hc_154, hmx, hA, spw_eq hss.1 hss.2, ← hfr, ← hto, show k = to by omega]; rfl), hc_155, (by rw [hss.1, hss.2])⟩ dX11_convert_277
                  · refine lv_aload_n F.1 F.2.1 dX11_convert_228 rfl (lv_at hl 0 rfl) ?_
                    refine ad_get F G fl_X11_42 0 rfl rfl dX11_convert_229 ?_
                    refine lv_aload_n F.1 F.2.1 dX11_convert_232 rfl (lv_at hl 0 rfl) ?_
                    refine ad_get F G fl_X11_239 0 rfl rfl dX11_convert_233 ?_
                    refine lv_aload_n F.1 F.2.1 dX11_convert_236 rfl (lv_at hl 0 rfl) ?_
                    refine ad_get F G fl_X11_39 0 rfl rfl dX11_convert_237 ?_
                    refine lv_iload F.1 F.2.1 dX11_convert_240 (lv_at hl 5 rfl) ?_
                    refine ad_iald F G 2 rfl (w := lat u k) (by omega) (Tx_at hTu (by omega) (by omega)) dX11_convert_242 ?_
                    refine ad_iast F G 3 rfl (by omega) (ws' := [(m0, mO M xth xrm xsv xln xat xer xwr xwd xlo xhi (u.length : Int) (mx.length : Int) xkl fi se xdn xon xtw xol xrw xgl xus xpr xmk xab), (M 1, aI (K 0) 1247 g), (M 17, aI (K 0) 2000 gwo), (M 18, aI (K 0) 2000 (va_up gx (mx.length : Int).toNat (lat u k)))]) rfl dX11_convert_243 (fun H locs G => ?_)
                    refine lv_aload_n F.1 F.2.1 dX11_convert_244 rfl (lv_at hl 0 rfl) ?_
                    refine lv_dup F.1 F.2.1 dX11_convert_245 rfl ?_
                    refine ad_get F G fl_X11_239 0 rfl rfl dX11_convert_246 ?_
                    refine ad_iconst F dX11_convert_249 ?_
                    refine ad_iadd F dX11_convert_250 ?_
                    refine ad_put F G fl_X11_239 0 rfl rfl rfl (Nat.le_of_ble_eq_true rfl) (ws' := [(m0, mO M xth xrm xsv xln xat xer xwr xwd xlo xhi (u.length : Int) ((mx.length : Int) + 1) xkl fi se xdn xon xtw xol xrw xgl xus xpr xmk xab), (M 1, aI (K 0) 1247 g), (M 17, aI (K 0) 2000 gwo), (M 18, aI (K 0) 2000 (va_up gx (mx.length : Int).toNat (lat u k)))]) rfl dX11_convert_251 (fun H locs G => ?_)
                    have hpl : (((mx ++ [lat u k]).length : Nat) : Int) = (mx.length : Int) + 1 := by simp
                    replace G := G.eq (ws' := [(m0, mO M xth xrm xsv xln xat xer xwr xwd xlo xhi (u.length : Int) ((mx ++ [lat u k]).length : Int) xkl fi se xdn xon xtw xol xrw xgl xus xpr xmk xab), (M 1, aI (K 0) 1247 g), (M 17, aI (K 0) 2000 gwo), (M 18, aI (K 0) 2000 (va_up gx (mx.length : Int).toNat (lat u k)))]) (by rw [hpl])
                    refine ad_iinc (lv' := [(5, .int (iI (k + 1))), (0, .ref m0), (1, .int (iI pl)), (2, .int (iI 0)), (3, .int (iI fr)), (4, .int (iI to))]) F dX11_convert_254 hl (k := 5) rfl (by decide) rfl (fun ls hl => ?_)
                    refine lv_goto (tgt := 221) F.1 F.2.1 dX11_convert_257 (by decide) ?_
                    exact ih221 (k + 1) (va_up gx (mx.length : Int).toNat (lat u k)) (mx ++ [lat u k]) A0 fi se fr to _ _ _ (by omega) hss hA hfr hto (by rw [sl_succ (by omega) (by omega) (by omega), hmx, List.append_assoc]) (Tx_push hTx _) (by omega) (G.perm (ws' := [(m0, mO M xth xrm xsv xln xat xer xwr xwd xlo xhi (u.length : Int) ((mx ++ [lat u k]).length : Int) xkl fi se xdn xon xtw xol xrw xgl xus xpr xmk xab), (M 1, aI (K 0) 1247 g), (M 17, aI (K 0) 2000 gwo), (M 18, aI (K 0) 2000 (va_up gx (mx.length : Int).toNat (lat u k)))]) [0, 1, 2, 3] rfl rfl) (lv_sub hl [1, 2, 3, 4, 5, 0] rfl)
              exact lp221 ((((((u.length : Int) - 0) - ((fmo (rget rs (bR rs u pl 1 0)) 0).length : Int) : Int)) + 1).toNat) ((fmo (rget rs (bR rs u pl 1 0)) 0).length : Int) gma2_146 m2_145 m2_145 (bR rs u pl 1 0) (bR rs u pl 2 0) ((fmo (rget rs (bR rs u pl 1 0)) 0).length : Int) ((u.length : Int) - 0) _ _ _ (by omega) hss (by rw [hc_147, List.nil_append]) hfr hto (by rw [sl_self, List.append_nil]) hc_148 (by omega) (G.perm (ws' := [(m0, mO M xth xrm xsv xln xat xer xwr xwd xlo xhi (u.length : Int) (m2_145.length : Int) xkl (bR rs u pl 1 0) (bR rs u pl 2 0) xdn xon xtw xol xrw xgl xus xpr xmk xab), (M 1, aI (K 0) 1247 g), (M 17, aI (K 0) 2000 gwo), (M 18, aI (K 0) 2000 gma2_146)]) [0, 1, 2, 3] rfl rfl) (lv_sub hl [3, 4, 5, 2, 1, 0] rfl)
          · refine ad_iconst F dX11_convert_160 ?_
            refine lv_goto (tgt := 173) F.1 F.2.1 dX11_convert_161 (by decide) ?_
            refine lv_istore_n (lv' := [(3, .int (iI 0)), (0, .ref m0), (1, .int (iI pl)), (2, .int (iI 0))]) F.1 F.2.1 dX11_convert_173 rfl hl (by decide) rfl (fun ls hl => ?_)
            refine lv_aload_n F.1 F.2.1 dX11_convert_174 rfl (lv_at hl 1 rfl) ?_
            refine ad_get F G fl_X11_233 0 rfl rfl dX11_convert_175 ?_
            refine lv_aload_n F.1 F.2.1 dX11_convert_178 rfl (lv_at hl 1 rfl) ?_
            refine ad_get F G fl_X11_242 0 rfl rfl dX11_convert_179 ?_
            refine ad_if_ge (tgt := 189) F (by omega) dX11_convert_182 (by decide) (fun cc_156 => ?_) (fun cc_156 => ?_)
            · refine lv_aload_n F.1 F.2.1 dX11_convert_189 rfl (lv_at hl 1 rfl) ?_
              refine lv_aload_n F.1 F.2.1 dX11_convert_190 rfl (lv_at hl 1 rfl) ?_
              refine ad_get F G fl_X11_242 0 rfl rfl dX11_convert_191 ?_
              refine lv_iload_n F.1 F.2.1 dX11_convert_194 rfl (lv_at hl 3 rfl) ?_
              refine ad_callV (As := [.int (iI (bR rs u pl 2 0)), .int (iI 0)]) (rest := [.int (iI (u.length : Int))]) F G (c_X11_lengthOf l D K z0 m0 M xth xrm xsv xln xat xer xwr xwd xlo xhi (u.length : Int) (([] : List Int).length : Int) xkl (bR rs u pl 1 0) (bR rs u pl 2 0) xdn xon xtw xol xrw xgl xus xpr xmk xab g rs ps md th nc (bR rs u pl 2 0) 0 hM hW (by omega) (by omega)) my_X11_lengthOf mv_X11_185 (wr := [(M 17, aI (K 0) 2000 gwo), (M 18, aI (K 0) 2000 gma)]) (isC := [0, 1]) (isR := [2, 3]) ⟨rfl, rfl, rfl, rfl, by decide⟩ 11 0 rfl rfl rfl rfl ⟨Nat.le_of_ble_eq_true rfl, Nat.le_of_ble_eq_true rfl⟩ ⟨Nat.le_of_ble_eq_true rfl, Nat.le_of_ble_eq_true rfl⟩ (Nat.le_of_ble_eq_true rfl) hl.1 (cells9 := 0) (slots9 := 0) ⟨rfl, rfl⟩ dX11_convert_195 (fun v u H locs hw_157 G => ?_)
              obtain ⟨rfl, rfl⟩ := hw_157
              replace G := G.perm (ws' := [(m0, mO M xth xrm xsv xln xat xer xwr xwd xlo xhi (u.length : Int) (([] : List Int).length : Int) xkl (bR rs u pl 1 0) (bR rs u pl 2 0) xdn xon xtw xol xrw xgl xus xpr xmk xab), (M 1, aI (K 0) 1247 g), (M 17, aI (K 0) 2000 gwo), (M 18, aI (K 0) 2000 gma)]) [2, 3, 0, 1] rfl rfl
              refine W.eq (g2 := F0 m9 198 ls [.int (iI ((fmo (rget rs (bR rs u pl 2 0)) 0).length : Int)), .int (iI (u.length : Int))]) rfl ?_
              refine ad_isub F dX11_convert_198 ?_
              refine lv_istore (lv' := [(4, .int (iI ((u.length : Int) - ((fmo (rget rs (bR rs u pl 2 0)) 0).length : Int)))), (3, .int (iI 0)), (0, .ref m0), (1, .int (iI pl)), (2, .int (iI 0))]) F.1 F.2.1 dX11_convert_199 hl (by decide) rfl (fun ls hl => ?_)
              refine lv_aload_n F.1 F.2.1 dX11_convert_201 rfl (lv_at hl 2 rfl) ?_
              refine lv_aload_n F.1 F.2.1 dX11_convert_202 rfl (lv_at hl 2 rfl) ?_
              refine ad_get F G fl_X11_249 0 rfl rfl dX11_convert_203 ?_
              refine lv_iload_n F.1 F.2.1 dX11_convert_206 rfl (lv_at hl 4 rfl) ?_
              refine ad_if_ne (tgt := 214) F (by decide) dX11_convert_207 (by decide) (fun cc_158 => absurd cc_158 (by decide)) (fun _ => ?_)
              refine ad_iconst F dX11_convert_210 ?_
              refine lv_goto (tgt := 215) F.1 F.2.1 dX11_convert_211 (by decide) ?_
              refine ad_callV (As := [.int (iI (bR rs u pl 1 0)), .int (iI 1)]) (rest := []) F G (c_X11_addForm l D K z0 m0 M xth xrm xsv xln xat xer xwr xwd xlo xhi (u.length : Int) xkl (bR rs u pl 1 0) (bR rs u pl 2 0) xdn xon xtw xol xrw xgl xus xpr xmk xab g gma rs ps md th nc ([] : List Int) (bR rs u pl 1 0) 1 hM hW Tx_nil (by simp) (by omega) (by omega)) my_X11_addForm mv_X11_252 (wr := [(M 17, aI (K 0) 2000 gwo)]) (isC := [0, 1, 3]) (isR := [2]) ⟨rfl, rfl, rfl, rfl, by decide⟩ 11 0 rfl rfl rfl rfl ⟨Nat.le_of_ble_eq_true rfl, Nat.le_of_ble_eq_true rfl⟩ ⟨Nat.le_of_ble_eq_true rfl, Nat.le_of_ble_eq_true rfl⟩ (Nat.le_of_ble_eq_true rfl) hl.1 (cells9 := 0) (slots9 := 0) ⟨rfl, rfl⟩ dX11_convert_215 (fun v u H locs hw_159 G => ?_)
              obtain ⟨m2_160, gma2_161, rfl, hc_162, hc_163, rfl⟩ := hw_159
              replace G := G.perm (ws' := [(m0, mO M xth xrm xsv xln xat xer xwr xwd xlo xhi (u.length : Int) (m2_160.length : Int) xkl (bR rs u pl 1 0) (bR rs u pl 2 0) xdn xon xtw xol xrw xgl xus xpr xmk xab), (M 1, aI (K 0) 1247 g), (M 17, aI (K 0) 2000 gwo), (M 18, aI (K 0) 2000 gma2_161)]) [1, 2, 0, 3] rfl rfl
              refine W.eq (g2 := F0 m9 218 ls []) rfl ?_
              refine lv_iload_n F.1 F.2.1 dX11_convert_218 rfl (lv_at hl 1 rfl) ?_
              refine lv_istore (lv' := [(5, .int (iI 0)), (4, .int (iI ((u.length : Int) - ((fmo (rget rs (bR rs u pl 2 0)) 0).length : Int)))), (3, .int (iI 0)), (0, .ref m0), (1, .int (iI pl)), (2, .int (iI 0))]) F.1 F.2.1 dX11_convert_219 hl (by decide) rfl (fun ls hl => ?_)
              have hfr : 0 = ((fmo (rget rs (bR rs u pl 1 0)) 0).length : Int) := by first | rfl | (rw [show (bR rs u pl 1 0) = -1 by omega, fmo_m1]; rfl)
              have hto : (u.length : Int) - ((fmo (rget rs (bR rs u pl 2 0)) 0).length : Int) = (u.length : Int) - ((fmo (rget rs (bR rs u pl 2 0)) 0).length : Int) := by first | rfl | (rw [show (bR rs u pl 2 0) = -1 by omega, fmo_m1]; rfl)
              have hsl := spl_le rs u pl 0
              rw [hss.1, hss.2] at hsl
              have lp221 : ∀ (n221 : Nat) (k : Int) (gx : Nat → Int) (mx : List Int) (A0 : List Int) (fi : Int) (se : Int) (fr : Int) (to : Int) (H : Heap) (locs : List Loc) (ls : Array Slot), (0 ≤ fr ∧ fr ≤ k ∧ k ≤ to ∧ to ≤ u.length) → (spm rs u pl 0 = fi ∧ spe rs u pl 0 = se) → (A0 = (fmo (rget rs fi) 1)) → (fr = ((fmo (rget rs fi) 0).length : Int)) → (to = (u.length : Int) - ((fmo (rget rs se) 0).length : Int)) → (mx = A0 ++ sl u fr k) → (Tx gx mx) → (to - k) < (n221 : Int) → ad_G D A9 s9.heap H locs [(m0, mO M xth xrm xsv xln xat xer xwr xwd xlo xhi (u.length : Int) (mx.length : Int) xkl fi se xdn xon xtw xol xrw xgl xus xpr xmk xab), (M 1, aI (K 0) 1247 g), (M 17, aI (K 0) 2000 gwo), (M 18, aI (K 0) 2000 gx)] → lv_has ls 6 [(0, .ref m0), (1, .int (iI pl)), (2, .int (iI 0)), (3, .int (iI fr)), (4, .int (iI to)), (5, .int (iI k))] → W p9 l e9 rm_X11_convert_0 s9 m9 ag9 bl9 mt9 c9 H locs 0 0 Q9 (F0 m9 221 ls []) := by
                intro n221
                induction n221 with
                | zero =>
                  intro k gx mx A0 fi se fr to H locs ls hk hss hA hfr hto hmx hTx hm221
                  exact absurd hm221 (by omega)
                | succ n221 ih221 =>
                  intro k gx mx A0 fi se fr to H locs ls hk hss hA hfr hto hmx hTx hm221 G hl
                  have hA12 := fmo_len hW fi 1
                  have hmxl : (mx.length : Int) = A0.length + (k - fr) := by rw [hmx, List.length_append, Int.natCast_add, sl_len (by omega) (by omega) (by omega)]
                  have hAl : A0.length ≤ 12 := by rw [hA]; exact hA12
                  have hseb := spe_b rs u pl 0
                  refine lv_iload F.1 F.2.1 dX11_convert_221 (lv_at hl 5 rfl) ?_
                  refine lv_iload F.1 F.2.1 dX11_convert_223 (lv_at hl 4 rfl) ?_
                  refine ad_icmp_ge (tgt := 260) F (by omega) dX11_convert_225 (by decide) (fun cc_164 => ?_) (fun cc_164 => ?_)
                  · refine lv_aload_n F.1 F.2.1 dX11_convert_260 rfl (lv_at hl 0 rfl) ?_
                    refine lv_aload_n F.1 F.2.1 dX11_convert_261 rfl (lv_at hl 0 rfl) ?_
                    refine ad_get F G fl_X11_242 0 rfl rfl dX11_convert_262 ?_
                    refine lv_iload_n F.1 F.2.1 dX11_convert_265 rfl (lv_at hl 2 rfl) ?_
                    refine ad_if_ne (tgt := 273) F (by decide) dX11_convert_266 (by decide) (fun cc_165 => absurd cc_165 (by decide)) (fun _ => ?_)
                    refine ad_iconst F dX11_convert_269 ?_
                    refine lv_goto (tgt := 274) F.1 F.2.1 dX11_convert_270 (by decide) ?_
                    refine ad_callV (As := [.int (iI se), .int (iI 1)]) (rest := []) F G (c_X11_addForm l D K z0 m0 M xth xrm xsv xln xat xer xwr xwd xlo xhi (u.length : Int) xkl fi se xdn xon xtw xol xrw xgl xus xpr xmk xab g gx rs ps md th nc mx se 1 hM hW hTx (by omega) (by rw [← hss.2]; exact hseb) (by omega)) my_X11_addForm mv_X11_252 (wr := [(M 17, aI (K 0) 2000 gwo)]) (isC := [0, 1, 3]) (isR := [2]) ⟨rfl, rfl, rfl, rfl, by decide⟩ 11 0 rfl rfl rfl rfl ⟨Nat.le_of_ble_eq_true rfl, Nat.le_of_ble_eq_true rfl⟩ ⟨Nat.le_of_ble_eq_true rfl, Nat.le_of_ble_eq_true rfl⟩ (Nat.le_of_ble_eq_true rfl) hl.1 (cells9 := 0) (slots9 := 0) ⟨rfl, rfl⟩ dX11_convert_274 (fun v u H locs hw_166 G => ?_)
                    obtain ⟨m2_167, gma2_168, rfl, hc_169, hc_170, rfl⟩ := hw_166
                    replace G := G.perm (ws' := [(m0, mO M xth xrm xsv xln xat xer xwr xwd xlo xhi (u.length : Int) (m2_167.length : Int) xkl fi se xdn xon xtw xol xrw xgl xus xpr xmk xab), (M 1, aI (K 0) 1247 g), (M 17, aI (K 0) 2000 gwo), (M 18, aI (K 0) 2000 gma2_168)]) [1, 2, 0, 3] rfl rfl
                    refine W.eq (g2 := F0 m9 277 ls []) rfl ?_
                    exact ad_vreturn F G hR rfl (Nat.le_of_ble_eq_true rfl) (Nat.le_of_ble_eq_true rfl) ⟨m2_167, gma2_168, rfl, (by rw [hc_169, hmx, hA, spw_eq hss.1 hss.2, ← hfr, ← hto, show k = to by omega]; rfl), hc_170, (by rw [hss.1, hss.2])⟩ dX11_convert_277
                  · refine lv_aload_n F.1 F.2.1 dX11_convert_228 rfl (lv_at hl 0 rfl) ?_
                    refine ad_get F G fl_X11_42 0 rfl rfl dX11_convert_229 ?_
                    refine lv_aload_n F.1 F.2.1 dX11_convert_232 rfl (lv_at hl 0 rfl) ?_
                    refine ad_get F G fl_X11_239 0 rfl rfl dX11_convert_233 ?_
                    refine lv_aload_n F.1 F.2.1 dX11_convert_236 rfl (lv_at hl 0 rfl) ?_
                    refine ad_get F G fl_X11_39 0 rfl rfl dX11_convert_237 ?_
                    refine lv_iload F.1 F.2.1 dX11_convert_240 (lv_at hl 5 rfl) ?_
                    refine ad_iald F G 2 rfl (w := lat u k) (by omega) (Tx_at hTu (by omega) (by omega)) dX11_convert_242 ?_
                    refine ad_iast F G 3 rfl (by omega) (ws' := [(m0, mO M xth xrm xsv xln xat xer xwr xwd xlo xhi (u.length : Int) (mx.length : Int) xkl fi se xdn xon xtw xol xrw xgl xus xpr xmk xab), (M 1, aI (K 0) 1247 g), (M 17, aI (K 0) 2000 gwo), (M 18, aI (K 0) 2000 (va_up gx (mx.length : Int).toNat (lat u k)))]) rfl dX11_convert_243 (fun H locs G => ?_)
                    refine lv_aload_n F.1 F.2.1 dX11_convert_244 rfl (lv_at hl 0 rfl) ?_
                    refine lv_dup F.1 F.2.1 dX11_convert_245 rfl ?_
                    refine ad_get F G fl_X11_239 0 rfl rfl dX11_convert_246 ?_
                    refine ad_iconst F dX11_convert_249 ?_
                    refine ad_iadd F dX11_convert_250 ?_
                    refine ad_put F G fl_X11_239 0 rfl rfl rfl (Nat.le_of_ble_eq_true rfl) (ws' := [(m0, mO M xth xrm xsv xln xat xer xwr xwd xlo xhi (u.length : Int) ((mx.length : Int) + 1) xkl fi se xdn xon xtw xol xrw xgl xus xpr xmk xab), (M 1, aI (K 0) 1247 g), (M 17, aI (K 0) 2000 gwo), (M 18, aI (K 0) 2000 (va_up gx (mx.length : Int).toNat (lat u k)))]) rfl dX11_convert_251 (fun H locs G => ?_)
                    have hpl : (((mx ++ [lat u k]).length : Nat) : Int) = (mx.length : Int) + 1 := by simp
                    replace G := G.eq (ws' := [(m0, mO M xth xrm xsv xln xat xer xwr xwd xlo xhi (u.length : Int) ((mx ++ [lat u k]).length : Int) xkl fi se xdn xon xtw xol xrw xgl xus xpr xmk xab), (M 1, aI (K 0) 1247 g), (M 17, aI (K 0) 2000 gwo), (M 18, aI (K 0) 2000 (va_up gx (mx.length : Int).toNat (lat u k)))]) (by rw [hpl])
                    refine ad_iinc (lv' := [(5, .int (iI (k + 1))), (0, .ref m0), (1, .int (iI pl)), (2, .int (iI 0)), (3, .int (iI fr)), (4, .int (iI to))]) F dX11_convert_254 hl (k := 5) rfl (by decide) rfl (fun ls hl => ?_)
                    refine lv_goto (tgt := 221) F.1 F.2.1 dX11_convert_257 (by decide) ?_
                    exact ih221 (k + 1) (va_up gx (mx.length : Int).toNat (lat u k)) (mx ++ [lat u k]) A0 fi se fr to _ _ _ (by omega) hss hA hfr hto (by rw [sl_succ (by omega) (by omega) (by omega), hmx, List.append_assoc]) (Tx_push hTx _) (by omega) (G.perm (ws' := [(m0, mO M xth xrm xsv xln xat xer xwr xwd xlo xhi (u.length : Int) ((mx ++ [lat u k]).length : Int) xkl fi se xdn xon xtw xol xrw xgl xus xpr xmk xab), (M 1, aI (K 0) 1247 g), (M 17, aI (K 0) 2000 gwo), (M 18, aI (K 0) 2000 (va_up gx (mx.length : Int).toNat (lat u k)))]) [0, 1, 2, 3] rfl rfl) (lv_sub hl [1, 2, 3, 4, 5, 0] rfl)
              exact lp221 ((((((u.length : Int) - ((fmo (rget rs (bR rs u pl 2 0)) 0).length : Int)) - 0 : Int)) + 1).toNat) 0 gma2_161 m2_160 m2_160 (bR rs u pl 1 0) (bR rs u pl 2 0) 0 ((u.length : Int) - ((fmo (rget rs (bR rs u pl 2 0)) 0).length : Int)) _ _ _ (by omega) hss (by rw [hc_162, List.nil_append]) hfr hto (by rw [sl_self, List.append_nil]) hc_163 (by omega) (G.perm (ws' := [(m0, mO M xth xrm xsv xln xat xer xwr xwd xlo xhi (u.length : Int) (m2_160.length : Int) xkl (bR rs u pl 1 0) (bR rs u pl 2 0) xdn xon xtw xol xrw xgl xus xpr xmk xab), (M 1, aI (K 0) 1247 g), (M 17, aI (K 0) 2000 gwo), (M 18, aI (K 0) 2000 gma2_161)]) [0, 1, 2, 3] rfl rfl) (lv_sub hl [3, 4, 5, 2, 1, 0] rfl)
            · refine ad_iconst F dX11_convert_185 ?_
              refine lv_goto (tgt := 198) F.1 F.2.1 dX11_convert_186 (by decide) ?_
              refine ad_isub F dX11_convert_198 ?_
              refine lv_istore (lv' := [(4, .int (iI ((u.length : Int) - 0))), (3, .int (iI 0)), (0, .ref m0), (1, .int (iI pl)), (2, .int (iI 0))]) F.1 F.2.1 dX11_convert_199 hl (by decide) rfl (fun ls hl => ?_)
              refine lv_aload_n F.1 F.2.1 dX11_convert_201 rfl (lv_at hl 2 rfl) ?_
              refine lv_aload_n F.1 F.2.1 dX11_convert_202 rfl (lv_at hl 2 rfl) ?_
              refine ad_get F G fl_X11_249 0 rfl rfl dX11_convert_203 ?_
              refine lv_iload_n F.1 F.2.1 dX11_convert_206 rfl (lv_at hl 4 rfl) ?_
              refine ad_if_ne (tgt := 214) F (by decide) dX11_convert_207 (by decide) (fun cc_171 => absurd cc_171 (by decide)) (fun _ => ?_)
              refine ad_iconst F dX11_convert_210 ?_
              refine lv_goto (tgt := 215) F.1 F.2.1 dX11_convert_211 (by decide) ?_
              refine ad_callV (As := [.int (iI (bR rs u pl 1 0)), .int (iI 1)]) (rest := []) F G (c_X11_addForm l D K z0 m0 M xth xrm xsv xln xat xer xwr xwd xlo xhi (u.length : Int) xkl (bR rs u pl 1 0) (bR rs u pl 2 0) xdn xon xtw xol xrw xgl xus xpr xmk xab g gma rs ps md th nc ([] : List Int) (bR rs u pl 1 0) 1 hM hW Tx_nil (by simp) (by omega) (by omega)) my_X11_addForm mv_X11_252 (wr := [(M 17, aI (K 0) 2000 gwo)]) (isC := [0, 1, 3]) (isR := [2]) ⟨rfl, rfl, rfl, rfl, by decide⟩ 11 0 rfl rfl rfl rfl ⟨Nat.le_of_ble_eq_true rfl, Nat.le_of_ble_eq_true rfl⟩ ⟨Nat.le_of_ble_eq_true rfl, Nat.le_of_ble_eq_true rfl⟩ (Nat.le_of_ble_eq_true rfl) hl.1 (cells9 := 0) (slots9 := 0) ⟨rfl, rfl⟩ dX11_convert_215 (fun v u H locs hw_172 G => ?_)
              obtain ⟨m2_173, gma2_174, rfl, hc_175, hc_176, rfl⟩ := hw_172
              replace G := G.perm (ws' := [(m0, mO M xth xrm xsv xln xat xer xwr xwd xlo xhi (u.length : Int) (m2_173.length : Int) xkl (bR rs u pl 1 0) (bR rs u pl 2 0) xdn xon xtw xol xrw xgl xus xpr xmk xab), (M 1, aI (K 0) 1247 g), (M 17, aI (K 0) 2000 gwo), (M 18, aI (K 0) 2000 gma2_174)]) [1, 2, 0, 3] rfl rfl
              refine W.eq (g2 := F0 m9 218 ls []) rfl ?_
              refine lv_iload_n F.1 F.2.1 dX11_convert_218 rfl (lv_at hl 1 rfl) ?_
              refine lv_istore (lv' := [(5, .int (iI 0)), (4, .int (iI ((u.length : Int) - 0))), (3, .int (iI 0)), (0, .ref m0), (1, .int (iI pl)), (2, .int (iI 0))]) F.1 F.2.1 dX11_convert_219 hl (by decide) rfl (fun ls hl => ?_)
              have hfr : 0 = ((fmo (rget rs (bR rs u pl 1 0)) 0).length : Int) := by first | rfl | (rw [show (bR rs u pl 1 0) = -1 by omega, fmo_m1]; rfl)
              have hto : (u.length : Int) - 0 = (u.length : Int) - ((fmo (rget rs (bR rs u pl 2 0)) 0).length : Int) := by first | rfl | (rw [show (bR rs u pl 2 0) = -1 by omega, fmo_m1]; rfl)
              have hsl := spl_le rs u pl 0
              rw [hss.1, hss.2] at hsl
              have lp221 : ∀ (n221 : Nat) (k : Int) (gx : Nat → Int) (mx : List Int) (A0 : List Int) (fi : Int) (se : Int) (fr : Int) (to : Int) (H : Heap) (locs : List Loc) (ls : Array Slot), (0 ≤ fr ∧ fr ≤ k ∧ k ≤ to ∧ to ≤ u.length) → (spm rs u pl 0 = fi ∧ spe rs u pl 0 = se) → (A0 = (fmo (rget rs fi) 1)) → (fr = ((fmo (rget rs fi) 0).length : Int)) → (to = (u.length : Int) - ((fmo (rget rs se) 0).length : Int)) → (mx = A0 ++ sl u fr k) → (Tx gx mx) → (to - k) < (n221 : Int) → ad_G D A9 s9.heap H locs [(m0, mO M xth xrm xsv xln xat xer xwr xwd xlo xhi (u.length : Int) (mx.length : Int) xkl fi se xdn xon xtw xol xrw xgl xus xpr xmk xab), (M 1, aI (K 0) 1247 g), (M 17, aI (K 0) 2000 gwo), (M 18, aI (K 0) 2000 gx)] → lv_has ls 6 [(0, .ref m0), (1, .int (iI pl)), (2, .int (iI 0)), (3, .int (iI fr)), (4, .int (iI to)), (5, .int (iI k))] → W p9 l e9 rm_X11_convert_0 s9 m9 ag9 bl9 mt9 c9 H locs 0 0 Q9 (F0 m9 221 ls []) := by
                intro n221
                induction n221 with
                | zero =>
                  intro k gx mx A0 fi se fr to H locs ls hk hss hA hfr hto hmx hTx hm221
                  exact absurd hm221 (by omega)
                | succ n221 ih221 =>
                  intro k gx mx A0 fi se fr to H locs ls hk hss hA hfr hto hmx hTx hm221 G hl
                  have hA12 := fmo_len hW fi 1
                  have hmxl : (mx.length : Int) = A0.length + (k - fr) := by rw [hmx, List.length_append, Int.natCast_add, sl_len (by omega) (by omega) (by omega)]
                  have hAl : A0.length ≤ 12 := by rw [hA]; exact hA12
                  have hseb := spe_b rs u pl 0
                  refine lv_iload F.1 F.2.1 dX11_convert_221 (lv_at hl 5 rfl) ?_
                  refine lv_iload F.1 F.2.1 dX11_convert_223 (lv_at hl 4 rfl) ?_
                  refine ad_icmp_ge (tgt := 260) F (by omega) dX11_convert_225 (by decide) (fun cc_177 => ?_) (fun cc_177 => ?_)
                  · refine lv_aload_n F.1 F.2.1 dX11_convert_260 rfl (lv_at hl 0 rfl) ?_
                    refine lv_aload_n F.1 F.2.1 dX11_convert_261 rfl (lv_at hl 0 rfl) ?_
                    refine ad_get F G fl_X11_242 0 rfl rfl dX11_convert_262 ?_
                    refine lv_iload_n F.1 F.2.1 dX11_convert_265 rfl (lv_at hl 2 rfl) ?_
                    refine ad_if_ne (tgt := 273) F (by decide) dX11_convert_266 (by decide) (fun cc_178 => absurd cc_178 (by decide)) (fun _ => ?_)
                    refine ad_iconst F dX11_convert_269 ?_
                    refine lv_goto (tgt := 274) F.1 F.2.1 dX11_convert_270 (by decide) ?_
                    refine ad_callV (As := [.int (iI se), .int (iI 1)]) (rest := []) F G (c_X11_addForm l D K z0 m0 M xth xrm xsv xln xat xer xwr xwd xlo xhi (u.length : Int) xkl fi se xdn xon xtw xol xrw xgl xus xpr xmk xab g gx rs ps md th nc mx se 1 hM hW hTx (by omega) (by rw [← hss.2]; exact hseb) (by omega)) my_X11_addForm mv_X11_252 (wr := [(M 17, aI (K 0) 2000 gwo)]) (isC := [0, 1, 3]) (isR := [2]) ⟨rfl, rfl, rfl, rfl, by decide⟩ 11 0 rfl rfl rfl rfl ⟨Nat.le_of_ble_eq_true rfl, Nat.le_of_ble_eq_true rfl⟩ ⟨Nat.le_of_ble_eq_true rfl, Nat.le_of_ble_eq_true rfl⟩ (Nat.le_of_ble_eq_true rfl) hl.1 (cells9 := 0) (slots9 := 0) ⟨rfl, rfl⟩ dX11_convert_274 (fun v u H locs hw_179 G => ?_)
                    obtain ⟨m2_180, gma2_181, rfl, hc_182, hc_183, rfl⟩ := hw_179
                    replace G := G.perm (ws' := [(m0, mO M xth xrm xsv xln xat xer xwr xwd xlo xhi (u.length : Int) (m2_180.length : Int) xkl fi se xdn xon xtw xol xrw xgl xus xpr xmk xab), (M 1, aI (K 0) 1247 g), (M 17, aI (K 0) 2000 gwo), (M 18, aI (K 0) 2000 gma2_181)]) [1, 2, 0, 3] rfl rfl
                    refine W.eq (g2 := F0 m9 277 ls []) rfl ?_
                    exact ad_vreturn F G hR rfl (Nat.le_of_ble_eq_true rfl) (Nat.le_of_ble_eq_true rfl) ⟨m2_180, gma2_181, rfl, (by rw [hc_182, hmx, hA, spw_eq hss.1 hss.2, ← hfr, ← hto, show k = to by omega]; rfl), hc_183, (by rw [hss.1, hss.2])⟩ dX11_convert_277
                  · refine lv_aload_n F.1 F.2.1 dX11_convert_228 rfl (lv_at hl 0 rfl) ?_
                    refine ad_get F G fl_X11_42 0 rfl rfl dX11_convert_229 ?_
                    refine lv_aload_n F.1 F.2.1 dX11_convert_232 rfl (lv_at hl 0 rfl) ?_
                    refine ad_get F G fl_X11_239 0 rfl rfl dX11_convert_233 ?_
                    refine lv_aload_n F.1 F.2.1 dX11_convert_236 rfl (lv_at hl 0 rfl) ?_
                    refine ad_get F G fl_X11_39 0 rfl rfl dX11_convert_237 ?_
                    refine lv_iload F.1 F.2.1 dX11_convert_240 (lv_at hl 5 rfl) ?_
                    refine ad_iald F G 2 rfl (w := lat u k) (by omega) (Tx_at hTu (by omega) (by omega)) dX11_convert_242 ?_
                    refine ad_iast F G 3 rfl (by omega) (ws' := [(m0, mO M xth xrm xsv xln xat xer xwr xwd xlo xhi (u.length : Int) (mx.length : Int) xkl fi se xdn xon xtw xol xrw xgl xus xpr xmk xab), (M 1, aI (K 0) 1247 g), (M 17, aI (K 0) 2000 gwo), (M 18, aI (K 0) 2000 (va_up gx (mx.length : Int).toNat (lat u k)))]) rfl dX11_convert_243 (fun H locs G => ?_)
                    refine lv_aload_n F.1 F.2.1 dX11_convert_244 rfl (lv_at hl 0 rfl) ?_
                    refine lv_dup F.1 F.2.1 dX11_convert_245 rfl ?_
                    refine ad_get F G fl_X11_239 0 rfl rfl dX11_convert_246 ?_
                    refine ad_iconst F dX11_convert_249 ?_
                    refine ad_iadd F dX11_convert_250 ?_
                    refine ad_put F G fl_X11_239 0 rfl rfl rfl (Nat.le_of_ble_eq_true rfl) (ws' := [(m0, mO M xth xrm xsv xln xat xer xwr xwd xlo xhi (u.length : Int) ((mx.length : Int) + 1) xkl fi se xdn xon xtw xol xrw xgl xus xpr xmk xab), (M 1, aI (K 0) 1247 g), (M 17, aI (K 0) 2000 gwo), (M 18, aI (K 0) 2000 (va_up gx (mx.length : Int).toNat (lat u k)))]) rfl dX11_convert_251 (fun H locs G => ?_)
                    have hpl : (((mx ++ [lat u k]).length : Nat) : Int) = (mx.length : Int) + 1 := by simp
                    replace G := G.eq (ws' := [(m0, mO M xth xrm xsv xln xat xer xwr xwd xlo xhi (u.length : Int) ((mx ++ [lat u k]).length : Int) xkl fi se xdn xon xtw xol xrw xgl xus xpr xmk xab), (M 1, aI (K 0) 1247 g), (M 17, aI (K 0) 2000 gwo), (M 18, aI (K 0) 2000 (va_up gx (mx.length : Int).toNat (lat u k)))]) (by rw [hpl])
                    refine ad_iinc (lv' := [(5, .int (iI (k + 1))), (0, .ref m0), (1, .int (iI pl)), (2, .int (iI 0)), (3, .int (iI fr)), (4, .int (iI to))]) F dX11_convert_254 hl (k := 5) rfl (by decide) rfl (fun ls hl => ?_)
                    refine lv_goto (tgt := 221) F.1 F.2.1 dX11_convert_257 (by decide) ?_
                    exact ih221 (k + 1) (va_up gx (mx.length : Int).toNat (lat u k)) (mx ++ [lat u k]) A0 fi se fr to _ _ _ (by omega) hss hA hfr hto (by rw [sl_succ (by omega) (by omega) (by omega), hmx, List.append_assoc]) (Tx_push hTx _) (by omega) (G.perm (ws' := [(m0, mO M xth xrm xsv xln xat xer xwr xwd xlo xhi (u.length : Int) ((mx ++ [lat u k]).length : Int) xkl fi se xdn xon xtw xol xrw xgl xus xpr xmk xab), (M 1, aI (K 0) 1247 g), (M 17, aI (K 0) 2000 gwo), (M 18, aI (K 0) 2000 (va_up gx (mx.length : Int).toNat (lat u k)))]) [0, 1, 2, 3] rfl rfl) (lv_sub hl [1, 2, 3, 4, 5, 0] rfl)
              exact lp221 ((((((u.length : Int) - 0) - 0 : Int)) + 1).toNat) 0 gma2_174 m2_173 m2_173 (bR rs u pl 1 0) (bR rs u pl 2 0) 0 ((u.length : Int) - 0) _ _ _ (by omega) hss (by rw [hc_175, List.nil_append]) hfr hto (by rw [sl_self, List.append_nil]) hc_176 (by omega) (G.perm (ws' := [(m0, mO M xth xrm xsv xln xat xer xwr xwd xlo xhi (u.length : Int) (m2_173.length : Int) xkl (bR rs u pl 1 0) (bR rs u pl 2 0) xdn xon xtw xol xrw xgl xus xpr xmk xab), (M 1, aI (K 0) 1247 g), (M 17, aI (K 0) 2000 gwo), (M 18, aI (K 0) 2000 gma2_174)]) [0, 1, 2, 3] rfl rfl) (lv_sub hl [3, 4, 5, 2, 1, 0] rfl)
        · refine lv_aload_n F.1 F.2.1 dX11_convert_108 rfl (lv_at hl 0 rfl) ?_
          refine lv_aload_n F.1 F.2.1 dX11_convert_109 rfl (lv_at hl 0 rfl) ?_
          refine ad_get F G fl_X11_249 0 rfl rfl dX11_convert_110 ?_
          refine lv_aload_n F.1 F.2.1 dX11_convert_113 rfl (lv_at hl 0 rfl) ?_
          refine ad_get F G fl_X11_242 0 rfl rfl dX11_convert_114 ?_
          refine ad_callV (As := [.int (iI (bR rs u pl 1 0)), .int (iI (bR rs u pl 2 0))]) (rest := []) F G (c_X11_isBetter l D K z0 m0 M xth xrm xsv xln xat xer xwr xwd xlo xhi (u.length : Int) (([] : List Int).length : Int) xkl (bR rs u pl 1 0) (bR rs u pl 2 0) xdn xon xtw xol xrw xgl xus xpr xmk xab g rs ps md th nc (bR rs u pl 1 0) (bR rs u pl 2 0) hM hW (by omega) (by omega)) my_X11_isBetter mv_X11_178 (wr := [(M 17, aI (K 0) 2000 gwo), (M 18, aI (K 0) 2000 gma)]) (isC := [0, 1]) (isR := [2, 3]) ⟨rfl, rfl, rfl, rfl, by decide⟩ 11 0 rfl rfl rfl rfl ⟨Nat.le_of_ble_eq_true rfl, Nat.le_of_ble_eq_true rfl⟩ ⟨Nat.le_of_ble_eq_true rfl, Nat.le_of_ble_eq_true rfl⟩ (Nat.le_of_ble_eq_true rfl) hl.1 (cells9 := 0) (slots9 := 0) ⟨rfl, rfl⟩ dX11_convert_117 (fun v u H locs hw_184 G => ?_)
          rcases hw_184 with ⟨rfl, hc_185, rfl⟩ | ⟨rfl, hc_186, rfl⟩
          · replace G := G.perm (ws' := [(m0, mO M xth xrm xsv xln xat xer xwr xwd xlo xhi (u.length : Int) (([] : List Int).length : Int) xkl (bR rs u pl 1 0) (bR rs u pl 2 0) xdn xon xtw xol xrw xgl xus xpr xmk xab), (M 1, aI (K 0) 1247 g), (M 17, aI (K 0) 2000 gwo), (M 18, aI (K 0) 2000 gma)]) [2, 3, 0, 1] rfl rfl
            refine W.eq (g2 := F0 m9 120 ls [.int (iI 1)]) rfl ?_
            refine lv_istore_n (lv' := [(3, .int (iI 1)), (0, .ref m0), (1, .int (iI pl)), (2, .int (iI 0))]) F.1 F.2.1 dX11_convert_120 rfl hl (by decide) rfl (fun ls hl => ?_)
            refine lv_aload_n F.1 F.2.1 dX11_convert_121 rfl (lv_at hl 1 rfl) ?_
            refine lv_iload_n F.1 F.2.1 dX11_convert_122 rfl (lv_at hl 0 rfl) ?_
            refine ad_if_eq (tgt := 133) F (by decide) dX11_convert_123 (by decide) (fun cc_187 => absurd cc_187 (by decide)) (fun _ => ?_)
            refine lv_aload_n F.1 F.2.1 dX11_convert_126 rfl (lv_at hl 1 rfl) ?_
            refine ad_get F G fl_X11_249 0 rfl rfl dX11_convert_127 ?_
            refine lv_goto (tgt := 134) F.1 F.2.1 dX11_convert_130 (by decide) ?_
            refine ad_put F G fl_X11_249 0 rfl rfl rfl (Nat.le_of_ble_eq_true rfl) (ws' := [(m0, mO M xth xrm xsv xln xat xer xwr xwd xlo xhi (u.length : Int) (([] : List Int).length : Int) xkl (bR rs u pl 1 0) (bR rs u pl 2 0) xdn xon xtw xol xrw xgl xus xpr xmk xab), (M 1, aI (K 0) 1247 g), (M 17, aI (K 0) 2000 gwo), (M 18, aI (K 0) 2000 gma)]) rfl dX11_convert_134 (fun H locs G => ?_)
            refine lv_aload_n F.1 F.2.1 dX11_convert_137 rfl (lv_at hl 1 rfl) ?_
            refine lv_iload_n F.1 F.2.1 dX11_convert_138 rfl (lv_at hl 0 rfl) ?_
            refine ad_if_eq (tgt := 146) F (by decide) dX11_convert_139 (by decide) (fun cc_188 => absurd cc_188 (by decide)) (fun _ => ?_)
            refine ad_iconst F dX11_convert_142 ?_
            refine lv_goto (tgt := 150) F.1 F.2.1 dX11_convert_143 (by decide) ?_
            refine ad_put F G fl_X11_242 0 rfl rfl rfl (Nat.le_of_ble_eq_true rfl) (ws' := [(m0, mO M xth xrm xsv xln xat xer xwr xwd xlo xhi (u.length : Int) (([] : List Int).length : Int) xkl (bR rs u pl 1 0) (-1) xdn xon xtw xol xrw xgl xus xpr xmk xab), (M 1, aI (K 0) 1247 g), (M 17, aI (K 0) 2000 gwo), (M 18, aI (K 0) 2000 gma)]) rfl dX11_convert_150 (fun H locs G => ?_)
            have hss : spm rs u pl 0 = bR rs u pl 1 0 ∧ spe rs u pl 0 = (-1) := (sp_o cc_2 ⟨by omega, by omega, by omega⟩).1 hc_185
            refine lv_aload_n F.1 F.2.1 dX11_convert_153 rfl (lv_at hl 1 rfl) ?_
            refine ad_get F G fl_X11_249 0 rfl rfl dX11_convert_154 ?_
            refine ad_if_ge (tgt := 164) F (by omega) dX11_convert_157 (by decide) (fun cc_189 => ?_) (fun cc_189 => ?_)
            · refine lv_aload_n F.1 F.2.1 dX11_convert_164 rfl (lv_at hl 1 rfl) ?_
              refine lv_aload_n F.1 F.2.1 dX11_convert_165 rfl (lv_at hl 1 rfl) ?_
              refine ad_get F G fl_X11_249 0 rfl rfl dX11_convert_166 ?_
              refine lv_iload_n F.1 F.2.1 dX11_convert_169 rfl (lv_at hl 3 rfl) ?_
              refine ad_callV (As := [.int (iI (bR rs u pl 1 0)), .int (iI 0)]) (rest := []) F G (c_X11_lengthOf l D K z0 m0 M xth xrm xsv xln xat xer xwr xwd xlo xhi (u.length : Int) (([] : List Int).length : Int) xkl (bR rs u pl 1 0) (-1) xdn xon xtw xol xrw xgl xus xpr xmk xab g rs ps md th nc (bR rs u pl 1 0) 0 hM hW (by omega) (by omega)) my_X11_lengthOf mv_X11_185 (wr := [(M 17, aI (K 0) 2000 gwo), (M 18, aI (K 0) 2000 gma)]) (isC := [0, 1]) (isR := [2, 3]) ⟨rfl, rfl, rfl, rfl, by decide⟩ 11 0 rfl rfl rfl rfl ⟨Nat.le_of_ble_eq_true rfl, Nat.le_of_ble_eq_true rfl⟩ ⟨Nat.le_of_ble_eq_true rfl, Nat.le_of_ble_eq_true rfl⟩ (Nat.le_of_ble_eq_true rfl) hl.1 (cells9 := 0) (slots9 := 0) ⟨rfl, rfl⟩ dX11_convert_170 (fun v u H locs hw_190 G => ?_)
              obtain ⟨rfl, rfl⟩ := hw_190
              replace G := G.perm (ws' := [(m0, mO M xth xrm xsv xln xat xer xwr xwd xlo xhi (u.length : Int) (([] : List Int).length : Int) xkl (bR rs u pl 1 0) (-1) xdn xon xtw xol xrw xgl xus xpr xmk xab), (M 1, aI (K 0) 1247 g), (M 17, aI (K 0) 2000 gwo), (M 18, aI (K 0) 2000 gma)]) [2, 3, 0, 1] rfl rfl
              refine W.eq (g2 := F0 m9 173 ls [.int (iI ((fmo (rget rs (bR rs u pl 1 0)) 0).length : Int))]) rfl ?_
              refine lv_istore_n (lv' := [(3, .int (iI ((fmo (rget rs (bR rs u pl 1 0)) 0).length : Int))), (0, .ref m0), (1, .int (iI pl)), (2, .int (iI 0))]) F.1 F.2.1 dX11_convert_173 rfl hl (by decide) rfl (fun ls hl => ?_)
              refine lv_aload_n F.1 F.2.1 dX11_convert_174 rfl (lv_at hl 1 rfl) ?_
              refine ad_get F G fl_X11_233 0 rfl rfl dX11_convert_175 ?_
              refine lv_aload_n F.1 F.2.1 dX11_convert_178 rfl (lv_at hl 1 rfl) ?_
              refine ad_get F G fl_X11_242 0 rfl rfl dX11_convert_179 ?_
              refine ad_if_ge (tgt := 189) F (by decide) dX11_convert_182 (by decide) (fun cc_191 => absurd cc_191 (by decide)) (fun _ => ?_)
              refine ad_iconst F dX11_convert_185 ?_
              refine lv_goto (tgt := 198) F.1 F.2.1 dX11_convert_186 (by decide) ?_
              refine ad_isub F dX11_convert_198 ?_
              refine lv_istore (lv' := [(4, .int (iI ((u.length : Int) - 0))), (3, .int (iI ((fmo (rget rs (bR rs u pl 1 0)) 0).length : Int))), (0, .ref m0), (1, .int (iI pl)), (2, .int (iI 0))]) F.1 F.2.1 dX11_convert_199 hl (by decide) rfl (fun ls hl => ?_)
              refine lv_aload_n F.1 F.2.1 dX11_convert_201 rfl (lv_at hl 2 rfl) ?_
              refine lv_aload_n F.1 F.2.1 dX11_convert_202 rfl (lv_at hl 2 rfl) ?_
              refine ad_get F G fl_X11_249 0 rfl rfl dX11_convert_203 ?_
              refine lv_iload_n F.1 F.2.1 dX11_convert_206 rfl (lv_at hl 4 rfl) ?_
              refine ad_if_ne (tgt := 214) F (by decide) dX11_convert_207 (by decide) (fun cc_192 => absurd cc_192 (by decide)) (fun _ => ?_)
              refine ad_iconst F dX11_convert_210 ?_
              refine lv_goto (tgt := 215) F.1 F.2.1 dX11_convert_211 (by decide) ?_
              refine ad_callV (As := [.int (iI (bR rs u pl 1 0)), .int (iI 1)]) (rest := []) F G (c_X11_addForm l D K z0 m0 M xth xrm xsv xln xat xer xwr xwd xlo xhi (u.length : Int) xkl (bR rs u pl 1 0) (-1) xdn xon xtw xol xrw xgl xus xpr xmk xab g gma rs ps md th nc ([] : List Int) (bR rs u pl 1 0) 1 hM hW Tx_nil (by simp) (by omega) (by omega)) my_X11_addForm mv_X11_252 (wr := [(M 17, aI (K 0) 2000 gwo)]) (isC := [0, 1, 3]) (isR := [2]) ⟨rfl, rfl, rfl, rfl, by decide⟩ 11 0 rfl rfl rfl rfl ⟨Nat.le_of_ble_eq_true rfl, Nat.le_of_ble_eq_true rfl⟩ ⟨Nat.le_of_ble_eq_true rfl, Nat.le_of_ble_eq_true rfl⟩ (Nat.le_of_ble_eq_true rfl) hl.1 (cells9 := 0) (slots9 := 0) ⟨rfl, rfl⟩ dX11_convert_215 (fun v u H locs hw_193 G => ?_)
              obtain ⟨m2_194, gma2_195, rfl, hc_196, hc_197, rfl⟩ := hw_193
              replace G := G.perm (ws' := [(m0, mO M xth xrm xsv xln xat xer xwr xwd xlo xhi (u.length : Int) (m2_194.length : Int) xkl (bR rs u pl 1 0) (-1) xdn xon xtw xol xrw xgl xus xpr xmk xab), (M 1, aI (K 0) 1247 g), (M 17, aI (K 0) 2000 gwo), (M 18, aI (K 0) 2000 gma2_195)]) [1, 2, 0, 3] rfl rfl
              refine W.eq (g2 := F0 m9 218 ls []) rfl ?_
              refine lv_iload_n F.1 F.2.1 dX11_convert_218 rfl (lv_at hl 1 rfl) ?_
              refine lv_istore (lv' := [(5, .int (iI ((fmo (rget rs (bR rs u pl 1 0)) 0).length : Int))), (4, .int (iI ((u.length : Int) - 0))), (3, .int (iI ((fmo (rget rs (bR rs u pl 1 0)) 0).length : Int))), (0, .ref m0), (1, .int (iI pl)), (2, .int (iI 0))]) F.1 F.2.1 dX11_convert_219 hl (by decide) rfl (fun ls hl => ?_)
              have hfr : ((fmo (rget rs (bR rs u pl 1 0)) 0).length : Int) = ((fmo (rget rs (bR rs u pl 1 0)) 0).length : Int) := by first | rfl | (rw [show (bR rs u pl 1 0) = -1 by omega, fmo_m1]; rfl)
              have hto : (u.length : Int) - 0 = (u.length : Int) - ((fmo (rget rs (-1)) 0).length : Int) := by first | rfl | (rw [show (-1) = -1 by omega, fmo_m1]; rfl)
              have hsl := spl_le rs u pl 0
              rw [hss.1, hss.2] at hsl
              have lp221 : ∀ (n221 : Nat) (k : Int) (gx : Nat → Int) (mx : List Int) (A0 : List Int) (fi : Int) (se : Int) (fr : Int) (to : Int) (H : Heap) (locs : List Loc) (ls : Array Slot), (0 ≤ fr ∧ fr ≤ k ∧ k ≤ to ∧ to ≤ u.length) → (spm rs u pl 0 = fi ∧ spe rs u pl 0 = se) → (A0 = (fmo (rget rs fi) 1)) → (fr = ((fmo (rget rs fi) 0).length : Int)) → (to = (u.length : Int) - ((fmo (rget rs se) 0).length : Int)) → (mx = A0 ++ sl u fr k) → (Tx gx mx) → (to - k) < (n221 : Int) → ad_G D A9 s9.heap H locs [(m0, mO M xth xrm xsv xln xat xer xwr xwd xlo xhi (u.length : Int) (mx.length : Int) xkl fi se xdn xon xtw xol xrw xgl xus xpr xmk xab), (M 1, aI (K 0) 1247 g), (M 17, aI (K 0) 2000 gwo), (M 18, aI (K 0) 2000 gx)] → lv_has ls 6 [(0, .ref m0), (1, .int (iI pl)), (2, .int (iI 0)), (3, .int (iI fr)), (4, .int (iI to)), (5, .int (iI k))] → W p9 l e9 rm_X11_convert_0 s9 m9 ag9 bl9 mt9 c9 H locs 0 0 Q9 (F0 m9 221 ls []) := by
                intro n221
                induction n221 with
                | zero =>
                  intro k gx mx A0 fi se fr to H locs ls hk hss hA hfr hto hmx hTx hm221
                  exact absurd hm221 (by omega)
                | succ n221 ih221 =>
                  intro k gx mx A0 fi se fr to H locs ls hk hss hA hfr hto hmx hTx hm221 G hl
                  have hA12 := fmo_len hW fi 1
                  have hmxl : (mx.length : Int) = A0.length + (k - fr) := by rw [hmx, List.length_append, Int.natCast_add, sl_len (by omega) (by omega) (by omega)]
                  have hAl : A0.length ≤ 12 := by rw [hA]; exact hA12
                  have hseb := spe_b rs u pl 0
                  refine lv_iload F.1 F.2.1 dX11_convert_221 (lv_at hl 5 rfl) ?_
                  refine lv_iload F.1 F.2.1 dX11_convert_223 (lv_at hl 4 rfl) ?_
                  refine ad_icmp_ge (tgt := 260) F (by omega) dX11_convert_225 (by decide) (fun cc_198 => ?_) (fun cc_198 => ?_)
                  · refine lv_aload_n F.1 F.2.1 dX11_convert_260 rfl (lv_at hl 0 rfl) ?_
                    refine lv_aload_n F.1 F.2.1 dX11_convert_261 rfl (lv_at hl 0 rfl) ?_
                    refine ad_get F G fl_X11_242 0 rfl rfl dX11_convert_262 ?_
                    refine lv_iload_n F.1 F.2.1 dX11_convert_265 rfl (lv_at hl 2 rfl) ?_
                    refine ad_if_ne (tgt := 273) F (by decide) dX11_convert_266 (by decide) (fun cc_199 => absurd cc_199 (by decide)) (fun _ => ?_)
                    refine ad_iconst F dX11_convert_269 ?_
                    refine lv_goto (tgt := 274) F.1 F.2.1 dX11_convert_270 (by decide) ?_
                    refine ad_callV (As := [.int (iI se), .int (iI 1)]) (rest := []) F G (c_X11_addForm l D K z0 m0 M xth xrm xsv xln xat xer xwr xwd xlo xhi (u.length : Int) xkl fi se xdn xon xtw xol xrw xgl xus xpr xmk xab g gx rs ps md th nc mx se 1 hM hW hTx (by omega) (by rw [← hss.2]; exact hseb) (by omega)) my_X11_addForm mv_X11_252 (wr := [(M 17, aI (K 0) 2000 gwo)]) (isC := [0, 1, 3]) (isR := [2]) ⟨rfl, rfl, rfl, rfl, by decide⟩ 11 0 rfl rfl rfl rfl ⟨Nat.le_of_ble_eq_true rfl, Nat.le_of_ble_eq_true rfl⟩ ⟨Nat.le_of_ble_eq_true rfl, Nat.le_of_ble_eq_true rfl⟩ (Nat.le_of_ble_eq_true rfl) hl.1 (cells9 := 0) (slots9 := 0) ⟨rfl, rfl⟩ dX11_convert_274 (fun v u H locs hw_200 G => ?_)
                    obtain ⟨m2_201, gma2_202, rfl, hc_203, hc_204, rfl⟩ := hw_200
                    replace G := G.perm (ws' := [(m0, mO M xth xrm xsv xln xat xer xwr xwd xlo xhi (u.length : Int) (m2_201.length : Int) xkl fi se xdn xon xtw xol xrw xgl xus xpr xmk xab), (M 1, aI (K 0) 1247 g), (M 17, aI (K 0) 2000 gwo), (M 18, aI (K 0) 2000 gma2_202)]) [1, 2, 0, 3] rfl rfl
                    refine W.eq (g2 := F0 m9 277 ls []) rfl ?_
                    exact ad_vreturn F G hR rfl (Nat.le_of_ble_eq_true rfl) (Nat.le_of_ble_eq_true rfl) ⟨m2_201, gma2_202, rfl, (by rw [hc_203, hmx, hA, spw_eq hss.1 hss.2, ← hfr, ← hto, show k = to by omega]; rfl), hc_204, (by rw [hss.1, hss.2])⟩ dX11_convert_277
                  · refine lv_aload_n F.1 F.2.1 dX11_convert_228 rfl (lv_at hl 0 rfl) ?_
                    refine ad_get F G fl_X11_42 0 rfl rfl dX11_convert_229 ?_
                    refine lv_aload_n F.1 F.2.1 dX11_convert_232 rfl (lv_at hl 0 rfl) ?_
                    refine ad_get F G fl_X11_239 0 rfl rfl dX11_convert_233 ?_
                    refine lv_aload_n F.1 F.2.1 dX11_convert_236 rfl (lv_at hl 0 rfl) ?_
                    refine ad_get F G fl_X11_39 0 rfl rfl dX11_convert_237 ?_
                    refine lv_iload F.1 F.2.1 dX11_convert_240 (lv_at hl 5 rfl) ?_
                    refine ad_iald F G 2 rfl (w := lat u k) (by omega) (Tx_at hTu (by omega) (by omega)) dX11_convert_242 ?_
                    refine ad_iast F G 3 rfl (by omega) (ws' := [(m0, mO M xth xrm xsv xln xat xer xwr xwd xlo xhi (u.length : Int) (mx.length : Int) xkl fi se xdn xon xtw xol xrw xgl xus xpr xmk xab), (M 1, aI (K 0) 1247 g), (M 17, aI (K 0) 2000 gwo), (M 18, aI (K 0) 2000 (va_up gx (mx.length : Int).toNat (lat u k)))]) rfl dX11_convert_243 (fun H locs G => ?_)
                    refine lv_aload_n F.1 F.2.1 dX11_convert_244 rfl (lv_at hl 0 rfl) ?_
                    refine lv_dup F.1 F.2.1 dX11_convert_245 rfl ?_
                    refine ad_get F G fl_X11_239 0 rfl rfl dX11_convert_246 ?_
                    refine ad_iconst F dX11_convert_249 ?_
                    refine ad_iadd F dX11_convert_250 ?_
                    refine ad_put F G fl_X11_239 0 rfl rfl rfl (Nat.le_of_ble_eq_true rfl) (ws' := [(m0, mO M xth xrm xsv xln xat xer xwr xwd xlo xhi (u.length : Int) ((mx.length : Int) + 1) xkl fi se xdn xon xtw xol xrw xgl xus xpr xmk xab), (M 1, aI (K 0) 1247 g), (M 17, aI (K 0) 2000 gwo), (M 18, aI (K 0) 2000 (va_up gx (mx.length : Int).toNat (lat u k)))]) rfl dX11_convert_251 (fun H locs G => ?_)
                    have hpl : (((mx ++ [lat u k]).length : Nat) : Int) = (mx.length : Int) + 1 := by simp
                    replace G := G.eq (ws' := [(m0, mO M xth xrm xsv xln xat xer xwr xwd xlo xhi (u.length : Int) ((mx ++ [lat u k]).length : Int) xkl fi se xdn xon xtw xol xrw xgl xus xpr xmk xab), (M 1, aI (K 0) 1247 g), (M 17, aI (K 0) 2000 gwo), (M 18, aI (K 0) 2000 (va_up gx (mx.length : Int).toNat (lat u k)))]) (by rw [hpl])
                    refine ad_iinc (lv' := [(5, .int (iI (k + 1))), (0, .ref m0), (1, .int (iI pl)), (2, .int (iI 0)), (3, .int (iI fr)), (4, .int (iI to))]) F dX11_convert_254 hl (k := 5) rfl (by decide) rfl (fun ls hl => ?_)
                    refine lv_goto (tgt := 221) F.1 F.2.1 dX11_convert_257 (by decide) ?_
                    exact ih221 (k + 1) (va_up gx (mx.length : Int).toNat (lat u k)) (mx ++ [lat u k]) A0 fi se fr to _ _ _ (by omega) hss hA hfr hto (by rw [sl_succ (by omega) (by omega) (by omega), hmx, List.append_assoc]) (Tx_push hTx _) (by omega) (G.perm (ws' := [(m0, mO M xth xrm xsv xln xat xer xwr xwd xlo xhi (u.length : Int) ((mx ++ [lat u k]).length : Int) xkl fi se xdn xon xtw xol xrw xgl xus xpr xmk xab), (M 1, aI (K 0) 1247 g), (M 17, aI (K 0) 2000 gwo), (M 18, aI (K 0) 2000 (va_up gx (mx.length : Int).toNat (lat u k)))]) [0, 1, 2, 3] rfl rfl) (lv_sub hl [1, 2, 3, 4, 5, 0] rfl)
              exact lp221 ((((((u.length : Int) - 0) - ((fmo (rget rs (bR rs u pl 1 0)) 0).length : Int) : Int)) + 1).toNat) ((fmo (rget rs (bR rs u pl 1 0)) 0).length : Int) gma2_195 m2_194 m2_194 (bR rs u pl 1 0) (-1) ((fmo (rget rs (bR rs u pl 1 0)) 0).length : Int) ((u.length : Int) - 0) _ _ _ (by omega) hss (by rw [hc_196, List.nil_append]) hfr hto (by rw [sl_self, List.append_nil]) hc_197 (by omega) (G.perm (ws' := [(m0, mO M xth xrm xsv xln xat xer xwr xwd xlo xhi (u.length : Int) (m2_194.length : Int) xkl (bR rs u pl 1 0) (-1) xdn xon xtw xol xrw xgl xus xpr xmk xab), (M 1, aI (K 0) 1247 g), (M 17, aI (K 0) 2000 gwo), (M 18, aI (K 0) 2000 gma2_195)]) [0, 1, 2, 3] rfl rfl) (lv_sub hl [3, 4, 5, 2, 1, 0] rfl)
            · refine ad_iconst F dX11_convert_160 ?_
              refine lv_goto (tgt := 173) F.1 F.2.1 dX11_convert_161 (by decide) ?_
              refine lv_istore_n (lv' := [(3, .int (iI 0)), (0, .ref m0), (1, .int (iI pl)), (2, .int (iI 0))]) F.1 F.2.1 dX11_convert_173 rfl hl (by decide) rfl (fun ls hl => ?_)
              refine lv_aload_n F.1 F.2.1 dX11_convert_174 rfl (lv_at hl 1 rfl) ?_
              refine ad_get F G fl_X11_233 0 rfl rfl dX11_convert_175 ?_
              refine lv_aload_n F.1 F.2.1 dX11_convert_178 rfl (lv_at hl 1 rfl) ?_
              refine ad_get F G fl_X11_242 0 rfl rfl dX11_convert_179 ?_
              refine ad_if_ge (tgt := 189) F (by decide) dX11_convert_182 (by decide) (fun cc_205 => absurd cc_205 (by decide)) (fun _ => ?_)
              refine ad_iconst F dX11_convert_185 ?_
              refine lv_goto (tgt := 198) F.1 F.2.1 dX11_convert_186 (by decide) ?_
              refine ad_isub F dX11_convert_198 ?_
              refine lv_istore (lv' := [(4, .int (iI ((u.length : Int) - 0))), (3, .int (iI 0)), (0, .ref m0), (1, .int (iI pl)), (2, .int (iI 0))]) F.1 F.2.1 dX11_convert_199 hl (by decide) rfl (fun ls hl => ?_)
              refine lv_aload_n F.1 F.2.1 dX11_convert_201 rfl (lv_at hl 2 rfl) ?_
              refine lv_aload_n F.1 F.2.1 dX11_convert_202 rfl (lv_at hl 2 rfl) ?_
              refine ad_get F G fl_X11_249 0 rfl rfl dX11_convert_203 ?_
              refine lv_iload_n F.1 F.2.1 dX11_convert_206 rfl (lv_at hl 4 rfl) ?_
              refine ad_if_ne (tgt := 214) F (by decide) dX11_convert_207 (by decide) (fun cc_206 => absurd cc_206 (by decide)) (fun _ => ?_)
              refine ad_iconst F dX11_convert_210 ?_
              refine lv_goto (tgt := 215) F.1 F.2.1 dX11_convert_211 (by decide) ?_
              refine ad_callV (As := [.int (iI (bR rs u pl 1 0)), .int (iI 1)]) (rest := []) F G (c_X11_addForm l D K z0 m0 M xth xrm xsv xln xat xer xwr xwd xlo xhi (u.length : Int) xkl (bR rs u pl 1 0) (-1) xdn xon xtw xol xrw xgl xus xpr xmk xab g gma rs ps md th nc ([] : List Int) (bR rs u pl 1 0) 1 hM hW Tx_nil (by simp) (by omega) (by omega)) my_X11_addForm mv_X11_252 (wr := [(M 17, aI (K 0) 2000 gwo)]) (isC := [0, 1, 3]) (isR := [2]) ⟨rfl, rfl, rfl, rfl, by decide⟩ 11 0 rfl rfl rfl rfl ⟨Nat.le_of_ble_eq_true rfl, Nat.le_of_ble_eq_true rfl⟩ ⟨Nat.le_of_ble_eq_true rfl, Nat.le_of_ble_eq_true rfl⟩ (Nat.le_of_ble_eq_true rfl) hl.1 (cells9 := 0) (slots9 := 0) ⟨rfl, rfl⟩ dX11_convert_215 (fun v u H locs hw_207 G => ?_)
              obtain ⟨m2_208, gma2_209, rfl, hc_210, hc_211, rfl⟩ := hw_207
              replace G := G.perm (ws' := [(m0, mO M xth xrm xsv xln xat xer xwr xwd xlo xhi (u.length : Int) (m2_208.length : Int) xkl (bR rs u pl 1 0) (-1) xdn xon xtw xol xrw xgl xus xpr xmk xab), (M 1, aI (K 0) 1247 g), (M 17, aI (K 0) 2000 gwo), (M 18, aI (K 0) 2000 gma2_209)]) [1, 2, 0, 3] rfl rfl
              refine W.eq (g2 := F0 m9 218 ls []) rfl ?_
              refine lv_iload_n F.1 F.2.1 dX11_convert_218 rfl (lv_at hl 1 rfl) ?_
              refine lv_istore (lv' := [(5, .int (iI 0)), (4, .int (iI ((u.length : Int) - 0))), (3, .int (iI 0)), (0, .ref m0), (1, .int (iI pl)), (2, .int (iI 0))]) F.1 F.2.1 dX11_convert_219 hl (by decide) rfl (fun ls hl => ?_)
              have hfr : 0 = ((fmo (rget rs (bR rs u pl 1 0)) 0).length : Int) := by first | rfl | (rw [show (bR rs u pl 1 0) = -1 by omega, fmo_m1]; rfl)
              have hto : (u.length : Int) - 0 = (u.length : Int) - ((fmo (rget rs (-1)) 0).length : Int) := by first | rfl | (rw [show (-1) = -1 by omega, fmo_m1]; rfl)
              have hsl := spl_le rs u pl 0
              rw [hss.1, hss.2] at hsl
              have lp221 : ∀ (n221 : Nat) (k : Int) (gx : Nat → Int) (mx : List Int) (A0 : List Int) (fi : Int) (se : Int) (fr : Int) (to : Int) (H : Heap) (locs : List Loc) (ls : Array Slot), (0 ≤ fr ∧ fr ≤ k ∧ k ≤ to ∧ to ≤ u.length) → (spm rs u pl 0 = fi ∧ spe rs u pl 0 = se) → (A0 = (fmo (rget rs fi) 1)) → (fr = ((fmo (rget rs fi) 0).length : Int)) → (to = (u.length : Int) - ((fmo (rget rs se) 0).length : Int)) → (mx = A0 ++ sl u fr k) → (Tx gx mx) → (to - k) < (n221 : Int) → ad_G D A9 s9.heap H locs [(m0, mO M xth xrm xsv xln xat xer xwr xwd xlo xhi (u.length : Int) (mx.length : Int) xkl fi se xdn xon xtw xol xrw xgl xus xpr xmk xab), (M 1, aI (K 0) 1247 g), (M 17, aI (K 0) 2000 gwo), (M 18, aI (K 0) 2000 gx)] → lv_has ls 6 [(0, .ref m0), (1, .int (iI pl)), (2, .int (iI 0)), (3, .int (iI fr)), (4, .int (iI to)), (5, .int (iI k))] → W p9 l e9 rm_X11_convert_0 s9 m9 ag9 bl9 mt9 c9 H locs 0 0 Q9 (F0 m9 221 ls []) := by
                intro n221
                induction n221 with
                | zero =>
                  intro k gx mx A0 fi se fr to H locs ls hk hss hA hfr hto hmx hTx hm221
                  exact absurd hm221 (by omega)
                | succ n221 ih221 =>
                  intro k gx mx A0 fi se fr to H locs ls hk hss hA hfr hto hmx hTx hm221 G hl
                  have hA12 := fmo_len hW fi 1
                  have hmxl : (mx.length : Int) = A0.length + (k - fr) := by rw [hmx, List.length_append, Int.natCast_add, sl_len (by omega) (by omega) (by omega)]
                  have hAl : A0.length ≤ 12 := by rw [hA]; exact hA12
                  have hseb := spe_b rs u pl 0
                  refine lv_iload F.1 F.2.1 dX11_convert_221 (lv_at hl 5 rfl) ?_
                  refine lv_iload F.1 F.2.1 dX11_convert_223 (lv_at hl 4 rfl) ?_
                  refine ad_icmp_ge (tgt := 260) F (by omega) dX11_convert_225 (by decide) (fun cc_212 => ?_) (fun cc_212 => ?_)
                  · refine lv_aload_n F.1 F.2.1 dX11_convert_260 rfl (lv_at hl 0 rfl) ?_
                    refine lv_aload_n F.1 F.2.1 dX11_convert_261 rfl (lv_at hl 0 rfl) ?_
                    refine ad_get F G fl_X11_242 0 rfl rfl dX11_convert_262 ?_
                    refine lv_iload_n F.1 F.2.1 dX11_convert_265 rfl (lv_at hl 2 rfl) ?_
                    refine ad_if_ne (tgt := 273) F (by decide) dX11_convert_266 (by decide) (fun cc_213 => absurd cc_213 (by decide)) (fun _ => ?_)
                    refine ad_iconst F dX11_convert_269 ?_
                    refine lv_goto (tgt := 274) F.1 F.2.1 dX11_convert_270 (by decide) ?_
                    refine ad_callV (As := [.int (iI se), .int (iI 1)]) (rest := []) F G (c_X11_addForm l D K z0 m0 M xth xrm xsv xln xat xer xwr xwd xlo xhi (u.length : Int) xkl fi se xdn xon xtw xol xrw xgl xus xpr xmk xab g gx rs ps md th nc mx se 1 hM hW hTx (by omega) (by rw [← hss.2]; exact hseb) (by omega)) my_X11_addForm mv_X11_252 (wr := [(M 17, aI (K 0) 2000 gwo)]) (isC := [0, 1, 3]) (isR := [2]) ⟨rfl, rfl, rfl, rfl, by decide⟩ 11 0 rfl rfl rfl rfl ⟨Nat.le_of_ble_eq_true rfl, Nat.le_of_ble_eq_true rfl⟩ ⟨Nat.le_of_ble_eq_true rfl, Nat.le_of_ble_eq_true rfl⟩ (Nat.le_of_ble_eq_true rfl) hl.1 (cells9 := 0) (slots9 := 0) ⟨rfl, rfl⟩ dX11_convert_274 (fun v u H locs hw_214 G => ?_)
                    obtain ⟨m2_215, gma2_216, rfl, hc_217, hc_218, rfl⟩ := hw_214
                    replace G := G.perm (ws' := [(m0, mO M xth xrm xsv xln xat xer xwr xwd xlo xhi (u.length : Int) (m2_215.length : Int) xkl fi se xdn xon xtw xol xrw xgl xus xpr xmk xab), (M 1, aI (K 0) 1247 g), (M 17, aI (K 0) 2000 gwo), (M 18, aI (K 0) 2000 gma2_216)]) [1, 2, 0, 3] rfl rfl
                    refine W.eq (g2 := F0 m9 277 ls []) rfl ?_
                    exact ad_vreturn F G hR rfl (Nat.le_of_ble_eq_true rfl) (Nat.le_of_ble_eq_true rfl) ⟨m2_215, gma2_216, rfl, (by rw [hc_217, hmx, hA, spw_eq hss.1 hss.2, ← hfr, ← hto, show k = to by omega]; rfl), hc_218, (by rw [hss.1, hss.2])⟩ dX11_convert_277
                  · refine lv_aload_n F.1 F.2.1 dX11_convert_228 rfl (lv_at hl 0 rfl) ?_
                    refine ad_get F G fl_X11_42 0 rfl rfl dX11_convert_229 ?_
                    refine lv_aload_n F.1 F.2.1 dX11_convert_232 rfl (lv_at hl 0 rfl) ?_
                    refine ad_get F G fl_X11_239 0 rfl rfl dX11_convert_233 ?_
                    refine lv_aload_n F.1 F.2.1 dX11_convert_236 rfl (lv_at hl 0 rfl) ?_
                    refine ad_get F G fl_X11_39 0 rfl rfl dX11_convert_237 ?_
                    refine lv_iload F.1 F.2.1 dX11_convert_240 (lv_at hl 5 rfl) ?_
                    refine ad_iald F G 2 rfl (w := lat u k) (by omega) (Tx_at hTu (by omega) (by omega)) dX11_convert_242 ?_
                    refine ad_iast F G 3 rfl (by omega) (ws' := [(m0, mO M xth xrm xsv xln xat xer xwr xwd xlo xhi (u.length : Int) (mx.length : Int) xkl fi se xdn xon xtw xol xrw xgl xus xpr xmk xab), (M 1, aI (K 0) 1247 g), (M 17, aI (K 0) 2000 gwo), (M 18, aI (K 0) 2000 (va_up gx (mx.length : Int).toNat (lat u k)))]) rfl dX11_convert_243 (fun H locs G => ?_)
                    refine lv_aload_n F.1 F.2.1 dX11_convert_244 rfl (lv_at hl 0 rfl) ?_
                    refine lv_dup F.1 F.2.1 dX11_convert_245 rfl ?_
                    refine ad_get F G fl_X11_239 0 rfl rfl dX11_convert_246 ?_
                    refine ad_iconst F dX11_convert_249 ?_
                    refine ad_iadd F dX11_convert_250 ?_
                    refine ad_put F G fl_X11_239 0 rfl rfl rfl (Nat.le_of_ble_eq_true rfl) (ws' := [(m0, mO M xth xrm xsv xln xat xer xwr xwd xlo xhi (u.length : Int) ((mx.length : Int) + 1) xkl fi se xdn xon xtw xol xrw xgl xus xpr xmk xab), (M 1, aI (K 0) 1247 g), (M 17, aI (K 0) 2000 gwo), (M 18, aI (K 0) 2000 (va_up gx (mx.length : Int).toNat (lat u k)))]) rfl dX11_convert_251 (fun H locs G => ?_)
                    have hpl : (((mx ++ [lat u k]).length : Nat) : Int) = (mx.length : Int) + 1 := by simp
                    replace G := G.eq (ws' := [(m0, mO M xth xrm xsv xln xat xer xwr xwd xlo xhi (u.length : Int) ((mx ++ [lat u k]).length : Int) xkl fi se xdn xon xtw xol xrw xgl xus xpr xmk xab), (M 1, aI (K 0) 1247 g), (M 17, aI (K 0) 2000 gwo), (M 18, aI (K 0) 2000 (va_up gx (mx.length : Int).toNat (lat u k)))]) (by rw [hpl])
                    refine ad_iinc (lv' := [(5, .int (iI (k + 1))), (0, .ref m0), (1, .int (iI pl)), (2, .int (iI 0)), (3, .int (iI fr)), (4, .int (iI to))]) F dX11_convert_254 hl (k := 5) rfl (by decide) rfl (fun ls hl => ?_)
                    refine lv_goto (tgt := 221) F.1 F.2.1 dX11_convert_257 (by decide) ?_
                    exact ih221 (k + 1) (va_up gx (mx.length : Int).toNat (lat u k)) (mx ++ [lat u k]) A0 fi se fr to _ _ _ (by omega) hss hA hfr hto (by rw [sl_succ (by omega) (by omega) (by omega), hmx, List.append_assoc]) (Tx_push hTx _) (by omega) (G.perm (ws' := [(m0, mO M xth xrm xsv xln xat xer xwr xwd xlo xhi (u.length : Int) ((mx ++ [lat u k]).length : Int) xkl fi se xdn xon xtw xol xrw xgl xus xpr xmk xab), (M 1, aI (K 0) 1247 g), (M 17, aI (K 0) 2000 gwo), (M 18, aI (K 0) 2000 (va_up gx (mx.length : Int).toNat (lat u k)))]) [0, 1, 2, 3] rfl rfl) (lv_sub hl [1, 2, 3, 4, 5, 0] rfl)
              exact lp221 ((((((u.length : Int) - 0) - 0 : Int)) + 1).toNat) 0 gma2_209 m2_208 m2_208 (bR rs u pl 1 0) (-1) 0 ((u.length : Int) - 0) _ _ _ (by omega) hss (by rw [hc_210, List.nil_append]) hfr hto (by rw [sl_self, List.append_nil]) hc_211 (by omega) (G.perm (ws' := [(m0, mO M xth xrm xsv xln xat xer xwr xwd xlo xhi (u.length : Int) (m2_208.length : Int) xkl (bR rs u pl 1 0) (-1) xdn xon xtw xol xrw xgl xus xpr xmk xab), (M 1, aI (K 0) 1247 g), (M 17, aI (K 0) 2000 gwo), (M 18, aI (K 0) 2000 gma2_209)]) [0, 1, 2, 3] rfl rfl) (lv_sub hl [3, 4, 5, 2, 1, 0] rfl)
          · replace G := G.perm (ws' := [(m0, mO M xth xrm xsv xln xat xer xwr xwd xlo xhi (u.length : Int) (([] : List Int).length : Int) xkl (bR rs u pl 1 0) (bR rs u pl 2 0) xdn xon xtw xol xrw xgl xus xpr xmk xab), (M 1, aI (K 0) 1247 g), (M 17, aI (K 0) 2000 gwo), (M 18, aI (K 0) 2000 gma)]) [2, 3, 0, 1] rfl rfl
            refine W.eq (g2 := F0 m9 120 ls [.int (iI 0)]) rfl ?_
            refine lv_istore_n (lv' := [(3, .int (iI 0)), (0, .ref m0), (1, .int (iI pl)), (2, .int (iI 0))]) F.1 F.2.1 dX11_convert_120 rfl hl (by decide) rfl (fun ls hl => ?_)
            refine lv_aload_n F.1 F.2.1 dX11_convert_121 rfl (lv_at hl 1 rfl) ?_
            refine lv_iload_n F.1 F.2.1 dX11_convert_122 rfl (lv_at hl 0 rfl) ?_
            refine ad_if_eq (tgt := 133) F (by decide) dX11_convert_123 (by decide) (fun _ => ?_) (fun cc_219 => absurd cc_219 (by decide))
            refine ad_iconst F dX11_convert_133 ?_
            refine ad_put F G fl_X11_249 0 rfl rfl rfl (Nat.le_of_ble_eq_true rfl) (ws' := [(m0, mO M xth xrm xsv xln xat xer xwr xwd xlo xhi (u.length : Int) (([] : List Int).length : Int) xkl (-1) (bR rs u pl 2 0) xdn xon xtw xol xrw xgl xus xpr xmk xab), (M 1, aI (K 0) 1247 g), (M 17, aI (K 0) 2000 gwo), (M 18, aI (K 0) 2000 gma)]) rfl dX11_convert_134 (fun H locs G => ?_)
            refine lv_aload_n F.1 F.2.1 dX11_convert_137 rfl (lv_at hl 1 rfl) ?_
            refine lv_iload_n F.1 F.2.1 dX11_convert_138 rfl (lv_at hl 0 rfl) ?_
            refine ad_if_eq (tgt := 146) F (by decide) dX11_convert_139 (by decide) (fun _ => ?_) (fun cc_220 => absurd cc_220 (by decide))
            refine lv_aload_n F.1 F.2.1 dX11_convert_146 rfl (lv_at hl 1 rfl) ?_
            refine ad_get F G fl_X11_242 0 rfl rfl dX11_convert_147 ?_
            refine ad_put F G fl_X11_242 0 rfl rfl rfl (Nat.le_of_ble_eq_true rfl) (ws' := [(m0, mO M xth xrm xsv xln xat xer xwr xwd xlo xhi (u.length : Int) (([] : List Int).length : Int) xkl (-1) (bR rs u pl 2 0) xdn xon xtw xol xrw xgl xus xpr xmk xab), (M 1, aI (K 0) 1247 g), (M 17, aI (K 0) 2000 gwo), (M 18, aI (K 0) 2000 gma)]) rfl dX11_convert_150 (fun H locs G => ?_)
            have hss : spm rs u pl 0 = (-1) ∧ spe rs u pl 0 = bR rs u pl 2 0 := (sp_o cc_2 ⟨by omega, by omega, by omega⟩).2 hc_186
            refine lv_aload_n F.1 F.2.1 dX11_convert_153 rfl (lv_at hl 1 rfl) ?_
            refine ad_get F G fl_X11_249 0 rfl rfl dX11_convert_154 ?_
            refine ad_if_ge (tgt := 164) F (by decide) dX11_convert_157 (by decide) (fun cc_221 => absurd cc_221 (by decide)) (fun _ => ?_)
            refine ad_iconst F dX11_convert_160 ?_
            refine lv_goto (tgt := 173) F.1 F.2.1 dX11_convert_161 (by decide) ?_
            refine lv_istore_n (lv' := [(3, .int (iI 0)), (0, .ref m0), (1, .int (iI pl)), (2, .int (iI 0))]) F.1 F.2.1 dX11_convert_173 rfl hl (by decide) rfl (fun ls hl => ?_)
            refine lv_aload_n F.1 F.2.1 dX11_convert_174 rfl (lv_at hl 1 rfl) ?_
            refine ad_get F G fl_X11_233 0 rfl rfl dX11_convert_175 ?_
            refine lv_aload_n F.1 F.2.1 dX11_convert_178 rfl (lv_at hl 1 rfl) ?_
            refine ad_get F G fl_X11_242 0 rfl rfl dX11_convert_179 ?_
            refine ad_if_ge (tgt := 189) F (by omega) dX11_convert_182 (by decide) (fun cc_222 => ?_) (fun cc_222 => ?_)
            · refine lv_aload_n F.1 F.2.1 dX11_convert_189 rfl (lv_at hl 1 rfl) ?_
              refine lv_aload_n F.1 F.2.1 dX11_convert_190 rfl (lv_at hl 1 rfl) ?_
              refine ad_get F G fl_X11_242 0 rfl rfl dX11_convert_191 ?_
              refine lv_iload_n F.1 F.2.1 dX11_convert_194 rfl (lv_at hl 3 rfl) ?_
              refine ad_callV (As := [.int (iI (bR rs u pl 2 0)), .int (iI 0)]) (rest := [.int (iI (u.length : Int))]) F G (c_X11_lengthOf l D K z0 m0 M xth xrm xsv xln xat xer xwr xwd xlo xhi (u.length : Int) (([] : List Int).length : Int) xkl (-1) (bR rs u pl 2 0) xdn xon xtw xol xrw xgl xus xpr xmk xab g rs ps md th nc (bR rs u pl 2 0) 0 hM hW (by omega) (by omega)) my_X11_lengthOf mv_X11_185 (wr := [(M 17, aI (K 0) 2000 gwo), (M 18, aI (K 0) 2000 gma)]) (isC := [0, 1]) (isR := [2, 3]) ⟨rfl, rfl, rfl, rfl, by decide⟩ 11 0 rfl rfl rfl rfl ⟨Nat.le_of_ble_eq_true rfl, Nat.le_of_ble_eq_true rfl⟩ ⟨Nat.le_of_ble_eq_true rfl, Nat.le_of_ble_eq_true rfl⟩ (Nat.le_of_ble_eq_true rfl) hl.1 (cells9 := 0) (slots9 := 0) ⟨rfl, rfl⟩ dX11_convert_195 (fun v u H locs hw_223 G => ?_)
              obtain ⟨rfl, rfl⟩ := hw_223
              replace G := G.perm (ws' := [(m0, mO M xth xrm xsv xln xat xer xwr xwd xlo xhi (u.length : Int) (([] : List Int).length : Int) xkl (-1) (bR rs u pl 2 0) xdn xon xtw xol xrw xgl xus xpr xmk xab), (M 1, aI (K 0) 1247 g), (M 17, aI (K 0) 2000 gwo), (M 18, aI (K 0) 2000 gma)]) [2, 3, 0, 1] rfl rfl
              refine W.eq (g2 := F0 m9 198 ls [.int (iI ((fmo (rget rs (bR rs u pl 2 0)) 0).length : Int)), .int (iI (u.length : Int))]) rfl ?_
              refine ad_isub F dX11_convert_198 ?_
              refine lv_istore (lv' := [(4, .int (iI ((u.length : Int) - ((fmo (rget rs (bR rs u pl 2 0)) 0).length : Int)))), (3, .int (iI 0)), (0, .ref m0), (1, .int (iI pl)), (2, .int (iI 0))]) F.1 F.2.1 dX11_convert_199 hl (by decide) rfl (fun ls hl => ?_)
              refine lv_aload_n F.1 F.2.1 dX11_convert_201 rfl (lv_at hl 2 rfl) ?_
              refine lv_aload_n F.1 F.2.1 dX11_convert_202 rfl (lv_at hl 2 rfl) ?_
              refine ad_get F G fl_X11_249 0 rfl rfl dX11_convert_203 ?_
              refine lv_iload_n F.1 F.2.1 dX11_convert_206 rfl (lv_at hl 4 rfl) ?_
              refine ad_if_ne (tgt := 214) F (by decide) dX11_convert_207 (by decide) (fun cc_224 => absurd cc_224 (by decide)) (fun _ => ?_)
              refine ad_iconst F dX11_convert_210 ?_
              refine lv_goto (tgt := 215) F.1 F.2.1 dX11_convert_211 (by decide) ?_
              refine ad_callV (As := [.int (iI (-1)), .int (iI 1)]) (rest := []) F G (c_X11_addForm l D K z0 m0 M xth xrm xsv xln xat xer xwr xwd xlo xhi (u.length : Int) xkl (-1) (bR rs u pl 2 0) xdn xon xtw xol xrw xgl xus xpr xmk xab g gma rs ps md th nc ([] : List Int) (-1) 1 hM hW Tx_nil (by simp) (by omega) (by omega)) my_X11_addForm mv_X11_252 (wr := [(M 17, aI (K 0) 2000 gwo)]) (isC := [0, 1, 3]) (isR := [2]) ⟨rfl, rfl, rfl, rfl, by decide⟩ 11 0 rfl rfl rfl rfl ⟨Nat.le_of_ble_eq_true rfl, Nat.le_of_ble_eq_true rfl⟩ ⟨Nat.le_of_ble_eq_true rfl, Nat.le_of_ble_eq_true rfl⟩ (Nat.le_of_ble_eq_true rfl) hl.1 (cells9 := 0) (slots9 := 0) ⟨rfl, rfl⟩ dX11_convert_215 (fun v u H locs hw_225 G => ?_)
              obtain ⟨m2_226, gma2_227, rfl, hc_228, hc_229, rfl⟩ := hw_225
              replace G := G.perm (ws' := [(m0, mO M xth xrm xsv xln xat xer xwr xwd xlo xhi (u.length : Int) (m2_226.length : Int) xkl (-1) (bR rs u pl 2 0) xdn xon xtw xol xrw xgl xus xpr xmk xab), (M 1, aI (K 0) 1247 g), (M 17, aI (K 0) 2000 gwo), (M 18, aI (K 0) 2000 gma2_227)]) [1, 2, 0, 3] rfl rfl
              refine W.eq (g2 := F0 m9 218 ls []) rfl ?_
              refine lv_iload_n F.1 F.2.1 dX11_convert_218 rfl (lv_at hl 1 rfl) ?_
              refine lv_istore (lv' := [(5, .int (iI 0)), (4, .int (iI ((u.length : Int) - ((fmo (rget rs (bR rs u pl 2 0)) 0).length : Int)))), (3, .int (iI 0)), (0, .ref m0), (1, .int (iI pl)), (2, .int (iI 0))]) F.1 F.2.1 dX11_convert_219 hl (by decide) rfl (fun ls hl => ?_)
              have hfr : 0 = ((fmo (rget rs (-1)) 0).length : Int) := by first | rfl | (rw [show (-1) = -1 by omega, fmo_m1]; rfl)
              have hto : (u.length : Int) - ((fmo (rget rs (bR rs u pl 2 0)) 0).length : Int) = (u.length : Int) - ((fmo (rget rs (bR rs u pl 2 0)) 0).length : Int) := by first | rfl | (rw [show (bR rs u pl 2 0) = -1 by omega, fmo_m1]; rfl)
              have hsl := spl_le rs u pl 0
              rw [hss.1, hss.2] at hsl
              have lp221 : ∀ (n221 : Nat) (k : Int) (gx : Nat → Int) (mx : List Int) (A0 : List Int) (fi : Int) (se : Int) (fr : Int) (to : Int) (H : Heap) (locs : List Loc) (ls : Array Slot), (0 ≤ fr ∧ fr ≤ k ∧ k ≤ to ∧ to ≤ u.length) → (spm rs u pl 0 = fi ∧ spe rs u pl 0 = se) → (A0 = (fmo (rget rs fi) 1)) → (fr = ((fmo (rget rs fi) 0).length : Int)) → (to = (u.length : Int) - ((fmo (rget rs se) 0).length : Int)) → (mx = A0 ++ sl u fr k) → (Tx gx mx) → (to - k) < (n221 : Int) → ad_G D A9 s9.heap H locs [(m0, mO M xth xrm xsv xln xat xer xwr xwd xlo xhi (u.length : Int) (mx.length : Int) xkl fi se xdn xon xtw xol xrw xgl xus xpr xmk xab), (M 1, aI (K 0) 1247 g), (M 17, aI (K 0) 2000 gwo), (M 18, aI (K 0) 2000 gx)] → lv_has ls 6 [(0, .ref m0), (1, .int (iI pl)), (2, .int (iI 0)), (3, .int (iI fr)), (4, .int (iI to)), (5, .int (iI k))] → W p9 l e9 rm_X11_convert_0 s9 m9 ag9 bl9 mt9 c9 H locs 0 0 Q9 (F0 m9 221 ls []) := by
                intro n221
                induction n221 with
                | zero =>
                  intro k gx mx A0 fi se fr to H locs ls hk hss hA hfr hto hmx hTx hm221
                  exact absurd hm221 (by omega)
                | succ n221 ih221 =>
                  intro k gx mx A0 fi se fr to H locs ls hk hss hA hfr hto hmx hTx hm221 G hl
                  have hA12 := fmo_len hW fi 1
                  have hmxl : (mx.length : Int) = A0.length + (k - fr) := by rw [hmx, List.length_append, Int.natCast_add, sl_len (by omega) (by omega) (by omega)]
                  have hAl : A0.length ≤ 12 := by rw [hA]; exact hA12
                  have hseb := spe_b rs u pl 0
                  refine lv_iload F.1 F.2.1 dX11_convert_221 (lv_at hl 5 rfl) ?_
                  refine lv_iload F.1 F.2.1 dX11_convert_223 (lv_at hl 4 rfl) ?_
                  refine ad_icmp_ge (tgt := 260) F (by omega) dX11_convert_225 (by decide) (fun cc_230 => ?_) (fun cc_230 => ?_)
                  · refine lv_aload_n F.1 F.2.1 dX11_convert_260 rfl (lv_at hl 0 rfl) ?_
                    refine lv_aload_n F.1 F.2.1 dX11_convert_261 rfl (lv_at hl 0 rfl) ?_
                    refine ad_get F G fl_X11_242 0 rfl rfl dX11_convert_262 ?_
                    refine lv_iload_n F.1 F.2.1 dX11_convert_265 rfl (lv_at hl 2 rfl) ?_
                    refine ad_if_ne (tgt := 273) F (by decide) dX11_convert_266 (by decide) (fun cc_231 => absurd cc_231 (by decide)) (fun _ => ?_)
                    refine ad_iconst F dX11_convert_269 ?_
                    refine lv_goto (tgt := 274) F.1 F.2.1 dX11_convert_270 (by decide) ?_
                    refine ad_callV (As := [.int (iI se), .int (iI 1)]) (rest := []) F G (c_X11_addForm l D K z0 m0 M xth xrm xsv xln xat xer xwr xwd xlo xhi (u.length : Int) xkl fi se xdn xon xtw xol xrw xgl xus xpr xmk xab g gx rs ps md th nc mx se 1 hM hW hTx (by omega) (by rw [← hss.2]; exact hseb) (by omega)) my_X11_addForm mv_X11_252 (wr := [(M 17, aI (K 0) 2000 gwo)]) (isC := [0, 1, 3]) (isR := [2]) ⟨rfl, rfl, rfl, rfl, by decide⟩ 11 0 rfl rfl rfl rfl ⟨Nat.le_of_ble_eq_true rfl, Nat.le_of_ble_eq_true rfl⟩ ⟨Nat.le_of_ble_eq_true rfl, Nat.le_of_ble_eq_true rfl⟩ (Nat.le_of_ble_eq_true rfl) hl.1 (cells9 := 0) (slots9 := 0) ⟨rfl, rfl⟩ dX11_convert_274 (fun v u H locs hw_232 G => ?_)
                    obtain ⟨m2_233, gma2_234, rfl, hc_235, hc_236, rfl⟩ := hw_232
                    replace G := G.perm (ws' := [(m0, mO M xth xrm xsv xln xat xer xwr xwd xlo xhi (u.length : Int) (m2_233.length : Int) xkl fi se xdn xon xtw xol xrw xgl xus xpr xmk xab), (M 1, aI (K 0) 1247 g), (M 17, aI (K 0) 2000 gwo), (M 18, aI (K 0) 2000 gma2_234)]) [1, 2, 0, 3] rfl rfl
                    refine W.eq (g2 := F0 m9 277 ls []) rfl ?_
                    exact ad_vreturn F G hR rfl (Nat.le_of_ble_eq_true rfl) (Nat.le_of_ble_eq_true rfl) ⟨m2_233, gma2_234, rfl, (by rw [hc_235, hmx, hA, spw_eq hss.1 hss.2, ← hfr, ← hto, show k = to by omega]; rfl), hc_236, (by rw [hss.1, hss.2])⟩ dX11_convert_277
                  · refine lv_aload_n F.1 F.2.1 dX11_convert_228 rfl (lv_at hl 0 rfl) ?_
                    refine ad_get F G fl_X11_42 0 rfl rfl dX11_convert_229 ?_
                    refine lv_aload_n F.1 F.2.1 dX11_convert_232 rfl (lv_at hl 0 rfl) ?_
                    refine ad_get F G fl_X11_239 0 rfl rfl dX11_convert_233 ?_
                    refine lv_aload_n F.1 F.2.1 dX11_convert_236 rfl (lv_at hl 0 rfl) ?_
                    refine ad_get F G fl_X11_39 0 rfl rfl dX11_convert_237 ?_
                    refine lv_iload F.1 F.2.1 dX11_convert_240 (lv_at hl 5 rfl) ?_
                    refine ad_iald F G 2 rfl (w := lat u k) (by omega) (Tx_at hTu (by omega) (by omega)) dX11_convert_242 ?_
                    refine ad_iast F G 3 rfl (by omega) (ws' := [(m0, mO M xth xrm xsv xln xat xer xwr xwd xlo xhi (u.length : Int) (mx.length : Int) xkl fi se xdn xon xtw xol xrw xgl xus xpr xmk xab), (M 1, aI (K 0) 1247 g), (M 17, aI (K 0) 2000 gwo), (M 18, aI (K 0) 2000 (va_up gx (mx.length : Int).toNat (lat u k)))]) rfl dX11_convert_243 (fun H locs G => ?_)
                    refine lv_aload_n F.1 F.2.1 dX11_convert_244 rfl (lv_at hl 0 rfl) ?_
                    refine lv_dup F.1 F.2.1 dX11_convert_245 rfl ?_
                    refine ad_get F G fl_X11_239 0 rfl rfl dX11_convert_246 ?_
                    refine ad_iconst F dX11_convert_249 ?_
                    refine ad_iadd F dX11_convert_250 ?_
                    refine ad_put F G fl_X11_239 0 rfl rfl rfl (Nat.le_of_ble_eq_true rfl) (ws' := [(m0, mO M xth xrm xsv xln xat xer xwr xwd xlo xhi (u.length : Int) ((mx.length : Int) + 1) xkl fi se xdn xon xtw xol xrw xgl xus xpr xmk xab), (M 1, aI (K 0) 1247 g), (M 17, aI (K 0) 2000 gwo), (M 18, aI (K 0) 2000 (va_up gx (mx.length : Int).toNat (lat u k)))]) rfl dX11_convert_251 (fun H locs G => ?_)
                    have hpl : (((mx ++ [lat u k]).length : Nat) : Int) = (mx.length : Int) + 1 := by simp
                    replace G := G.eq (ws' := [(m0, mO M xth xrm xsv xln xat xer xwr xwd xlo xhi (u.length : Int) ((mx ++ [lat u k]).length : Int) xkl fi se xdn xon xtw xol xrw xgl xus xpr xmk xab), (M 1, aI (K 0) 1247 g), (M 17, aI (K 0) 2000 gwo), (M 18, aI (K 0) 2000 (va_up gx (mx.length : Int).toNat (lat u k)))]) (by rw [hpl])
                    refine ad_iinc (lv' := [(5, .int (iI (k + 1))), (0, .ref m0), (1, .int (iI pl)), (2, .int (iI 0)), (3, .int (iI fr)), (4, .int (iI to))]) F dX11_convert_254 hl (k := 5) rfl (by decide) rfl (fun ls hl => ?_)
                    refine lv_goto (tgt := 221) F.1 F.2.1 dX11_convert_257 (by decide) ?_
                    exact ih221 (k + 1) (va_up gx (mx.length : Int).toNat (lat u k)) (mx ++ [lat u k]) A0 fi se fr to _ _ _ (by omega) hss hA hfr hto (by rw [sl_succ (by omega) (by omega) (by omega), hmx, List.append_assoc]) (Tx_push hTx _) (by omega) (G.perm (ws' := [(m0, mO M xth xrm xsv xln xat xer xwr xwd xlo xhi (u.length : Int) ((mx ++ [lat u k]).length : Int) xkl fi se xdn xon xtw xol xrw xgl xus xpr xmk xab), (M 1, aI (K 0) 1247 g), (M 17, aI (K 0) 2000 gwo), (M 18, aI (K 0) 2000 (va_up gx (mx.length : Int).toNat (lat u k)))]) [0, 1, 2, 3] rfl rfl) (lv_sub hl [1, 2, 3, 4, 5, 0] rfl)
              exact lp221 ((((((u.length : Int) - ((fmo (rget rs (bR rs u pl 2 0)) 0).length : Int)) - 0 : Int)) + 1).toNat) 0 gma2_227 m2_226 m2_226 (-1) (bR rs u pl 2 0) 0 ((u.length : Int) - ((fmo (rget rs (bR rs u pl 2 0)) 0).length : Int)) _ _ _ (by omega) hss (by rw [hc_228, List.nil_append]) hfr hto (by rw [sl_self, List.append_nil]) hc_229 (by omega) (G.perm (ws' := [(m0, mO M xth xrm xsv xln xat xer xwr xwd xlo xhi (u.length : Int) (m2_226.length : Int) xkl (-1) (bR rs u pl 2 0) xdn xon xtw xol xrw xgl xus xpr xmk xab), (M 1, aI (K 0) 1247 g), (M 17, aI (K 0) 2000 gwo), (M 18, aI (K 0) 2000 gma2_227)]) [0, 1, 2, 3] rfl rfl) (lv_sub hl [3, 4, 5, 2, 1, 0] rfl)
            · refine ad_iconst F dX11_convert_185 ?_
              refine lv_goto (tgt := 198) F.1 F.2.1 dX11_convert_186 (by decide) ?_
              refine ad_isub F dX11_convert_198 ?_
              refine lv_istore (lv' := [(4, .int (iI ((u.length : Int) - 0))), (3, .int (iI 0)), (0, .ref m0), (1, .int (iI pl)), (2, .int (iI 0))]) F.1 F.2.1 dX11_convert_199 hl (by decide) rfl (fun ls hl => ?_)
              refine lv_aload_n F.1 F.2.1 dX11_convert_201 rfl (lv_at hl 2 rfl) ?_
              refine lv_aload_n F.1 F.2.1 dX11_convert_202 rfl (lv_at hl 2 rfl) ?_
              refine ad_get F G fl_X11_249 0 rfl rfl dX11_convert_203 ?_
              refine lv_iload_n F.1 F.2.1 dX11_convert_206 rfl (lv_at hl 4 rfl) ?_
              refine ad_if_ne (tgt := 214) F (by decide) dX11_convert_207 (by decide) (fun cc_237 => absurd cc_237 (by decide)) (fun _ => ?_)
              refine ad_iconst F dX11_convert_210 ?_
              refine lv_goto (tgt := 215) F.1 F.2.1 dX11_convert_211 (by decide) ?_
              refine ad_callV (As := [.int (iI (-1)), .int (iI 1)]) (rest := []) F G (c_X11_addForm l D K z0 m0 M xth xrm xsv xln xat xer xwr xwd xlo xhi (u.length : Int) xkl (-1) (bR rs u pl 2 0) xdn xon xtw xol xrw xgl xus xpr xmk xab g gma rs ps md th nc ([] : List Int) (-1) 1 hM hW Tx_nil (by simp) (by omega) (by omega)) my_X11_addForm mv_X11_252 (wr := [(M 17, aI (K 0) 2000 gwo)]) (isC := [0, 1, 3]) (isR := [2]) ⟨rfl, rfl, rfl, rfl, by decide⟩ 11 0 rfl rfl rfl rfl ⟨Nat.le_of_ble_eq_true rfl, Nat.le_of_ble_eq_true rfl⟩ ⟨Nat.le_of_ble_eq_true rfl, Nat.le_of_ble_eq_true rfl⟩ (Nat.le_of_ble_eq_true rfl) hl.1 (cells9 := 0) (slots9 := 0) ⟨rfl, rfl⟩ dX11_convert_215 (fun v u H locs hw_238 G => ?_)
              obtain ⟨m2_239, gma2_240, rfl, hc_241, hc_242, rfl⟩ := hw_238
              replace G := G.perm (ws' := [(m0, mO M xth xrm xsv xln xat xer xwr xwd xlo xhi (u.length : Int) (m2_239.length : Int) xkl (-1) (bR rs u pl 2 0) xdn xon xtw xol xrw xgl xus xpr xmk xab), (M 1, aI (K 0) 1247 g), (M 17, aI (K 0) 2000 gwo), (M 18, aI (K 0) 2000 gma2_240)]) [1, 2, 0, 3] rfl rfl
              refine W.eq (g2 := F0 m9 218 ls []) rfl ?_
              refine lv_iload_n F.1 F.2.1 dX11_convert_218 rfl (lv_at hl 1 rfl) ?_
              refine lv_istore (lv' := [(5, .int (iI 0)), (4, .int (iI ((u.length : Int) - 0))), (3, .int (iI 0)), (0, .ref m0), (1, .int (iI pl)), (2, .int (iI 0))]) F.1 F.2.1 dX11_convert_219 hl (by decide) rfl (fun ls hl => ?_)
              have hfr : 0 = ((fmo (rget rs (-1)) 0).length : Int) := by first | rfl | (rw [show (-1) = -1 by omega, fmo_m1]; rfl)
              have hto : (u.length : Int) - 0 = (u.length : Int) - ((fmo (rget rs (bR rs u pl 2 0)) 0).length : Int) := by first | rfl | (rw [show (bR rs u pl 2 0) = -1 by omega, fmo_m1]; rfl)
              have hsl := spl_le rs u pl 0
              rw [hss.1, hss.2] at hsl
              have lp221 : ∀ (n221 : Nat) (k : Int) (gx : Nat → Int) (mx : List Int) (A0 : List Int) (fi : Int) (se : Int) (fr : Int) (to : Int) (H : Heap) (locs : List Loc) (ls : Array Slot), (0 ≤ fr ∧ fr ≤ k ∧ k ≤ to ∧ to ≤ u.length) → (spm rs u pl 0 = fi ∧ spe rs u pl 0 = se) → (A0 = (fmo (rget rs fi) 1)) → (fr = ((fmo (rget rs fi) 0).length : Int)) → (to = (u.length : Int) - ((fmo (rget rs se) 0).length : Int)) → (mx = A0 ++ sl u fr k) → (Tx gx mx) → (to - k) < (n221 : Int) → ad_G D A9 s9.heap H locs [(m0, mO M xth xrm xsv xln xat xer xwr xwd xlo xhi (u.length : Int) (mx.length : Int) xkl fi se xdn xon xtw xol xrw xgl xus xpr xmk xab), (M 1, aI (K 0) 1247 g), (M 17, aI (K 0) 2000 gwo), (M 18, aI (K 0) 2000 gx)] → lv_has ls 6 [(0, .ref m0), (1, .int (iI pl)), (2, .int (iI 0)), (3, .int (iI fr)), (4, .int (iI to)), (5, .int (iI k))] → W p9 l e9 rm_X11_convert_0 s9 m9 ag9 bl9 mt9 c9 H locs 0 0 Q9 (F0 m9 221 ls []) := by
                intro n221
                induction n221 with
                | zero =>
                  intro k gx mx A0 fi se fr to H locs ls hk hss hA hfr hto hmx hTx hm221
                  exact absurd hm221 (by omega)
                | succ n221 ih221 =>
                  intro k gx mx A0 fi se fr to H locs ls hk hss hA hfr hto hmx hTx hm221 G hl
                  have hA12 := fmo_len hW fi 1
                  have hmxl : (mx.length : Int) = A0.length + (k - fr) := by rw [hmx, List.length_append, Int.natCast_add, sl_len (by omega) (by omega) (by omega)]
                  have hAl : A0.length ≤ 12 := by rw [hA]; exact hA12
                  have hseb := spe_b rs u pl 0
                  refine lv_iload F.1 F.2.1 dX11_convert_221 (lv_at hl 5 rfl) ?_
                  refine lv_iload F.1 F.2.1 dX11_convert_223 (lv_at hl 4 rfl) ?_
                  refine ad_icmp_ge (tgt := 260) F (by omega) dX11_convert_225 (by decide) (fun cc_243 => ?_) (fun cc_243 => ?_)
                  · refine lv_aload_n F.1 F.2.1 dX11_convert_260 rfl (lv_at hl 0 rfl) ?_
                    refine lv_aload_n F.1 F.2.1 dX11_convert_261 rfl (lv_at hl 0 rfl) ?_
                    refine ad_get F G fl_X11_242 0 rfl rfl dX11_convert_262 ?_
                    refine lv_iload_n F.1 F.2.1 dX11_convert_265 rfl (lv_at hl 2 rfl) ?_
                    refine ad_if_ne (tgt := 273) F (by decide) dX11_convert_266 (by decide) (fun cc_244 => absurd cc_244 (by decide)) (fun _ => ?_)
                    refine ad_iconst F dX11_convert_269 ?_
                    refine lv_goto (tgt := 274) F.1 F.2.1 dX11_convert_270 (by decide) ?_
                    refine ad_callV (As := [.int (iI se), .int (iI 1)]) (rest := []) F G (c_X11_addForm l D K z0 m0 M xth xrm xsv xln xat xer xwr xwd xlo xhi (u.length : Int) xkl fi se xdn xon xtw xol xrw xgl xus xpr xmk xab g gx rs ps md th nc mx se 1 hM hW hTx (by omega) (by rw [← hss.2]; exact hseb) (by omega)) my_X11_addForm mv_X11_252 (wr := [(M 17, aI (K 0) 2000 gwo)]) (isC := [0, 1, 3]) (isR := [2]) ⟨rfl, rfl, rfl, rfl, by decide⟩ 11 0 rfl rfl rfl rfl ⟨Nat.le_of_ble_eq_true rfl, Nat.le_of_ble_eq_true rfl⟩ ⟨Nat.le_of_ble_eq_true rfl, Nat.le_of_ble_eq_true rfl⟩ (Nat.le_of_ble_eq_true rfl) hl.1 (cells9 := 0) (slots9 := 0) ⟨rfl, rfl⟩ dX11_convert_274 (fun v u H locs hw_245 G => ?_)
                    obtain ⟨m2_246, gma2_247, rfl, hc_248, hc_249, rfl⟩ := hw_245
                    replace G := G.perm (ws' := [(m0, mO M xth xrm xsv xln xat xer xwr xwd xlo xhi (u.length : Int) (m2_246.length : Int) xkl fi se xdn xon xtw xol xrw xgl xus xpr xmk xab), (M 1, aI (K 0) 1247 g), (M 17, aI (K 0) 2000 gwo), (M 18, aI (K 0) 2000 gma2_247)]) [1, 2, 0, 3] rfl rfl
                    refine W.eq (g2 := F0 m9 277 ls []) rfl ?_
                    exact ad_vreturn F G hR rfl (Nat.le_of_ble_eq_true rfl) (Nat.le_of_ble_eq_true rfl) ⟨m2_246, gma2_247, rfl, (by rw [hc_248, hmx, hA, spw_eq hss.1 hss.2, ← hfr, ← hto, show k = to by omega]; rfl), hc_249, (by rw [hss.1, hss.2])⟩ dX11_convert_277
                  · refine lv_aload_n F.1 F.2.1 dX11_convert_228 rfl (lv_at hl 0 rfl) ?_
                    refine ad_get F G fl_X11_42 0 rfl rfl dX11_convert_229 ?_
                    refine lv_aload_n F.1 F.2.1 dX11_convert_232 rfl (lv_at hl 0 rfl) ?_
                    refine ad_get F G fl_X11_239 0 rfl rfl dX11_convert_233 ?_
                    refine lv_aload_n F.1 F.2.1 dX11_convert_236 rfl (lv_at hl 0 rfl) ?_
                    refine ad_get F G fl_X11_39 0 rfl rfl dX11_convert_237 ?_
                    refine lv_iload F.1 F.2.1 dX11_convert_240 (lv_at hl 5 rfl) ?_
                    refine ad_iald F G 2 rfl (w := lat u k) (by omega) (Tx_at hTu (by omega) (by omega)) dX11_convert_242 ?_
                    refine ad_iast F G 3 rfl (by omega) (ws' := [(m0, mO M xth xrm xsv xln xat xer xwr xwd xlo xhi (u.length : Int) (mx.length : Int) xkl fi se xdn xon xtw xol xrw xgl xus xpr xmk xab), (M 1, aI (K 0) 1247 g), (M 17, aI (K 0) 2000 gwo), (M 18, aI (K 0) 2000 (va_up gx (mx.length : Int).toNat (lat u k)))]) rfl dX11_convert_243 (fun H locs G => ?_)
                    refine lv_aload_n F.1 F.2.1 dX11_convert_244 rfl (lv_at hl 0 rfl) ?_
                    refine lv_dup F.1 F.2.1 dX11_convert_245 rfl ?_
                    refine ad_get F G fl_X11_239 0 rfl rfl dX11_convert_246 ?_
                    refine ad_iconst F dX11_convert_249 ?_
                    refine ad_iadd F dX11_convert_250 ?_
                    refine ad_put F G fl_X11_239 0 rfl rfl rfl (Nat.le_of_ble_eq_true rfl) (ws' := [(m0, mO M xth xrm xsv xln xat xer xwr xwd xlo xhi (u.length : Int) ((mx.length : Int) + 1) xkl fi se xdn xon xtw xol xrw xgl xus xpr xmk xab), (M 1, aI (K 0) 1247 g), (M 17, aI (K 0) 2000 gwo), (M 18, aI (K 0) 2000 (va_up gx (mx.length : Int).toNat (lat u k)))]) rfl dX11_convert_251 (fun H locs G => ?_)
                    have hpl : (((mx ++ [lat u k]).length : Nat) : Int) = (mx.length : Int) + 1 := by simp
                    replace G := G.eq (ws' := [(m0, mO M xth xrm xsv xln xat xer xwr xwd xlo xhi (u.length : Int) ((mx ++ [lat u k]).length : Int) xkl fi se xdn xon xtw xol xrw xgl xus xpr xmk xab), (M 1, aI (K 0) 1247 g), (M 17, aI (K 0) 2000 gwo), (M 18, aI (K 0) 2000 (va_up gx (mx.length : Int).toNat (lat u k)))]) (by rw [hpl])
                    refine ad_iinc (lv' := [(5, .int (iI (k + 1))), (0, .ref m0), (1, .int (iI pl)), (2, .int (iI 0)), (3, .int (iI fr)), (4, .int (iI to))]) F dX11_convert_254 hl (k := 5) rfl (by decide) rfl (fun ls hl => ?_)
                    refine lv_goto (tgt := 221) F.1 F.2.1 dX11_convert_257 (by decide) ?_
                    exact ih221 (k + 1) (va_up gx (mx.length : Int).toNat (lat u k)) (mx ++ [lat u k]) A0 fi se fr to _ _ _ (by omega) hss hA hfr hto (by rw [sl_succ (by omega) (by omega) (by omega), hmx, List.append_assoc]) (Tx_push hTx _) (by omega) (G.perm (ws' := [(m0, mO M xth xrm xsv xln xat xer xwr xwd xlo xhi (u.length : Int) ((mx ++ [lat u k]).length : Int) xkl fi se xdn xon xtw xol xrw xgl xus xpr xmk xab), (M 1, aI (K 0) 1247 g), (M 17, aI (K 0) 2000 gwo), (M 18, aI (K 0) 2000 (va_up gx (mx.length : Int).toNat (lat u k)))]) [0, 1, 2, 3] rfl rfl) (lv_sub hl [1, 2, 3, 4, 5, 0] rfl)
              exact lp221 ((((((u.length : Int) - 0) - 0 : Int)) + 1).toNat) 0 gma2_240 m2_239 m2_239 (-1) (bR rs u pl 2 0) 0 ((u.length : Int) - 0) _ _ _ (by omega) hss (by rw [hc_241, List.nil_append]) hfr hto (by rw [sl_self, List.append_nil]) hc_242 (by omega) (G.perm (ws' := [(m0, mO M xth xrm xsv xln xat xer xwr xwd xlo xhi (u.length : Int) (m2_239.length : Int) xkl (-1) (bR rs u pl 2 0) xdn xon xtw xol xrw xgl xus xpr xmk xab), (M 1, aI (K 0) 1247 g), (M 17, aI (K 0) 2000 gwo), (M 18, aI (K 0) 2000 gma2_240)]) [0, 1, 2, 3] rfl rfl) (lv_sub hl [3, 4, 5, 2, 1, 0] rfl)
  · refine lv_aload_n F.1 F.2.1 dX11_convert_28 rfl (lv_at hl 0 rfl) ?_
    refine lv_aload_n F.1 F.2.1 dX11_convert_29 rfl (lv_at hl 0 rfl) ?_
    refine ad_get F G fl_X11_249 0 rfl rfl dX11_convert_30 ?_
    refine lv_iload_n F.1 F.2.1 dX11_convert_33 rfl (lv_at hl 2 rfl) ?_
    refine ad_if_ne (tgt := 41) F (by decide) dX11_convert_34 (by decide) (fun cc_250 => absurd cc_250 (by decide)) (fun _ => ?_)
    refine ad_iconst F dX11_convert_37 ?_
    refine lv_goto (tgt := 42) F.1 F.2.1 dX11_convert_38 (by decide) ?_
    refine ad_callV (As := [.int (iI (bR rs u pl 0 0)), .int (iI 1)]) (rest := []) F G (c_X11_addForm l D K z0 m0 M xth xrm xsv xln xat xer xwr xwd xlo xhi (u.length : Int) xkl (bR rs u pl 0 0) (-1) xdn xon xtw xol xrw xgl xus xpr xmk xab g gma rs ps md th nc ([] : List Int) (bR rs u pl 0 0) 1 hM hW Tx_nil (by simp) (by omega) (by omega)) my_X11_addForm mv_X11_252 (wr := [(M 17, aI (K 0) 2000 gwo)]) (isC := [0, 1, 3]) (isR := [2]) ⟨rfl, rfl, rfl, rfl, by decide⟩ 11 0 rfl rfl rfl rfl ⟨Nat.le_of_ble_eq_true rfl, Nat.le_of_ble_eq_true rfl⟩ ⟨Nat.le_of_ble_eq_true rfl, Nat.le_of_ble_eq_true rfl⟩ (Nat.le_of_ble_eq_true rfl) hl.1 (cells9 := 0) (slots9 := 0) ⟨rfl, rfl⟩ dX11_convert_42 (fun v u H locs hw_251 G => ?_)
    obtain ⟨m2_252, gma2_253, rfl, hc_254, hc_255, rfl⟩ := hw_251
    replace G := G.perm (ws' := [(m0, mO M xth xrm xsv xln xat xer xwr xwd xlo xhi (u.length : Int) (m2_252.length : Int) xkl (bR rs u pl 0 0) (-1) xdn xon xtw xol xrw xgl xus xpr xmk xab), (M 1, aI (K 0) 1247 g), (M 17, aI (K 0) 2000 gwo), (M 18, aI (K 0) 2000 gma2_253)]) [1, 2, 0, 3] rfl rfl
    refine W.eq (g2 := F0 m9 45 ls []) rfl ?_
    have hss := sp_0 cc_2
    exact ad_vreturn F G hR rfl (Nat.le_of_ble_eq_true rfl) (Nat.le_of_ble_eq_true rfl) ⟨m2_252, gma2_253, rfl, (by rw [hc_254, List.nil_append, hss.2.2]; rfl), hc_255, (by rw [hss.1, hss.2.1])⟩ dX11_convert_45

def rm_X11_convert_1 : Room := { frames := 5, cells := 0, slots := 0, locals := 109 }
set_option maxHeartbeats 4000000 in
set_option maxRecDepth 100000 in
theorem c_X11_convert_1 (l : Launch) (D : va_G) (K : Nat → ClassId) (z0 : Nat) (m0 : Nat) (M : Nat → Nat) (xth : Int) (xrm : Int) (xsv : Int) (xln : Int) (xat : Int) (xer : Int) (xwr : Int) (xwd : Int) (xlo : Int) (xhi : Int) (xkl : Int) (xdn : Int) (xon : Int) (xtw : Int) (xol : Int) (xrw : Int) (xgl : Int) (xus : Int) (xpr : Int) (xmk : Int) (xab : Int) (g : Nat → Int) (gwo : Nat → Int) (gma : Nat → Int) (rs : List Rl) (ps : List Pr) (md : Int) (th : Int) (nc : Int) (u : List Int) (xml : Int) (xfi : Int) (xse : Int) (pl : Int) (hM : MRow g rs ps md th nc) (hW : RW rs) (hTu : Tx gwo u) (hLu : Lt u) (hu : 1 ≤ u.length ∧ u.length ≤ 100) (hpl : 0 ≤ pl ∧ pl ≤ 2) : CT l D K z0 yX11_convert cX11_convert 6 none rm_X11_convert_1 [.ref m0, .int (iI pl), .int (iI 1)] [(m0, mO M xth xrm xsv xln xat xer xwr xwd xlo xhi (u.length : Int) xml xkl xfi xse xdn xon xtw xol xrw xgl xus xpr xmk xab), (M 1, aI (K 0) 1247 g), (M 17, aI (K 0) 2000 gwo), (M 18, aI (K 0) 2000 gma)] (fun v9 u9 => ∃ (m2 : List Int), ∃ (gma2 : Nat → Int), v9 = none ∧ (m2 = spw rs u pl 1) ∧ (Tx gma2 m2) ∧ u9 = [(m0, mO M xth xrm xsv xln xat xer xwr xwd xlo xhi (u.length : Int) (m2.length : Int) xkl (spm rs u pl 1) (spe rs u pl 1) xdn xon xtw xol xrw xgl xus xpr xmk xab), (M 1, aI (K 0) 1247 g), (M 17, aI (K 0) 2000 gwo), (M 18, aI (K 0) 2000 gma2)]) := by
  refine CT.start RX11 "convert" (by decide) rfl rfl (Nat.le_of_ble_eq_true rfl) ?_
  intro p9 e9 s9 m9 ag9 bl9 mt9 c9 A9 Q9 ls F G hR hl
  have hl : lv_has ls 6 [(0, .ref m0), (1, .int (iI pl)), (2, .int (iI 1))] := hl
  have hn := hW.1
  have hr0 := bR_b rs u pl 0 1
  have hr1 := bR_b rs u pl 1 1
  have hr2 := bR_b rs u pl 2 1
  have hx1 := fmo_len hW (bR rs u pl 1 1) 1
  have hx2 := fmo_len hW (bR rs u pl 2 1) 1
  refine lv_aload_n F.1 F.2.1 dX11_convert_0 rfl (lv_at hl 0 rfl) ?_
  refine ad_iconst F dX11_convert_1 ?_
  refine ad_put F G fl_X11_239 0 rfl rfl rfl (Nat.le_of_ble_eq_true rfl) (ws' := [(m0, mO M xth xrm xsv xln xat xer xwr xwd xlo xhi (u.length : Int) 0 xkl xfi xse xdn xon xtw xol xrw xgl xus xpr xmk xab), (M 1, aI (K 0) 1247 g), (M 17, aI (K 0) 2000 gwo), (M 18, aI (K 0) 2000 gma)]) rfl dX11_convert_2 (fun H locs G => ?_)
  replace G := G.eq (ws' := [(m0, mO M xth xrm xsv xln xat xer xwr xwd xlo xhi (u.length : Int) (([] : List Int).length : Int) xkl xfi xse xdn xon xtw xol xrw xgl xus xpr xmk xab), (M 1, aI (K 0) 1247 g), (M 17, aI (K 0) 2000 gwo), (M 18, aI (K 0) 2000 gma)]) (rfl)
  refine lv_aload_n F.1 F.2.1 dX11_convert_5 rfl (lv_at hl 0 rfl) ?_
  refine ad_iconst F dX11_convert_6 ?_
  refine ad_put F G fl_X11_242 0 rfl rfl rfl (Nat.le_of_ble_eq_true rfl) (ws' := [(m0, mO M xth xrm xsv xln xat xer xwr xwd xlo xhi (u.length : Int) (([] : List Int).length : Int) xkl xfi (-1) xdn xon xtw xol xrw xgl xus xpr xmk xab), (M 1, aI (K 0) 1247 g), (M 17, aI (K 0) 2000 gwo), (M 18, aI (K 0) 2000 gma)]) rfl dX11_convert_7 (fun H locs G => ?_)
  refine lv_aload_n F.1 F.2.1 dX11_convert_10 rfl (lv_at hl 0 rfl) ?_
  refine lv_aload_n F.1 F.2.1 dX11_convert_11 rfl (lv_at hl 0 rfl) ?_
  refine ad_iconst F dX11_convert_12 ?_
  refine lv_iload_n F.1 F.2.1 dX11_convert_13 rfl (lv_at hl 1 rfl) ?_
  refine lv_iload_n F.1 F.2.1 dX11_convert_14 rfl (lv_at hl 2 rfl) ?_
  refine ad_callV (As := [.int (iI 0), .int (iI pl), .int (iI 1)]) (rest := [.ref m0]) F G (c_X11_bestRule l D K z0 m0 M xth xrm xsv xln xat xer xwr xwd xlo xhi (([] : List Int).length : Int) xkl xfi (-1) xdn xon xtw xol xrw xgl xus xpr xmk xab g gwo rs ps md th nc u 0 pl 1 hM hW hTu hLu hu (by omega) hpl (by omega)) my_X11_bestRule mv_X11_245 (wr := [(M 18, aI (K 0) 2000 gma)]) (isC := [0, 1, 2]) (isR := [3]) ⟨rfl, rfl, rfl, rfl, by decide⟩ 11 0 rfl rfl rfl rfl ⟨Nat.le_of_ble_eq_true rfl, Nat.le_of_ble_eq_true rfl⟩ ⟨Nat.le_of_ble_eq_true rfl, Nat.le_of_ble_eq_true rfl⟩ (Nat.le_of_ble_eq_true rfl) hl.1 (cells9 := 0) (slots9 := 0) ⟨rfl, rfl⟩ dX11_convert_15 (fun v u H locs hw_1 G => ?_)
  obtain ⟨rfl, rfl⟩ := hw_1
  replace G := G.perm (ws' := [(m0, mO M xth xrm xsv xln xat xer xwr xwd xlo xhi (u.length : Int) (([] : List Int).length : Int) xkl xfi (-1) xdn xon xtw xol xrw xgl xus xpr xmk xab), (M 1, aI (K 0) 1247 g), (M 17, aI (K 0) 2000 gwo), (M 18, aI (K 0) 2000 gma)]) [1, 2, 3, 0] rfl rfl
  refine W.eq (g2 := F0 m9 18 ls [.int (iI (bR rs u pl 0 1)), .ref m0]) rfl ?_
  refine ad_put F G fl_X11_249 0 rfl rfl rfl (Nat.le_of_ble_eq_true rfl) (ws' := [(m0, mO M xth xrm xsv xln xat xer xwr xwd xlo xhi (u.length : Int) (([] : List Int).length : Int) xkl (bR rs u pl 0 1) (-1) xdn xon xtw xol xrw xgl xus xpr xmk xab), (M 1, aI (K 0) 1247 g), (M 17, aI (K 0) 2000 gwo), (M 18, aI (K 0) 2000 gma)]) rfl dX11_convert_18 (fun H locs G => ?_)
  refine lv_aload_n F.1 F.2.1 dX11_convert_21 rfl (lv_at hl 0 rfl) ?_
  refine ad_get F G fl_X11_249 0 rfl rfl dX11_convert_22 ?_
  refine ad_if_lt (tgt := 46) F (by omega) dX11_convert_25 (by decide) (fun cc_2 => ?_) (fun cc_2 => ?_)
  · refine lv_aload_n F.1 F.2.1 dX11_convert_46 rfl (lv_at hl 0 rfl) ?_
    refine lv_aload_n F.1 F.2.1 dX11_convert_47 rfl (lv_at hl 0 rfl) ?_
    refine ad_iconst F dX11_convert_48 ?_
    refine lv_iload_n F.1 F.2.1 dX11_convert_49 rfl (lv_at hl 1 rfl) ?_
    refine lv_iload_n F.1 F.2.1 dX11_convert_50 rfl (lv_at hl 2 rfl) ?_
    refine ad_callV (As := [.int (iI 1), .int (iI pl), .int (iI 1)]) (rest := [.ref m0]) F G (c_X11_bestRule l D K z0 m0 M xth xrm xsv xln xat xer xwr xwd xlo xhi (([] : List Int).length : Int) xkl (bR rs u pl 0 1) (-1) xdn xon xtw xol xrw xgl xus xpr xmk xab g gwo rs ps md th nc u 1 pl 1 hM hW hTu hLu hu (by omega) hpl (by omega)) my_X11_bestRule mv_X11_245 (wr := [(M 18, aI (K 0) 2000 gma)]) (isC := [0, 1, 2]) (isR := [3]) ⟨rfl, rfl, rfl, rfl, by decide⟩ 11 0 rfl rfl rfl rfl ⟨Nat.le_of_ble_eq_true rfl, Nat.le_of_ble_eq_true rfl⟩ ⟨Nat.le_of_ble_eq_true rfl, Nat.le_of_ble_eq_true rfl⟩ (Nat.le_of_ble_eq_true rfl) hl.1 (cells9 := 0) (slots9 := 0) ⟨rfl, rfl⟩ dX11_convert_51 (fun v u H locs hw_3 G => ?_)
    obtain ⟨rfl, rfl⟩ := hw_3
    replace G := G.perm (ws' := [(m0, mO M xth xrm xsv xln xat xer xwr xwd xlo xhi (u.length : Int) (([] : List Int).length : Int) xkl (bR rs u pl 0 1) (-1) xdn xon xtw xol xrw xgl xus xpr xmk xab), (M 1, aI (K 0) 1247 g), (M 17, aI (K 0) 2000 gwo), (M 18, aI (K 0) 2000 gma)]) [1, 2, 3, 0] rfl rfl
    refine W.eq (g2 := F0 m9 54 ls [.int (iI (bR rs u pl 1 1)), .ref m0]) rfl ?_
    refine ad_put F G fl_X11_249 0 rfl rfl rfl (Nat.le_of_ble_eq_true rfl) (ws' := [(m0, mO M xth xrm xsv xln xat xer xwr xwd xlo xhi (u.length : Int) (([] : List Int).length : Int) xkl (bR rs u pl 1 1) (-1) xdn xon xtw xol xrw xgl xus xpr xmk xab), (M 1, aI (K 0) 1247 g), (M 17, aI (K 0) 2000 gwo), (M 18, aI (K 0) 2000 gma)]) rfl dX11_convert_54 (fun H locs G => ?_)
    refine lv_aload_n F.1 F.2.1 dX11_convert_57 rfl (lv_at hl 0 rfl) ?_
    refine lv_aload_n F.1 F.2.1 dX11_convert_58 rfl (lv_at hl 0 rfl) ?_
    refine ad_iconst F dX11_convert_59 ?_
    refine lv_iload_n F.1 F.2.1 dX11_convert_60 rfl (lv_at hl 1 rfl) ?_
    refine lv_iload_n F.1 F.2.1 dX11_convert_61 rfl (lv_at hl 2 rfl) ?_
    refine ad_callV (As := [.int (iI 2), .int (iI pl), .int (iI 1)]) (rest := [.ref m0]) F G (c_X11_bestRule l D K z0 m0 M xth xrm xsv xln xat xer xwr xwd xlo xhi (([] : List Int).length : Int) xkl (bR rs u pl 1 1) (-1) xdn xon xtw xol xrw xgl xus xpr xmk xab g gwo rs ps md th nc u 2 pl 1 hM hW hTu hLu hu (by omega) hpl (by omega)) my_X11_bestRule mv_X11_245 (wr := [(M 18, aI (K 0) 2000 gma)]) (isC := [0, 1, 2]) (isR := [3]) ⟨rfl, rfl, rfl, rfl, by decide⟩ 11 0 rfl rfl rfl rfl ⟨Nat.le_of_ble_eq_true rfl, Nat.le_of_ble_eq_true rfl⟩ ⟨Nat.le_of_ble_eq_true rfl, Nat.le_of_ble_eq_true rfl⟩ (Nat.le_of_ble_eq_true rfl) hl.1 (cells9 := 0) (slots9 := 0) ⟨rfl, rfl⟩ dX11_convert_62 (fun v u H locs hw_4 G => ?_)
    obtain ⟨rfl, rfl⟩ := hw_4
    replace G := G.perm (ws' := [(m0, mO M xth xrm xsv xln xat xer xwr xwd xlo xhi (u.length : Int) (([] : List Int).length : Int) xkl (bR rs u pl 1 1) (-1) xdn xon xtw xol xrw xgl xus xpr xmk xab), (M 1, aI (K 0) 1247 g), (M 17, aI (K 0) 2000 gwo), (M 18, aI (K 0) 2000 gma)]) [1, 2, 3, 0] rfl rfl
    refine W.eq (g2 := F0 m9 65 ls [.int (iI (bR rs u pl 2 1)), .ref m0]) rfl ?_
    refine ad_put F G fl_X11_242 0 rfl rfl rfl (Nat.le_of_ble_eq_true rfl) (ws' := [(m0, mO M xth xrm xsv xln xat xer xwr xwd xlo xhi (u.length : Int) (([] : List Int).length : Int) xkl (bR rs u pl 1 1) (bR rs u pl 2 1) xdn xon xtw xol xrw xgl xus xpr xmk xab), (M 1, aI (K 0) 1247 g), (M 17, aI (K 0) 2000 gwo), (M 18, aI (K 0) 2000 gma)]) rfl dX11_convert_65 (fun H locs G => ?_)
    refine lv_aload_n F.1 F.2.1 dX11_convert_68 rfl (lv_at hl 0 rfl) ?_
    refine ad_get F G fl_X11_249 0 rfl rfl dX11_convert_69 ?_
    refine ad_if_lt (tgt := 153) F (by omega) dX11_convert_72 (by decide) (fun cc_5 => ?_) (fun cc_5 => ?_)
    · have hss : spm rs u pl 1 = bR rs u pl 1 1 ∧ spe rs u pl 1 = bR rs u pl 2 1 := sp_n cc_2 (by omega)
      refine lv_aload_n F.1 F.2.1 dX11_convert_153 rfl (lv_at hl 0 rfl) ?_
      refine ad_get F G fl_X11_249 0 rfl rfl dX11_convert_154 ?_
      refine ad_if_ge (tgt := 164) F (by omega) dX11_convert_157 (by decide) (fun cc_6 => ?_) (fun cc_6 => ?_)
      · refine lv_aload_n F.1 F.2.1 dX11_convert_164 rfl (lv_at hl 0 rfl) ?_
        refine lv_aload_n F.1 F.2.1 dX11_convert_165 rfl (lv_at hl 0 rfl) ?_
        refine ad_get F G fl_X11_249 0 rfl rfl dX11_convert_166 ?_
        refine lv_iload_n F.1 F.2.1 dX11_convert_169 rfl (lv_at hl 2 rfl) ?_
        refine ad_callV (As := [.int (iI (bR rs u pl 1 1)), .int (iI 1)]) (rest := []) F G (c_X11_lengthOf l D K z0 m0 M xth xrm xsv xln xat xer xwr xwd xlo xhi (u.length : Int) (([] : List Int).length : Int) xkl (bR rs u pl 1 1) (bR rs u pl 2 1) xdn xon xtw xol xrw xgl xus xpr xmk xab g rs ps md th nc (bR rs u pl 1 1) 1 hM hW (by omega) (by omega)) my_X11_lengthOf mv_X11_185 (wr := [(M 17, aI (K 0) 2000 gwo), (M 18, aI (K 0) 2000 gma)]) (isC := [0, 1]) (isR := [2, 3]) ⟨rfl, rfl, rfl, rfl, by decide⟩ 11 0 rfl rfl rfl rfl ⟨Nat.le_of_ble_eq_true rfl, Nat.le_of_ble_eq_true rfl⟩ ⟨Nat.le_of_ble_eq_true rfl, Nat.le_of_ble_eq_true rfl⟩ (Nat.le_of_ble_eq_true rfl) hl.1 (cells9 := 0) (slots9 := 0) ⟨rfl, rfl⟩ dX11_convert_170 (fun v u H locs hw_7 G => ?_)
        obtain ⟨rfl, rfl⟩ := hw_7
        replace G := G.perm (ws' := [(m0, mO M xth xrm xsv xln xat xer xwr xwd xlo xhi (u.length : Int) (([] : List Int).length : Int) xkl (bR rs u pl 1 1) (bR rs u pl 2 1) xdn xon xtw xol xrw xgl xus xpr xmk xab), (M 1, aI (K 0) 1247 g), (M 17, aI (K 0) 2000 gwo), (M 18, aI (K 0) 2000 gma)]) [2, 3, 0, 1] rfl rfl
        refine W.eq (g2 := F0 m9 173 ls [.int (iI ((fmo (rget rs (bR rs u pl 1 1)) 1).length : Int))]) rfl ?_
        refine lv_istore_n (lv' := [(3, .int (iI ((fmo (rget rs (bR rs u pl 1 1)) 1).length : Int))), (0, .ref m0), (1, .int (iI pl)), (2, .int (iI 1))]) F.1 F.2.1 dX11_convert_173 rfl hl (by decide) rfl (fun ls hl => ?_)
        refine lv_aload_n F.1 F.2.1 dX11_convert_174 rfl (lv_at hl 1 rfl) ?_
        refine ad_get F G fl_X11_233 0 rfl rfl dX11_convert_175 ?_
        refine lv_aload_n F.1 F.2.1 dX11_convert_178 rfl (lv_at hl 1 rfl) ?_
        refine ad_get F G fl_X11_242 0 rfl rfl dX11_convert_179 ?_
        refine ad_if_ge (tgt := 189) F (by omega) dX11_convert_182 (by decide) (fun cc_8 => ?_) (fun cc_8 => ?_)
        · refine lv_aload_n F.1 F.2.1 dX11_convert_189 rfl (lv_at hl 1 rfl) ?_
          refine lv_aload_n F.1 F.2.1 dX11_convert_190 rfl (lv_at hl 1 rfl) ?_
          refine ad_get F G fl_X11_242 0 rfl rfl dX11_convert_191 ?_
          refine lv_iload_n F.1 F.2.1 dX11_convert_194 rfl (lv_at hl 3 rfl) ?_
          refine ad_callV (As := [.int (iI (bR rs u pl 2 1)), .int (iI 1)]) (rest := [.int (iI (u.length : Int))]) F G (c_X11_lengthOf l D K z0 m0 M xth xrm xsv xln xat xer xwr xwd xlo xhi (u.length : Int) (([] : List Int).length : Int) xkl (bR rs u pl 1 1) (bR rs u pl 2 1) xdn xon xtw xol xrw xgl xus xpr xmk xab g rs ps md th nc (bR rs u pl 2 1) 1 hM hW (by omega) (by omega)) my_X11_lengthOf mv_X11_185 (wr := [(M 17, aI (K 0) 2000 gwo), (M 18, aI (K 0) 2000 gma)]) (isC := [0, 1]) (isR := [2, 3]) ⟨rfl, rfl, rfl, rfl, by decide⟩ 11 0 rfl rfl rfl rfl ⟨Nat.le_of_ble_eq_true rfl, Nat.le_of_ble_eq_true rfl⟩ ⟨Nat.le_of_ble_eq_true rfl, Nat.le_of_ble_eq_true rfl⟩ (Nat.le_of_ble_eq_true rfl) hl.1 (cells9 := 0) (slots9 := 0) ⟨rfl, rfl⟩ dX11_convert_195 (fun v u H locs hw_9 G => ?_)
          obtain ⟨rfl, rfl⟩ := hw_9
          replace G := G.perm (ws' := [(m0, mO M xth xrm xsv xln xat xer xwr xwd xlo xhi (u.length : Int) (([] : List Int).length : Int) xkl (bR rs u pl 1 1) (bR rs u pl 2 1) xdn xon xtw xol xrw xgl xus xpr xmk xab), (M 1, aI (K 0) 1247 g), (M 17, aI (K 0) 2000 gwo), (M 18, aI (K 0) 2000 gma)]) [2, 3, 0, 1] rfl rfl
          refine W.eq (g2 := F0 m9 198 ls [.int (iI ((fmo (rget rs (bR rs u pl 2 1)) 1).length : Int)), .int (iI (u.length : Int))]) rfl ?_
          refine ad_isub F dX11_convert_198 ?_
          refine lv_istore (lv' := [(4, .int (iI ((u.length : Int) - ((fmo (rget rs (bR rs u pl 2 1)) 1).length : Int)))), (3, .int (iI ((fmo (rget rs (bR rs u pl 1 1)) 1).length : Int))), (0, .ref m0), (1, .int (iI pl)), (2, .int (iI 1))]) F.1 F.2.1 dX11_convert_199 hl (by decide) rfl (fun ls hl => ?_)
          refine lv_aload_n F.1 F.2.1 dX11_convert_201 rfl (lv_at hl 2 rfl) ?_
          refine lv_aload_n F.1 F.2.1 dX11_convert_202 rfl (lv_at hl 2 rfl) ?_
          refine ad_get F G fl_X11_249 0 rfl rfl dX11_convert_203 ?_
          refine lv_iload_n F.1 F.2.1 dX11_convert_206 rfl (lv_at hl 4 rfl) ?_
          refine ad_if_ne (tgt := 214) F (by decide) dX11_convert_207 (by decide) (fun _ => ?_) (fun cc_10 => absurd cc_10 (by decide))
          refine ad_iconst F dX11_convert_214 ?_
          refine ad_callV (As := [.int (iI (bR rs u pl 1 1)), .int (iI 0)]) (rest := []) F G (c_X11_addForm l D K z0 m0 M xth xrm xsv xln xat xer xwr xwd xlo xhi (u.length : Int) xkl (bR rs u pl 1 1) (bR rs u pl 2 1) xdn xon xtw xol xrw xgl xus xpr xmk xab g gma rs ps md th nc ([] : List Int) (bR rs u pl 1 1) 0 hM hW Tx_nil (by simp) (by omega) (by omega)) my_X11_addForm mv_X11_252 (wr := [(M 17, aI (K 0) 2000 gwo)]) (isC := [0, 1, 3]) (isR := [2]) ⟨rfl, rfl, rfl, rfl, by decide⟩ 11 0 rfl rfl rfl rfl ⟨Nat.le_of_ble_eq_true rfl, Nat.le_of_ble_eq_true rfl⟩ ⟨Nat.le_of_ble_eq_true rfl, Nat.le_of_ble_eq_true rfl⟩ (Nat.le_of_ble_eq_true rfl) hl.1 (cells9 := 0) (slots9 := 0) ⟨rfl, rfl⟩ dX11_convert_215 (fun v u H locs hw_11 G => ?_)
          obtain ⟨m2_12, gma2_13, rfl, hc_14, hc_15, rfl⟩ := hw_11
          replace G := G.perm (ws' := [(m0, mO M xth xrm xsv xln xat xer xwr xwd xlo xhi (u.length : Int) (m2_12.length : Int) xkl (bR rs u pl 1 1) (bR rs u pl 2 1) xdn xon xtw xol xrw xgl xus xpr xmk xab), (M 1, aI (K 0) 1247 g), (M 17, aI (K 0) 2000 gwo), (M 18, aI (K 0) 2000 gma2_13)]) [1, 2, 0, 3] rfl rfl
          refine W.eq (g2 := F0 m9 218 ls []) rfl ?_
          refine lv_iload_n F.1 F.2.1 dX11_convert_218 rfl (lv_at hl 1 rfl) ?_
          refine lv_istore (lv' := [(5, .int (iI ((fmo (rget rs (bR rs u pl 1 1)) 1).length : Int))), (4, .int (iI ((u.length : Int) - ((fmo (rget rs (bR rs u pl 2 1)) 1).length : Int)))), (3, .int (iI ((fmo (rget rs (bR rs u pl 1 1)) 1).length : Int))), (0, .ref m0), (1, .int (iI pl)), (2, .int (iI 1))]) F.1 F.2.1 dX11_convert_219 hl (by decide) rfl (fun ls hl => ?_)
          have hfr : ((fmo (rget rs (bR rs u pl 1 1)) 1).length : Int) = ((fmo (rget rs (bR rs u pl 1 1)) 1).length : Int) := by first | rfl | (rw [show (bR rs u pl 1 1) = -1 by omega, fmo_m1]; rfl)
          have hto : (u.length : Int) - ((fmo (rget rs (bR rs u pl 2 1)) 1).length : Int) = (u.length : Int) - ((fmo (rget rs (bR rs u pl 2 1)) 1).length : Int) := by first | rfl | (rw [show (bR rs u pl 2 1) = -1 by omega, fmo_m1]; rfl)
          have hsl := spl_le rs u pl 1
          rw [hss.1, hss.2] at hsl
          have lp221 : ∀ (n221 : Nat) (k : Int) (gx : Nat → Int) (mx : List Int) (A0 : List Int) (fi : Int) (se : Int) (fr : Int) (to : Int) (H : Heap) (locs : List Loc) (ls : Array Slot), (0 ≤ fr ∧ fr ≤ k ∧ k ≤ to ∧ to ≤ u.length) → (spm rs u pl 1 = fi ∧ spe rs u pl 1 = se) → (A0 = (fmo (rget rs fi) 0)) → (fr = ((fmo (rget rs fi) 1).length : Int)) → (to = (u.length : Int) - ((fmo (rget rs se) 1).length : Int)) → (mx = A0 ++ sl u fr k) → (Tx gx mx) → (to - k) < (n221 : Int) → ad_G D A9 s9.heap H locs [(m0, mO M xth xrm xsv xln xat xer xwr xwd xlo xhi (u.length : Int) (mx.length : Int) xkl fi se xdn xon xtw xol xrw xgl xus xpr xmk xab), (M 1, aI (K 0) 1247 g), (M 17, aI (K 0) 2000 gwo), (M 18, aI (K 0) 2000 gx)] → lv_has ls 6 [(0, .ref m0), (1, .int (iI pl)), (2, .int (iI 1)), (3, .int (iI fr)), (4, .int (iI to)), (5, .int (iI k))] → W p9 l e9 rm_X11_convert_1 s9 m9 ag9 bl9 mt9 c9 H locs 0 0 Q9 (F0 m9 221 ls []) := by
            intro n221
            induction n221 with
            | zero =>
              intro k gx mx A0 fi se fr to H locs ls hk hss hA hfr hto hmx hTx hm221
              exact absurd hm221 (by omega)
            | succ n221 ih221 =>
              intro k gx mx A0 fi se fr to H locs ls hk hss hA hfr hto hmx hTx hm221 G hl
              have hA12 := fmo_len hW fi 0
              have hmxl : (mx.length : Int) = A0.length + (k - fr) := by rw [hmx, List.length_append, Int.natCast_add, sl_len (by omega) (by omega) (by omega)]
              have hAl : A0.length ≤ 12 := by rw [hA]; exact hA12
              have hseb := spe_b rs u pl 1
              refine lv_iload F.1 F.2.1 dX11_convert_221 (lv_at hl 5 rfl) ?_
              refine lv_iload F.1 F.2.1 dX11_convert_223 (lv_at hl 4 rfl) ?_
              refine ad_icmp_ge (tgt := 260) F (by omega) dX11_convert_225 (by decide) (fun cc_16 => ?_) (fun cc_16 => ?_)
              · refine lv_aload_n F.1 F.2.1 dX11_convert_260 rfl (lv_at hl 0 rfl) ?_
                refine lv_aload_n F.1 F.2.1 dX11_convert_261 rfl (lv_at hl 0 rfl) ?_
                refine ad_get F G fl_X11_242 0 rfl rfl dX11_convert_262 ?_
                refine lv_iload_n F.1 F.2.1 dX11_convert_265 rfl (lv_at hl 2 rfl) ?_
                refine ad_if_ne (tgt := 273) F (by decide) dX11_convert_266 (by decide) (fun _ => ?_) (fun cc_17 => absurd cc_17 (by decide))
                refine ad_iconst F dX11_convert_273 ?_
                refine ad_callV (As := [.int (iI se), .int (iI 0)]) (rest := []) F G (c_X11_addForm l D K z0 m0 M xth xrm xsv xln xat xer xwr xwd xlo xhi (u.length : Int) xkl fi se xdn xon xtw xol xrw xgl xus xpr xmk xab g gx rs ps md th nc mx se 0 hM hW hTx (by omega) (by rw [← hss.2]; exact hseb) (by omega)) my_X11_addForm mv_X11_252 (wr := [(M 17, aI (K 0) 2000 gwo)]) (isC := [0, 1, 3]) (isR := [2]) ⟨rfl, rfl, rfl, rfl, by decide⟩ 11 0 rfl rfl rfl rfl ⟨Nat.le_of_ble_eq_true rfl, Nat.le_of_ble_eq_true rfl⟩ ⟨Nat.le_of_ble_eq_true rfl, Nat.le_of_ble_eq_true rfl⟩ (Nat.le_of_ble_eq_true rfl) hl.1 (cells9 := 0) (slots9 := 0) ⟨rfl, rfl⟩ dX11_convert_274 (fun v u H locs hw_18 G => ?_)
                obtain ⟨m2_19, gma2_20, rfl, hc_21, hc_22, rfl⟩ := hw_18
                replace G := G.perm (ws' := [(m0, mO M xth xrm xsv xln xat xer xwr xwd xlo xhi (u.length : Int) (m2_19.length : Int) xkl fi se xdn xon xtw xol xrw xgl xus xpr xmk xab), (M 1, aI (K 0) 1247 g), (M 17, aI (K 0) 2000 gwo), (M 18, aI (K 0) 2000 gma2_20)]) [1, 2, 0, 3] rfl rfl
                refine W.eq (g2 := F0 m9 277 ls []) rfl ?_
                exact ad_vreturn F G hR rfl (Nat.le_of_ble_eq_true rfl) (Nat.le_of_ble_eq_true rfl) ⟨m2_19, gma2_20, rfl, (by rw [hc_21, hmx, hA, spw_eq hss.1 hss.2, ← hfr, ← hto, show k = to by omega]; rfl), hc_22, (by rw [hss.1, hss.2])⟩ dX11_convert_277
              · refine lv_aload_n F.1 F.2.1 dX11_convert_228 rfl (lv_at hl 0 rfl) ?_
                refine ad_get F G fl_X11_42 0 rfl rfl dX11_convert_229 ?_
                refine lv_aload_n F.1 F.2.1 dX11_convert_232 rfl (lv_at hl 0 rfl) ?_
                refine ad_get F G fl_X11_239 0 rfl rfl dX11_convert_233 ?_
                refine lv_aload_n F.1 F.2.1 dX11_convert_236 rfl (lv_at hl 0 rfl) ?_
                refine ad_get F G fl_X11_39 0 rfl rfl dX11_convert_237 ?_
                refine lv_iload F.1 F.2.1 dX11_convert_240 (lv_at hl 5 rfl) ?_
                refine ad_iald F G 2 rfl (w := lat u k) (by omega) (Tx_at hTu (by omega) (by omega)) dX11_convert_242 ?_
                refine ad_iast F G 3 rfl (by omega) (ws' := [(m0, mO M xth xrm xsv xln xat xer xwr xwd xlo xhi (u.length : Int) (mx.length : Int) xkl fi se xdn xon xtw xol xrw xgl xus xpr xmk xab), (M 1, aI (K 0) 1247 g), (M 17, aI (K 0) 2000 gwo), (M 18, aI (K 0) 2000 (va_up gx (mx.length : Int).toNat (lat u k)))]) rfl dX11_convert_243 (fun H locs G => ?_)
                refine lv_aload_n F.1 F.2.1 dX11_convert_244 rfl (lv_at hl 0 rfl) ?_
                refine lv_dup F.1 F.2.1 dX11_convert_245 rfl ?_
                refine ad_get F G fl_X11_239 0 rfl rfl dX11_convert_246 ?_
                refine ad_iconst F dX11_convert_249 ?_
                refine ad_iadd F dX11_convert_250 ?_
                refine ad_put F G fl_X11_239 0 rfl rfl rfl (Nat.le_of_ble_eq_true rfl) (ws' := [(m0, mO M xth xrm xsv xln xat xer xwr xwd xlo xhi (u.length : Int) ((mx.length : Int) + 1) xkl fi se xdn xon xtw xol xrw xgl xus xpr xmk xab), (M 1, aI (K 0) 1247 g), (M 17, aI (K 0) 2000 gwo), (M 18, aI (K 0) 2000 (va_up gx (mx.length : Int).toNat (lat u k)))]) rfl dX11_convert_251 (fun H locs G => ?_)
                have hpl : (((mx ++ [lat u k]).length : Nat) : Int) = (mx.length : Int) + 1 := by simp
                replace G := G.eq (ws' := [(m0, mO M xth xrm xsv xln xat xer xwr xwd xlo xhi (u.length : Int) ((mx ++ [lat u k]).length : Int) xkl fi se xdn xon xtw xol xrw xgl xus xpr xmk xab), (M 1, aI (K 0) 1247 g), (M 17, aI (K 0) 2000 gwo), (M 18, aI (K 0) 2000 (va_up gx (mx.length : Int).toNat (lat u k)))]) (by rw [hpl])
                refine ad_iinc (lv' := [(5, .int (iI (k + 1))), (0, .ref m0), (1, .int (iI pl)), (2, .int (iI 1)), (3, .int (iI fr)), (4, .int (iI to))]) F dX11_convert_254 hl (k := 5) rfl (by decide) rfl (fun ls hl => ?_)
                refine lv_goto (tgt := 221) F.1 F.2.1 dX11_convert_257 (by decide) ?_
                exact ih221 (k + 1) (va_up gx (mx.length : Int).toNat (lat u k)) (mx ++ [lat u k]) A0 fi se fr to _ _ _ (by omega) hss hA hfr hto (by rw [sl_succ (by omega) (by omega) (by omega), hmx, List.append_assoc]) (Tx_push hTx _) (by omega) (G.perm (ws' := [(m0, mO M xth xrm xsv xln xat xer xwr xwd xlo xhi (u.length : Int) ((mx ++ [lat u k]).length : Int) xkl fi se xdn xon xtw xol xrw xgl xus xpr xmk xab), (M 1, aI (K 0) 1247 g), (M 17, aI (K 0) 2000 gwo), (M 18, aI (K 0) 2000 (va_up gx (mx.length : Int).toNat (lat u k)))]) [0, 1, 2, 3] rfl rfl) (lv_sub hl [1, 2, 3, 4, 5, 0] rfl)
          exact lp221 ((((((u.length : Int) - ((fmo (rget rs (bR rs u pl 2 1)) 1).length : Int)) - ((fmo (rget rs (bR rs u pl 1 1)) 1).length : Int) : Int)) + 1).toNat) ((fmo (rget rs (bR rs u pl 1 1)) 1).length : Int) gma2_13 m2_12 m2_12 (bR rs u pl 1 1) (bR rs u pl 2 1) ((fmo (rget rs (bR rs u pl 1 1)) 1).length : Int) ((u.length : Int) - ((fmo (rget rs (bR rs u pl 2 1)) 1).length : Int)) _ _ _ (by omega) hss (by rw [hc_14, List.nil_append]) hfr hto (by rw [sl_self, List.append_nil]) hc_15 (by omega) (G.perm (ws' := [(m0, mO M xth xrm xsv xln xat xer xwr xwd xlo xhi (u.length : Int) (m2_12.length : Int) xkl (bR rs u pl 1 1) (bR rs u pl 2 1) xdn xon xtw xol xrw xgl xus xpr xmk xab), (M 1, aI (K 0) 1247 g), (M 17, aI (K 0) 2000 gwo), (M 18, aI (K 0) 2000 gma2_13)]) [0, 1, 2, 3] rfl rfl) (lv_sub hl [3, 4, 5, 2, 1, 0] rfl)
        · refine ad_iconst F dX11_convert_185 ?_
          refine lv_goto (tgt := 198) F.1 F.2.1 dX11_convert_186 (by decide) ?_
          refine ad_isub F dX11_convert_198 ?_
          refine lv_istore (lv' := [(4, .int (iI ((u.length : Int) - 0))), (3, .int (iI ((fmo (rget rs (bR rs u pl 1 1)) 1).length : Int))), (0, .ref m0), (1, .int (iI pl)), (2, .int (iI 1))]) F.1 F.2.1 dX11_convert_199 hl (by decide) rfl (fun ls hl => ?_)
          refine lv_aload_n F.1 F.2.1 dX11_convert_201 rfl (lv_at hl 2 rfl) ?_
          refine lv_aload_n F.1 F.2.1 dX11_convert_202 rfl (lv_at hl 2 rfl) ?_
          refine ad_get F G fl_X11_249 0 rfl rfl dX11_convert_203 ?_
          refine lv_iload_n F.1 F.2.1 dX11_convert_206 rfl (lv_at hl 4 rfl) ?_
          refine ad_if_ne (tgt := 214) F (by decide) dX11_convert_207 (by decide) (fun _ => ?_) (fun cc_23 => absurd cc_23 (by decide))
          refine ad_iconst F dX11_convert_214 ?_
          refine ad_callV (As := [.int (iI (bR rs u pl 1 1)), .int (iI 0)]) (rest := []) F G (c_X11_addForm l D K z0 m0 M xth xrm xsv xln xat xer xwr xwd xlo xhi (u.length : Int) xkl (bR rs u pl 1 1) (bR rs u pl 2 1) xdn xon xtw xol xrw xgl xus xpr xmk xab g gma rs ps md th nc ([] : List Int) (bR rs u pl 1 1) 0 hM hW Tx_nil (by simp) (by omega) (by omega)) my_X11_addForm mv_X11_252 (wr := [(M 17, aI (K 0) 2000 gwo)]) (isC := [0, 1, 3]) (isR := [2]) ⟨rfl, rfl, rfl, rfl, by decide⟩ 11 0 rfl rfl rfl rfl ⟨Nat.le_of_ble_eq_true rfl, Nat.le_of_ble_eq_true rfl⟩ ⟨Nat.le_of_ble_eq_true rfl, Nat.le_of_ble_eq_true rfl⟩ (Nat.le_of_ble_eq_true rfl) hl.1 (cells9 := 0) (slots9 := 0) ⟨rfl, rfl⟩ dX11_convert_215 (fun v u H locs hw_24 G => ?_)
          obtain ⟨m2_25, gma2_26, rfl, hc_27, hc_28, rfl⟩ := hw_24
          replace G := G.perm (ws' := [(m0, mO M xth xrm xsv xln xat xer xwr xwd xlo xhi (u.length : Int) (m2_25.length : Int) xkl (bR rs u pl 1 1) (bR rs u pl 2 1) xdn xon xtw xol xrw xgl xus xpr xmk xab), (M 1, aI (K 0) 1247 g), (M 17, aI (K 0) 2000 gwo), (M 18, aI (K 0) 2000 gma2_26)]) [1, 2, 0, 3] rfl rfl
          refine W.eq (g2 := F0 m9 218 ls []) rfl ?_
          refine lv_iload_n F.1 F.2.1 dX11_convert_218 rfl (lv_at hl 1 rfl) ?_
          refine lv_istore (lv' := [(5, .int (iI ((fmo (rget rs (bR rs u pl 1 1)) 1).length : Int))), (4, .int (iI ((u.length : Int) - 0))), (3, .int (iI ((fmo (rget rs (bR rs u pl 1 1)) 1).length : Int))), (0, .ref m0), (1, .int (iI pl)), (2, .int (iI 1))]) F.1 F.2.1 dX11_convert_219 hl (by decide) rfl (fun ls hl => ?_)
          have hfr : ((fmo (rget rs (bR rs u pl 1 1)) 1).length : Int) = ((fmo (rget rs (bR rs u pl 1 1)) 1).length : Int) := by first | rfl | (rw [show (bR rs u pl 1 1) = -1 by omega, fmo_m1]; rfl)
          have hto : (u.length : Int) - 0 = (u.length : Int) - ((fmo (rget rs (bR rs u pl 2 1)) 1).length : Int) := by first | rfl | (rw [show (bR rs u pl 2 1) = -1 by omega, fmo_m1]; rfl)
          have hsl := spl_le rs u pl 1
          rw [hss.1, hss.2] at hsl
          have lp221 : ∀ (n221 : Nat) (k : Int) (gx : Nat → Int) (mx : List Int) (A0 : List Int) (fi : Int) (se : Int) (fr : Int) (to : Int) (H : Heap) (locs : List Loc) (ls : Array Slot), (0 ≤ fr ∧ fr ≤ k ∧ k ≤ to ∧ to ≤ u.length) → (spm rs u pl 1 = fi ∧ spe rs u pl 1 = se) → (A0 = (fmo (rget rs fi) 0)) → (fr = ((fmo (rget rs fi) 1).length : Int)) → (to = (u.length : Int) - ((fmo (rget rs se) 1).length : Int)) → (mx = A0 ++ sl u fr k) → (Tx gx mx) → (to - k) < (n221 : Int) → ad_G D A9 s9.heap H locs [(m0, mO M xth xrm xsv xln xat xer xwr xwd xlo xhi (u.length : Int) (mx.length : Int) xkl fi se xdn xon xtw xol xrw xgl xus xpr xmk xab), (M 1, aI (K 0) 1247 g), (M 17, aI (K 0) 2000 gwo), (M 18, aI (K 0) 2000 gx)] → lv_has ls 6 [(0, .ref m0), (1, .int (iI pl)), (2, .int (iI 1)), (3, .int (iI fr)), (4, .int (iI to)), (5, .int (iI k))] → W p9 l e9 rm_X11_convert_1 s9 m9 ag9 bl9 mt9 c9 H locs 0 0 Q9 (F0 m9 221 ls []) := by
            intro n221
            induction n221 with
            | zero =>
              intro k gx mx A0 fi se fr to H locs ls hk hss hA hfr hto hmx hTx hm221
              exact absurd hm221 (by omega)
            | succ n221 ih221 =>
              intro k gx mx A0 fi se fr to H locs ls hk hss hA hfr hto hmx hTx hm221 G hl
              have hA12 := fmo_len hW fi 0
              have hmxl : (mx.length : Int) = A0.length + (k - fr) := by rw [hmx, List.length_append, Int.natCast_add, sl_len (by omega) (by omega) (by omega)]
              have hAl : A0.length ≤ 12 := by rw [hA]; exact hA12
              have hseb := spe_b rs u pl 1
              refine lv_iload F.1 F.2.1 dX11_convert_221 (lv_at hl 5 rfl) ?_
              refine lv_iload F.1 F.2.1 dX11_convert_223 (lv_at hl 4 rfl) ?_
              refine ad_icmp_ge (tgt := 260) F (by omega) dX11_convert_225 (by decide) (fun cc_29 => ?_) (fun cc_29 => ?_)
              · refine lv_aload_n F.1 F.2.1 dX11_convert_260 rfl (lv_at hl 0 rfl) ?_
                refine lv_aload_n F.1 F.2.1 dX11_convert_261 rfl (lv_at hl 0 rfl) ?_
                refine ad_get F G fl_X11_242 0 rfl rfl dX11_convert_262 ?_
                refine lv_iload_n F.1 F.2.1 dX11_convert_265 rfl (lv_at hl 2 rfl) ?_
                refine ad_if_ne (tgt := 273) F (by decide) dX11_convert_266 (by decide) (fun _ => ?_) (fun cc_30 => absurd cc_30 (by decide))
                refine ad_iconst F dX11_convert_273 ?_
                refine ad_callV (As := [.int (iI se), .int (iI 0)]) (rest := []) F G (c_X11_addForm l D K z0 m0 M xth xrm xsv xln xat xer xwr xwd xlo xhi (u.length : Int) xkl fi se xdn xon xtw xol xrw xgl xus xpr xmk xab g gx rs ps md th nc mx se 0 hM hW hTx (by omega) (by rw [← hss.2]; exact hseb) (by omega)) my_X11_addForm mv_X11_252 (wr := [(M 17, aI (K 0) 2000 gwo)]) (isC := [0, 1, 3]) (isR := [2]) ⟨rfl, rfl, rfl, rfl, by decide⟩ 11 0 rfl rfl rfl rfl ⟨Nat.le_of_ble_eq_true rfl, Nat.le_of_ble_eq_true rfl⟩ ⟨Nat.le_of_ble_eq_true rfl, Nat.le_of_ble_eq_true rfl⟩ (Nat.le_of_ble_eq_true rfl) hl.1 (cells9 := 0) (slots9 := 0) ⟨rfl, rfl⟩ dX11_convert_274 (fun v u H locs hw_31 G => ?_)
                obtain ⟨m2_32, gma2_33, rfl, hc_34, hc_35, rfl⟩ := hw_31
                replace G := G.perm (ws' := [(m0, mO M xth xrm xsv xln xat xer xwr xwd xlo xhi (u.length : Int) (m2_32.length : Int) xkl fi se xdn xon xtw xol xrw xgl xus xpr xmk xab), (M 1, aI (K 0) 1247 g), (M 17, aI (K 0) 2000 gwo), (M 18, aI (K 0) 2000 gma2_33)]) [1, 2, 0, 3] rfl rfl
                refine W.eq (g2 := F0 m9 277 ls []) rfl ?_
                exact ad_vreturn F G hR rfl (Nat.le_of_ble_eq_true rfl) (Nat.le_of_ble_eq_true rfl) ⟨m2_32, gma2_33, rfl, (by rw [hc_34, hmx, hA, spw_eq hss.1 hss.2, ← hfr, ← hto, show k = to by omega]; rfl), hc_35, (by rw [hss.1, hss.2])⟩ dX11_convert_277
              · refine lv_aload_n F.1 F.2.1 dX11_convert_228 rfl (lv_at hl 0 rfl) ?_
                refine ad_get F G fl_X11_42 0 rfl rfl dX11_convert_229 ?_
                refine lv_aload_n F.1 F.2.1 dX11_convert_232 rfl (lv_at hl 0 rfl) ?_
                refine ad_get F G fl_X11_239 0 rfl rfl dX11_convert_233 ?_
                refine lv_aload_n F.1 F.2.1 dX11_convert_236 rfl (lv_at hl 0 rfl) ?_
                refine ad_get F G fl_X11_39 0 rfl rfl dX11_convert_237 ?_
                refine lv_iload F.1 F.2.1 dX11_convert_240 (lv_at hl 5 rfl) ?_
                refine ad_iald F G 2 rfl (w := lat u k) (by omega) (Tx_at hTu (by omega) (by omega)) dX11_convert_242 ?_
                refine ad_iast F G 3 rfl (by omega) (ws' := [(m0, mO M xth xrm xsv xln xat xer xwr xwd xlo xhi (u.length : Int) (mx.length : Int) xkl fi se xdn xon xtw xol xrw xgl xus xpr xmk xab), (M 1, aI (K 0) 1247 g), (M 17, aI (K 0) 2000 gwo), (M 18, aI (K 0) 2000 (va_up gx (mx.length : Int).toNat (lat u k)))]) rfl dX11_convert_243 (fun H locs G => ?_)
                refine lv_aload_n F.1 F.2.1 dX11_convert_244 rfl (lv_at hl 0 rfl) ?_
                refine lv_dup F.1 F.2.1 dX11_convert_245 rfl ?_
                refine ad_get F G fl_X11_239 0 rfl rfl dX11_convert_246 ?_
                refine ad_iconst F dX11_convert_249 ?_
                refine ad_iadd F dX11_convert_250 ?_
                refine ad_put F G fl_X11_239 0 rfl rfl rfl (Nat.le_of_ble_eq_true rfl) (ws' := [(m0, mO M xth xrm xsv xln xat xer xwr xwd xlo xhi (u.length : Int) ((mx.length : Int) + 1) xkl fi se xdn xon xtw xol xrw xgl xus xpr xmk xab), (M 1, aI (K 0) 1247 g), (M 17, aI (K 0) 2000 gwo), (M 18, aI (K 0) 2000 (va_up gx (mx.length : Int).toNat (lat u k)))]) rfl dX11_convert_251 (fun H locs G => ?_)
                have hpl : (((mx ++ [lat u k]).length : Nat) : Int) = (mx.length : Int) + 1 := by simp
                replace G := G.eq (ws' := [(m0, mO M xth xrm xsv xln xat xer xwr xwd xlo xhi (u.length : Int) ((mx ++ [lat u k]).length : Int) xkl fi se xdn xon xtw xol xrw xgl xus xpr xmk xab), (M 1, aI (K 0) 1247 g), (M 17, aI (K 0) 2000 gwo), (M 18, aI (K 0) 2000 (va_up gx (mx.length : Int).toNat (lat u k)))]) (by rw [hpl])
                refine ad_iinc (lv' := [(5, .int (iI (k + 1))), (0, .ref m0), (1, .int (iI pl)), (2, .int (iI 1)), (3, .int (iI fr)), (4, .int (iI to))]) F dX11_convert_254 hl (k := 5) rfl (by decide) rfl (fun ls hl => ?_)
                refine lv_goto (tgt := 221) F.1 F.2.1 dX11_convert_257 (by decide) ?_
                exact ih221 (k + 1) (va_up gx (mx.length : Int).toNat (lat u k)) (mx ++ [lat u k]) A0 fi se fr to _ _ _ (by omega) hss hA hfr hto (by rw [sl_succ (by omega) (by omega) (by omega), hmx, List.append_assoc]) (Tx_push hTx _) (by omega) (G.perm (ws' := [(m0, mO M xth xrm xsv xln xat xer xwr xwd xlo xhi (u.length : Int) ((mx ++ [lat u k]).length : Int) xkl fi se xdn xon xtw xol xrw xgl xus xpr xmk xab), (M 1, aI (K 0) 1247 g), (M 17, aI (K 0) 2000 gwo), (M 18, aI (K 0) 2000 (va_up gx (mx.length : Int).toNat (lat u k)))]) [0, 1, 2, 3] rfl rfl) (lv_sub hl [1, 2, 3, 4, 5, 0] rfl)
          exact lp221 ((((((u.length : Int) - 0) - ((fmo (rget rs (bR rs u pl 1 1)) 1).length : Int) : Int)) + 1).toNat) ((fmo (rget rs (bR rs u pl 1 1)) 1).length : Int) gma2_26 m2_25 m2_25 (bR rs u pl 1 1) (bR rs u pl 2 1) ((fmo (rget rs (bR rs u pl 1 1)) 1).length : Int) ((u.length : Int) - 0) _ _ _ (by omega) hss (by rw [hc_27, List.nil_append]) hfr hto (by rw [sl_self, List.append_nil]) hc_28 (by omega) (G.perm (ws' := [(m0, mO M xth xrm xsv xln xat xer xwr xwd xlo xhi (u.length : Int) (m2_25.length : Int) xkl (bR rs u pl 1 1) (bR rs u pl 2 1) xdn xon xtw xol xrw xgl xus xpr xmk xab), (M 1, aI (K 0) 1247 g), (M 17, aI (K 0) 2000 gwo), (M 18, aI (K 0) 2000 gma2_26)]) [0, 1, 2, 3] rfl rfl) (lv_sub hl [3, 4, 5, 2, 1, 0] rfl)
      · refine ad_iconst F dX11_convert_160 ?_
        refine lv_goto (tgt := 173) F.1 F.2.1 dX11_convert_161 (by decide) ?_
        refine lv_istore_n (lv' := [(3, .int (iI 0)), (0, .ref m0), (1, .int (iI pl)), (2, .int (iI 1))]) F.1 F.2.1 dX11_convert_173 rfl hl (by decide) rfl (fun ls hl => ?_)
        refine lv_aload_n F.1 F.2.1 dX11_convert_174 rfl (lv_at hl 1 rfl) ?_
        refine ad_get F G fl_X11_233 0 rfl rfl dX11_convert_175 ?_
        refine lv_aload_n F.1 F.2.1 dX11_convert_178 rfl (lv_at hl 1 rfl) ?_
        refine ad_get F G fl_X11_242 0 rfl rfl dX11_convert_179 ?_
        refine ad_if_ge (tgt := 189) F (by omega) dX11_convert_182 (by decide) (fun cc_36 => ?_) (fun cc_36 => ?_)
        · refine lv_aload_n F.1 F.2.1 dX11_convert_189 rfl (lv_at hl 1 rfl) ?_
          refine lv_aload_n F.1 F.2.1 dX11_convert_190 rfl (lv_at hl 1 rfl) ?_
          refine ad_get F G fl_X11_242 0 rfl rfl dX11_convert_191 ?_
          refine lv_iload_n F.1 F.2.1 dX11_convert_194 rfl (lv_at hl 3 rfl) ?_
          refine ad_callV (As := [.int (iI (bR rs u pl 2 1)), .int (iI 1)]) (rest := [.int (iI (u.length : Int))]) F G (c_X11_lengthOf l D K z0 m0 M xth xrm xsv xln xat xer xwr xwd xlo xhi (u.length : Int) (([] : List Int).length : Int) xkl (bR rs u pl 1 1) (bR rs u pl 2 1) xdn xon xtw xol xrw xgl xus xpr xmk xab g rs ps md th nc (bR rs u pl 2 1) 1 hM hW (by omega) (by omega)) my_X11_lengthOf mv_X11_185 (wr := [(M 17, aI (K 0) 2000 gwo), (M 18, aI (K 0) 2000 gma)]) (isC := [0, 1]) (isR := [2, 3]) ⟨rfl, rfl, rfl, rfl, by decide⟩ 11 0 rfl rfl rfl rfl ⟨Nat.le_of_ble_eq_true rfl, Nat.le_of_ble_eq_true rfl⟩ ⟨Nat.le_of_ble_eq_true rfl, Nat.le_of_ble_eq_true rfl⟩ (Nat.le_of_ble_eq_true rfl) hl.1 (cells9 := 0) (slots9 := 0) ⟨rfl, rfl⟩ dX11_convert_195 (fun v u H locs hw_37 G => ?_)
          obtain ⟨rfl, rfl⟩ := hw_37
          replace G := G.perm (ws' := [(m0, mO M xth xrm xsv xln xat xer xwr xwd xlo xhi (u.length : Int) (([] : List Int).length : Int) xkl (bR rs u pl 1 1) (bR rs u pl 2 1) xdn xon xtw xol xrw xgl xus xpr xmk xab), (M 1, aI (K 0) 1247 g), (M 17, aI (K 0) 2000 gwo), (M 18, aI (K 0) 2000 gma)]) [2, 3, 0, 1] rfl rfl
          refine W.eq (g2 := F0 m9 198 ls [.int (iI ((fmo (rget rs (bR rs u pl 2 1)) 1).length : Int)), .int (iI (u.length : Int))]) rfl ?_
          refine ad_isub F dX11_convert_198 ?_
          refine lv_istore (lv' := [(4, .int (iI ((u.length : Int) - ((fmo (rget rs (bR rs u pl 2 1)) 1).length : Int)))), (3, .int (iI 0)), (0, .ref m0), (1, .int (iI pl)), (2, .int (iI 1))]) F.1 F.2.1 dX11_convert_199 hl (by decide) rfl (fun ls hl => ?_)
          refine lv_aload_n F.1 F.2.1 dX11_convert_201 rfl (lv_at hl 2 rfl) ?_
          refine lv_aload_n F.1 F.2.1 dX11_convert_202 rfl (lv_at hl 2 rfl) ?_
          refine ad_get F G fl_X11_249 0 rfl rfl dX11_convert_203 ?_
          refine lv_iload_n F.1 F.2.1 dX11_convert_206 rfl (lv_at hl 4 rfl) ?_
          refine ad_if_ne (tgt := 214) F (by decide) dX11_convert_207 (by decide) (fun _ => ?_) (fun cc_38 => absurd cc_38 (by decide))
          refine ad_iconst F dX11_convert_214 ?_
          refine ad_callV (As := [.int (iI (bR rs u pl 1 1)), .int (iI 0)]) (rest := []) F G (c_X11_addForm l D K z0 m0 M xth xrm xsv xln xat xer xwr xwd xlo xhi (u.length : Int) xkl (bR rs u pl 1 1) (bR rs u pl 2 1) xdn xon xtw xol xrw xgl xus xpr xmk xab g gma rs ps md th nc ([] : List Int) (bR rs u pl 1 1) 0 hM hW Tx_nil (by simp) (by omega) (by omega)) my_X11_addForm mv_X11_252 (wr := [(M 17, aI (K 0) 2000 gwo)]) (isC := [0, 1, 3]) (isR := [2]) ⟨rfl, rfl, rfl, rfl, by decide⟩ 11 0 rfl rfl rfl rfl ⟨Nat.le_of_ble_eq_true rfl, Nat.le_of_ble_eq_true rfl⟩ ⟨Nat.le_of_ble_eq_true rfl, Nat.le_of_ble_eq_true rfl⟩ (Nat.le_of_ble_eq_true rfl) hl.1 (cells9 := 0) (slots9 := 0) ⟨rfl, rfl⟩ dX11_convert_215 (fun v u H locs hw_39 G => ?_)
          obtain ⟨m2_40, gma2_41, rfl, hc_42, hc_43, rfl⟩ := hw_39
          replace G := G.perm (ws' := [(m0, mO M xth xrm xsv xln xat xer xwr xwd xlo xhi (u.length : Int) (m2_40.length : Int) xkl (bR rs u pl 1 1) (bR rs u pl 2 1) xdn xon xtw xol xrw xgl xus xpr xmk xab), (M 1, aI (K 0) 1247 g), (M 17, aI (K 0) 2000 gwo), (M 18, aI (K 0) 2000 gma2_41)]) [1, 2, 0, 3] rfl rfl
          refine W.eq (g2 := F0 m9 218 ls []) rfl ?_
          refine lv_iload_n F.1 F.2.1 dX11_convert_218 rfl (lv_at hl 1 rfl) ?_
          refine lv_istore (lv' := [(5, .int (iI 0)), (4, .int (iI ((u.length : Int) - ((fmo (rget rs (bR rs u pl 2 1)) 1).length : Int)))), (3, .int (iI 0)), (0, .ref m0), (1, .int (iI pl)), (2, .int (iI 1))]) F.1 F.2.1 dX11_convert_219 hl (by decide) rfl (fun ls hl => ?_)
          have hfr : 0 = ((fmo (rget rs (bR rs u pl 1 1)) 1).length : Int) := by first | rfl | (rw [show (bR rs u pl 1 1) = -1 by omega, fmo_m1]; rfl)
          have hto : (u.length : Int) - ((fmo (rget rs (bR rs u pl 2 1)) 1).length : Int) = (u.length : Int) - ((fmo (rget rs (bR rs u pl 2 1)) 1).length : Int) := by first | rfl | (rw [show (bR rs u pl 2 1) = -1 by omega, fmo_m1]; rfl)
          have hsl := spl_le rs u pl 1
          rw [hss.1, hss.2] at hsl
          have lp221 : ∀ (n221 : Nat) (k : Int) (gx : Nat → Int) (mx : List Int) (A0 : List Int) (fi : Int) (se : Int) (fr : Int) (to : Int) (H : Heap) (locs : List Loc) (ls : Array Slot), (0 ≤ fr ∧ fr ≤ k ∧ k ≤ to ∧ to ≤ u.length) → (spm rs u pl 1 = fi ∧ spe rs u pl 1 = se) → (A0 = (fmo (rget rs fi) 0)) → (fr = ((fmo (rget rs fi) 1).length : Int)) → (to = (u.length : Int) - ((fmo (rget rs se) 1).length : Int)) → (mx = A0 ++ sl u fr k) → (Tx gx mx) → (to - k) < (n221 : Int) → ad_G D A9 s9.heap H locs [(m0, mO M xth xrm xsv xln xat xer xwr xwd xlo xhi (u.length : Int) (mx.length : Int) xkl fi se xdn xon xtw xol xrw xgl xus xpr xmk xab), (M 1, aI (K 0) 1247 g), (M 17, aI (K 0) 2000 gwo), (M 18, aI (K 0) 2000 gx)] → lv_has ls 6 [(0, .ref m0), (1, .int (iI pl)), (2, .int (iI 1)), (3, .int (iI fr)), (4, .int (iI to)), (5, .int (iI k))] → W p9 l e9 rm_X11_convert_1 s9 m9 ag9 bl9 mt9 c9 H locs 0 0 Q9 (F0 m9 221 ls []) := by
            intro n221
            induction n221 with
            | zero =>
              intro k gx mx A0 fi se fr to H locs ls hk hss hA hfr hto hmx hTx hm221
              exact absurd hm221 (by omega)
            | succ n221 ih221 =>
              intro k gx mx A0 fi se fr to H locs ls hk hss hA hfr hto hmx hTx hm221 G hl
              have hA12 := fmo_len hW fi 0
              have hmxl : (mx.length : Int) = A0.length + (k - fr) := by rw [hmx, List.length_append, Int.natCast_add, sl_len (by omega) (by omega) (by omega)]
              have hAl : A0.length ≤ 12 := by rw [hA]; exact hA12
              have hseb := spe_b rs u pl 1
              refine lv_iload F.1 F.2.1 dX11_convert_221 (lv_at hl 5 rfl) ?_
              refine lv_iload F.1 F.2.1 dX11_convert_223 (lv_at hl 4 rfl) ?_
              refine ad_icmp_ge (tgt := 260) F (by omega) dX11_convert_225 (by decide) (fun cc_44 => ?_) (fun cc_44 => ?_)
              · refine lv_aload_n F.1 F.2.1 dX11_convert_260 rfl (lv_at hl 0 rfl) ?_
                refine lv_aload_n F.1 F.2.1 dX11_convert_261 rfl (lv_at hl 0 rfl) ?_
                refine ad_get F G fl_X11_242 0 rfl rfl dX11_convert_262 ?_
                refine lv_iload_n F.1 F.2.1 dX11_convert_265 rfl (lv_at hl 2 rfl) ?_
                refine ad_if_ne (tgt := 273) F (by decide) dX11_convert_266 (by decide) (fun _ => ?_) (fun cc_45 => absurd cc_45 (by decide))
                refine ad_iconst F dX11_convert_273 ?_
                refine ad_callV (As := [.int (iI se), .int (iI 0)]) (rest := []) F G (c_X11_addForm l D K z0 m0 M xth xrm xsv xln xat xer xwr xwd xlo xhi (u.length : Int) xkl fi se xdn xon xtw xol xrw xgl xus xpr xmk xab g gx rs ps md th nc mx se 0 hM hW hTx (by omega) (by rw [← hss.2]; exact hseb) (by omega)) my_X11_addForm mv_X11_252 (wr := [(M 17, aI (K 0) 2000 gwo)]) (isC := [0, 1, 3]) (isR := [2]) ⟨rfl, rfl, rfl, rfl, by decide⟩ 11 0 rfl rfl rfl rfl ⟨Nat.le_of_ble_eq_true rfl, Nat.le_of_ble_eq_true rfl⟩ ⟨Nat.le_of_ble_eq_true rfl, Nat.le_of_ble_eq_true rfl⟩ (Nat.le_of_ble_eq_true rfl) hl.1 (cells9 := 0) (slots9 := 0) ⟨rfl, rfl⟩ dX11_convert_274 (fun v u H locs hw_46 G => ?_)
                obtain ⟨m2_47, gma2_48, rfl, hc_49, hc_50, rfl⟩ := hw_46
                replace G := G.perm (ws' := [(m0, mO M xth xrm xsv xln xat xer xwr xwd xlo xhi (u.length : Int) (m2_47.length : Int) xkl fi se xdn xon xtw xol xrw xgl xus xpr xmk xab), (M 1, aI (K 0) 1247 g), (M 17, aI (K 0) 2000 gwo), (M 18, aI (K 0) 2000 gma2_48)]) [1, 2, 0, 3] rfl rfl
                refine W.eq (g2 := F0 m9 277 ls []) rfl ?_
                exact ad_vreturn F G hR rfl (Nat.le_of_ble_eq_true rfl) (Nat.le_of_ble_eq_true rfl) ⟨m2_47, gma2_48, rfl, (by rw [hc_49, hmx, hA, spw_eq hss.1 hss.2, ← hfr, ← hto, show k = to by omega]; rfl), hc_50, (by rw [hss.1, hss.2])⟩ dX11_convert_277
              · refine lv_aload_n F.1 F.2.1 dX11_convert_228 rfl (lv_at hl 0 rfl) ?_
                refine ad_get F G fl_X11_42 0 rfl rfl dX11_convert_229 ?_
                refine lv_aload_n F.1 F.2.1 dX11_convert_232 rfl (lv_at hl 0 rfl) ?_
                refine ad_get F G fl_X11_239 0 rfl rfl dX11_convert_233 ?_
                refine lv_aload_n F.1 F.2.1 dX11_convert_236 rfl (lv_at hl 0 rfl) ?_
                refine ad_get F G fl_X11_39 0 rfl rfl dX11_convert_237 ?_
                refine lv_iload F.1 F.2.1 dX11_convert_240 (lv_at hl 5 rfl) ?_
                refine ad_iald F G 2 rfl (w := lat u k) (by omega) (Tx_at hTu (by omega) (by omega)) dX11_convert_242 ?_
                refine ad_iast F G 3 rfl (by omega) (ws' := [(m0, mO M xth xrm xsv xln xat xer xwr xwd xlo xhi (u.length : Int) (mx.length : Int) xkl fi se xdn xon xtw xol xrw xgl xus xpr xmk xab), (M 1, aI (K 0) 1247 g), (M 17, aI (K 0) 2000 gwo), (M 18, aI (K 0) 2000 (va_up gx (mx.length : Int).toNat (lat u k)))]) rfl dX11_convert_243 (fun H locs G => ?_)
                refine lv_aload_n F.1 F.2.1 dX11_convert_244 rfl (lv_at hl 0 rfl) ?_
                refine lv_dup F.1 F.2.1 dX11_convert_245 rfl ?_
                refine ad_get F G fl_X11_239 0 rfl rfl dX11_convert_246 ?_
                refine ad_iconst F dX11_convert_249 ?_
                refine ad_iadd F dX11_convert_250 ?_
                refine ad_put F G fl_X11_239 0 rfl rfl rfl (Nat.le_of_ble_eq_true rfl) (ws' := [(m0, mO M xth xrm xsv xln xat xer xwr xwd xlo xhi (u.length : Int) ((mx.length : Int) + 1) xkl fi se xdn xon xtw xol xrw xgl xus xpr xmk xab), (M 1, aI (K 0) 1247 g), (M 17, aI (K 0) 2000 gwo), (M 18, aI (K 0) 2000 (va_up gx (mx.length : Int).toNat (lat u k)))]) rfl dX11_convert_251 (fun H locs G => ?_)
                have hpl : (((mx ++ [lat u k]).length : Nat) : Int) = (mx.length : Int) + 1 := by simp
                replace G := G.eq (ws' := [(m0, mO M xth xrm xsv xln xat xer xwr xwd xlo xhi (u.length : Int) ((mx ++ [lat u k]).length : Int) xkl fi se xdn xon xtw xol xrw xgl xus xpr xmk xab), (M 1, aI (K 0) 1247 g), (M 17, aI (K 0) 2000 gwo), (M 18, aI (K 0) 2000 (va_up gx (mx.length : Int).toNat (lat u k)))]) (by rw [hpl])
                refine ad_iinc (lv' := [(5, .int (iI (k + 1))), (0, .ref m0), (1, .int (iI pl)), (2, .int (iI 1)), (3, .int (iI fr)), (4, .int (iI to))]) F dX11_convert_254 hl (k := 5) rfl (by decide) rfl (fun ls hl => ?_)
                refine lv_goto (tgt := 221) F.1 F.2.1 dX11_convert_257 (by decide) ?_
                exact ih221 (k + 1) (va_up gx (mx.length : Int).toNat (lat u k)) (mx ++ [lat u k]) A0 fi se fr to _ _ _ (by omega) hss hA hfr hto (by rw [sl_succ (by omega) (by omega) (by omega), hmx, List.append_assoc]) (Tx_push hTx _) (by omega) (G.perm (ws' := [(m0, mO M xth xrm xsv xln xat xer xwr xwd xlo xhi (u.length : Int) ((mx ++ [lat u k]).length : Int) xkl fi se xdn xon xtw xol xrw xgl xus xpr xmk xab), (M 1, aI (K 0) 1247 g), (M 17, aI (K 0) 2000 gwo), (M 18, aI (K 0) 2000 (va_up gx (mx.length : Int).toNat (lat u k)))]) [0, 1, 2, 3] rfl rfl) (lv_sub hl [1, 2, 3, 4, 5, 0] rfl)
          exact lp221 ((((((u.length : Int) - ((fmo (rget rs (bR rs u pl 2 1)) 1).length : Int)) - 0 : Int)) + 1).toNat) 0 gma2_41 m2_40 m2_40 (bR rs u pl 1 1) (bR rs u pl 2 1) 0 ((u.length : Int) - ((fmo (rget rs (bR rs u pl 2 1)) 1).length : Int)) _ _ _ (by omega) hss (by rw [hc_42, List.nil_append]) hfr hto (by rw [sl_self, List.append_nil]) hc_43 (by omega) (G.perm (ws' := [(m0, mO M xth xrm xsv xln xat xer xwr xwd xlo xhi (u.length : Int) (m2_40.length : Int) xkl (bR rs u pl 1 1) (bR rs u pl 2 1) xdn xon xtw xol xrw xgl xus xpr xmk xab), (M 1, aI (K 0) 1247 g), (M 17, aI (K 0) 2000 gwo), (M 18, aI (K 0) 2000 gma2_41)]) [0, 1, 2, 3] rfl rfl) (lv_sub hl [3, 4, 5, 2, 1, 0] rfl)
        · refine ad_iconst F dX11_convert_185 ?_
          refine lv_goto (tgt := 198) F.1 F.2.1 dX11_convert_186 (by decide) ?_
          refine ad_isub F dX11_convert_198 ?_
          refine lv_istore (lv' := [(4, .int (iI ((u.length : Int) - 0))), (3, .int (iI 0)), (0, .ref m0), (1, .int (iI pl)), (2, .int (iI 1))]) F.1 F.2.1 dX11_convert_199 hl (by decide) rfl (fun ls hl => ?_)
          refine lv_aload_n F.1 F.2.1 dX11_convert_201 rfl (lv_at hl 2 rfl) ?_
          refine lv_aload_n F.1 F.2.1 dX11_convert_202 rfl (lv_at hl 2 rfl) ?_
          refine ad_get F G fl_X11_249 0 rfl rfl dX11_convert_203 ?_
          refine lv_iload_n F.1 F.2.1 dX11_convert_206 rfl (lv_at hl 4 rfl) ?_
          refine ad_if_ne (tgt := 214) F (by decide) dX11_convert_207 (by decide) (fun _ => ?_) (fun cc_51 => absurd cc_51 (by decide))
          refine ad_iconst F dX11_convert_214 ?_
          refine ad_callV (As := [.int (iI (bR rs u pl 1 1)), .int (iI 0)]) (rest := []) F G (c_X11_addForm l D K z0 m0 M xth xrm xsv xln xat xer xwr xwd xlo xhi (u.length : Int) xkl (bR rs u pl 1 1) (bR rs u pl 2 1) xdn xon xtw xol xrw xgl xus xpr xmk xab g gma rs ps md th nc ([] : List Int) (bR rs u pl 1 1) 0 hM hW Tx_nil (by simp) (by omega) (by omega)) my_X11_addForm mv_X11_252 (wr := [(M 17, aI (K 0) 2000 gwo)]) (isC := [0, 1, 3]) (isR := [2]) ⟨rfl, rfl, rfl, rfl, by decide⟩ 11 0 rfl rfl rfl rfl ⟨Nat.le_of_ble_eq_true rfl, Nat.le_of_ble_eq_true rfl⟩ ⟨Nat.le_of_ble_eq_true rfl, Nat.le_of_ble_eq_true rfl⟩ (Nat.le_of_ble_eq_true rfl) hl.1 (cells9 := 0) (slots9 := 0) ⟨rfl, rfl⟩ dX11_convert_215 (fun v u H locs hw_52 G => ?_)
          obtain ⟨m2_53, gma2_54, rfl, hc_55, hc_56, rfl⟩ := hw_52
          replace G := G.perm (ws' := [(m0, mO M xth xrm xsv xln xat xer xwr xwd xlo xhi (u.length : Int) (m2_53.length : Int) xkl (bR rs u pl 1 1) (bR rs u pl 2 1) xdn xon xtw xol xrw xgl xus xpr xmk xab), (M 1, aI (K 0) 1247 g), (M 17, aI (K 0) 2000 gwo), (M 18, aI (K 0) 2000 gma2_54)]) [1, 2, 0, 3] rfl rfl
          refine W.eq (g2 := F0 m9 218 ls []) rfl ?_
          refine lv_iload_n F.1 F.2.1 dX11_convert_218 rfl (lv_at hl 1 rfl) ?_
          refine lv_istore (lv' := [(5, .int (iI 0)), (4, .int (iI ((u.length : Int) - 0))), (3, .int (iI 0)), (0, .ref m0), (1, .int (iI pl)), (2, .int (iI 1))]) F.1 F.2.1 dX11_convert_219 hl (by decide) rfl (fun ls hl => ?_)
          have hfr : 0 = ((fmo (rget rs (bR rs u pl 1 1)) 1).length : Int) := by first | rfl | (rw [show (bR rs u pl 1 1) = -1 by omega, fmo_m1]; rfl)
          have hto : (u.length : Int) - 0 = (u.length : Int) - ((fmo (rget rs (bR rs u pl 2 1)) 1).length : Int) := by first | rfl | (rw [show (bR rs u pl 2 1) = -1 by omega, fmo_m1]; rfl)
          have hsl := spl_le rs u pl 1
          rw [hss.1, hss.2] at hsl
          have lp221 : ∀ (n221 : Nat) (k : Int) (gx : Nat → Int) (mx : List Int) (A0 : List Int) (fi : Int) (se : Int) (fr : Int) (to : Int) (H : Heap) (locs : List Loc) (ls : Array Slot), (0 ≤ fr ∧ fr ≤ k ∧ k ≤ to ∧ to ≤ u.length) → (spm rs u pl 1 = fi ∧ spe rs u pl 1 = se) → (A0 = (fmo (rget rs fi) 0)) → (fr = ((fmo (rget rs fi) 1).length : Int)) → (to = (u.length : Int) - ((fmo (rget rs se) 1).length : Int)) → (mx = A0 ++ sl u fr k) → (Tx gx mx) → (to - k) < (n221 : Int) → ad_G D A9 s9.heap H locs [(m0, mO M xth xrm xsv xln xat xer xwr xwd xlo xhi (u.length : Int) (mx.length : Int) xkl fi se xdn xon xtw xol xrw xgl xus xpr xmk xab), (M 1, aI (K 0) 1247 g), (M 17, aI (K 0) 2000 gwo), (M 18, aI (K 0) 2000 gx)] → lv_has ls 6 [(0, .ref m0), (1, .int (iI pl)), (2, .int (iI 1)), (3, .int (iI fr)), (4, .int (iI to)), (5, .int (iI k))] → W p9 l e9 rm_X11_convert_1 s9 m9 ag9 bl9 mt9 c9 H locs 0 0 Q9 (F0 m9 221 ls []) := by
            intro n221
            induction n221 with
            | zero =>
              intro k gx mx A0 fi se fr to H locs ls hk hss hA hfr hto hmx hTx hm221
              exact absurd hm221 (by omega)
            | succ n221 ih221 =>
              intro k gx mx A0 fi se fr to H locs ls hk hss hA hfr hto hmx hTx hm221 G hl
              have hA12 := fmo_len hW fi 0
              have hmxl : (mx.length : Int) = A0.length + (k - fr) := by rw [hmx, List.length_append, Int.natCast_add, sl_len (by omega) (by omega) (by omega)]
              have hAl : A0.length ≤ 12 := by rw [hA]; exact hA12
              have hseb := spe_b rs u pl 1
              refine lv_iload F.1 F.2.1 dX11_convert_221 (lv_at hl 5 rfl) ?_
              refine lv_iload F.1 F.2.1 dX11_convert_223 (lv_at hl 4 rfl) ?_
              refine ad_icmp_ge (tgt := 260) F (by omega) dX11_convert_225 (by decide) (fun cc_57 => ?_) (fun cc_57 => ?_)
              · refine lv_aload_n F.1 F.2.1 dX11_convert_260 rfl (lv_at hl 0 rfl) ?_
                refine lv_aload_n F.1 F.2.1 dX11_convert_261 rfl (lv_at hl 0 rfl) ?_
                refine ad_get F G fl_X11_242 0 rfl rfl dX11_convert_262 ?_
                refine lv_iload_n F.1 F.2.1 dX11_convert_265 rfl (lv_at hl 2 rfl) ?_
                refine ad_if_ne (tgt := 273) F (by decide) dX11_convert_266 (by decide) (fun _ => ?_) (fun cc_58 => absurd cc_58 (by decide))
                refine ad_iconst F dX11_convert_273 ?_
                refine ad_callV (As := [.int (iI se), .int (iI 0)]) (rest := []) F G (c_X11_addForm l D K z0 m0 M xth xrm xsv xln xat xer xwr xwd xlo xhi (u.length : Int) xkl fi se xdn xon xtw xol xrw xgl xus xpr xmk xab g gx rs ps md th nc mx se 0 hM hW hTx (by omega) (by rw [← hss.2]; exact hseb) (by omega)) my_X11_addForm mv_X11_252 (wr := [(M 17, aI (K 0) 2000 gwo)]) (isC := [0, 1, 3]) (isR := [2]) ⟨rfl, rfl, rfl, rfl, by decide⟩ 11 0 rfl rfl rfl rfl ⟨Nat.le_of_ble_eq_true rfl, Nat.le_of_ble_eq_true rfl⟩ ⟨Nat.le_of_ble_eq_true rfl, Nat.le_of_ble_eq_true rfl⟩ (Nat.le_of_ble_eq_true rfl) hl.1 (cells9 := 0) (slots9 := 0) ⟨rfl, rfl⟩ dX11_convert_274 (fun v u H locs hw_59 G => ?_)
                obtain ⟨m2_60, gma2_61, rfl, hc_62, hc_63, rfl⟩ := hw_59
                replace G := G.perm (ws' := [(m0, mO M xth xrm xsv xln xat xer xwr xwd xlo xhi (u.length : Int) (m2_60.length : Int) xkl fi se xdn xon xtw xol xrw xgl xus xpr xmk xab), (M 1, aI (K 0) 1247 g), (M 17, aI (K 0) 2000 gwo), (M 18, aI (K 0) 2000 gma2_61)]) [1, 2, 0, 3] rfl rfl
                refine W.eq (g2 := F0 m9 277 ls []) rfl ?_
                exact ad_vreturn F G hR rfl (Nat.le_of_ble_eq_true rfl) (Nat.le_of_ble_eq_true rfl) ⟨m2_60, gma2_61, rfl, (by rw [hc_62, hmx, hA, spw_eq hss.1 hss.2, ← hfr, ← hto, show k = to by omega]; rfl), hc_63, (by rw [hss.1, hss.2])⟩ dX11_convert_277
              · refine lv_aload_n F.1 F.2.1 dX11_convert_228 rfl (lv_at hl 0 rfl) ?_
                refine ad_get F G fl_X11_42 0 rfl rfl dX11_convert_229 ?_
                refine lv_aload_n F.1 F.2.1 dX11_convert_232 rfl (lv_at hl 0 rfl) ?_
                refine ad_get F G fl_X11_239 0 rfl rfl dX11_convert_233 ?_
                refine lv_aload_n F.1 F.2.1 dX11_convert_236 rfl (lv_at hl 0 rfl) ?_
                refine ad_get F G fl_X11_39 0 rfl rfl dX11_convert_237 ?_
                refine lv_iload F.1 F.2.1 dX11_convert_240 (lv_at hl 5 rfl) ?_
                refine ad_iald F G 2 rfl (w := lat u k) (by omega) (Tx_at hTu (by omega) (by omega)) dX11_convert_242 ?_
                refine ad_iast F G 3 rfl (by omega) (ws' := [(m0, mO M xth xrm xsv xln xat xer xwr xwd xlo xhi (u.length : Int) (mx.length : Int) xkl fi se xdn xon xtw xol xrw xgl xus xpr xmk xab), (M 1, aI (K 0) 1247 g), (M 17, aI (K 0) 2000 gwo), (M 18, aI (K 0) 2000 (va_up gx (mx.length : Int).toNat (lat u k)))]) rfl dX11_convert_243 (fun H locs G => ?_)
                refine lv_aload_n F.1 F.2.1 dX11_convert_244 rfl (lv_at hl 0 rfl) ?_
                refine lv_dup F.1 F.2.1 dX11_convert_245 rfl ?_
                refine ad_get F G fl_X11_239 0 rfl rfl dX11_convert_246 ?_
                refine ad_iconst F dX11_convert_249 ?_
                refine ad_iadd F dX11_convert_250 ?_
                refine ad_put F G fl_X11_239 0 rfl rfl rfl (Nat.le_of_ble_eq_true rfl) (ws' := [(m0, mO M xth xrm xsv xln xat xer xwr xwd xlo xhi (u.length : Int) ((mx.length : Int) + 1) xkl fi se xdn xon xtw xol xrw xgl xus xpr xmk xab), (M 1, aI (K 0) 1247 g), (M 17, aI (K 0) 2000 gwo), (M 18, aI (K 0) 2000 (va_up gx (mx.length : Int).toNat (lat u k)))]) rfl dX11_convert_251 (fun H locs G => ?_)
                have hpl : (((mx ++ [lat u k]).length : Nat) : Int) = (mx.length : Int) + 1 := by simp
                replace G := G.eq (ws' := [(m0, mO M xth xrm xsv xln xat xer xwr xwd xlo xhi (u.length : Int) ((mx ++ [lat u k]).length : Int) xkl fi se xdn xon xtw xol xrw xgl xus xpr xmk xab), (M 1, aI (K 0) 1247 g), (M 17, aI (K 0) 2000 gwo), (M 18, aI (K 0) 2000 (va_up gx (mx.length : Int).toNat (lat u k)))]) (by rw [hpl])
                refine ad_iinc (lv' := [(5, .int (iI (k + 1))), (0, .ref m0), (1, .int (iI pl)), (2, .int (iI 1)), (3, .int (iI fr)), (4, .int (iI to))]) F dX11_convert_254 hl (k := 5) rfl (by decide) rfl (fun ls hl => ?_)
                refine lv_goto (tgt := 221) F.1 F.2.1 dX11_convert_257 (by decide) ?_
                exact ih221 (k + 1) (va_up gx (mx.length : Int).toNat (lat u k)) (mx ++ [lat u k]) A0 fi se fr to _ _ _ (by omega) hss hA hfr hto (by rw [sl_succ (by omega) (by omega) (by omega), hmx, List.append_assoc]) (Tx_push hTx _) (by omega) (G.perm (ws' := [(m0, mO M xth xrm xsv xln xat xer xwr xwd xlo xhi (u.length : Int) ((mx ++ [lat u k]).length : Int) xkl fi se xdn xon xtw xol xrw xgl xus xpr xmk xab), (M 1, aI (K 0) 1247 g), (M 17, aI (K 0) 2000 gwo), (M 18, aI (K 0) 2000 (va_up gx (mx.length : Int).toNat (lat u k)))]) [0, 1, 2, 3] rfl rfl) (lv_sub hl [1, 2, 3, 4, 5, 0] rfl)
          exact lp221 ((((((u.length : Int) - 0) - 0 : Int)) + 1).toNat) 0 gma2_54 m2_53 m2_53 (bR rs u pl 1 1) (bR rs u pl 2 1) 0 ((u.length : Int) - 0) _ _ _ (by omega) hss (by rw [hc_55, List.nil_append]) hfr hto (by rw [sl_self, List.append_nil]) hc_56 (by omega) (G.perm (ws' := [(m0, mO M xth xrm xsv xln xat xer xwr xwd xlo xhi (u.length : Int) (m2_53.length : Int) xkl (bR rs u pl 1 1) (bR rs u pl 2 1) xdn xon xtw xol xrw xgl xus xpr xmk xab), (M 1, aI (K 0) 1247 g), (M 17, aI (K 0) 2000 gwo), (M 18, aI (K 0) 2000 gma2_54)]) [0, 1, 2, 3] rfl rfl) (lv_sub hl [3, 4, 5, 2, 1, 0] rfl)
    · refine lv_aload_n F.1 F.2.1 dX11_convert_75 rfl (lv_at hl 0 rfl) ?_
      refine ad_get F G fl_X11_242 0 rfl rfl dX11_convert_76 ?_
      refine ad_if_lt (tgt := 153) F (by omega) dX11_convert_79 (by decide) (fun cc_64 => ?_) (fun cc_64 => ?_)
      · have hss : spm rs u pl 1 = bR rs u pl 1 1 ∧ spe rs u pl 1 = bR rs u pl 2 1 := sp_n cc_2 (by omega)
        refine lv_aload_n F.1 F.2.1 dX11_convert_153 rfl (lv_at hl 0 rfl) ?_
        refine ad_get F G fl_X11_249 0 rfl rfl dX11_convert_154 ?_
        refine ad_if_ge (tgt := 164) F (by omega) dX11_convert_157 (by decide) (fun cc_65 => ?_) (fun cc_65 => ?_)
        · refine lv_aload_n F.1 F.2.1 dX11_convert_164 rfl (lv_at hl 0 rfl) ?_
          refine lv_aload_n F.1 F.2.1 dX11_convert_165 rfl (lv_at hl 0 rfl) ?_
          refine ad_get F G fl_X11_249 0 rfl rfl dX11_convert_166 ?_
          refine lv_iload_n F.1 F.2.1 dX11_convert_169 rfl (lv_at hl 2 rfl) ?_
          refine ad_callV (As := [.int (iI (bR rs u pl 1 1)), .int (iI 1)]) (rest := []) F G (c_X11_lengthOf l D K z0 m0 M xth xrm xsv xln xat xer xwr xwd xlo xhi (u.length : Int) (([] : List Int).length : Int) xkl (bR rs u pl 1 1) (bR rs u pl 2 1) xdn xon xtw xol xrw xgl xus xpr xmk xab g rs ps md th nc (bR rs u pl 1 1) 1 hM hW (by omega) (by omega)) my_X11_lengthOf mv_X11_185 (wr := [(M 17, aI (K 0) 2000 gwo), (M 18, aI (K 0) 2000 gma)]) (isC := [0, 1]) (isR := [2, 3]) ⟨rfl, rfl, rfl, rfl, by decide⟩ 11 0 rfl rfl rfl rfl ⟨Nat.le_of_ble_eq_true rfl, Nat.le_of_ble_eq_true rfl⟩ ⟨Nat.le_of_ble_eq_true rfl, Nat.le_of_ble_eq_true rfl⟩ (Nat.le_of_ble_eq_true rfl) hl.1 (cells9 := 0) (slots9 := 0) ⟨rfl, rfl⟩ dX11_convert_170 (fun v u H locs hw_66 G => ?_)
          obtain ⟨rfl, rfl⟩ := hw_66
          replace G := G.perm (ws' := [(m0, mO M xth xrm xsv xln xat xer xwr xwd xlo xhi (u.length : Int) (([] : List Int).length : Int) xkl (bR rs u pl 1 1) (bR rs u pl 2 1) xdn xon xtw xol xrw xgl xus xpr xmk xab), (M 1, aI (K 0) 1247 g), (M 17, aI (K 0) 2000 gwo), (M 18, aI (K 0) 2000 gma)]) [2, 3, 0, 1] rfl rfl
          refine W.eq (g2 := F0 m9 173 ls [.int (iI ((fmo (rget rs (bR rs u pl 1 1)) 1).length : Int))]) rfl ?_
          refine lv_istore_n (lv' := [(3, .int (iI ((fmo (rget rs (bR rs u pl 1 1)) 1).length : Int))), (0, .ref m0), (1, .int (iI pl)), (2, .int (iI 1))]) F.1 F.2.1 dX11_convert_173 rfl hl (by decide) rfl (fun ls hl => ?_)
          refine lv_aload_n F.1 F.2.1 dX11_convert_174 rfl (lv_at hl 1 rfl) ?_
          refine ad_get F G fl_X11_233 0 rfl rfl dX11_convert_175 ?_
          refine lv_aload_n F.1 F.2.1 dX11_convert_178 rfl (lv_at hl 1 rfl) ?_
          refine ad_get F G fl_X11_242 0 rfl rfl dX11_convert_179 ?_
          refine ad_if_ge (tgt := 189) F (by omega) dX11_convert_182 (by decide) (fun cc_67 => ?_) (fun cc_67 => ?_)
          · refine lv_aload_n F.1 F.2.1 dX11_convert_189 rfl (lv_at hl 1 rfl) ?_
            refine lv_aload_n F.1 F.2.1 dX11_convert_190 rfl (lv_at hl 1 rfl) ?_
            refine ad_get F G fl_X11_242 0 rfl rfl dX11_convert_191 ?_
            refine lv_iload_n F.1 F.2.1 dX11_convert_194 rfl (lv_at hl 3 rfl) ?_
            refine ad_callV (As := [.int (iI (bR rs u pl 2 1)), .int (iI 1)]) (rest := [.int (iI (u.length : Int))]) F G (c_X11_lengthOf l D K z0 m0 M xth xrm xsv xln xat xer xwr xwd xlo xhi (u.length : Int) (([] : List Int).length : Int) xkl (bR rs u pl 1 1) (bR rs u pl 2 1) xdn xon xtw xol xrw xgl xus xpr xmk xab g rs ps md th nc (bR rs u pl 2 1) 1 hM hW (by omega) (by omega)) my_X11_lengthOf mv_X11_185 (wr := [(M 17, aI (K 0) 2000 gwo), (M 18, aI (K 0) 2000 gma)]) (isC := [0, 1]) (isR := [2, 3]) ⟨rfl, rfl, rfl, rfl, by decide⟩ 11 0 rfl rfl rfl rfl ⟨Nat.le_of_ble_eq_true rfl, Nat.le_of_ble_eq_true rfl⟩ ⟨Nat.le_of_ble_eq_true rfl, Nat.le_of_ble_eq_true rfl⟩ (Nat.le_of_ble_eq_true rfl) hl.1 (cells9 := 0) (slots9 := 0) ⟨rfl, rfl⟩ dX11_convert_195 (fun v u H locs hw_68 G => ?_)
            obtain ⟨rfl, rfl⟩ := hw_68
            replace G := G.perm (ws' := [(m0, mO M xth xrm xsv xln xat xer xwr xwd xlo xhi (u.length : Int) (([] : List Int).length : Int) xkl (bR rs u pl 1 1) (bR rs u pl 2 1) xdn xon xtw xol xrw xgl xus xpr xmk xab), (M 1, aI (K 0) 1247 g), (M 17, aI (K 0) 2000 gwo), (M 18, aI (K 0) 2000 gma)]) [2, 3, 0, 1] rfl rfl
            refine W.eq (g2 := F0 m9 198 ls [.int (iI ((fmo (rget rs (bR rs u pl 2 1)) 1).length : Int)), .int (iI (u.length : Int))]) rfl ?_
            refine ad_isub F dX11_convert_198 ?_
            refine lv_istore (lv' := [(4, .int (iI ((u.length : Int) - ((fmo (rget rs (bR rs u pl 2 1)) 1).length : Int)))), (3, .int (iI ((fmo (rget rs (bR rs u pl 1 1)) 1).length : Int))), (0, .ref m0), (1, .int (iI pl)), (2, .int (iI 1))]) F.1 F.2.1 dX11_convert_199 hl (by decide) rfl (fun ls hl => ?_)
            refine lv_aload_n F.1 F.2.1 dX11_convert_201 rfl (lv_at hl 2 rfl) ?_
            refine lv_aload_n F.1 F.2.1 dX11_convert_202 rfl (lv_at hl 2 rfl) ?_
            refine ad_get F G fl_X11_249 0 rfl rfl dX11_convert_203 ?_
            refine lv_iload_n F.1 F.2.1 dX11_convert_206 rfl (lv_at hl 4 rfl) ?_
            refine ad_if_ne (tgt := 214) F (by decide) dX11_convert_207 (by decide) (fun _ => ?_) (fun cc_69 => absurd cc_69 (by decide))
            refine ad_iconst F dX11_convert_214 ?_
            refine ad_callV (As := [.int (iI (bR rs u pl 1 1)), .int (iI 0)]) (rest := []) F G (c_X11_addForm l D K z0 m0 M xth xrm xsv xln xat xer xwr xwd xlo xhi (u.length : Int) xkl (bR rs u pl 1 1) (bR rs u pl 2 1) xdn xon xtw xol xrw xgl xus xpr xmk xab g gma rs ps md th nc ([] : List Int) (bR rs u pl 1 1) 0 hM hW Tx_nil (by simp) (by omega) (by omega)) my_X11_addForm mv_X11_252 (wr := [(M 17, aI (K 0) 2000 gwo)]) (isC := [0, 1, 3]) (isR := [2]) ⟨rfl, rfl, rfl, rfl, by decide⟩ 11 0 rfl rfl rfl rfl ⟨Nat.le_of_ble_eq_true rfl, Nat.le_of_ble_eq_true rfl⟩ ⟨Nat.le_of_ble_eq_true rfl, Nat.le_of_ble_eq_true rfl⟩ (Nat.le_of_ble_eq_true rfl) hl.1 (cells9 := 0) (slots9 := 0) ⟨rfl, rfl⟩ dX11_convert_215 (fun v u H locs hw_70 G => ?_)
            obtain ⟨m2_71, gma2_72, rfl, hc_73, hc_74, rfl⟩ := hw_70
            replace G := G.perm (ws' := [(m0, mO M xth xrm xsv xln xat xer xwr xwd xlo xhi (u.length : Int) (m2_71.length : Int) xkl (bR rs u pl 1 1) (bR rs u pl 2 1) xdn xon xtw xol xrw xgl xus xpr xmk xab), (M 1, aI (K 0) 1247 g), (M 17, aI (K 0) 2000 gwo), (M 18, aI (K 0) 2000 gma2_72)]) [1, 2, 0, 3] rfl rfl
            refine W.eq (g2 := F0 m9 218 ls []) rfl ?_
            refine lv_iload_n F.1 F.2.1 dX11_convert_218 rfl (lv_at hl 1 rfl) ?_
            refine lv_istore (lv' := [(5, .int (iI ((fmo (rget rs (bR rs u pl 1 1)) 1).length : Int))), (4, .int (iI ((u.length : Int) - ((fmo (rget rs (bR rs u pl 2 1)) 1).length : Int)))), (3, .int (iI ((fmo (rget rs (bR rs u pl 1 1)) 1).length : Int))), (0, .ref m0), (1, .int (iI pl)), (2, .int (iI 1))]) F.1 F.2.1 dX11_convert_219 hl (by decide) rfl (fun ls hl => ?_)
            have hfr : ((fmo (rget rs (bR rs u pl 1 1)) 1).length : Int) = ((fmo (rget rs (bR rs u pl 1 1)) 1).length : Int) := by first | rfl | (rw [show (bR rs u pl 1 1) = -1 by omega, fmo_m1]; rfl)
            have hto : (u.length : Int) - ((fmo (rget rs (bR rs u pl 2 1)) 1).length : Int) = (u.length : Int) - ((fmo (rget rs (bR rs u pl 2 1)) 1).length : Int) := by first | rfl | (rw [show (bR rs u pl 2 1) = -1 by omega, fmo_m1]; rfl)
            have hsl := spl_le rs u pl 1
            rw [hss.1, hss.2] at hsl
            have lp221 : ∀ (n221 : Nat) (k : Int) (gx : Nat → Int) (mx : List Int) (A0 : List Int) (fi : Int) (se : Int) (fr : Int) (to : Int) (H : Heap) (locs : List Loc) (ls : Array Slot), (0 ≤ fr ∧ fr ≤ k ∧ k ≤ to ∧ to ≤ u.length) → (spm rs u pl 1 = fi ∧ spe rs u pl 1 = se) → (A0 = (fmo (rget rs fi) 0)) → (fr = ((fmo (rget rs fi) 1).length : Int)) → (to = (u.length : Int) - ((fmo (rget rs se) 1).length : Int)) → (mx = A0 ++ sl u fr k) → (Tx gx mx) → (to - k) < (n221 : Int) → ad_G D A9 s9.heap H locs [(m0, mO M xth xrm xsv xln xat xer xwr xwd xlo xhi (u.length : Int) (mx.length : Int) xkl fi se xdn xon xtw xol xrw xgl xus xpr xmk xab), (M 1, aI (K 0) 1247 g), (M 17, aI (K 0) 2000 gwo), (M 18, aI (K 0) 2000 gx)] → lv_has ls 6 [(0, .ref m0), (1, .int (iI pl)), (2, .int (iI 1)), (3, .int (iI fr)), (4, .int (iI to)), (5, .int (iI k))] → W p9 l e9 rm_X11_convert_1 s9 m9 ag9 bl9 mt9 c9 H locs 0 0 Q9 (F0 m9 221 ls []) := by
              intro n221
              induction n221 with
              | zero =>
                intro k gx mx A0 fi se fr to H locs ls hk hss hA hfr hto hmx hTx hm221
                exact absurd hm221 (by omega)
              | succ n221 ih221 =>
                intro k gx mx A0 fi se fr to H locs ls hk hss hA hfr hto hmx hTx hm221 G hl
                have hA12 := fmo_len hW fi 0
                have hmxl : (mx.length : Int) = A0.length + (k - fr) := by rw [hmx, List.length_append, Int.natCast_add, sl_len (by omega) (by omega) (by omega)]
                have hAl : A0.length ≤ 12 := by rw [hA]; exact hA12
                have hseb := spe_b rs u pl 1
                refine lv_iload F.1 F.2.1 dX11_convert_221 (lv_at hl 5 rfl) ?_
                refine lv_iload F.1 F.2.1 dX11_convert_223 (lv_at hl 4 rfl) ?_
                refine ad_icmp_ge (tgt := 260) F (by omega) dX11_convert_225 (by decide) (fun cc_75 => ?_) (fun cc_75 => ?_)
                · refine lv_aload_n F.1 F.2.1 dX11_convert_260 rfl (lv_at hl 0 rfl) ?_
                  refine lv_aload_n F.1 F.2.1 dX11_convert_261 rfl (lv_at hl 0 rfl) ?_
                  refine ad_get F G fl_X11_242 0 rfl rfl dX11_convert_262 ?_
                  refine lv_iload_n F.1 F.2.1 dX11_convert_265 rfl (lv_at hl 2 rfl) ?_
                  refine ad_if_ne (tgt := 273) F (by decide) dX11_convert_266 (by decide) (fun _ => ?_) (fun cc_76 => absurd cc_76 (by decide))
                  refine ad_iconst F dX11_convert_273 ?_
                  refine ad_callV (As := [.int (iI se), .int (iI 0)]) (rest := []) F G (c_X11_addForm l D K z0 m0 M xth xrm xsv xln xat xer xwr xwd xlo xhi (u.length : Int) xkl fi se xdn xon xtw xol xrw xgl xus xpr xmk xab g gx rs ps md th nc mx se 0 hM hW hTx (by omega) (by rw [← hss.2]; exact hseb) (by omega)) my_X11_addForm mv_X11_252 (wr := [(M 17, aI (K 0) 2000 gwo)]) (isC := [0, 1, 3]) (isR := [2]) ⟨rfl, rfl, rfl, rfl, by decide⟩ 11 0 rfl rfl rfl rfl ⟨Nat.le_of_ble_eq_true rfl, Nat.le_of_ble_eq_true rfl⟩ ⟨Nat.le_of_ble_eq_true rfl, Nat.le_of_ble_eq_true rfl⟩ (Nat.le_of_ble_eq_true rfl) hl.1 (cells9 := 0) (slots9 := 0) ⟨rfl, rfl⟩ dX11_convert_274 (fun v u H locs hw_77 G => ?_)
                  obtain ⟨m2_78, gma2_79, rfl, hc_80, hc_81, rfl⟩ := hw_77
                  replace G := G.perm (ws' := [(m0, mO M xth xrm xsv xln xat xer xwr xwd xlo xhi (u.length : Int) (m2_78.length : Int) xkl fi se xdn xon xtw xol xrw xgl xus xpr xmk xab), (M 1, aI (K 0) 1247 g), (M 17, aI (K 0) 2000 gwo), (M 18, aI (K 0) 2000 gma2_79)]) [1, 2, 0, 3] rfl rfl
                  refine W.eq (g2 := F0 m9 277 ls []) rfl ?_
                  exact ad_vreturn F G hR rfl (Nat.le_of_ble_eq_true rfl) (Nat.le_of_ble_eq_true rfl) ⟨m2_78, gma2_79, rfl, (by rw [hc_80, hmx, hA, spw_eq hss.1 hss.2, ← hfr, ← hto, show k = to by omega]; rfl), hc_81, (by rw [hss.1, hss.2])⟩ dX11_convert_277
                · refine lv_aload_n F.1 F.2.1 dX11_convert_228 rfl (lv_at hl 0 rfl) ?_
                  refine ad_get F G fl_X11_42 0 rfl rfl dX11_convert_229 ?_
                  refine lv_aload_n F.1 F.2.1 dX11_convert_232 rfl (lv_at hl 0 rfl) ?_
                  refine ad_get F G fl_X11_239 0 rfl rfl dX11_convert_233 ?_
                  refine lv_aload_n F.1 F.2.1 dX11_convert_236 rfl (lv_at hl 0 rfl) ?_
                  refine ad_get F G fl_X11_39 0 rfl rfl dX11_convert_237 ?_
                  refine lv_iload F.1 F.2.1 dX11_convert_240 (lv_at hl 5 rfl) ?_
                  refine ad_iald F G 2 rfl (w := lat u k) (by omega) (Tx_at hTu (by omega) (by omega)) dX11_convert_242 ?_
                  refine ad_iast F G 3 rfl (by omega) (ws' := [(m0, mO M xth xrm xsv xln xat xer xwr xwd xlo xhi (u.length : Int) (mx.length : Int) xkl fi se xdn xon xtw xol xrw xgl xus xpr xmk xab), (M 1, aI (K 0) 1247 g), (M 17, aI (K 0) 2000 gwo), (M 18, aI (K 0) 2000 (va_up gx (mx.length : Int).toNat (lat u k)))]) rfl dX11_convert_243 (fun H locs G => ?_)
                  refine lv_aload_n F.1 F.2.1 dX11_convert_244 rfl (lv_at hl 0 rfl) ?_
                  refine lv_dup F.1 F.2.1 dX11_convert_245 rfl ?_
                  refine ad_get F G fl_X11_239 0 rfl rfl dX11_convert_246 ?_
                  refine ad_iconst F dX11_convert_249 ?_
                  refine ad_iadd F dX11_convert_250 ?_
                  refine ad_put F G fl_X11_239 0 rfl rfl rfl (Nat.le_of_ble_eq_true rfl) (ws' := [(m0, mO M xth xrm xsv xln xat xer xwr xwd xlo xhi (u.length : Int) ((mx.length : Int) + 1) xkl fi se xdn xon xtw xol xrw xgl xus xpr xmk xab), (M 1, aI (K 0) 1247 g), (M 17, aI (K 0) 2000 gwo), (M 18, aI (K 0) 2000 (va_up gx (mx.length : Int).toNat (lat u k)))]) rfl dX11_convert_251 (fun H locs G => ?_)
                  have hpl : (((mx ++ [lat u k]).length : Nat) : Int) = (mx.length : Int) + 1 := by simp
                  replace G := G.eq (ws' := [(m0, mO M xth xrm xsv xln xat xer xwr xwd xlo xhi (u.length : Int) ((mx ++ [lat u k]).length : Int) xkl fi se xdn xon xtw xol xrw xgl xus xpr xmk xab), (M 1, aI (K 0) 1247 g), (M 17, aI (K 0) 2000 gwo), (M 18, aI (K 0) 2000 (va_up gx (mx.length : Int).toNat (lat u k)))]) (by rw [hpl])
                  refine ad_iinc (lv' := [(5, .int (iI (k + 1))), (0, .ref m0), (1, .int (iI pl)), (2, .int (iI 1)), (3, .int (iI fr)), (4, .int (iI to))]) F dX11_convert_254 hl (k := 5) rfl (by decide) rfl (fun ls hl => ?_)
                  refine lv_goto (tgt := 221) F.1 F.2.1 dX11_convert_257 (by decide) ?_
                  exact ih221 (k + 1) (va_up gx (mx.length : Int).toNat (lat u k)) (mx ++ [lat u k]) A0 fi se fr to _ _ _ (by omega) hss hA hfr hto (by rw [sl_succ (by omega) (by omega) (by omega), hmx, List.append_assoc]) (Tx_push hTx _) (by omega) (G.perm (ws' := [(m0, mO M xth xrm xsv xln xat xer xwr xwd xlo xhi (u.length : Int) ((mx ++ [lat u k]).length : Int) xkl fi se xdn xon xtw xol xrw xgl xus xpr xmk xab), (M 1, aI (K 0) 1247 g), (M 17, aI (K 0) 2000 gwo), (M 18, aI (K 0) 2000 (va_up gx (mx.length : Int).toNat (lat u k)))]) [0, 1, 2, 3] rfl rfl) (lv_sub hl [1, 2, 3, 4, 5, 0] rfl)
            exact lp221 ((((((u.length : Int) - ((fmo (rget rs (bR rs u pl 2 1)) 1).length : Int)) - ((fmo (rget rs (bR rs u pl 1 1)) 1).length : Int) : Int)) + 1).toNat) ((fmo (rget rs (bR rs u pl 1 1)) 1).length : Int) gma2_72 m2_71 m2_71 (bR rs u pl 1 1) (bR rs u pl 2 1) ((fmo (rget rs (bR rs u pl 1 1)) 1).length : Int) ((u.length : Int) - ((fmo (rget rs (bR rs u pl 2 1)) 1).length : Int)) _ _ _ (by omega) hss (by rw [hc_73, List.nil_append]) hfr hto (by rw [sl_self, List.append_nil]) hc_74 (by omega) (G.perm (ws' := [(m0, mO M xth xrm xsv xln xat xer xwr xwd xlo xhi (u.length : Int) (m2_71.length : Int) xkl (bR rs u pl 1 1) (bR rs u pl 2 1) xdn xon xtw xol xrw xgl xus xpr xmk xab), (M 1, aI (K 0) 1247 g), (M 17, aI (K 0) 2000 gwo), (M 18, aI (K 0) 2000 gma2_72)]) [0, 1, 2, 3] rfl rfl) (lv_sub hl [3, 4, 5, 2, 1, 0] rfl)
          · refine ad_iconst F dX11_convert_185 ?_
            refine lv_goto (tgt := 198) F.1 F.2.1 dX11_convert_186 (by decide) ?_
            refine ad_isub F dX11_convert_198 ?_
            refine lv_istore (lv' := [(4, .int (iI ((u.length : Int) - 0))), (3, .int (iI ((fmo (rget rs (bR rs u pl 1 1)) 1).length : Int))), (0, .ref m0), (1, .int (iI pl)), (2, .int (iI 1))]) F.1 F.2.1 dX11_convert_199 hl (by decide) rfl (fun ls hl => ?_)
            refine lv_aload_n F.1 F.2.1 dX11_convert_201 rfl (lv_at hl 2 rfl) ?_
            refine lv_aload_n F.1 F.2.1 dX11_convert_202 rfl (lv_at hl 2 rfl) ?_
            refine ad_get F G fl_X11_249 0 rfl rfl dX11_convert_203 ?_
            refine lv_iload_n F.1 F.2.1 dX11_convert_206 rfl (lv_at hl 4 rfl) ?_
            refine ad_if_ne (tgt := 214) F (by decide) dX11_convert_207 (by decide) (fun _ => ?_) (fun cc_82 => absurd cc_82 (by decide))
            refine ad_iconst F dX11_convert_214 ?_
            refine ad_callV (As := [.int (iI (bR rs u pl 1 1)), .int (iI 0)]) (rest := []) F G (c_X11_addForm l D K z0 m0 M xth xrm xsv xln xat xer xwr xwd xlo xhi (u.length : Int) xkl (bR rs u pl 1 1) (bR rs u pl 2 1) xdn xon xtw xol xrw xgl xus xpr xmk xab g gma rs ps md th nc ([] : List Int) (bR rs u pl 1 1) 0 hM hW Tx_nil (by simp) (by omega) (by omega)) my_X11_addForm mv_X11_252 (wr := [(M 17, aI (K 0) 2000 gwo)]) (isC := [0, 1, 3]) (isR := [2]) ⟨rfl, rfl, rfl, rfl, by decide⟩ 11 0 rfl rfl rfl rfl ⟨Nat.le_of_ble_eq_true rfl, Nat.le_of_ble_eq_true rfl⟩ ⟨Nat.le_of_ble_eq_true rfl, Nat.le_of_ble_eq_true rfl⟩ (Nat.le_of_ble_eq_true rfl) hl.1 (cells9 := 0) (slots9 := 0) ⟨rfl, rfl⟩ dX11_convert_215 (fun v u H locs hw_83 G => ?_)
            obtain ⟨m2_84, gma2_85, rfl, hc_86, hc_87, rfl⟩ := hw_83
            replace G := G.perm (ws' := [(m0, mO M xth xrm xsv xln xat xer xwr xwd xlo xhi (u.length : Int) (m2_84.length : Int) xkl (bR rs u pl 1 1) (bR rs u pl 2 1) xdn xon xtw xol xrw xgl xus xpr xmk xab), (M 1, aI (K 0) 1247 g), (M 17, aI (K 0) 2000 gwo), (M 18, aI (K 0) 2000 gma2_85)]) [1, 2, 0, 3] rfl rfl
            refine W.eq (g2 := F0 m9 218 ls []) rfl ?_
            refine lv_iload_n F.1 F.2.1 dX11_convert_218 rfl (lv_at hl 1 rfl) ?_
            refine lv_istore (lv' := [(5, .int (iI ((fmo (rget rs (bR rs u pl 1 1)) 1).length : Int))), (4, .int (iI ((u.length : Int) - 0))), (3, .int (iI ((fmo (rget rs (bR rs u pl 1 1)) 1).length : Int))), (0, .ref m0), (1, .int (iI pl)), (2, .int (iI 1))]) F.1 F.2.1 dX11_convert_219 hl (by decide) rfl (fun ls hl => ?_)
            have hfr : ((fmo (rget rs (bR rs u pl 1 1)) 1).length : Int) = ((fmo (rget rs (bR rs u pl 1 1)) 1).length : Int) := by first | rfl | (rw [show (bR rs u pl 1 1) = -1 by omega, fmo_m1]; rfl)
            have hto : (u.length : Int) - 0 = (u.length : Int) - ((fmo (rget rs (bR rs u pl 2 1)) 1).length : Int) := by first | rfl | (rw [show (bR rs u pl 2 1) = -1 by omega, fmo_m1]; rfl)
            have hsl := spl_le rs u pl 1
            rw [hss.1, hss.2] at hsl
            have lp221 : ∀ (n221 : Nat) (k : Int) (gx : Nat → Int) (mx : List Int) (A0 : List Int) (fi : Int) (se : Int) (fr : Int) (to : Int) (H : Heap) (locs : List Loc) (ls : Array Slot), (0 ≤ fr ∧ fr ≤ k ∧ k ≤ to ∧ to ≤ u.length) → (spm rs u pl 1 = fi ∧ spe rs u pl 1 = se) → (A0 = (fmo (rget rs fi) 0)) → (fr = ((fmo (rget rs fi) 1).length : Int)) → (to = (u.length : Int) - ((fmo (rget rs se) 1).length : Int)) → (mx = A0 ++ sl u fr k) → (Tx gx mx) → (to - k) < (n221 : Int) → ad_G D A9 s9.heap H locs [(m0, mO M xth xrm xsv xln xat xer xwr xwd xlo xhi (u.length : Int) (mx.length : Int) xkl fi se xdn xon xtw xol xrw xgl xus xpr xmk xab), (M 1, aI (K 0) 1247 g), (M 17, aI (K 0) 2000 gwo), (M 18, aI (K 0) 2000 gx)] → lv_has ls 6 [(0, .ref m0), (1, .int (iI pl)), (2, .int (iI 1)), (3, .int (iI fr)), (4, .int (iI to)), (5, .int (iI k))] → W p9 l e9 rm_X11_convert_1 s9 m9 ag9 bl9 mt9 c9 H locs 0 0 Q9 (F0 m9 221 ls []) := by
              intro n221
              induction n221 with
              | zero =>
                intro k gx mx A0 fi se fr to H locs ls hk hss hA hfr hto hmx hTx hm221
                exact absurd hm221 (by omega)
              | succ n221 ih221 =>
                intro k gx mx A0 fi se fr to H locs ls hk hss hA hfr hto hmx hTx hm221 G hl
                have hA12 := fmo_len hW fi 0
                have hmxl : (mx.length : Int) = A0.length + (k - fr) := by rw [hmx, List.length_append, Int.natCast_add, sl_len (by omega) (by omega) (by omega)]
                have hAl : A0.length ≤ 12 := by rw [hA]; exact hA12
                have hseb := spe_b rs u pl 1
                refine lv_iload F.1 F.2.1 dX11_convert_221 (lv_at hl 5 rfl) ?_
                refine lv_iload F.1 F.2.1 dX11_convert_223 (lv_at hl 4 rfl) ?_
                refine ad_icmp_ge (tgt := 260) F (by omega) dX11_convert_225 (by decide) (fun cc_88 => ?_) (fun cc_88 => ?_)
                · refine lv_aload_n F.1 F.2.1 dX11_convert_260 rfl (lv_at hl 0 rfl) ?_
                  refine lv_aload_n F.1 F.2.1 dX11_convert_261 rfl (lv_at hl 0 rfl) ?_
                  refine ad_get F G fl_X11_242 0 rfl rfl dX11_convert_262 ?_
                  refine lv_iload_n F.1 F.2.1 dX11_convert_265 rfl (lv_at hl 2 rfl) ?_
                  refine ad_if_ne (tgt := 273) F (by decide) dX11_convert_266 (by decide) (fun _ => ?_) (fun cc_89 => absurd cc_89 (by decide))
                  refine ad_iconst F dX11_convert_273 ?_
                  refine ad_callV (As := [.int (iI se), .int (iI 0)]) (rest := []) F G (c_X11_addForm l D K z0 m0 M xth xrm xsv xln xat xer xwr xwd xlo xhi (u.length : Int) xkl fi se xdn xon xtw xol xrw xgl xus xpr xmk xab g gx rs ps md th nc mx se 0 hM hW hTx (by omega) (by rw [← hss.2]; exact hseb) (by omega)) my_X11_addForm mv_X11_252 (wr := [(M 17, aI (K 0) 2000 gwo)]) (isC := [0, 1, 3]) (isR := [2]) ⟨rfl, rfl, rfl, rfl, by decide⟩ 11 0 rfl rfl rfl rfl ⟨Nat.le_of_ble_eq_true rfl, Nat.le_of_ble_eq_true rfl⟩ ⟨Nat.le_of_ble_eq_true rfl, Nat.le_of_ble_eq_true rfl⟩ (Nat.le_of_ble_eq_true rfl) hl.1 (cells9 := 0) (slots9 := 0) ⟨rfl, rfl⟩ dX11_convert_274 (fun v u H locs hw_90 G => ?_)
                  obtain ⟨m2_91, gma2_92, rfl, hc_93, hc_94, rfl⟩ := hw_90
                  replace G := G.perm (ws' := [(m0, mO M xth xrm xsv xln xat xer xwr xwd xlo xhi (u.length : Int) (m2_91.length : Int) xkl fi se xdn xon xtw xol xrw xgl xus xpr xmk xab), (M 1, aI (K 0) 1247 g), (M 17, aI (K 0) 2000 gwo), (M 18, aI (K 0) 2000 gma2_92)]) [1, 2, 0, 3] rfl rfl
                  refine W.eq (g2 := F0 m9 277 ls []) rfl ?_
                  exact ad_vreturn F G hR rfl (Nat.le_of_ble_eq_true rfl) (Nat.le_of_ble_eq_true rfl) ⟨m2_91, gma2_92, rfl, (by rw [hc_93, hmx, hA, spw_eq hss.1 hss.2, ← hfr, ← hto, show k = to by omega]; rfl), hc_94, (by rw [hss.1, hss.2])⟩ dX11_convert_277
                · refine lv_aload_n F.1 F.2.1 dX11_convert_228 rfl (lv_at hl 0 rfl) ?_
                  refine ad_get F G fl_X11_42 0 rfl rfl dX11_convert_229 ?_
                  refine lv_aload_n F.1 F.2.1 dX11_convert_232 rfl (lv_at hl 0 rfl) ?_
                  refine ad_get F G fl_X11_239 0 rfl rfl dX11_convert_233 ?_
                  refine lv_aload_n F.1 F.2.1 dX11_convert_236 rfl (lv_at hl 0 rfl) ?_
                  refine ad_get F G fl_X11_39 0 rfl rfl dX11_convert_237 ?_
                  refine lv_iload F.1 F.2.1 dX11_convert_240 (lv_at hl 5 rfl) ?_
                  refine ad_iald F G 2 rfl (w := lat u k) (by omega) (Tx_at hTu (by omega) (by omega)) dX11_convert_242 ?_
                  refine ad_iast F G 3 rfl (by omega) (ws' := [(m0, mO M xth xrm xsv xln xat xer xwr xwd xlo xhi (u.length : Int) (mx.length : Int) xkl fi se xdn xon xtw xol xrw xgl xus xpr xmk xab), (M 1, aI (K 0) 1247 g), (M 17, aI (K 0) 2000 gwo), (M 18, aI (K 0) 2000 (va_up gx (mx.length : Int).toNat (lat u k)))]) rfl dX11_convert_243 (fun H locs G => ?_)
                  refine lv_aload_n F.1 F.2.1 dX11_convert_244 rfl (lv_at hl 0 rfl) ?_
                  refine lv_dup F.1 F.2.1 dX11_convert_245 rfl ?_
                  refine ad_get F G fl_X11_239 0 rfl rfl dX11_convert_246 ?_
                  refine ad_iconst F dX11_convert_249 ?_
                  refine ad_iadd F dX11_convert_250 ?_
                  refine ad_put F G fl_X11_239 0 rfl rfl rfl (Nat.le_of_ble_eq_true rfl) (ws' := [(m0, mO M xth xrm xsv xln xat xer xwr xwd xlo xhi (u.length : Int) ((mx.length : Int) + 1) xkl fi se xdn xon xtw xol xrw xgl xus xpr xmk xab), (M 1, aI (K 0) 1247 g), (M 17, aI (K 0) 2000 gwo), (M 18, aI (K 0) 2000 (va_up gx (mx.length : Int).toNat (lat u k)))]) rfl dX11_convert_251 (fun H locs G => ?_)
                  have hpl : (((mx ++ [lat u k]).length : Nat) : Int) = (mx.length : Int) + 1 := by simp
                  replace G := G.eq (ws' := [(m0, mO M xth xrm xsv xln xat xer xwr xwd xlo xhi (u.length : Int) ((mx ++ [lat u k]).length : Int) xkl fi se xdn xon xtw xol xrw xgl xus xpr xmk xab), (M 1, aI (K 0) 1247 g), (M 17, aI (K 0) 2000 gwo), (M 18, aI (K 0) 2000 (va_up gx (mx.length : Int).toNat (lat u k)))]) (by rw [hpl])
                  refine ad_iinc (lv' := [(5, .int (iI (k + 1))), (0, .ref m0), (1, .int (iI pl)), (2, .int (iI 1)), (3, .int (iI fr)), (4, .int (iI to))]) F dX11_convert_254 hl (k := 5) rfl (by decide) rfl (fun ls hl => ?_)
                  refine lv_goto (tgt := 221) F.1 F.2.1 dX11_convert_257 (by decide) ?_
                  exact ih221 (k + 1) (va_up gx (mx.length : Int).toNat (lat u k)) (mx ++ [lat u k]) A0 fi se fr to _ _ _ (by omega) hss hA hfr hto (by rw [sl_succ (by omega) (by omega) (by omega), hmx, List.append_assoc]) (Tx_push hTx _) (by omega) (G.perm (ws' := [(m0, mO M xth xrm xsv xln xat xer xwr xwd xlo xhi (u.length : Int) ((mx ++ [lat u k]).length : Int) xkl fi se xdn xon xtw xol xrw xgl xus xpr xmk xab), (M 1, aI (K 0) 1247 g), (M 17, aI (K 0) 2000 gwo), (M 18, aI (K 0) 2000 (va_up gx (mx.length : Int).toNat (lat u k)))]) [0, 1, 2, 3] rfl rfl) (lv_sub hl [1, 2, 3, 4, 5, 0] rfl)
            exact lp221 ((((((u.length : Int) - 0) - ((fmo (rget rs (bR rs u pl 1 1)) 1).length : Int) : Int)) + 1).toNat) ((fmo (rget rs (bR rs u pl 1 1)) 1).length : Int) gma2_85 m2_84 m2_84 (bR rs u pl 1 1) (bR rs u pl 2 1) ((fmo (rget rs (bR rs u pl 1 1)) 1).length : Int) ((u.length : Int) - 0) _ _ _ (by omega) hss (by rw [hc_86, List.nil_append]) hfr hto (by rw [sl_self, List.append_nil]) hc_87 (by omega) (G.perm (ws' := [(m0, mO M xth xrm xsv xln xat xer xwr xwd xlo xhi (u.length : Int) (m2_84.length : Int) xkl (bR rs u pl 1 1) (bR rs u pl 2 1) xdn xon xtw xol xrw xgl xus xpr xmk xab), (M 1, aI (K 0) 1247 g), (M 17, aI (K 0) 2000 gwo), (M 18, aI (K 0) 2000 gma2_85)]) [0, 1, 2, 3] rfl rfl) (lv_sub hl [3, 4, 5, 2, 1, 0] rfl)
        · refine ad_iconst F dX11_convert_160 ?_
          refine lv_goto (tgt := 173) F.1 F.2.1 dX11_convert_161 (by decide) ?_
          refine lv_istore_n (lv' := [(3, .int (iI 0)), (0, .ref m0), (1, .int (iI pl)), (2, .int (iI 1))]) F.1 F.2.1 dX11_convert_173 rfl hl (by decide) rfl (fun ls hl => ?_)
          refine lv_aload_n F.1 F.2.1 dX11_convert_174 rfl (lv_at hl 1 rfl) ?_
          refine ad_get F G fl_X11_233 0 rfl rfl dX11_convert_175 ?_
          refine lv_aload_n F.1 F.2.1 dX11_convert_178 rfl (lv_at hl 1 rfl) ?_
          refine ad_get F G fl_X11_242 0 rfl rfl dX11_convert_179 ?_
          refine ad_if_ge (tgt := 189) F (by omega) dX11_convert_182 (by decide) (fun cc_95 => ?_) (fun cc_95 => ?_)
          · refine lv_aload_n F.1 F.2.1 dX11_convert_189 rfl (lv_at hl 1 rfl) ?_
            refine lv_aload_n F.1 F.2.1 dX11_convert_190 rfl (lv_at hl 1 rfl) ?_
            refine ad_get F G fl_X11_242 0 rfl rfl dX11_convert_191 ?_
            refine lv_iload_n F.1 F.2.1 dX11_convert_194 rfl (lv_at hl 3 rfl) ?_
            refine ad_callV (As := [.int (iI (bR rs u pl 2 1)), .int (iI 1)]) (rest := [.int (iI (u.length : Int))]) F G (c_X11_lengthOf l D K z0 m0 M xth xrm xsv xln xat xer xwr xwd xlo xhi (u.length : Int) (([] : List Int).length : Int) xkl (bR rs u pl 1 1) (bR rs u pl 2 1) xdn xon xtw xol xrw xgl xus xpr xmk xab g rs ps md th nc (bR rs u pl 2 1) 1 hM hW (by omega) (by omega)) my_X11_lengthOf mv_X11_185 (wr := [(M 17, aI (K 0) 2000 gwo), (M 18, aI (K 0) 2000 gma)]) (isC := [0, 1]) (isR := [2, 3]) ⟨rfl, rfl, rfl, rfl, by decide⟩ 11 0 rfl rfl rfl rfl ⟨Nat.le_of_ble_eq_true rfl, Nat.le_of_ble_eq_true rfl⟩ ⟨Nat.le_of_ble_eq_true rfl, Nat.le_of_ble_eq_true rfl⟩ (Nat.le_of_ble_eq_true rfl) hl.1 (cells9 := 0) (slots9 := 0) ⟨rfl, rfl⟩ dX11_convert_195 (fun v u H locs hw_96 G => ?_)
            obtain ⟨rfl, rfl⟩ := hw_96
            replace G := G.perm (ws' := [(m0, mO M xth xrm xsv xln xat xer xwr xwd xlo xhi (u.length : Int) (([] : List Int).length : Int) xkl (bR rs u pl 1 1) (bR rs u pl 2 1) xdn xon xtw xol xrw xgl xus xpr xmk xab), (M 1, aI (K 0) 1247 g), (M 17, aI (K 0) 2000 gwo), (M 18, aI (K 0) 2000 gma)]) [2, 3, 0, 1] rfl rfl
            refine W.eq (g2 := F0 m9 198 ls [.int (iI ((fmo (rget rs (bR rs u pl 2 1)) 1).length : Int)), .int (iI (u.length : Int))]) rfl ?_
            refine ad_isub F dX11_convert_198 ?_
            refine lv_istore (lv' := [(4, .int (iI ((u.length : Int) - ((fmo (rget rs (bR rs u pl 2 1)) 1).length : Int)))), (3, .int (iI 0)), (0, .ref m0), (1, .int (iI pl)), (2, .int (iI 1))]) F.1 F.2.1 dX11_convert_199 hl (by decide) rfl (fun ls hl => ?_)
            refine lv_aload_n F.1 F.2.1 dX11_convert_201 rfl (lv_at hl 2 rfl) ?_
            refine lv_aload_n F.1 F.2.1 dX11_convert_202 rfl (lv_at hl 2 rfl) ?_
            refine ad_get F G fl_X11_249 0 rfl rfl dX11_convert_203 ?_
            refine lv_iload_n F.1 F.2.1 dX11_convert_206 rfl (lv_at hl 4 rfl) ?_
            refine ad_if_ne (tgt := 214) F (by decide) dX11_convert_207 (by decide) (fun _ => ?_) (fun cc_97 => absurd cc_97 (by decide))
            refine ad_iconst F dX11_convert_214 ?_
            refine ad_callV (As := [.int (iI (bR rs u pl 1 1)), .int (iI 0)]) (rest := []) F G (c_X11_addForm l D K z0 m0 M xth xrm xsv xln xat xer xwr xwd xlo xhi (u.length : Int) xkl (bR rs u pl 1 1) (bR rs u pl 2 1) xdn xon xtw xol xrw xgl xus xpr xmk xab g gma rs ps md th nc ([] : List Int) (bR rs u pl 1 1) 0 hM hW Tx_nil (by simp) (by omega) (by omega)) my_X11_addForm mv_X11_252 (wr := [(M 17, aI (K 0) 2000 gwo)]) (isC := [0, 1, 3]) (isR := [2]) ⟨rfl, rfl, rfl, rfl, by decide⟩ 11 0 rfl rfl rfl rfl ⟨Nat.le_of_ble_eq_true rfl, Nat.le_of_ble_eq_true rfl⟩ ⟨Nat.le_of_ble_eq_true rfl, Nat.le_of_ble_eq_true rfl⟩ (Nat.le_of_ble_eq_true rfl) hl.1 (cells9 := 0) (slots9 := 0) ⟨rfl, rfl⟩ dX11_convert_215 (fun v u H locs hw_98 G => ?_)
            obtain ⟨m2_99, gma2_100, rfl, hc_101, hc_102, rfl⟩ := hw_98
            replace G := G.perm (ws' := [(m0, mO M xth xrm xsv xln xat xer xwr xwd xlo xhi (u.length : Int) (m2_99.length : Int) xkl (bR rs u pl 1 1) (bR rs u pl 2 1) xdn xon xtw xol xrw xgl xus xpr xmk xab), (M 1, aI (K 0) 1247 g), (M 17, aI (K 0) 2000 gwo), (M 18, aI (K 0) 2000 gma2_100)]) [1, 2, 0, 3] rfl rfl
            refine W.eq (g2 := F0 m9 218 ls []) rfl ?_
            refine lv_iload_n F.1 F.2.1 dX11_convert_218 rfl (lv_at hl 1 rfl) ?_
            refine lv_istore (lv' := [(5, .int (iI 0)), (4, .int (iI ((u.length : Int) - ((fmo (rget rs (bR rs u pl 2 1)) 1).length : Int)))), (3, .int (iI 0)), (0, .ref m0), (1, .int (iI pl)), (2, .int (iI 1))]) F.1 F.2.1 dX11_convert_219 hl (by decide) rfl (fun ls hl => ?_)
            have hfr : 0 = ((fmo (rget rs (bR rs u pl 1 1)) 1).length : Int) := by first | rfl | (rw [show (bR rs u pl 1 1) = -1 by omega, fmo_m1]; rfl)
            have hto : (u.length : Int) - ((fmo (rget rs (bR rs u pl 2 1)) 1).length : Int) = (u.length : Int) - ((fmo (rget rs (bR rs u pl 2 1)) 1).length : Int) := by first | rfl | (rw [show (bR rs u pl 2 1) = -1 by omega, fmo_m1]; rfl)
            have hsl := spl_le rs u pl 1
            rw [hss.1, hss.2] at hsl
            have lp221 : ∀ (n221 : Nat) (k : Int) (gx : Nat → Int) (mx : List Int) (A0 : List Int) (fi : Int) (se : Int) (fr : Int) (to : Int) (H : Heap) (locs : List Loc) (ls : Array Slot), (0 ≤ fr ∧ fr ≤ k ∧ k ≤ to ∧ to ≤ u.length) → (spm rs u pl 1 = fi ∧ spe rs u pl 1 = se) → (A0 = (fmo (rget rs fi) 0)) → (fr = ((fmo (rget rs fi) 1).length : Int)) → (to = (u.length : Int) - ((fmo (rget rs se) 1).length : Int)) → (mx = A0 ++ sl u fr k) → (Tx gx mx) → (to - k) < (n221 : Int) → ad_G D A9 s9.heap H locs [(m0, mO M xth xrm xsv xln xat xer xwr xwd xlo xhi (u.length : Int) (mx.length : Int) xkl fi se xdn xon xtw xol xrw xgl xus xpr xmk xab), (M 1, aI (K 0) 1247 g), (M 17, aI (K 0) 2000 gwo), (M 18, aI (K 0) 2000 gx)] → lv_has ls 6 [(0, .ref m0), (1, .int (iI pl)), (2, .int (iI 1)), (3, .int (iI fr)), (4, .int (iI to)), (5, .int (iI k))] → W p9 l e9 rm_X11_convert_1 s9 m9 ag9 bl9 mt9 c9 H locs 0 0 Q9 (F0 m9 221 ls []) := by
              intro n221
              induction n221 with
              | zero =>
                intro k gx mx A0 fi se fr to H locs ls hk hss hA hfr hto hmx hTx hm221
                exact absurd hm221 (by omega)
              | succ n221 ih221 =>
                intro k gx mx A0 fi se fr to H locs ls hk hss hA hfr hto hmx hTx hm221 G hl
                have hA12 := fmo_len hW fi 0
                have hmxl : (mx.length : Int) = A0.length + (k - fr) := by rw [hmx, List.length_append, Int.natCast_add, sl_len (by omega) (by omega) (by omega)]
                have hAl : A0.length ≤ 12 := by rw [hA]; exact hA12
                have hseb := spe_b rs u pl 1
                refine lv_iload F.1 F.2.1 dX11_convert_221 (lv_at hl 5 rfl) ?_
                refine lv_iload F.1 F.2.1 dX11_convert_223 (lv_at hl 4 rfl) ?_
                refine ad_icmp_ge (tgt := 260) F (by omega) dX11_convert_225 (by decide) (fun cc_103 => ?_) (fun cc_103 => ?_)
                · refine lv_aload_n F.1 F.2.1 dX11_convert_260 rfl (lv_at hl 0 rfl) ?_
                  refine lv_aload_n F.1 F.2.1 dX11_convert_261 rfl (lv_at hl 0 rfl) ?_
                  refine ad_get F G fl_X11_242 0 rfl rfl dX11_convert_262 ?_
                  refine lv_iload_n F.1 F.2.1 dX11_convert_265 rfl (lv_at hl 2 rfl) ?_
                  refine ad_if_ne (tgt := 273) F (by decide) dX11_convert_266 (by decide) (fun _ => ?_) (fun cc_104 => absurd cc_104 (by decide))
                  refine ad_iconst F dX11_convert_273 ?_
                  refine ad_callV (As := [.int (iI se), .int (iI 0)]) (rest := []) F G (c_X11_addForm l D K z0 m0 M xth xrm xsv xln xat xer xwr xwd xlo xhi (u.length : Int) xkl fi se xdn xon xtw xol xrw xgl xus xpr xmk xab g gx rs ps md th nc mx se 0 hM hW hTx (by omega) (by rw [← hss.2]; exact hseb) (by omega)) my_X11_addForm mv_X11_252 (wr := [(M 17, aI (K 0) 2000 gwo)]) (isC := [0, 1, 3]) (isR := [2]) ⟨rfl, rfl, rfl, rfl, by decide⟩ 11 0 rfl rfl rfl rfl ⟨Nat.le_of_ble_eq_true rfl, Nat.le_of_ble_eq_true rfl⟩ ⟨Nat.le_of_ble_eq_true rfl, Nat.le_of_ble_eq_true rfl⟩ (Nat.le_of_ble_eq_true rfl) hl.1 (cells9 := 0) (slots9 := 0) ⟨rfl, rfl⟩ dX11_convert_274 (fun v u H locs hw_105 G => ?_)
                  obtain ⟨m2_106, gma2_107, rfl, hc_108, hc_109, rfl⟩ := hw_105
                  replace G := G.perm (ws' := [(m0, mO M xth xrm xsv xln xat xer xwr xwd xlo xhi (u.length : Int) (m2_106.length : Int) xkl fi se xdn xon xtw xol xrw xgl xus xpr xmk xab), (M 1, aI (K 0) 1247 g), (M 17, aI (K 0) 2000 gwo), (M 18, aI (K 0) 2000 gma2_107)]) [1, 2, 0, 3] rfl rfl
                  refine W.eq (g2 := F0 m9 277 ls []) rfl ?_
                  exact ad_vreturn F G hR rfl (Nat.le_of_ble_eq_true rfl) (Nat.le_of_ble_eq_true rfl) ⟨m2_106, gma2_107, rfl, (by rw [hc_108, hmx, hA, spw_eq hss.1 hss.2, ← hfr, ← hto, show k = to by omega]; rfl), hc_109, (by rw [hss.1, hss.2])⟩ dX11_convert_277
                · refine lv_aload_n F.1 F.2.1 dX11_convert_228 rfl (lv_at hl 0 rfl) ?_
                  refine ad_get F G fl_X11_42 0 rfl rfl dX11_convert_229 ?_
                  refine lv_aload_n F.1 F.2.1 dX11_convert_232 rfl (lv_at hl 0 rfl) ?_
                  refine ad_get F G fl_X11_239 0 rfl rfl dX11_convert_233 ?_
                  refine lv_aload_n F.1 F.2.1 dX11_convert_236 rfl (lv_at hl 0 rfl) ?_
                  refine ad_get F G fl_X11_39 0 rfl rfl dX11_convert_237 ?_
                  refine lv_iload F.1 F.2.1 dX11_convert_240 (lv_at hl 5 rfl) ?_
                  refine ad_iald F G 2 rfl (w := lat u k) (by omega) (Tx_at hTu (by omega) (by omega)) dX11_convert_242 ?_
                  refine ad_iast F G 3 rfl (by omega) (ws' := [(m0, mO M xth xrm xsv xln xat xer xwr xwd xlo xhi (u.length : Int) (mx.length : Int) xkl fi se xdn xon xtw xol xrw xgl xus xpr xmk xab), (M 1, aI (K 0) 1247 g), (M 17, aI (K 0) 2000 gwo), (M 18, aI (K 0) 2000 (va_up gx (mx.length : Int).toNat (lat u k)))]) rfl dX11_convert_243 (fun H locs G => ?_)
                  refine lv_aload_n F.1 F.2.1 dX11_convert_244 rfl (lv_at hl 0 rfl) ?_
                  refine lv_dup F.1 F.2.1 dX11_convert_245 rfl ?_
                  refine ad_get F G fl_X11_239 0 rfl rfl dX11_convert_246 ?_
                  refine ad_iconst F dX11_convert_249 ?_
                  refine ad_iadd F dX11_convert_250 ?_
                  refine ad_put F G fl_X11_239 0 rfl rfl rfl (Nat.le_of_ble_eq_true rfl) (ws' := [(m0, mO M xth xrm xsv xln xat xer xwr xwd xlo xhi (u.length : Int) ((mx.length : Int) + 1) xkl fi se xdn xon xtw xol xrw xgl xus xpr xmk xab), (M 1, aI (K 0) 1247 g), (M 17, aI (K 0) 2000 gwo), (M 18, aI (K 0) 2000 (va_up gx (mx.length : Int).toNat (lat u k)))]) rfl dX11_convert_251 (fun H locs G => ?_)
                  have hpl : (((mx ++ [lat u k]).length : Nat) : Int) = (mx.length : Int) + 1 := by simp
                  replace G := G.eq (ws' := [(m0, mO M xth xrm xsv xln xat xer xwr xwd xlo xhi (u.length : Int) ((mx ++ [lat u k]).length : Int) xkl fi se xdn xon xtw xol xrw xgl xus xpr xmk xab), (M 1, aI (K 0) 1247 g), (M 17, aI (K 0) 2000 gwo), (M 18, aI (K 0) 2000 (va_up gx (mx.length : Int).toNat (lat u k)))]) (by rw [hpl])
                  refine ad_iinc (lv' := [(5, .int (iI (k + 1))), (0, .ref m0), (1, .int (iI pl)), (2, .int (iI 1)), (3, .int (iI fr)), (4, .int (iI to))]) F dX11_convert_254 hl (k := 5) rfl (by decide) rfl (fun ls hl => ?_)
                  refine lv_goto (tgt := 221) F.1 F.2.1 dX11_convert_257 (by decide) ?_
                  exact ih221 (k + 1) (va_up gx (mx.length : Int).toNat (lat u k)) (mx ++ [lat u k]) A0 fi se fr to _ _ _ (by omega) hss hA hfr hto (by rw [sl_succ (by omega) (by omega) (by omega), hmx, List.append_assoc]) (Tx_push hTx _) (by omega) (G.perm (ws' := [(m0, mO M xth xrm xsv xln xat xer xwr xwd xlo xhi (u.length : Int) ((mx ++ [lat u k]).length : Int) xkl fi se xdn xon xtw xol xrw xgl xus xpr xmk xab), (M 1, aI (K 0) 1247 g), (M 17, aI (K 0) 2000 gwo), (M 18, aI (K 0) 2000 (va_up gx (mx.length : Int).toNat (lat u k)))]) [0, 1, 2, 3] rfl rfl) (lv_sub hl [1, 2, 3, 4, 5, 0] rfl)
            exact lp221 ((((((u.length : Int) - ((fmo (rget rs (bR rs u pl 2 1)) 1).length : Int)) - 0 : Int)) + 1).toNat) 0 gma2_100 m2_99 m2_99 (bR rs u pl 1 1) (bR rs u pl 2 1) 0 ((u.length : Int) - ((fmo (rget rs (bR rs u pl 2 1)) 1).length : Int)) _ _ _ (by omega) hss (by rw [hc_101, List.nil_append]) hfr hto (by rw [sl_self, List.append_nil]) hc_102 (by omega) (G.perm (ws' := [(m0, mO M xth xrm xsv xln xat xer xwr xwd xlo xhi (u.length : Int) (m2_99.length : Int) xkl (bR rs u pl 1 1) (bR rs u pl 2 1) xdn xon xtw xol xrw xgl xus xpr xmk xab), (M 1, aI (K 0) 1247 g), (M 17, aI (K 0) 2000 gwo), (M 18, aI (K 0) 2000 gma2_100)]) [0, 1, 2, 3] rfl rfl) (lv_sub hl [3, 4, 5, 2, 1, 0] rfl)
          · refine ad_iconst F dX11_convert_185 ?_
            refine lv_goto (tgt := 198) F.1 F.2.1 dX11_convert_186 (by decide) ?_
            refine ad_isub F dX11_convert_198 ?_
            refine lv_istore (lv' := [(4, .int (iI ((u.length : Int) - 0))), (3, .int (iI 0)), (0, .ref m0), (1, .int (iI pl)), (2, .int (iI 1))]) F.1 F.2.1 dX11_convert_199 hl (by decide) rfl (fun ls hl => ?_)
            refine lv_aload_n F.1 F.2.1 dX11_convert_201 rfl (lv_at hl 2 rfl) ?_
            refine lv_aload_n F.1 F.2.1 dX11_convert_202 rfl (lv_at hl 2 rfl) ?_
            refine ad_get F G fl_X11_249 0 rfl rfl dX11_convert_203 ?_
            refine lv_iload_n F.1 F.2.1 dX11_convert_206 rfl (lv_at hl 4 rfl) ?_
            refine ad_if_ne (tgt := 214) F (by decide) dX11_convert_207 (by decide) (fun _ => ?_) (fun cc_110 => absurd cc_110 (by decide))
            refine ad_iconst F dX11_convert_214 ?_
            refine ad_callV (As := [.int (iI (bR rs u pl 1 1)), .int (iI 0)]) (rest := []) F G (c_X11_addForm l D K z0 m0 M xth xrm xsv xln xat xer xwr xwd xlo xhi (u.length : Int) xkl (bR rs u pl 1 1) (bR rs u pl 2 1) xdn xon xtw xol xrw xgl xus xpr xmk xab g gma rs ps md th nc ([] : List Int) (bR rs u pl 1 1) 0 hM hW Tx_nil (by simp) (by omega) (by omega)) my_X11_addForm mv_X11_252 (wr := [(M 17, aI (K 0) 2000 gwo)]) (isC := [0, 1, 3]) (isR := [2]) ⟨rfl, rfl, rfl, rfl, by decide⟩ 11 0 rfl rfl rfl rfl ⟨Nat.le_of_ble_eq_true rfl, Nat.le_of_ble_eq_true rfl⟩ ⟨Nat.le_of_ble_eq_true rfl, Nat.le_of_ble_eq_true rfl⟩ (Nat.le_of_ble_eq_true rfl) hl.1 (cells9 := 0) (slots9 := 0) ⟨rfl, rfl⟩ dX11_convert_215 (fun v u H locs hw_111 G => ?_)
            obtain ⟨m2_112, gma2_113, rfl, hc_114, hc_115, rfl⟩ := hw_111
            replace G := G.perm (ws' := [(m0, mO M xth xrm xsv xln xat xer xwr xwd xlo xhi (u.length : Int) (m2_112.length : Int) xkl (bR rs u pl 1 1) (bR rs u pl 2 1) xdn xon xtw xol xrw xgl xus xpr xmk xab), (M 1, aI (K 0) 1247 g), (M 17, aI (K 0) 2000 gwo), (M 18, aI (K 0) 2000 gma2_113)]) [1, 2, 0, 3] rfl rfl
            refine W.eq (g2 := F0 m9 218 ls []) rfl ?_
            refine lv_iload_n F.1 F.2.1 dX11_convert_218 rfl (lv_at hl 1 rfl) ?_
            refine lv_istore (lv' := [(5, .int (iI 0)), (4, .int (iI ((u.length : Int) - 0))), (3, .int (iI 0)), (0, .ref m0), (1, .int (iI pl)), (2, .int (iI 1))]) F.1 F.2.1 dX11_convert_219 hl (by decide) rfl (fun ls hl => ?_)
            have hfr : 0 = ((fmo (rget rs (bR rs u pl 1 1)) 1).length : Int) := by first | rfl | (rw [show (bR rs u pl 1 1) = -1 by omega, fmo_m1]; rfl)
            have hto : (u.length : Int) - 0 = (u.length : Int) - ((fmo (rget rs (bR rs u pl 2 1)) 1).length : Int) := by first | rfl | (rw [show (bR rs u pl 2 1) = -1 by omega, fmo_m1]; rfl)
            have hsl := spl_le rs u pl 1
            rw [hss.1, hss.2] at hsl
            have lp221 : ∀ (n221 : Nat) (k : Int) (gx : Nat → Int) (mx : List Int) (A0 : List Int) (fi : Int) (se : Int) (fr : Int) (to : Int) (H : Heap) (locs : List Loc) (ls : Array Slot), (0 ≤ fr ∧ fr ≤ k ∧ k ≤ to ∧ to ≤ u.length) → (spm rs u pl 1 = fi ∧ spe rs u pl 1 = se) → (A0 = (fmo (rget rs fi) 0)) → (fr = ((fmo (rget rs fi) 1).length : Int)) → (to = (u.length : Int) - ((fmo (rget rs se) 1).length : Int)) → (mx = A0 ++ sl u fr k) → (Tx gx mx) → (to - k) < (n221 : Int) → ad_G D A9 s9.heap H locs [(m0, mO M xth xrm xsv xln xat xer xwr xwd xlo xhi (u.length : Int) (mx.length : Int) xkl fi se xdn xon xtw xol xrw xgl xus xpr xmk xab), (M 1, aI (K 0) 1247 g), (M 17, aI (K 0) 2000 gwo), (M 18, aI (K 0) 2000 gx)] → lv_has ls 6 [(0, .ref m0), (1, .int (iI pl)), (2, .int (iI 1)), (3, .int (iI fr)), (4, .int (iI to)), (5, .int (iI k))] → W p9 l e9 rm_X11_convert_1 s9 m9 ag9 bl9 mt9 c9 H locs 0 0 Q9 (F0 m9 221 ls []) := by
              intro n221
              induction n221 with
              | zero =>
                intro k gx mx A0 fi se fr to H locs ls hk hss hA hfr hto hmx hTx hm221
                exact absurd hm221 (by omega)
              | succ n221 ih221 =>
                intro k gx mx A0 fi se fr to H locs ls hk hss hA hfr hto hmx hTx hm221 G hl
                have hA12 := fmo_len hW fi 0
                have hmxl : (mx.length : Int) = A0.length + (k - fr) := by rw [hmx, List.length_append, Int.natCast_add, sl_len (by omega) (by omega) (by omega)]
                have hAl : A0.length ≤ 12 := by rw [hA]; exact hA12
                have hseb := spe_b rs u pl 1
                refine lv_iload F.1 F.2.1 dX11_convert_221 (lv_at hl 5 rfl) ?_
                refine lv_iload F.1 F.2.1 dX11_convert_223 (lv_at hl 4 rfl) ?_
                refine ad_icmp_ge (tgt := 260) F (by omega) dX11_convert_225 (by decide) (fun cc_116 => ?_) (fun cc_116 => ?_)
                · refine lv_aload_n F.1 F.2.1 dX11_convert_260 rfl (lv_at hl 0 rfl) ?_
                  refine lv_aload_n F.1 F.2.1 dX11_convert_261 rfl (lv_at hl 0 rfl) ?_
                  refine ad_get F G fl_X11_242 0 rfl rfl dX11_convert_262 ?_
                  refine lv_iload_n F.1 F.2.1 dX11_convert_265 rfl (lv_at hl 2 rfl) ?_
                  refine ad_if_ne (tgt := 273) F (by decide) dX11_convert_266 (by decide) (fun _ => ?_) (fun cc_117 => absurd cc_117 (by decide))
                  refine ad_iconst F dX11_convert_273 ?_
                  refine ad_callV (As := [.int (iI se), .int (iI 0)]) (rest := []) F G (c_X11_addForm l D K z0 m0 M xth xrm xsv xln xat xer xwr xwd xlo xhi (u.length : Int) xkl fi se xdn xon xtw xol xrw xgl xus xpr xmk xab g gx rs ps md th nc mx se 0 hM hW hTx (by omega) (by rw [← hss.2]; exact hseb) (by omega)) my_X11_addForm mv_X11_252 (wr := [(M 17, aI (K 0) 2000 gwo)]) (isC := [0, 1, 3]) (isR := [2]) ⟨rfl, rfl, rfl, rfl, by decide⟩ 11 0 rfl rfl rfl rfl ⟨Nat.le_of_ble_eq_true rfl, Nat.le_of_ble_eq_true rfl⟩ ⟨Nat.le_of_ble_eq_true rfl, Nat.le_of_ble_eq_true rfl⟩ (Nat.le_of_ble_eq_true rfl) hl.1 (cells9 := 0) (slots9 := 0) ⟨rfl, rfl⟩ dX11_convert_274 (fun v u H locs hw_118 G => ?_)
                  obtain ⟨m2_119, gma2_120, rfl, hc_121, hc_122, rfl⟩ := hw_118
                  replace G := G.perm (ws' := [(m0, mO M xth xrm xsv xln xat xer xwr xwd xlo xhi (u.length : Int) (m2_119.length : Int) xkl fi se xdn xon xtw xol xrw xgl xus xpr xmk xab), (M 1, aI (K 0) 1247 g), (M 17, aI (K 0) 2000 gwo), (M 18, aI (K 0) 2000 gma2_120)]) [1, 2, 0, 3] rfl rfl
                  refine W.eq (g2 := F0 m9 277 ls []) rfl ?_
                  exact ad_vreturn F G hR rfl (Nat.le_of_ble_eq_true rfl) (Nat.le_of_ble_eq_true rfl) ⟨m2_119, gma2_120, rfl, (by rw [hc_121, hmx, hA, spw_eq hss.1 hss.2, ← hfr, ← hto, show k = to by omega]; rfl), hc_122, (by rw [hss.1, hss.2])⟩ dX11_convert_277
                · refine lv_aload_n F.1 F.2.1 dX11_convert_228 rfl (lv_at hl 0 rfl) ?_
                  refine ad_get F G fl_X11_42 0 rfl rfl dX11_convert_229 ?_
                  refine lv_aload_n F.1 F.2.1 dX11_convert_232 rfl (lv_at hl 0 rfl) ?_
                  refine ad_get F G fl_X11_239 0 rfl rfl dX11_convert_233 ?_
                  refine lv_aload_n F.1 F.2.1 dX11_convert_236 rfl (lv_at hl 0 rfl) ?_
                  refine ad_get F G fl_X11_39 0 rfl rfl dX11_convert_237 ?_
                  refine lv_iload F.1 F.2.1 dX11_convert_240 (lv_at hl 5 rfl) ?_
                  refine ad_iald F G 2 rfl (w := lat u k) (by omega) (Tx_at hTu (by omega) (by omega)) dX11_convert_242 ?_
                  refine ad_iast F G 3 rfl (by omega) (ws' := [(m0, mO M xth xrm xsv xln xat xer xwr xwd xlo xhi (u.length : Int) (mx.length : Int) xkl fi se xdn xon xtw xol xrw xgl xus xpr xmk xab), (M 1, aI (K 0) 1247 g), (M 17, aI (K 0) 2000 gwo), (M 18, aI (K 0) 2000 (va_up gx (mx.length : Int).toNat (lat u k)))]) rfl dX11_convert_243 (fun H locs G => ?_)
                  refine lv_aload_n F.1 F.2.1 dX11_convert_244 rfl (lv_at hl 0 rfl) ?_
                  refine lv_dup F.1 F.2.1 dX11_convert_245 rfl ?_
                  refine ad_get F G fl_X11_239 0 rfl rfl dX11_convert_246 ?_
                  refine ad_iconst F dX11_convert_249 ?_
                  refine ad_iadd F dX11_convert_250 ?_
                  refine ad_put F G fl_X11_239 0 rfl rfl rfl (Nat.le_of_ble_eq_true rfl) (ws' := [(m0, mO M xth xrm xsv xln xat xer xwr xwd xlo xhi (u.length : Int) ((mx.length : Int) + 1) xkl fi se xdn xon xtw xol xrw xgl xus xpr xmk xab), (M 1, aI (K 0) 1247 g), (M 17, aI (K 0) 2000 gwo), (M 18, aI (K 0) 2000 (va_up gx (mx.length : Int).toNat (lat u k)))]) rfl dX11_convert_251 (fun H locs G => ?_)
                  have hpl : (((mx ++ [lat u k]).length : Nat) : Int) = (mx.length : Int) + 1 := by simp
                  replace G := G.eq (ws' := [(m0, mO M xth xrm xsv xln xat xer xwr xwd xlo xhi (u.length : Int) ((mx ++ [lat u k]).length : Int) xkl fi se xdn xon xtw xol xrw xgl xus xpr xmk xab), (M 1, aI (K 0) 1247 g), (M 17, aI (K 0) 2000 gwo), (M 18, aI (K 0) 2000 (va_up gx (mx.length : Int).toNat (lat u k)))]) (by rw [hpl])
                  refine ad_iinc (lv' := [(5, .int (iI (k + 1))), (0, .ref m0), (1, .int (iI pl)), (2, .int (iI 1)), (3, .int (iI fr)), (4, .int (iI to))]) F dX11_convert_254 hl (k := 5) rfl (by decide) rfl (fun ls hl => ?_)
                  refine lv_goto (tgt := 221) F.1 F.2.1 dX11_convert_257 (by decide) ?_
                  exact ih221 (k + 1) (va_up gx (mx.length : Int).toNat (lat u k)) (mx ++ [lat u k]) A0 fi se fr to _ _ _ (by omega) hss hA hfr hto (by rw [sl_succ (by omega) (by omega) (by omega), hmx, List.append_assoc]) (Tx_push hTx _) (by omega) (G.perm (ws' := [(m0, mO M xth xrm xsv xln xat xer xwr xwd xlo xhi (u.length : Int) ((mx ++ [lat u k]).length : Int) xkl fi se xdn xon xtw xol xrw xgl xus xpr xmk xab), (M 1, aI (K 0) 1247 g), (M 17, aI (K 0) 2000 gwo), (M 18, aI (K 0) 2000 (va_up gx (mx.length : Int).toNat (lat u k)))]) [0, 1, 2, 3] rfl rfl) (lv_sub hl [1, 2, 3, 4, 5, 0] rfl)
            exact lp221 ((((((u.length : Int) - 0) - 0 : Int)) + 1).toNat) 0 gma2_113 m2_112 m2_112 (bR rs u pl 1 1) (bR rs u pl 2 1) 0 ((u.length : Int) - 0) _ _ _ (by omega) hss (by rw [hc_114, List.nil_append]) hfr hto (by rw [sl_self, List.append_nil]) hc_115 (by omega) (G.perm (ws' := [(m0, mO M xth xrm xsv xln xat xer xwr xwd xlo xhi (u.length : Int) (m2_112.length : Int) xkl (bR rs u pl 1 1) (bR rs u pl 2 1) xdn xon xtw xol xrw xgl xus xpr xmk xab), (M 1, aI (K 0) 1247 g), (M 17, aI (K 0) 2000 gwo), (M 18, aI (K 0) 2000 gma2_113)]) [0, 1, 2, 3] rfl rfl) (lv_sub hl [3, 4, 5, 2, 1, 0] rfl)
      · refine lv_aload_n F.1 F.2.1 dX11_convert_82 rfl (lv_at hl 0 rfl) ?_
        refine lv_aload_n F.1 F.2.1 dX11_convert_83 rfl (lv_at hl 0 rfl) ?_
        refine ad_get F G fl_X11_249 0 rfl rfl dX11_convert_84 ?_
        refine lv_iload_n F.1 F.2.1 dX11_convert_87 rfl (lv_at hl 2 rfl) ?_
        refine ad_callV (As := [.int (iI (bR rs u pl 1 1)), .int (iI 1)]) (rest := []) F G (c_X11_lengthOf l D K z0 m0 M xth xrm xsv xln xat xer xwr xwd xlo xhi (u.length : Int) (([] : List Int).length : Int) xkl (bR rs u pl 1 1) (bR rs u pl 2 1) xdn xon xtw xol xrw xgl xus xpr xmk xab g rs ps md th nc (bR rs u pl 1 1) 1 hM hW (by omega) (by omega)) my_X11_lengthOf mv_X11_185 (wr := [(M 17, aI (K 0) 2000 gwo), (M 18, aI (K 0) 2000 gma)]) (isC := [0, 1]) (isR := [2, 3]) ⟨rfl, rfl, rfl, rfl, by decide⟩ 11 0 rfl rfl rfl rfl ⟨Nat.le_of_ble_eq_true rfl, Nat.le_of_ble_eq_true rfl⟩ ⟨Nat.le_of_ble_eq_true rfl, Nat.le_of_ble_eq_true rfl⟩ (Nat.le_of_ble_eq_true rfl) hl.1 (cells9 := 0) (slots9 := 0) ⟨rfl, rfl⟩ dX11_convert_88 (fun v u H locs hw_123 G => ?_)
        obtain ⟨rfl, rfl⟩ := hw_123
        replace G := G.perm (ws' := [(m0, mO M xth xrm xsv xln xat xer xwr xwd xlo xhi (u.length : Int) (([] : List Int).length : Int) xkl (bR rs u pl 1 1) (bR rs u pl 2 1) xdn xon xtw xol xrw xgl xus xpr xmk xab), (M 1, aI (K 0) 1247 g), (M 17, aI (K 0) 2000 gwo), (M 18, aI (K 0) 2000 gma)]) [2, 3, 0, 1] rfl rfl
        refine W.eq (g2 := F0 m9 91 ls [.int (iI ((fmo (rget rs (bR rs u pl 1 1)) 1).length : Int))]) rfl ?_
        refine lv_aload_n F.1 F.2.1 dX11_convert_91 rfl (lv_at hl 0 rfl) ?_
        refine lv_aload_n F.1 F.2.1 dX11_convert_92 rfl (lv_at hl 0 rfl) ?_
        refine ad_get F G fl_X11_242 0 rfl rfl dX11_convert_93 ?_
        refine lv_iload_n F.1 F.2.1 dX11_convert_96 rfl (lv_at hl 2 rfl) ?_
        refine ad_callV (As := [.int (iI (bR rs u pl 2 1)), .int (iI 1)]) (rest := [.int (iI ((fmo (rget rs (bR rs u pl 1 1)) 1).length : Int))]) F G (c_X11_lengthOf l D K z0 m0 M xth xrm xsv xln xat xer xwr xwd xlo xhi (u.length : Int) (([] : List Int).length : Int) xkl (bR rs u pl 1 1) (bR rs u pl 2 1) xdn xon xtw xol xrw xgl xus xpr xmk xab g rs ps md th nc (bR rs u pl 2 1) 1 hM hW (by omega) (by omega)) my_X11_lengthOf mv_X11_185 (wr := [(M 17, aI (K 0) 2000 gwo), (M 18, aI (K 0) 2000 gma)]) (isC := [0, 1]) (isR := [2, 3]) ⟨rfl, rfl, rfl, rfl, by decide⟩ 11 0 rfl rfl rfl rfl ⟨Nat.le_of_ble_eq_true rfl, Nat.le_of_ble_eq_true rfl⟩ ⟨Nat.le_of_ble_eq_true rfl, Nat.le_of_ble_eq_true rfl⟩ (Nat.le_of_ble_eq_true rfl) hl.1 (cells9 := 0) (slots9 := 0) ⟨rfl, rfl⟩ dX11_convert_97 (fun v u H locs hw_124 G => ?_)
        obtain ⟨rfl, rfl⟩ := hw_124
        replace G := G.perm (ws' := [(m0, mO M xth xrm xsv xln xat xer xwr xwd xlo xhi (u.length : Int) (([] : List Int).length : Int) xkl (bR rs u pl 1 1) (bR rs u pl 2 1) xdn xon xtw xol xrw xgl xus xpr xmk xab), (M 1, aI (K 0) 1247 g), (M 17, aI (K 0) 2000 gwo), (M 18, aI (K 0) 2000 gma)]) [2, 3, 0, 1] rfl rfl
        refine W.eq (g2 := F0 m9 100 ls [.int (iI ((fmo (rget rs (bR rs u pl 2 1)) 1).length : Int)), .int (iI ((fmo (rget rs (bR rs u pl 1 1)) 1).length : Int))]) rfl ?_
        refine ad_iadd F dX11_convert_100 ?_
        refine lv_aload_n F.1 F.2.1 dX11_convert_101 rfl (lv_at hl 0 rfl) ?_
        refine ad_get F G fl_X11_233 0 rfl rfl dX11_convert_102 ?_
        refine ad_icmp_le (tgt := 153) F (by omega) dX11_convert_105 (by decide) (fun cc_125 => ?_) (fun cc_125 => ?_)
        · have hss : spm rs u pl 1 = bR rs u pl 1 1 ∧ spe rs u pl 1 = bR rs u pl 2 1 := sp_n cc_2 (by omega)
          refine lv_aload_n F.1 F.2.1 dX11_convert_153 rfl (lv_at hl 0 rfl) ?_
          refine ad_get F G fl_X11_249 0 rfl rfl dX11_convert_154 ?_
          refine ad_if_ge (tgt := 164) F (by omega) dX11_convert_157 (by decide) (fun cc_126 => ?_) (fun cc_126 => ?_)
          · refine lv_aload_n F.1 F.2.1 dX11_convert_164 rfl (lv_at hl 0 rfl) ?_
            refine lv_aload_n F.1 F.2.1 dX11_convert_165 rfl (lv_at hl 0 rfl) ?_
            refine ad_get F G fl_X11_249 0 rfl rfl dX11_convert_166 ?_
            refine lv_iload_n F.1 F.2.1 dX11_convert_169 rfl (lv_at hl 2 rfl) ?_
            refine ad_callV (As := [.int (iI (bR rs u pl 1 1)), .int (iI 1)]) (rest := []) F G (c_X11_lengthOf l D K z0 m0 M xth xrm xsv xln xat xer xwr xwd xlo xhi (u.length : Int) (([] : List Int).length : Int) xkl (bR rs u pl 1 1) (bR rs u pl 2 1) xdn xon xtw xol xrw xgl xus xpr xmk xab g rs ps md th nc (bR rs u pl 1 1) 1 hM hW (by omega) (by omega)) my_X11_lengthOf mv_X11_185 (wr := [(M 17, aI (K 0) 2000 gwo), (M 18, aI (K 0) 2000 gma)]) (isC := [0, 1]) (isR := [2, 3]) ⟨rfl, rfl, rfl, rfl, by decide⟩ 11 0 rfl rfl rfl rfl ⟨Nat.le_of_ble_eq_true rfl, Nat.le_of_ble_eq_true rfl⟩ ⟨Nat.le_of_ble_eq_true rfl, Nat.le_of_ble_eq_true rfl⟩ (Nat.le_of_ble_eq_true rfl) hl.1 (cells9 := 0) (slots9 := 0) ⟨rfl, rfl⟩ dX11_convert_170 (fun v u H locs hw_127 G => ?_)
            obtain ⟨rfl, rfl⟩ := hw_127
            replace G := G.perm (ws' := [(m0, mO M xth xrm xsv xln xat xer xwr xwd xlo xhi (u.length : Int) (([] : List Int).length : Int) xkl (bR rs u pl 1 1) (bR rs u pl 2 1) xdn xon xtw xol xrw xgl xus xpr xmk xab), (M 1, aI (K 0) 1247 g), (M 17, aI (K 0) 2000 gwo), (M 18, aI (K 0) 2000 gma)]) [2, 3, 0, 1] rfl rfl
            refine W.eq (g2 := F0 m9 173 ls [.int (iI ((fmo (rget rs (bR rs u pl 1 1)) 1).length : Int))]) rfl ?_
            refine lv_istore_n (lv' := [(3, .int (iI ((fmo (rget rs (bR rs u pl 1 1)) 1).length : Int))), (0, .ref m0), (1, .int (iI pl)), (2, .int (iI 1))]) F.1 F.2.1 dX11_convert_173 rfl hl (by decide) rfl (fun ls hl => ?_)
            refine lv_aload_n F.1 F.2.1 dX11_convert_174 rfl (lv_at hl 1 rfl) ?_
            refine ad_get F G fl_X11_233 0 rfl rfl dX11_convert_175 ?_
            refine lv_aload_n F.1 F.2.1 dX11_convert_178 rfl (lv_at hl 1 rfl) ?_
            refine ad_get F G fl_X11_242 0 rfl rfl dX11_convert_179 ?_
            refine ad_if_ge (tgt := 189) F (by omega) dX11_convert_182 (by decide) (fun cc_128 => ?_) (fun cc_128 => ?_)
            · refine lv_aload_n F.1 F.2.1 dX11_convert_189 rfl (lv_at hl 1 rfl) ?_
              refine lv_aload_n F.1 F.2.1 dX11_convert_190 rfl (lv_at hl 1 rfl) ?_
              refine ad_get F G fl_X11_242 0 rfl rfl dX11_convert_191 ?_
              refine lv_iload_n F.1 F.2.1 dX11_convert_194 rfl (lv_at hl 3 rfl) ?_
              refine ad_callV (As := [.int (iI (bR rs u pl 2 1)), .int (iI 1)]) (rest := [.int (iI (u.length : Int))]) F G (c_X11_lengthOf l D K z0 m0 M xth xrm xsv xln xat xer xwr xwd xlo xhi (u.length : Int) (([] : List Int).length : Int) xkl (bR rs u pl 1 1) (bR rs u pl 2 1) xdn xon xtw xol xrw xgl xus xpr xmk xab g rs ps md th nc (bR rs u pl 2 1) 1 hM hW (by omega) (by omega)) my_X11_lengthOf mv_X11_185 (wr := [(M 17, aI (K 0) 2000 gwo), (M 18, aI (K 0) 2000 gma)]) (isC := [0, 1]) (isR := [2, 3]) ⟨rfl, rfl, rfl, rfl, by decide⟩ 11 0 rfl rfl rfl rfl ⟨Nat.le_of_ble_eq_true rfl, Nat.le_of_ble_eq_true rfl⟩ ⟨Nat.le_of_ble_eq_true rfl, Nat.le_of_ble_eq_true rfl⟩ (Nat.le_of_ble_eq_true rfl) hl.1 (cells9 := 0) (slots9 := 0) ⟨rfl, rfl⟩ dX11_convert_195 (fun v u H locs hw_129 G => ?_)
              obtain ⟨rfl, rfl⟩ := hw_129
              replace G := G.perm (ws' := [(m0, mO M xth xrm xsv xln xat xer xwr xwd xlo xhi (u.length : Int) (([] : List Int).length : Int) xkl (bR rs u pl 1 1) (bR rs u pl 2 1) xdn xon xtw xol xrw xgl xus xpr xmk xab), (M 1, aI (K 0) 1247 g), (M 17, aI (K 0) 2000 gwo), (M 18, aI (K 0) 2000 gma)]) [2, 3, 0, 1] rfl rfl
              refine W.eq (g2 := F0 m9 198 ls [.int (iI ((fmo (rget rs (bR rs u pl 2 1)) 1).length : Int)), .int (iI (u.length : Int))]) rfl ?_
              refine ad_isub F dX11_convert_198 ?_
              refine lv_istore (lv' := [(4, .int (iI ((u.length : Int) - ((fmo (rget rs (bR rs u pl 2 1)) 1).length : Int)))), (3, .int (iI ((fmo (rget rs (bR rs u pl 1 1)) 1).length : Int))), (0, .ref m0), (1, .int (iI pl)), (2, .int (iI 1))]) F.1 F.2.1 dX11_convert_199 hl (by decide) rfl (fun ls hl => ?_)
              refine lv_aload_n F.1 F.2.1 dX11_convert_201 rfl (lv_at hl 2 rfl) ?_
              refine lv_aload_n F.1 F.2.1 dX11_convert_202 rfl (lv_at hl 2 rfl) ?_
              refine ad_get F G fl_X11_249 0 rfl rfl dX11_convert_203 ?_
              refine lv_iload_n F.1 F.2.1 dX11_convert_206 rfl (lv_at hl 4 rfl) ?_
              refine ad_if_ne (tgt := 214) F (by decide) dX11_convert_207 (by decide) (fun _ => ?_) (fun cc_130 => absurd cc_130 (by decide))
              refine ad_iconst F dX11_convert_214 ?_
              refine ad_callV (As := [.int (iI (bR rs u pl 1 1)), .int (iI 0)]) (rest := []) F G (c_X11_addForm l D K z0 m0 M xth xrm xsv xln xat xer xwr xwd xlo xhi (u.length : Int) xkl (bR rs u pl 1 1) (bR rs u pl 2 1) xdn xon xtw xol xrw xgl xus xpr xmk xab g gma rs ps md th nc ([] : List Int) (bR rs u pl 1 1) 0 hM hW Tx_nil (by simp) (by omega) (by omega)) my_X11_addForm mv_X11_252 (wr := [(M 17, aI (K 0) 2000 gwo)]) (isC := [0, 1, 3]) (isR := [2]) ⟨rfl, rfl, rfl, rfl, by decide⟩ 11 0 rfl rfl rfl rfl ⟨Nat.le_of_ble_eq_true rfl, Nat.le_of_ble_eq_true rfl⟩ ⟨Nat.le_of_ble_eq_true rfl, Nat.le_of_ble_eq_true rfl⟩ (Nat.le_of_ble_eq_true rfl) hl.1 (cells9 := 0) (slots9 := 0) ⟨rfl, rfl⟩ dX11_convert_215 (fun v u H locs hw_131 G => ?_)
              obtain ⟨m2_132, gma2_133, rfl, hc_134, hc_135, rfl⟩ := hw_131
              replace G := G.perm (ws' := [(m0, mO M xth xrm xsv xln xat xer xwr xwd xlo xhi (u.length : Int) (m2_132.length : Int) xkl (bR rs u pl 1 1) (bR rs u pl 2 1) xdn xon xtw xol xrw xgl xus xpr xmk xab), (M 1, aI (K 0) 1247 g), (M 17, aI (K 0) 2000 gwo), (M 18, aI (K 0) 2000 gma2_133)]) [1, 2, 0, 3] rfl rfl
              refine W.eq (g2 := F0 m9 218 ls []) rfl ?_
              refine lv_iload_n F.1 F.2.1 dX11_convert_218 rfl (lv_at hl 1 rfl) ?_
              refine lv_istore (lv' := [(5, .int (iI ((fmo (rget rs (bR rs u pl 1 1)) 1).length : Int))), (4, .int (iI ((u.length : Int) - ((fmo (rget rs (bR rs u pl 2 1)) 1).length : Int)))), (3, .int (iI ((fmo (rget rs (bR rs u pl 1 1)) 1).length : Int))), (0, .ref m0), (1, .int (iI pl)), (2, .int (iI 1))]) F.1 F.2.1 dX11_convert_219 hl (by decide) rfl (fun ls hl => ?_)
              have hfr : ((fmo (rget rs (bR rs u pl 1 1)) 1).length : Int) = ((fmo (rget rs (bR rs u pl 1 1)) 1).length : Int) := by first | rfl | (rw [show (bR rs u pl 1 1) = -1 by omega, fmo_m1]; rfl)
              have hto : (u.length : Int) - ((fmo (rget rs (bR rs u pl 2 1)) 1).length : Int) = (u.length : Int) - ((fmo (rget rs (bR rs u pl 2 1)) 1).length : Int) := by first | rfl | (rw [show (bR rs u pl 2 1) = -1 by omega, fmo_m1]; rfl)
              have hsl := spl_le rs u pl 1
              rw [hss.1, hss.2] at hsl
              have lp221 : ∀ (n221 : Nat) (k : Int) (gx : Nat → Int) (mx : List Int) (A0 : List Int) (fi : Int) (se : Int) (fr : Int) (to : Int) (H : Heap) (locs : List Loc) (ls : Array Slot), (0 ≤ fr ∧ fr ≤ k ∧ k ≤ to ∧ to ≤ u.length) → (spm rs u pl 1 = fi ∧ spe rs u pl 1 = se) → (A0 = (fmo (rget rs fi) 0)) → (fr = ((fmo (rget rs fi) 1).length : Int)) → (to = (u.length : Int) - ((fmo (rget rs se) 1).length : Int)) → (mx = A0 ++ sl u fr k) → (Tx gx mx) → (to - k) < (n221 : Int) → ad_G D A9 s9.heap H locs [(m0, mO M xth xrm xsv xln xat xer xwr xwd xlo xhi (u.length : Int) (mx.length : Int) xkl fi se xdn xon xtw xol xrw xgl xus xpr xmk xab), (M 1, aI (K 0) 1247 g), (M 17, aI (K 0) 2000 gwo), (M 18, aI (K 0) 2000 gx)] → lv_has ls 6 [(0, .ref m0), (1, .int (iI pl)), (2, .int (iI 1)), (3, .int (iI fr)), (4, .int (iI to)), (5, .int (iI k))] → W p9 l e9 rm_X11_convert_1 s9 m9 ag9 bl9 mt9 c9 H locs 0 0 Q9 (F0 m9 221 ls []) := by
                intro n221
                induction n221 with
                | zero =>
                  intro k gx mx A0 fi se fr to H locs ls hk hss hA hfr hto hmx hTx hm221
                  exact absurd hm221 (by omega)
                | succ n221 ih221 =>
                  intro k gx mx A0 fi se fr to H locs ls hk hss hA hfr hto hmx hTx hm221 G hl
                  have hA12 := fmo_len hW fi 0
                  have hmxl : (mx.length : Int) = A0.length + (k - fr) := by rw [hmx, List.length_append, Int.natCast_add, sl_len (by omega) (by omega) (by omega)]
                  have hAl : A0.length ≤ 12 := by rw [hA]; exact hA12
                  have hseb := spe_b rs u pl 1
                  refine lv_iload F.1 F.2.1 dX11_convert_221 (lv_at hl 5 rfl) ?_
                  refine lv_iload F.1 F.2.1 dX11_convert_223 (lv_at hl 4 rfl) ?_
                  refine ad_icmp_ge (tgt := 260) F (by omega) dX11_convert_225 (by decide) (fun cc_136 => ?_) (fun cc_136 => ?_)
                  · refine lv_aload_n F.1 F.2.1 dX11_convert_260 rfl (lv_at hl 0 rfl) ?_
                    refine lv_aload_n F.1 F.2.1 dX11_convert_261 rfl (lv_at hl 0 rfl) ?_
                    refine ad_get F G fl_X11_242 0 rfl rfl dX11_convert_262 ?_
                    refine lv_iload_n F.1 F.2.1 dX11_convert_265 rfl (lv_at hl 2 rfl) ?_
                    refine ad_if_ne (tgt := 273) F (by decide) dX11_convert_266 (by decide) (fun _ => ?_) (fun cc_137 => absurd cc_137 (by decide))
                    refine ad_iconst F dX11_convert_273 ?_
                    refine ad_callV (As := [.int (iI se), .int (iI 0)]) (rest := []) F G (c_X11_addForm l D K z0 m0 M xth xrm xsv xln xat xer xwr xwd xlo xhi (u.length : Int) xkl fi se xdn xon xtw xol xrw xgl xus xpr xmk xab g gx rs ps md th nc mx se 0 hM hW hTx (by omega) (by rw [← hss.2]; exact hseb) (by omega)) my_X11_addForm mv_X11_252 (wr := [(M 17, aI (K 0) 2000 gwo)]) (isC := [0, 1, 3]) (isR := [2]) ⟨rfl, rfl, rfl, rfl, by decide⟩ 11 0 rfl rfl rfl rfl ⟨Nat.le_of_ble_eq_true rfl, Nat.le_of_ble_eq_true rfl⟩ ⟨Nat.le_of_ble_eq_true rfl, Nat.le_of_ble_eq_true rfl⟩ (Nat.le_of_ble_eq_true rfl) hl.1 (cells9 := 0) (slots9 := 0) ⟨rfl, rfl⟩ dX11_convert_274 (fun v u H locs hw_138 G => ?_)
                    obtain ⟨m2_139, gma2_140, rfl, hc_141, hc_142, rfl⟩ := hw_138
                    replace G := G.perm (ws' := [(m0, mO M xth xrm xsv xln xat xer xwr xwd xlo xhi (u.length : Int) (m2_139.length : Int) xkl fi se xdn xon xtw xol xrw xgl xus xpr xmk xab), (M 1, aI (K 0) 1247 g), (M 17, aI (K 0) 2000 gwo), (M 18, aI (K 0) 2000 gma2_140)]) [1, 2, 0, 3] rfl rfl
                    refine W.eq (g2 := F0 m9 277 ls []) rfl ?_
                    exact ad_vreturn F G hR rfl (Nat.le_of_ble_eq_true rfl) (Nat.le_of_ble_eq_true rfl) ⟨m2_139, gma2_140, rfl, (by rw [hc_141, hmx, hA, spw_eq hss.1 hss.2, ← hfr, ← hto, show k = to by omega]; rfl), hc_142, (by rw [hss.1, hss.2])⟩ dX11_convert_277
                  · refine lv_aload_n F.1 F.2.1 dX11_convert_228 rfl (lv_at hl 0 rfl) ?_
                    refine ad_get F G fl_X11_42 0 rfl rfl dX11_convert_229 ?_
                    refine lv_aload_n F.1 F.2.1 dX11_convert_232 rfl (lv_at hl 0 rfl) ?_
                    refine ad_get F G fl_X11_239 0 rfl rfl dX11_convert_233 ?_
                    refine lv_aload_n F.1 F.2.1 dX11_convert_236 rfl (lv_at hl 0 rfl) ?_
                    refine ad_get F G fl_X11_39 0 rfl rfl dX11_convert_237 ?_
                    refine lv_iload F.1 F.2.1 dX11_convert_240 (lv_at hl 5 rfl) ?_
                    refine ad_iald F G 2 rfl (w := lat u k) (by omega) (Tx_at hTu (by omega) (by omega)) dX11_convert_242 ?_
                    refine ad_iast F G 3 rfl (by omega) (ws' := [(m0, mO M xth xrm xsv xln xat xer xwr xwd xlo xhi (u.length : Int) (mx.length : Int) xkl fi se xdn xon xtw xol xrw xgl xus xpr xmk xab), (M 1, aI (K 0) 1247 g), (M 17, aI (K 0) 2000 gwo), (M 18, aI (K 0) 2000 (va_up gx (mx.length : Int).toNat (lat u k)))]) rfl dX11_convert_243 (fun H locs G => ?_)
                    refine lv_aload_n F.1 F.2.1 dX11_convert_244 rfl (lv_at hl 0 rfl) ?_
                    refine lv_dup F.1 F.2.1 dX11_convert_245 rfl ?_
                    refine ad_get F G fl_X11_239 0 rfl rfl dX11_convert_246 ?_
                    refine ad_iconst F dX11_convert_249 ?_
                    refine ad_iadd F dX11_convert_250 ?_
                    refine ad_put F G fl_X11_239 0 rfl rfl rfl (Nat.le_of_ble_eq_true rfl) (ws' := [(m0, mO M xth xrm xsv xln xat xer xwr xwd xlo xhi (u.length : Int) ((mx.length : Int) + 1) xkl fi se xdn xon xtw xol xrw xgl xus xpr xmk xab), (M 1, aI (K 0) 1247 g), (M 17, aI (K 0) 2000 gwo), (M 18, aI (K 0) 2000 (va_up gx (mx.length : Int).toNat (lat u k)))]) rfl dX11_convert_251 (fun H locs G => ?_)
                    have hpl : (((mx ++ [lat u k]).length : Nat) : Int) = (mx.length : Int) + 1 := by simp
                    replace G := G.eq (ws' := [(m0, mO M xth xrm xsv xln xat xer xwr xwd xlo xhi (u.length : Int) ((mx ++ [lat u k]).length : Int) xkl fi se xdn xon xtw xol xrw xgl xus xpr xmk xab), (M 1, aI (K 0) 1247 g), (M 17, aI (K 0) 2000 gwo), (M 18, aI (K 0) 2000 (va_up gx (mx.length : Int).toNat (lat u k)))]) (by rw [hpl])
                    refine ad_iinc (lv' := [(5, .int (iI (k + 1))), (0, .ref m0), (1, .int (iI pl)), (2, .int (iI 1)), (3, .int (iI fr)), (4, .int (iI to))]) F dX11_convert_254 hl (k := 5) rfl (by decide) rfl (fun ls hl => ?_)
                    refine lv_goto (tgt := 221) F.1 F.2.1 dX11_convert_257 (by decide) ?_
                    exact ih221 (k + 1) (va_up gx (mx.length : Int).toNat (lat u k)) (mx ++ [lat u k]) A0 fi se fr to _ _ _ (by omega) hss hA hfr hto (by rw [sl_succ (by omega) (by omega) (by omega), hmx, List.append_assoc]) (Tx_push hTx _) (by omega) (G.perm (ws' := [(m0, mO M xth xrm xsv xln xat xer xwr xwd xlo xhi (u.length : Int) ((mx ++ [lat u k]).length : Int) xkl fi se xdn xon xtw xol xrw xgl xus xpr xmk xab), (M 1, aI (K 0) 1247 g), (M 17, aI (K 0) 2000 gwo), (M 18, aI (K 0) 2000 (va_up gx (mx.length : Int).toNat (lat u k)))]) [0, 1, 2, 3] rfl rfl) (lv_sub hl [1, 2, 3, 4, 5, 0] rfl)
              exact lp221 ((((((u.length : Int) - ((fmo (rget rs (bR rs u pl 2 1)) 1).length : Int)) - ((fmo (rget rs (bR rs u pl 1 1)) 1).length : Int) : Int)) + 1).toNat) ((fmo (rget rs (bR rs u pl 1 1)) 1).length : Int) gma2_133 m2_132 m2_132 (bR rs u pl 1 1) (bR rs u pl 2 1) ((fmo (rget rs (bR rs u pl 1 1)) 1).length : Int) ((u.length : Int) - ((fmo (rget rs (bR rs u pl 2 1)) 1).length : Int)) _ _ _ (by omega) hss (by rw [hc_134, List.nil_append]) hfr hto (by rw [sl_self, List.append_nil]) hc_135 (by omega) (G.perm (ws' := [(m0, mO M xth xrm xsv xln xat xer xwr xwd xlo xhi (u.length : Int) (m2_132.length : Int) xkl (bR rs u pl 1 1) (bR rs u pl 2 1) xdn xon xtw xol xrw xgl xus xpr xmk xab), (M 1, aI (K 0) 1247 g), (M 17, aI (K 0) 2000 gwo), (M 18, aI (K 0) 2000 gma2_133)]) [0, 1, 2, 3] rfl rfl) (lv_sub hl [3, 4, 5, 2, 1, 0] rfl)
            · refine ad_iconst F dX11_convert_185 ?_
              refine lv_goto (tgt := 198) F.1 F.2.1 dX11_convert_186 (by decide) ?_
              refine ad_isub F dX11_convert_198 ?_
              refine lv_istore (lv' := [(4, .int (iI ((u.length : Int) - 0))), (3, .int (iI ((fmo (rget rs (bR rs u pl 1 1)) 1).length : Int))), (0, .ref m0), (1, .int (iI pl)), (2, .int (iI 1))]) F.1 F.2.1 dX11_convert_199 hl (by decide) rfl (fun ls hl => ?_)
              refine lv_aload_n F.1 F.2.1 dX11_convert_201 rfl (lv_at hl 2 rfl) ?_
              refine lv_aload_n F.1 F.2.1 dX11_convert_202 rfl (lv_at hl 2 rfl) ?_
              refine ad_get F G fl_X11_249 0 rfl rfl dX11_convert_203 ?_
              refine lv_iload_n F.1 F.2.1 dX11_convert_206 rfl (lv_at hl 4 rfl) ?_
              refine ad_if_ne (tgt := 214) F (by decide) dX11_convert_207 (by decide) (fun _ => ?_) (fun cc_143 => absurd cc_143 (by decide))
              refine ad_iconst F dX11_convert_214 ?_
              refine ad_callV (As := [.int (iI (bR rs u pl 1 1)), .int (iI 0)]) (rest := []) F G (c_X11_addForm l D K z0 m0 M xth xrm xsv xln xat xer xwr xwd xlo xhi (u.length : Int) xkl (bR rs u pl 1 1) (bR rs u pl 2 1) xdn xon xtw xol xrw xgl xus xpr xmk xab g gma rs ps md th nc ([] : List Int) (bR rs u pl 1 1) 0 hM hW Tx_nil (by simp) (by omega) (by omega)) my_X11_addForm mv_X11_252 (wr := [(M 17, aI (K 0) 2000 gwo)]) (isC := [0, 1, 3]) (isR := [2]) ⟨rfl, rfl, rfl, rfl, by decide⟩ 11 0 rfl rfl rfl rfl ⟨Nat.le_of_ble_eq_true rfl, Nat.le_of_ble_eq_true rfl⟩ ⟨Nat.le_of_ble_eq_true rfl, Nat.le_of_ble_eq_true rfl⟩ (Nat.le_of_ble_eq_true rfl) hl.1 (cells9 := 0) (slots9 := 0) ⟨rfl, rfl⟩ dX11_convert_215 (fun v u H locs hw_144 G => ?_)
              obtain ⟨m2_145, gma2_146, rfl, hc_147, hc_148, rfl⟩ := hw_144
              replace G := G.perm (ws' := [(m0, mO M xth xrm xsv xln xat xer xwr xwd xlo xhi (u.length : Int) (m2_145.length : Int) xkl (bR rs u pl 1 1) (bR rs u pl 2 1) xdn xon xtw xol xrw xgl xus xpr xmk xab), (M 1, aI (K 0) 1247 g), (M 17, aI (K 0) 2000 gwo), (M 18, aI (K 0) 2000 gma2_146)]) [1, 2, 0, 3] rfl rfl
              refine W.eq (g2 := F0 m9 218 ls []) rfl ?_
              refine lv_iload_n F.1 F.2.1 dX11_convert_218 rfl (lv_at hl 1 rfl) ?_
              refine lv_istore (lv' := [(5, .int (iI ((fmo (rget rs (bR rs u pl 1 1)) 1).length : Int))), (4, .int (iI ((u.length : Int) - 0))), (3, .int (iI ((fmo (rget rs (bR rs u pl 1 1)) 1).length : Int))), (0, .ref m0), (1, .int (iI pl)), (2, .int (iI 1))]) F.1 F.2.1 dX11_convert_219 hl (by decide) rfl (fun ls hl => ?_)
              have hfr : ((fmo (rget rs (bR rs u pl 1 1)) 1).length : Int) = ((fmo (rget rs (bR rs u pl 1 1)) 1).length : Int) := by first | rfl | (rw [show (bR rs u pl 1 1) = -1 by omega, fmo_m1]; rfl)
              have hto : (u.length : Int) - 0 = (u.length : Int) - ((fmo (rget rs (bR rs u pl 2 1)) 1).length : Int) := by first | rfl | (rw [show (bR rs u pl 2 1) = -1 by omega, fmo_m1]; rfl)
              have hsl := spl_le rs u pl 1
              rw [hss.1, hss.2] at hsl
              have lp221 : ∀ (n221 : Nat) (k : Int) (gx : Nat → Int) (mx : List Int) (A0 : List Int) (fi : Int) (se : Int) (fr : Int) (to : Int) (H : Heap) (locs : List Loc) (ls : Array Slot), (0 ≤ fr ∧ fr ≤ k ∧ k ≤ to ∧ to ≤ u.length) → (spm rs u pl 1 = fi ∧ spe rs u pl 1 = se) → (A0 = (fmo (rget rs fi) 0)) → (fr = ((fmo (rget rs fi) 1).length : Int)) → (to = (u.length : Int) - ((fmo (rget rs se) 1).length : Int)) → (mx = A0 ++ sl u fr k) → (Tx gx mx) → (to - k) < (n221 : Int) → ad_G D A9 s9.heap H locs [(m0, mO M xth xrm xsv xln xat xer xwr xwd xlo xhi (u.length : Int) (mx.length : Int) xkl fi se xdn xon xtw xol xrw xgl xus xpr xmk xab), (M 1, aI (K 0) 1247 g), (M 17, aI (K 0) 2000 gwo), (M 18, aI (K 0) 2000 gx)] → lv_has ls 6 [(0, .ref m0), (1, .int (iI pl)), (2, .int (iI 1)), (3, .int (iI fr)), (4, .int (iI to)), (5, .int (iI k))] → W p9 l e9 rm_X11_convert_1 s9 m9 ag9 bl9 mt9 c9 H locs 0 0 Q9 (F0 m9 221 ls []) := by
                intro n221
                induction n221 with
                | zero =>
                  intro k gx mx A0 fi se fr to H locs ls hk hss hA hfr hto hmx hTx hm221
                  exact absurd hm221 (by omega)
                | succ n221 ih221 =>
                  intro k gx mx A0 fi se fr to H locs ls hk hss hA hfr hto hmx hTx hm221 G hl
                  have hA12 := fmo_len hW fi 0
                  have hmxl : (mx.length : Int) = A0.length + (k - fr) := by rw [hmx, List.length_append, Int.natCast_add, sl_len (by omega) (by omega) (by omega)]
                  have hAl : A0.length ≤ 12 := by rw [hA]; exact hA12
                  have hseb := spe_b rs u pl 1
                  refine lv_iload F.1 F.2.1 dX11_convert_221 (lv_at hl 5 rfl) ?_
                  refine lv_iload F.1 F.2.1 dX11_convert_223 (lv_at hl 4 rfl) ?_
                  refine ad_icmp_ge (tgt := 260) F (by omega) dX11_convert_225 (by decide) (fun cc_149 => ?_) (fun cc_149 => ?_)
                  · refine lv_aload_n F.1 F.2.1 dX11_convert_260 rfl (lv_at hl 0 rfl) ?_
                    refine lv_aload_n F.1 F.2.1 dX11_convert_261 rfl (lv_at hl 0 rfl) ?_
                    refine ad_get F G fl_X11_242 0 rfl rfl dX11_convert_262 ?_
                    refine lv_iload_n F.1 F.2.1 dX11_convert_265 rfl (lv_at hl 2 rfl) ?_
                    refine ad_if_ne (tgt := 273) F (by decide) dX11_convert_266 (by decide) (fun _ => ?_) (fun cc_150 => absurd cc_150 (by decide))
                    refine ad_iconst F dX11_convert_273 ?_
                    refine ad_callV (As := [.int (iI se), .int (iI 0)]) (rest := []) F G (c_X11_addForm l D K z0 m0 M xth xrm xsv xln xat xer xwr xwd xlo xhi (u.length : Int) xkl fi se xdn xon xtw xol xrw xgl xus xpr xmk xab g gx rs ps md th nc mx se 0 hM hW hTx (by omega) (by rw [← hss.2]; exact hseb) (by omega)) my_X11_addForm mv_X11_252 (wr := [(M 17, aI (K 0) 2000 gwo)]) (isC := [0, 1, 3]) (isR := [2]) ⟨rfl, rfl, rfl, rfl, by decide⟩ 11 0 rfl rfl rfl rfl ⟨Nat.le_of_ble_eq_true rfl, Nat.le_of_ble_eq_true rfl⟩ ⟨Nat.le_of_ble_eq_true rfl, Nat.le_of_ble_eq_true rfl⟩ (Nat.le_of_ble_eq_true rfl) hl.1 (cells9 := 0) (slots9 := 0) ⟨rfl, rfl⟩ dX11_convert_274 (fun v u H locs hw_151 G => ?_)
                    obtain ⟨m2_152, gma2_153, rfl, hc_154, hc_155, rfl⟩ := hw_151
                    replace G := G.perm (ws' := [(m0, mO M xth xrm xsv xln xat xer xwr xwd xlo xhi (u.length : Int) (m2_152.length : Int) xkl fi se xdn xon xtw xol xrw xgl xus xpr xmk xab), (M 1, aI (K 0) 1247 g), (M 17, aI (K 0) 2000 gwo), (M 18, aI (K 0) 2000 gma2_153)]) [1, 2, 0, 3] rfl rfl
                    refine W.eq (g2 := F0 m9 277 ls []) rfl ?_
                    exact ad_vreturn F G hR rfl (Nat.le_of_ble_eq_true rfl) (Nat.le_of_ble_eq_true rfl) ⟨m2_152, gma2_153, rfl, (by rw [hc_154, hmx, hA, spw_eq hss.1 hss.2, ← hfr, ← hto, show k = to by omega]; rfl), hc_155, (by rw [hss.1, hss.2])⟩ dX11_convert_277
                  · refine lv_aload_n F.1 F.2.1 dX11_convert_228 rfl (lv_at hl 0 rfl) ?_
                    refine ad_get F G fl_X11_42 0 rfl rfl dX11_convert_229 ?_
                    refine lv_aload_n F.1 F.2.1 dX11_convert_232 rfl (lv_at hl 0 rfl) ?_
                    refine ad_get F G fl_X11_239 0 rfl rfl dX11_convert_233 ?_
                    refine lv_aload_n F.1 F.2.1 dX11_convert_236 rfl (lv_at hl 0 rfl) ?_
                    refine ad_get F G fl_X11_39 0 rfl rfl dX11_convert_237 ?_
                    refine lv_iload F.1 F.2.1 dX11_convert_240 (lv_at hl 5 rfl) ?_
                    refine ad_iald F G 2 rfl (w := lat u k) (by omega) (Tx_at hTu (by omega) (by omega)) dX11_convert_242 ?_
                    refine ad_iast F G 3 rfl (by omega) (ws' := [(m0, mO M xth xrm xsv xln xat xer xwr xwd xlo xhi (u.length : Int) (mx.length : Int) xkl fi se xdn xon xtw xol xrw xgl xus xpr xmk xab), (M 1, aI (K 0) 1247 g), (M 17, aI (K 0) 2000 gwo), (M 18, aI (K 0) 2000 (va_up gx (mx.length : Int).toNat (lat u k)))]) rfl dX11_convert_243 (fun H locs G => ?_)
                    refine lv_aload_n F.1 F.2.1 dX11_convert_244 rfl (lv_at hl 0 rfl) ?_
                    refine lv_dup F.1 F.2.1 dX11_convert_245 rfl ?_
                    refine ad_get F G fl_X11_239 0 rfl rfl dX11_convert_246 ?_
                    refine ad_iconst F dX11_convert_249 ?_
                    refine ad_iadd F dX11_convert_250 ?_
                    refine ad_put F G fl_X11_239 0 rfl rfl rfl (Nat.le_of_ble_eq_true rfl) (ws' := [(m0, mO M xth xrm xsv xln xat xer xwr xwd xlo xhi (u.length : Int) ((mx.length : Int) + 1) xkl fi se xdn xon xtw xol xrw xgl xus xpr xmk xab), (M 1, aI (K 0) 1247 g), (M 17, aI (K 0) 2000 gwo), (M 18, aI (K 0) 2000 (va_up gx (mx.length : Int).toNat (lat u k)))]) rfl dX11_convert_251 (fun H locs G => ?_)
                    have hpl : (((mx ++ [lat u k]).length : Nat) : Int) = (mx.length : Int) + 1 := by simp
                    replace G := G.eq (ws' := [(m0, mO M xth xrm xsv xln xat xer xwr xwd xlo xhi (u.length : Int) ((mx ++ [lat u k]).length : Int) xkl fi se xdn xon xtw xol xrw xgl xus xpr xmk xab), (M 1, aI (K 0) 1247 g), (M 17, aI (K 0) 2000 gwo), (M 18, aI (K 0) 2000 (va_up gx (mx.length : Int).toNat (lat u k)))]) (by rw [hpl])
                    refine ad_iinc (lv' := [(5, .int (iI (k + 1))), (0, .ref m0), (1, .int (iI pl)), (2, .int (iI 1)), (3, .int (iI fr)), (4, .int (iI to))]) F dX11_convert_254 hl (k := 5) rfl (by decide) rfl (fun ls hl => ?_)
                    refine lv_goto (tgt := 221) F.1 F.2.1 dX11_convert_257 (by decide) ?_
                    exact ih221 (k + 1) (va_up gx (mx.length : Int).toNat (lat u k)) (mx ++ [lat u k]) A0 fi se fr to _ _ _ (by omega) hss hA hfr hto (by rw [sl_succ (by omega) (by omega) (by omega), hmx, List.append_assoc]) (Tx_push hTx _) (by omega) (G.perm (ws' := [(m0, mO M xth xrm xsv xln xat xer xwr xwd xlo xhi (u.length : Int) ((mx ++ [lat u k]).length : Int) xkl fi se xdn xon xtw xol xrw xgl xus xpr xmk xab), (M 1, aI (K 0) 1247 g), (M 17, aI (K 0) 2000 gwo), (M 18, aI (K 0) 2000 (va_up gx (mx.length : Int).toNat (lat u k)))]) [0, 1, 2, 3] rfl rfl) (lv_sub hl [1, 2, 3, 4, 5, 0] rfl)
              exact lp221 ((((((u.length : Int) - 0) - ((fmo (rget rs (bR rs u pl 1 1)) 1).length : Int) : Int)) + 1).toNat) ((fmo (rget rs (bR rs u pl 1 1)) 1).length : Int) gma2_146 m2_145 m2_145 (bR rs u pl 1 1) (bR rs u pl 2 1) ((fmo (rget rs (bR rs u pl 1 1)) 1).length : Int) ((u.length : Int) - 0) _ _ _ (by omega) hss (by rw [hc_147, List.nil_append]) hfr hto (by rw [sl_self, List.append_nil]) hc_148 (by omega) (G.perm (ws' := [(m0, mO M xth xrm xsv xln xat xer xwr xwd xlo xhi (u.length : Int) (m2_145.length : Int) xkl (bR rs u pl 1 1) (bR rs u pl 2 1) xdn xon xtw xol xrw xgl xus xpr xmk xab), (M 1, aI (K 0) 1247 g), (M 17, aI (K 0) 2000 gwo), (M 18, aI (K 0) 2000 gma2_146)]) [0, 1, 2, 3] rfl rfl) (lv_sub hl [3, 4, 5, 2, 1, 0] rfl)
          · refine ad_iconst F dX11_convert_160 ?_
            refine lv_goto (tgt := 173) F.1 F.2.1 dX11_convert_161 (by decide) ?_
            refine lv_istore_n (lv' := [(3, .int (iI 0)), (0, .ref m0), (1, .int (iI pl)), (2, .int (iI 1))]) F.1 F.2.1 dX11_convert_173 rfl hl (by decide) rfl (fun ls hl => ?_)
            refine lv_aload_n F.1 F.2.1 dX11_convert_174 rfl (lv_at hl 1 rfl) ?_
            refine ad_get F G fl_X11_233 0 rfl rfl dX11_convert_175 ?_
            refine lv_aload_n F.1 F.2.1 dX11_convert_178 rfl (lv_at hl 1 rfl) ?_
            refine ad_get F G fl_X11_242 0 rfl rfl dX11_convert_179 ?_
            refine ad_if_ge (tgt := 189) F (by omega) dX11_convert_182 (by decide) (fun cc_156 => ?_) (fun cc_156 => ?_)
            · refine lv_aload_n F.1 F.2.1 dX11_convert_189 rfl (lv_at hl 1 rfl) ?_
              refine lv_aload_n F.1 F.2.1 dX11_convert_190 rfl (lv_at hl 1 rfl) ?_
              refine ad_get F G fl_X11_242 0 rfl rfl dX11_convert_191 ?_
              refine lv_iload_n F.1 F.2.1 dX11_convert_194 rfl (lv_at hl 3 rfl) ?_
              refine ad_callV (As := [.int (iI (bR rs u pl 2 1)), .int (iI 1)]) (rest := [.int (iI (u.length : Int))]) F G (c_X11_lengthOf l D K z0 m0 M xth xrm xsv xln xat xer xwr xwd xlo xhi (u.length : Int) (([] : List Int).length : Int) xkl (bR rs u pl 1 1) (bR rs u pl 2 1) xdn xon xtw xol xrw xgl xus xpr xmk xab g rs ps md th nc (bR rs u pl 2 1) 1 hM hW (by omega) (by omega)) my_X11_lengthOf mv_X11_185 (wr := [(M 17, aI (K 0) 2000 gwo), (M 18, aI (K 0) 2000 gma)]) (isC := [0, 1]) (isR := [2, 3]) ⟨rfl, rfl, rfl, rfl, by decide⟩ 11 0 rfl rfl rfl rfl ⟨Nat.le_of_ble_eq_true rfl, Nat.le_of_ble_eq_true rfl⟩ ⟨Nat.le_of_ble_eq_true rfl, Nat.le_of_ble_eq_true rfl⟩ (Nat.le_of_ble_eq_true rfl) hl.1 (cells9 := 0) (slots9 := 0) ⟨rfl, rfl⟩ dX11_convert_195 (fun v u H locs hw_157 G => ?_)
              obtain ⟨rfl, rfl⟩ := hw_157
              replace G := G.perm (ws' := [(m0, mO M xth xrm xsv xln xat xer xwr xwd xlo xhi (u.length : Int) (([] : List Int).length : Int) xkl (bR rs u pl 1 1) (bR rs u pl 2 1) xdn xon xtw xol xrw xgl xus xpr xmk xab), (M 1, aI (K 0) 1247 g), (M 17, aI (K 0) 2000 gwo), (M 18, aI (K 0) 2000 gma)]) [2, 3, 0, 1] rfl rfl
              refine W.eq (g2 := F0 m9 198 ls [.int (iI ((fmo (rget rs (bR rs u pl 2 1)) 1).length : Int)), .int (iI (u.length : Int))]) rfl ?_
              refine ad_isub F dX11_convert_198 ?_
              refine lv_istore (lv' := [(4, .int (iI ((u.length : Int) - ((fmo (rget rs (bR rs u pl 2 1)) 1).length : Int)))), (3, .int (iI 0)), (0, .ref m0), (1, .int (iI pl)), (2, .int (iI 1))]) F.1 F.2.1 dX11_convert_199 hl (by decide) rfl (fun ls hl => ?_)
              refine lv_aload_n F.1 F.2.1 dX11_convert_201 rfl (lv_at hl 2 rfl) ?_
              refine lv_aload_n F.1 F.2.1 dX11_convert_202 rfl (lv_at hl 2 rfl) ?_
              refine ad_get F G fl_X11_249 0 rfl rfl dX11_convert_203 ?_
              refine lv_iload_n F.1 F.2.1 dX11_convert_206 rfl (lv_at hl 4 rfl) ?_
              refine ad_if_ne (tgt := 214) F (by decide) dX11_convert_207 (by decide) (fun _ => ?_) (fun cc_158 => absurd cc_158 (by decide))
              refine ad_iconst F dX11_convert_214 ?_
              refine ad_callV (As := [.int (iI (bR rs u pl 1 1)), .int (iI 0)]) (rest := []) F G (c_X11_addForm l D K z0 m0 M xth xrm xsv xln xat xer xwr xwd xlo xhi (u.length : Int) xkl (bR rs u pl 1 1) (bR rs u pl 2 1) xdn xon xtw xol xrw xgl xus xpr xmk xab g gma rs ps md th nc ([] : List Int) (bR rs u pl 1 1) 0 hM hW Tx_nil (by simp) (by omega) (by omega)) my_X11_addForm mv_X11_252 (wr := [(M 17, aI (K 0) 2000 gwo)]) (isC := [0, 1, 3]) (isR := [2]) ⟨rfl, rfl, rfl, rfl, by decide⟩ 11 0 rfl rfl rfl rfl ⟨Nat.le_of_ble_eq_true rfl, Nat.le_of_ble_eq_true rfl⟩ ⟨Nat.le_of_ble_eq_true rfl, Nat.le_of_ble_eq_true rfl⟩ (Nat.le_of_ble_eq_true rfl) hl.1 (cells9 := 0) (slots9 := 0) ⟨rfl, rfl⟩ dX11_convert_215 (fun v u H locs hw_159 G => ?_)
              obtain ⟨m2_160, gma2_161, rfl, hc_162, hc_163, rfl⟩ := hw_159
              replace G := G.perm (ws' := [(m0, mO M xth xrm xsv xln xat xer xwr xwd xlo xhi (u.length : Int) (m2_160.length : Int) xkl (bR rs u pl 1 1) (bR rs u pl 2 1) xdn xon xtw xol xrw xgl xus xpr xmk xab), (M 1, aI (K 0) 1247 g), (M 17, aI (K 0) 2000 gwo), (M 18, aI (K 0) 2000 gma2_161)]) [1, 2, 0, 3] rfl rfl
              refine W.eq (g2 := F0 m9 218 ls []) rfl ?_
              refine lv_iload_n F.1 F.2.1 dX11_convert_218 rfl (lv_at hl 1 rfl) ?_
              refine lv_istore (lv' := [(5, .int (iI 0)), (4, .int (iI ((u.length : Int) - ((fmo (rget rs (bR rs u pl 2 1)) 1).length : Int)))), (3, .int (iI 0)), (0, .ref m0), (1, .int (iI pl)), (2, .int (iI 1))]) F.1 F.2.1 dX11_convert_219 hl (by decide) rfl (fun ls hl => ?_)
              have hfr : 0 = ((fmo (rget rs (bR rs u pl 1 1)) 1).length : Int) := by first | rfl | (rw [show (bR rs u pl 1 1) = -1 by omega, fmo_m1]; rfl)
              have hto : (u.length : Int) - ((fmo (rget rs (bR rs u pl 2 1)) 1).length : Int) = (u.length : Int) - ((fmo (rget rs (bR rs u pl 2 1)) 1).length : Int) := by first | rfl | (rw [show (bR rs u pl 2 1) = -1 by omega, fmo_m1]; rfl)
              have hsl := spl_le rs u pl 1
              rw [hss.1, hss.2] at hsl
              have lp221 : ∀ (n221 : Nat) (k : Int) (gx : Nat → Int) (mx : List Int) (A0 : List Int) (fi : Int) (se : Int) (fr : Int) (to : Int) (H : Heap) (locs : List Loc) (ls : Array Slot), (0 ≤ fr ∧ fr ≤ k ∧ k ≤ to ∧ to ≤ u.length) → (spm rs u pl 1 = fi ∧ spe rs u pl 1 = se) → (A0 = (fmo (rget rs fi) 0)) → (fr = ((fmo (rget rs fi) 1).length : Int)) → (to = (u.length : Int) - ((fmo (rget rs se) 1).length : Int)) → (mx = A0 ++ sl u fr k) → (Tx gx mx) → (to - k) < (n221 : Int) → ad_G D A9 s9.heap H locs [(m0, mO M xth xrm xsv xln xat xer xwr xwd xlo xhi (u.length : Int) (mx.length : Int) xkl fi se xdn xon xtw xol xrw xgl xus xpr xmk xab), (M 1, aI (K 0) 1247 g), (M 17, aI (K 0) 2000 gwo), (M 18, aI (K 0) 2000 gx)] → lv_has ls 6 [(0, .ref m0), (1, .int (iI pl)), (2, .int (iI 1)), (3, .int (iI fr)), (4, .int (iI to)), (5, .int (iI k))] → W p9 l e9 rm_X11_convert_1 s9 m9 ag9 bl9 mt9 c9 H locs 0 0 Q9 (F0 m9 221 ls []) := by
                intro n221
                induction n221 with
                | zero =>
                  intro k gx mx A0 fi se fr to H locs ls hk hss hA hfr hto hmx hTx hm221
                  exact absurd hm221 (by omega)
                | succ n221 ih221 =>
                  intro k gx mx A0 fi se fr to H locs ls hk hss hA hfr hto hmx hTx hm221 G hl
                  have hA12 := fmo_len hW fi 0
                  have hmxl : (mx.length : Int) = A0.length + (k - fr) := by rw [hmx, List.length_append, Int.natCast_add, sl_len (by omega) (by omega) (by omega)]
                  have hAl : A0.length ≤ 12 := by rw [hA]; exact hA12
                  have hseb := spe_b rs u pl 1
                  refine lv_iload F.1 F.2.1 dX11_convert_221 (lv_at hl 5 rfl) ?_
                  refine lv_iload F.1 F.2.1 dX11_convert_223 (lv_at hl 4 rfl) ?_
                  refine ad_icmp_ge (tgt := 260) F (by omega) dX11_convert_225 (by decide) (fun cc_164 => ?_) (fun cc_164 => ?_)
                  · refine lv_aload_n F.1 F.2.1 dX11_convert_260 rfl (lv_at hl 0 rfl) ?_
                    refine lv_aload_n F.1 F.2.1 dX11_convert_261 rfl (lv_at hl 0 rfl) ?_
                    refine ad_get F G fl_X11_242 0 rfl rfl dX11_convert_262 ?_
                    refine lv_iload_n F.1 F.2.1 dX11_convert_265 rfl (lv_at hl 2 rfl) ?_
                    refine ad_if_ne (tgt := 273) F (by decide) dX11_convert_266 (by decide) (fun _ => ?_) (fun cc_165 => absurd cc_165 (by decide))
                    refine ad_iconst F dX11_convert_273 ?_
                    refine ad_callV (As := [.int (iI se), .int (iI 0)]) (rest := []) F G (c_X11_addForm l D K z0 m0 M xth xrm xsv xln xat xer xwr xwd xlo xhi (u.length : Int) xkl fi se xdn xon xtw xol xrw xgl xus xpr xmk xab g gx rs ps md th nc mx se 0 hM hW hTx (by omega) (by rw [← hss.2]; exact hseb) (by omega)) my_X11_addForm mv_X11_252 (wr := [(M 17, aI (K 0) 2000 gwo)]) (isC := [0, 1, 3]) (isR := [2]) ⟨rfl, rfl, rfl, rfl, by decide⟩ 11 0 rfl rfl rfl rfl ⟨Nat.le_of_ble_eq_true rfl, Nat.le_of_ble_eq_true rfl⟩ ⟨Nat.le_of_ble_eq_true rfl, Nat.le_of_ble_eq_true rfl⟩ (Nat.le_of_ble_eq_true rfl) hl.1 (cells9 := 0) (slots9 := 0) ⟨rfl, rfl⟩ dX11_convert_274 (fun v u H locs hw_166 G => ?_)
                    obtain ⟨m2_167, gma2_168, rfl, hc_169, hc_170, rfl⟩ := hw_166
                    replace G := G.perm (ws' := [(m0, mO M xth xrm xsv xln xat xer xwr xwd xlo xhi (u.length : Int) (m2_167.length : Int) xkl fi se xdn xon xtw xol xrw xgl xus xpr xmk xab), (M 1, aI (K 0) 1247 g), (M 17, aI (K 0) 2000 gwo), (M 18, aI (K 0) 2000 gma2_168)]) [1, 2, 0, 3] rfl rfl
                    refine W.eq (g2 := F0 m9 277 ls []) rfl ?_
                    exact ad_vreturn F G hR rfl (Nat.le_of_ble_eq_true rfl) (Nat.le_of_ble_eq_true rfl) ⟨m2_167, gma2_168, rfl, (by rw [hc_169, hmx, hA, spw_eq hss.1 hss.2, ← hfr, ← hto, show k = to by omega]; rfl), hc_170, (by rw [hss.1, hss.2])⟩ dX11_convert_277
                  · refine lv_aload_n F.1 F.2.1 dX11_convert_228 rfl (lv_at hl 0 rfl) ?_
                    refine ad_get F G fl_X11_42 0 rfl rfl dX11_convert_229 ?_
                    refine lv_aload_n F.1 F.2.1 dX11_convert_232 rfl (lv_at hl 0 rfl) ?_
                    refine ad_get F G fl_X11_239 0 rfl rfl dX11_convert_233 ?_
                    refine lv_aload_n F.1 F.2.1 dX11_convert_236 rfl (lv_at hl 0 rfl) ?_
                    refine ad_get F G fl_X11_39 0 rfl rfl dX11_convert_237 ?_
                    refine lv_iload F.1 F.2.1 dX11_convert_240 (lv_at hl 5 rfl) ?_
                    refine ad_iald F G 2 rfl (w := lat u k) (by omega) (Tx_at hTu (by omega) (by omega)) dX11_convert_242 ?_
                    refine ad_iast F G 3 rfl (by omega) (ws' := [(m0, mO M xth xrm xsv xln xat xer xwr xwd xlo xhi (u.length : Int) (mx.length : Int) xkl fi se xdn xon xtw xol xrw xgl xus xpr xmk xab), (M 1, aI (K 0) 1247 g), (M 17, aI (K 0) 2000 gwo), (M 18, aI (K 0) 2000 (va_up gx (mx.length : Int).toNat (lat u k)))]) rfl dX11_convert_243 (fun H locs G => ?_)
                    refine lv_aload_n F.1 F.2.1 dX11_convert_244 rfl (lv_at hl 0 rfl) ?_
                    refine lv_dup F.1 F.2.1 dX11_convert_245 rfl ?_
                    refine ad_get F G fl_X11_239 0 rfl rfl dX11_convert_246 ?_
                    refine ad_iconst F dX11_convert_249 ?_
                    refine ad_iadd F dX11_convert_250 ?_
                    refine ad_put F G fl_X11_239 0 rfl rfl rfl (Nat.le_of_ble_eq_true rfl) (ws' := [(m0, mO M xth xrm xsv xln xat xer xwr xwd xlo xhi (u.length : Int) ((mx.length : Int) + 1) xkl fi se xdn xon xtw xol xrw xgl xus xpr xmk xab), (M 1, aI (K 0) 1247 g), (M 17, aI (K 0) 2000 gwo), (M 18, aI (K 0) 2000 (va_up gx (mx.length : Int).toNat (lat u k)))]) rfl dX11_convert_251 (fun H locs G => ?_)
                    have hpl : (((mx ++ [lat u k]).length : Nat) : Int) = (mx.length : Int) + 1 := by simp
                    replace G := G.eq (ws' := [(m0, mO M xth xrm xsv xln xat xer xwr xwd xlo xhi (u.length : Int) ((mx ++ [lat u k]).length : Int) xkl fi se xdn xon xtw xol xrw xgl xus xpr xmk xab), (M 1, aI (K 0) 1247 g), (M 17, aI (K 0) 2000 gwo), (M 18, aI (K 0) 2000 (va_up gx (mx.length : Int).toNat (lat u k)))]) (by rw [hpl])
                    refine ad_iinc (lv' := [(5, .int (iI (k + 1))), (0, .ref m0), (1, .int (iI pl)), (2, .int (iI 1)), (3, .int (iI fr)), (4, .int (iI to))]) F dX11_convert_254 hl (k := 5) rfl (by decide) rfl (fun ls hl => ?_)
                    refine lv_goto (tgt := 221) F.1 F.2.1 dX11_convert_257 (by decide) ?_
                    exact ih221 (k + 1) (va_up gx (mx.length : Int).toNat (lat u k)) (mx ++ [lat u k]) A0 fi se fr to _ _ _ (by omega) hss hA hfr hto (by rw [sl_succ (by omega) (by omega) (by omega), hmx, List.append_assoc]) (Tx_push hTx _) (by omega) (G.perm (ws' := [(m0, mO M xth xrm xsv xln xat xer xwr xwd xlo xhi (u.length : Int) ((mx ++ [lat u k]).length : Int) xkl fi se xdn xon xtw xol xrw xgl xus xpr xmk xab), (M 1, aI (K 0) 1247 g), (M 17, aI (K 0) 2000 gwo), (M 18, aI (K 0) 2000 (va_up gx (mx.length : Int).toNat (lat u k)))]) [0, 1, 2, 3] rfl rfl) (lv_sub hl [1, 2, 3, 4, 5, 0] rfl)
              exact lp221 ((((((u.length : Int) - ((fmo (rget rs (bR rs u pl 2 1)) 1).length : Int)) - 0 : Int)) + 1).toNat) 0 gma2_161 m2_160 m2_160 (bR rs u pl 1 1) (bR rs u pl 2 1) 0 ((u.length : Int) - ((fmo (rget rs (bR rs u pl 2 1)) 1).length : Int)) _ _ _ (by omega) hss (by rw [hc_162, List.nil_append]) hfr hto (by rw [sl_self, List.append_nil]) hc_163 (by omega) (G.perm (ws' := [(m0, mO M xth xrm xsv xln xat xer xwr xwd xlo xhi (u.length : Int) (m2_160.length : Int) xkl (bR rs u pl 1 1) (bR rs u pl 2 1) xdn xon xtw xol xrw xgl xus xpr xmk xab), (M 1, aI (K 0) 1247 g), (M 17, aI (K 0) 2000 gwo), (M 18, aI (K 0) 2000 gma2_161)]) [0, 1, 2, 3] rfl rfl) (lv_sub hl [3, 4, 5, 2, 1, 0] rfl)
            · refine ad_iconst F dX11_convert_185 ?_
              refine lv_goto (tgt := 198) F.1 F.2.1 dX11_convert_186 (by decide) ?_
              refine ad_isub F dX11_convert_198 ?_
              refine lv_istore (lv' := [(4, .int (iI ((u.length : Int) - 0))), (3, .int (iI 0)), (0, .ref m0), (1, .int (iI pl)), (2, .int (iI 1))]) F.1 F.2.1 dX11_convert_199 hl (by decide) rfl (fun ls hl => ?_)
              refine lv_aload_n F.1 F.2.1 dX11_convert_201 rfl (lv_at hl 2 rfl) ?_
              refine lv_aload_n F.1 F.2.1 dX11_convert_202 rfl (lv_at hl 2 rfl) ?_
              refine ad_get F G fl_X11_249 0 rfl rfl dX11_convert_203 ?_
              refine lv_iload_n F.1 F.2.1 dX11_convert_206 rfl (lv_at hl 4 rfl) ?_
              refine ad_if_ne (tgt := 214) F (by decide) dX11_convert_207 (by decide) (fun _ => ?_) (fun cc_171 => absurd cc_171 (by decide))
              refine ad_iconst F dX11_convert_214 ?_
              refine ad_callV (As := [.int (iI (bR rs u pl 1 1)), .int (iI 0)]) (rest := []) F G (c_X11_addForm l D K z0 m0 M xth xrm xsv xln xat xer xwr xwd xlo xhi (u.length : Int) xkl (bR rs u pl 1 1) (bR rs u pl 2 1) xdn xon xtw xol xrw xgl xus xpr xmk xab g gma rs ps md th nc ([] : List Int) (bR rs u pl 1 1) 0 hM hW Tx_nil (by simp) (by omega) (by omega)) my_X11_addForm mv_X11_252 (wr := [(M 17, aI (K 0) 2000 gwo)]) (isC := [0, 1, 3]) (isR := [2]) ⟨rfl, rfl, rfl, rfl, by decide⟩ 11 0 rfl rfl rfl rfl ⟨Nat.le_of_ble_eq_true rfl, Nat.le_of_ble_eq_true rfl⟩ ⟨Nat.le_of_ble_eq_true rfl, Nat.le_of_ble_eq_true rfl⟩ (Nat.le_of_ble_eq_true rfl) hl.1 (cells9 := 0) (slots9 := 0) ⟨rfl, rfl⟩ dX11_convert_215 (fun v u H locs hw_172 G => ?_)
              obtain ⟨m2_173, gma2_174, rfl, hc_175, hc_176, rfl⟩ := hw_172
              replace G := G.perm (ws' := [(m0, mO M xth xrm xsv xln xat xer xwr xwd xlo xhi (u.length : Int) (m2_173.length : Int) xkl (bR rs u pl 1 1) (bR rs u pl 2 1) xdn xon xtw xol xrw xgl xus xpr xmk xab), (M 1, aI (K 0) 1247 g), (M 17, aI (K 0) 2000 gwo), (M 18, aI (K 0) 2000 gma2_174)]) [1, 2, 0, 3] rfl rfl
              refine W.eq (g2 := F0 m9 218 ls []) rfl ?_
              refine lv_iload_n F.1 F.2.1 dX11_convert_218 rfl (lv_at hl 1 rfl) ?_
              refine lv_istore (lv' := [(5, .int (iI 0)), (4, .int (iI ((u.length : Int) - 0))), (3, .int (iI 0)), (0, .ref m0), (1, .int (iI pl)), (2, .int (iI 1))]) F.1 F.2.1 dX11_convert_219 hl (by decide) rfl (fun ls hl => ?_)
              have hfr : 0 = ((fmo (rget rs (bR rs u pl 1 1)) 1).length : Int) := by first | rfl | (rw [show (bR rs u pl 1 1) = -1 by omega, fmo_m1]; rfl)
              have hto : (u.length : Int) - 0 = (u.length : Int) - ((fmo (rget rs (bR rs u pl 2 1)) 1).length : Int) := by first | rfl | (rw [show (bR rs u pl 2 1) = -1 by omega, fmo_m1]; rfl)
              have hsl := spl_le rs u pl 1
              rw [hss.1, hss.2] at hsl
              have lp221 : ∀ (n221 : Nat) (k : Int) (gx : Nat → Int) (mx : List Int) (A0 : List Int) (fi : Int) (se : Int) (fr : Int) (to : Int) (H : Heap) (locs : List Loc) (ls : Array Slot), (0 ≤ fr ∧ fr ≤ k ∧ k ≤ to ∧ to ≤ u.length) → (spm rs u pl 1 = fi ∧ spe rs u pl 1 = se) → (A0 = (fmo (rget rs fi) 0)) → (fr = ((fmo (rget rs fi) 1).length : Int)) → (to = (u.length : Int) - ((fmo (rget rs se) 1).length : Int)) → (mx = A0 ++ sl u fr k) → (Tx gx mx) → (to - k) < (n221 : Int) → ad_G D A9 s9.heap H locs [(m0, mO M xth xrm xsv xln xat xer xwr xwd xlo xhi (u.length : Int) (mx.length : Int) xkl fi se xdn xon xtw xol xrw xgl xus xpr xmk xab), (M 1, aI (K 0) 1247 g), (M 17, aI (K 0) 2000 gwo), (M 18, aI (K 0) 2000 gx)] → lv_has ls 6 [(0, .ref m0), (1, .int (iI pl)), (2, .int (iI 1)), (3, .int (iI fr)), (4, .int (iI to)), (5, .int (iI k))] → W p9 l e9 rm_X11_convert_1 s9 m9 ag9 bl9 mt9 c9 H locs 0 0 Q9 (F0 m9 221 ls []) := by
                intro n221
                induction n221 with
                | zero =>
                  intro k gx mx A0 fi se fr to H locs ls hk hss hA hfr hto hmx hTx hm221
                  exact absurd hm221 (by omega)
                | succ n221 ih221 =>
                  intro k gx mx A0 fi se fr to H locs ls hk hss hA hfr hto hmx hTx hm221 G hl
                  have hA12 := fmo_len hW fi 0
                  have hmxl : (mx.length : Int) = A0.length + (k - fr) := by rw [hmx, List.length_append, Int.natCast_add, sl_len (by omega) (by omega) (by omega)]
                  have hAl : A0.length ≤ 12 := by rw [hA]; exact hA12
                  have hseb := spe_b rs u pl 1
                  refine lv_iload F.1 F.2.1 dX11_convert_221 (lv_at hl 5 rfl) ?_
                  refine lv_iload F.1 F.2.1 dX11_convert_223 (lv_at hl 4 rfl) ?_
                  refine ad_icmp_ge (tgt := 260) F (by omega) dX11_convert_225 (by decide) (fun cc_177 => ?_) (fun cc_177 => ?_)
                  · refine lv_aload_n F.1 F.2.1 dX11_convert_260 rfl (lv_at hl 0 rfl) ?_
                    refine lv_aload_n F.1 F.2.1 dX11_convert_261 rfl (lv_at hl 0 rfl) ?_
                    refine ad_get F G fl_X11_242 0 rfl rfl dX11_convert_262 ?_
                    refine lv_iload_n F.1 F.2.1 dX11_convert_265 rfl (lv_at hl 2 rfl) ?_
                    refine ad_if_ne (tgt := 273) F (by decide) dX11_convert_266 (by decide) (fun _ => ?_) (fun cc_178 => absurd cc_178 (by decide))
                    refine ad_iconst F dX11_convert_273 ?_
                    refine ad_callV (As := [.int (iI se), .int (iI 0)]) (rest := []) F G (c_X11_addForm l D K z0 m0 M xth xrm xsv xln xat xer xwr xwd xlo xhi (u.length : Int) xkl fi se xdn xon xtw xol xrw xgl xus xpr xmk xab g gx rs ps md th nc mx se 0 hM hW hTx (by omega) (by rw [← hss.2]; exact hseb) (by omega)) my_X11_addForm mv_X11_252 (wr := [(M 17, aI (K 0) 2000 gwo)]) (isC := [0, 1, 3]) (isR := [2]) ⟨rfl, rfl, rfl, rfl, by decide⟩ 11 0 rfl rfl rfl rfl ⟨Nat.le_of_ble_eq_true rfl, Nat.le_of_ble_eq_true rfl⟩ ⟨Nat.le_of_ble_eq_true rfl, Nat.le_of_ble_eq_true rfl⟩ (Nat.le_of_ble_eq_true rfl) hl.1 (cells9 := 0) (slots9 := 0) ⟨rfl, rfl⟩ dX11_convert_274 (fun v u H locs hw_179 G => ?_)
                    obtain ⟨m2_180, gma2_181, rfl, hc_182, hc_183, rfl⟩ := hw_179
                    replace G := G.perm (ws' := [(m0, mO M xth xrm xsv xln xat xer xwr xwd xlo xhi (u.length : Int) (m2_180.length : Int) xkl fi se xdn xon xtw xol xrw xgl xus xpr xmk xab), (M 1, aI (K 0) 1247 g), (M 17, aI (K 0) 2000 gwo), (M 18, aI (K 0) 2000 gma2_181)]) [1, 2, 0, 3] rfl rfl
                    refine W.eq (g2 := F0 m9 277 ls []) rfl ?_
                    exact ad_vreturn F G hR rfl (Nat.le_of_ble_eq_true rfl) (Nat.le_of_ble_eq_true rfl) ⟨m2_180, gma2_181, rfl, (by rw [hc_182, hmx, hA, spw_eq hss.1 hss.2, ← hfr, ← hto, show k = to by omega]; rfl), hc_183, (by rw [hss.1, hss.2])⟩ dX11_convert_277
                  · refine lv_aload_n F.1 F.2.1 dX11_convert_228 rfl (lv_at hl 0 rfl) ?_
                    refine ad_get F G fl_X11_42 0 rfl rfl dX11_convert_229 ?_
                    refine lv_aload_n F.1 F.2.1 dX11_convert_232 rfl (lv_at hl 0 rfl) ?_
                    refine ad_get F G fl_X11_239 0 rfl rfl dX11_convert_233 ?_
                    refine lv_aload_n F.1 F.2.1 dX11_convert_236 rfl (lv_at hl 0 rfl) ?_
                    refine ad_get F G fl_X11_39 0 rfl rfl dX11_convert_237 ?_
                    refine lv_iload F.1 F.2.1 dX11_convert_240 (lv_at hl 5 rfl) ?_
                    refine ad_iald F G 2 rfl (w := lat u k) (by omega) (Tx_at hTu (by omega) (by omega)) dX11_convert_242 ?_
                    refine ad_iast F G 3 rfl (by omega) (ws' := [(m0, mO M xth xrm xsv xln xat xer xwr xwd xlo xhi (u.length : Int) (mx.length : Int) xkl fi se xdn xon xtw xol xrw xgl xus xpr xmk xab), (M 1, aI (K 0) 1247 g), (M 17, aI (K 0) 2000 gwo), (M 18, aI (K 0) 2000 (va_up gx (mx.length : Int).toNat (lat u k)))]) rfl dX11_convert_243 (fun H locs G => ?_)
                    refine lv_aload_n F.1 F.2.1 dX11_convert_244 rfl (lv_at hl 0 rfl) ?_
                    refine lv_dup F.1 F.2.1 dX11_convert_245 rfl ?_
                    refine ad_get F G fl_X11_239 0 rfl rfl dX11_convert_246 ?_
                    refine ad_iconst F dX11_convert_249 ?_
                    refine ad_iadd F dX11_convert_250 ?_
                    refine ad_put F G fl_X11_239 0 rfl rfl rfl (Nat.le_of_ble_eq_true rfl) (ws' := [(m0, mO M xth xrm xsv xln xat xer xwr xwd xlo xhi (u.length : Int) ((mx.length : Int) + 1) xkl fi se xdn xon xtw xol xrw xgl xus xpr xmk xab), (M 1, aI (K 0) 1247 g), (M 17, aI (K 0) 2000 gwo), (M 18, aI (K 0) 2000 (va_up gx (mx.length : Int).toNat (lat u k)))]) rfl dX11_convert_251 (fun H locs G => ?_)
                    have hpl : (((mx ++ [lat u k]).length : Nat) : Int) = (mx.length : Int) + 1 := by simp
                    replace G := G.eq (ws' := [(m0, mO M xth xrm xsv xln xat xer xwr xwd xlo xhi (u.length : Int) ((mx ++ [lat u k]).length : Int) xkl fi se xdn xon xtw xol xrw xgl xus xpr xmk xab), (M 1, aI (K 0) 1247 g), (M 17, aI (K 0) 2000 gwo), (M 18, aI (K 0) 2000 (va_up gx (mx.length : Int).toNat (lat u k)))]) (by rw [hpl])
                    refine ad_iinc (lv' := [(5, .int (iI (k + 1))), (0, .ref m0), (1, .int (iI pl)), (2, .int (iI 1)), (3, .int (iI fr)), (4, .int (iI to))]) F dX11_convert_254 hl (k := 5) rfl (by decide) rfl (fun ls hl => ?_)
                    refine lv_goto (tgt := 221) F.1 F.2.1 dX11_convert_257 (by decide) ?_
                    exact ih221 (k + 1) (va_up gx (mx.length : Int).toNat (lat u k)) (mx ++ [lat u k]) A0 fi se fr to _ _ _ (by omega) hss hA hfr hto (by rw [sl_succ (by omega) (by omega) (by omega), hmx, List.append_assoc]) (Tx_push hTx _) (by omega) (G.perm (ws' := [(m0, mO M xth xrm xsv xln xat xer xwr xwd xlo xhi (u.length : Int) ((mx ++ [lat u k]).length : Int) xkl fi se xdn xon xtw xol xrw xgl xus xpr xmk xab), (M 1, aI (K 0) 1247 g), (M 17, aI (K 0) 2000 gwo), (M 18, aI (K 0) 2000 (va_up gx (mx.length : Int).toNat (lat u k)))]) [0, 1, 2, 3] rfl rfl) (lv_sub hl [1, 2, 3, 4, 5, 0] rfl)
              exact lp221 ((((((u.length : Int) - 0) - 0 : Int)) + 1).toNat) 0 gma2_174 m2_173 m2_173 (bR rs u pl 1 1) (bR rs u pl 2 1) 0 ((u.length : Int) - 0) _ _ _ (by omega) hss (by rw [hc_175, List.nil_append]) hfr hto (by rw [sl_self, List.append_nil]) hc_176 (by omega) (G.perm (ws' := [(m0, mO M xth xrm xsv xln xat xer xwr xwd xlo xhi (u.length : Int) (m2_173.length : Int) xkl (bR rs u pl 1 1) (bR rs u pl 2 1) xdn xon xtw xol xrw xgl xus xpr xmk xab), (M 1, aI (K 0) 1247 g), (M 17, aI (K 0) 2000 gwo), (M 18, aI (K 0) 2000 gma2_174)]) [0, 1, 2, 3] rfl rfl) (lv_sub hl [3, 4, 5, 2, 1, 0] rfl)
        · refine lv_aload_n F.1 F.2.1 dX11_convert_108 rfl (lv_at hl 0 rfl) ?_
          refine lv_aload_n F.1 F.2.1 dX11_convert_109 rfl (lv_at hl 0 rfl) ?_
          refine ad_get F G fl_X11_249 0 rfl rfl dX11_convert_110 ?_
          refine lv_aload_n F.1 F.2.1 dX11_convert_113 rfl (lv_at hl 0 rfl) ?_
          refine ad_get F G fl_X11_242 0 rfl rfl dX11_convert_114 ?_
          refine ad_callV (As := [.int (iI (bR rs u pl 1 1)), .int (iI (bR rs u pl 2 1))]) (rest := []) F G (c_X11_isBetter l D K z0 m0 M xth xrm xsv xln xat xer xwr xwd xlo xhi (u.length : Int) (([] : List Int).length : Int) xkl (bR rs u pl 1 1) (bR rs u pl 2 1) xdn xon xtw xol xrw xgl xus xpr xmk xab g rs ps md th nc (bR rs u pl 1 1) (bR rs u pl 2 1) hM hW (by omega) (by omega)) my_X11_isBetter mv_X11_178 (wr := [(M 17, aI (K 0) 2000 gwo), (M 18, aI (K 0) 2000 gma)]) (isC := [0, 1]) (isR := [2, 3]) ⟨rfl, rfl, rfl, rfl, by decide⟩ 11 0 rfl rfl rfl rfl ⟨Nat.le_of_ble_eq_true rfl, Nat.le_of_ble_eq_true rfl⟩ ⟨Nat.le_of_ble_eq_true rfl, Nat.le_of_ble_eq_true rfl⟩ (Nat.le_of_ble_eq_true rfl) hl.1 (cells9 := 0) (slots9 := 0) ⟨rfl, rfl⟩ dX11_convert_117 (fun v u H locs hw_184 G => ?_)
          rcases hw_184 with ⟨rfl, hc_185, rfl⟩ | ⟨rfl, hc_186, rfl⟩
          · replace G := G.perm (ws' := [(m0, mO M xth xrm xsv xln xat xer xwr xwd xlo xhi (u.length : Int) (([] : List Int).length : Int) xkl (bR rs u pl 1 1) (bR rs u pl 2 1) xdn xon xtw xol xrw xgl xus xpr xmk xab), (M 1, aI (K 0) 1247 g), (M 17, aI (K 0) 2000 gwo), (M 18, aI (K 0) 2000 gma)]) [2, 3, 0, 1] rfl rfl
            refine W.eq (g2 := F0 m9 120 ls [.int (iI 1)]) rfl ?_
            refine lv_istore_n (lv' := [(3, .int (iI 1)), (0, .ref m0), (1, .int (iI pl)), (2, .int (iI 1))]) F.1 F.2.1 dX11_convert_120 rfl hl (by decide) rfl (fun ls hl => ?_)
            refine lv_aload_n F.1 F.2.1 dX11_convert_121 rfl (lv_at hl 1 rfl) ?_
            refine lv_iload_n F.1 F.2.1 dX11_convert_122 rfl (lv_at hl 0 rfl) ?_
            refine ad_if_eq (tgt := 133) F (by decide) dX11_convert_123 (by decide) (fun cc_187 => absurd cc_187 (by decide)) (fun _ => ?_)
            refine lv_aload_n F.1 F.2.1 dX11_convert_126 rfl (lv_at hl 1 rfl) ?_
            refine ad_get F G fl_X11_249 0 rfl rfl dX11_convert_127 ?_
            refine lv_goto (tgt := 134) F.1 F.2.1 dX11_convert_130 (by decide) ?_
            refine ad_put F G fl_X11_249 0 rfl rfl rfl (Nat.le_of_ble_eq_true rfl) (ws' := [(m0, mO M xth xrm xsv xln xat xer xwr xwd xlo xhi (u.length : Int) (([] : List Int).length : Int) xkl (bR rs u pl 1 1) (bR rs u pl 2 1) xdn xon xtw xol xrw xgl xus xpr xmk xab), (M 1, aI (K 0) 1247 g), (M 17, aI (K 0) 2000 gwo), (M 18, aI (K 0) 2000 gma)]) rfl dX11_convert_134 (fun H locs G => ?_)
            refine lv_aload_n F.1 F.2.1 dX11_convert_137 rfl (lv_at hl 1 rfl) ?_
            refine lv_iload_n F.1 F.2.1 dX11_convert_138 rfl (lv_at hl 0 rfl) ?_
            refine ad_if_eq (tgt := 146) F (by decide) dX11_convert_139 (by decide) (fun cc_188 => absurd cc_188 (by decide)) (fun _ => ?_)
            refine ad_iconst F dX11_convert_142 ?_
            refine lv_goto (tgt := 150) F.1 F.2.1 dX11_convert_143 (by decide) ?_
            refine ad_put F G fl_X11_242 0 rfl rfl rfl (Nat.le_of_ble_eq_true rfl) (ws' := [(m0, mO M xth xrm xsv xln xat xer xwr xwd xlo xhi (u.length : Int) (([] : List Int).length : Int) xkl (bR rs u pl 1 1) (-1) xdn xon xtw xol xrw xgl xus xpr xmk xab), (M 1, aI (K 0) 1247 g), (M 17, aI (K 0) 2000 gwo), (M 18, aI (K 0) 2000 gma)]) rfl dX11_convert_150 (fun H locs G => ?_)
            have hss : spm rs u pl 1 = bR rs u pl 1 1 ∧ spe rs u pl 1 = (-1) := (sp_o cc_2 ⟨by omega, by omega, by omega⟩).1 hc_185
            refine lv_aload_n F.1 F.2.1 dX11_convert_153 rfl (lv_at hl 1 rfl) ?_
            refine ad_get F G fl_X11_249 0 rfl rfl dX11_convert_154 ?_
            refine ad_if_ge (tgt := 164) F (by omega) dX11_convert_157 (by decide) (fun cc_189 => ?_) (fun cc_189 => ?_)
            · refine lv_aload_n F.1 F.2.1 dX11_convert_164 rfl (lv_at hl 1 rfl) ?_
              refine lv_aload_n F.1 F.2.1 dX11_convert_165 rfl (lv_at hl 1 rfl) ?_
              refine ad_get F G fl_X11_249 0 rfl rfl dX11_convert_166 ?_
              refine lv_iload_n F.1 F.2.1 dX11_convert_169 rfl (lv_at hl 3 rfl) ?_
              refine ad_callV (As := [.int (iI (bR rs u pl 1 1)), .int (iI 1)]) (rest := []) F G (c_X11_lengthOf l D K z0 m0 M xth xrm xsv xln xat xer xwr xwd xlo xhi (u.length : Int) (([] : List Int).length : Int) xkl (bR rs u pl 1 1) (-1) xdn xon xtw xol xrw xgl xus xpr xmk xab g rs ps md th nc (bR rs u pl 1 1) 1 hM hW (by omega) (by omega)) my_X11_lengthOf mv_X11_185 (wr := [(M 17, aI (K 0) 2000 gwo), (M 18, aI (K 0) 2000 gma)]) (isC := [0, 1]) (isR := [2, 3]) ⟨rfl, rfl, rfl, rfl, by decide⟩ 11 0 rfl rfl rfl rfl ⟨Nat.le_of_ble_eq_true rfl, Nat.le_of_ble_eq_true rfl⟩ ⟨Nat.le_of_ble_eq_true rfl, Nat.le_of_ble_eq_true rfl⟩ (Nat.le_of_ble_eq_true rfl) hl.1 (cells9 := 0) (slots9 := 0) ⟨rfl, rfl⟩ dX11_convert_170 (fun v u H locs hw_190 G => ?_)
              obtain ⟨rfl, rfl⟩ := hw_190
              replace G := G.perm (ws' := [(m0, mO M xth xrm xsv xln xat xer xwr xwd xlo xhi (u.length : Int) (([] : List Int).length : Int) xkl (bR rs u pl 1 1) (-1) xdn xon xtw xol xrw xgl xus xpr xmk xab), (M 1, aI (K 0) 1247 g), (M 17, aI (K 0) 2000 gwo), (M 18, aI (K 0) 2000 gma)]) [2, 3, 0, 1] rfl rfl
              refine W.eq (g2 := F0 m9 173 ls [.int (iI ((fmo (rget rs (bR rs u pl 1 1)) 1).length : Int))]) rfl ?_
              refine lv_istore_n (lv' := [(3, .int (iI ((fmo (rget rs (bR rs u pl 1 1)) 1).length : Int))), (0, .ref m0), (1, .int (iI pl)), (2, .int (iI 1))]) F.1 F.2.1 dX11_convert_173 rfl hl (by decide) rfl (fun ls hl => ?_)
              refine lv_aload_n F.1 F.2.1 dX11_convert_174 rfl (lv_at hl 1 rfl) ?_
              refine ad_get F G fl_X11_233 0 rfl rfl dX11_convert_175 ?_
              refine lv_aload_n F.1 F.2.1 dX11_convert_178 rfl (lv_at hl 1 rfl) ?_
              refine ad_get F G fl_X11_242 0 rfl rfl dX11_convert_179 ?_
              refine ad_if_ge (tgt := 189) F (by decide) dX11_convert_182 (by decide) (fun cc_191 => absurd cc_191 (by decide)) (fun _ => ?_)
              refine ad_iconst F dX11_convert_185 ?_
              refine lv_goto (tgt := 198) F.1 F.2.1 dX11_convert_186 (by decide) ?_
              refine ad_isub F dX11_convert_198 ?_
              refine lv_istore (lv' := [(4, .int (iI ((u.length : Int) - 0))), (3, .int (iI ((fmo (rget rs (bR rs u pl 1 1)) 1).length : Int))), (0, .ref m0), (1, .int (iI pl)), (2, .int (iI 1))]) F.1 F.2.1 dX11_convert_199 hl (by decide) rfl (fun ls hl => ?_)
              refine lv_aload_n F.1 F.2.1 dX11_convert_201 rfl (lv_at hl 2 rfl) ?_
              refine lv_aload_n F.1 F.2.1 dX11_convert_202 rfl (lv_at hl 2 rfl) ?_
              refine ad_get F G fl_X11_249 0 rfl rfl dX11_convert_203 ?_
              refine lv_iload_n F.1 F.2.1 dX11_convert_206 rfl (lv_at hl 4 rfl) ?_
              refine ad_if_ne (tgt := 214) F (by decide) dX11_convert_207 (by decide) (fun _ => ?_) (fun cc_192 => absurd cc_192 (by decide))
              refine ad_iconst F dX11_convert_214 ?_
              refine ad_callV (As := [.int (iI (bR rs u pl 1 1)), .int (iI 0)]) (rest := []) F G (c_X11_addForm l D K z0 m0 M xth xrm xsv xln xat xer xwr xwd xlo xhi (u.length : Int) xkl (bR rs u pl 1 1) (-1) xdn xon xtw xol xrw xgl xus xpr xmk xab g gma rs ps md th nc ([] : List Int) (bR rs u pl 1 1) 0 hM hW Tx_nil (by simp) (by omega) (by omega)) my_X11_addForm mv_X11_252 (wr := [(M 17, aI (K 0) 2000 gwo)]) (isC := [0, 1, 3]) (isR := [2]) ⟨rfl, rfl, rfl, rfl, by decide⟩ 11 0 rfl rfl rfl rfl ⟨Nat.le_of_ble_eq_true rfl, Nat.le_of_ble_eq_true rfl⟩ ⟨Nat.le_of_ble_eq_true rfl, Nat.le_of_ble_eq_true rfl⟩ (Nat.le_of_ble_eq_true rfl) hl.1 (cells9 := 0) (slots9 := 0) ⟨rfl, rfl⟩ dX11_convert_215 (fun v u H locs hw_193 G => ?_)
              obtain ⟨m2_194, gma2_195, rfl, hc_196, hc_197, rfl⟩ := hw_193
              replace G := G.perm (ws' := [(m0, mO M xth xrm xsv xln xat xer xwr xwd xlo xhi (u.length : Int) (m2_194.length : Int) xkl (bR rs u pl 1 1) (-1) xdn xon xtw xol xrw xgl xus xpr xmk xab), (M 1, aI (K 0) 1247 g), (M 17, aI (K 0) 2000 gwo), (M 18, aI (K 0) 2000 gma2_195)]) [1, 2, 0, 3] rfl rfl
              refine W.eq (g2 := F0 m9 218 ls []) rfl ?_
              refine lv_iload_n F.1 F.2.1 dX11_convert_218 rfl (lv_at hl 1 rfl) ?_
              refine lv_istore (lv' := [(5, .int (iI ((fmo (rget rs (bR rs u pl 1 1)) 1).length : Int))), (4, .int (iI ((u.length : Int) - 0))), (3, .int (iI ((fmo (rget rs (bR rs u pl 1 1)) 1).length : Int))), (0, .ref m0), (1, .int (iI pl)), (2, .int (iI 1))]) F.1 F.2.1 dX11_convert_219 hl (by decide) rfl (fun ls hl => ?_)
              have hfr : ((fmo (rget rs (bR rs u pl 1 1)) 1).length : Int) = ((fmo (rget rs (bR rs u pl 1 1)) 1).length : Int) := by first | rfl | (rw [show (bR rs u pl 1 1) = -1 by omega, fmo_m1]; rfl)
              have hto : (u.length : Int) - 0 = (u.length : Int) - ((fmo (rget rs (-1)) 1).length : Int) := by first | rfl | (rw [show (-1) = -1 by omega, fmo_m1]; rfl)
              have hsl := spl_le rs u pl 1
              rw [hss.1, hss.2] at hsl
              have lp221 : ∀ (n221 : Nat) (k : Int) (gx : Nat → Int) (mx : List Int) (A0 : List Int) (fi : Int) (se : Int) (fr : Int) (to : Int) (H : Heap) (locs : List Loc) (ls : Array Slot), (0 ≤ fr ∧ fr ≤ k ∧ k ≤ to ∧ to ≤ u.length) → (spm rs u pl 1 = fi ∧ spe rs u pl 1 = se) → (A0 = (fmo (rget rs fi) 0)) → (fr = ((fmo (rget rs fi) 1).length : Int)) → (to = (u.length : Int) - ((fmo (rget rs se) 1).length : Int)) → (mx = A0 ++ sl u fr k) → (Tx gx mx) → (to - k) < (n221 : Int) → ad_G D A9 s9.heap H locs [(m0, mO M xth xrm xsv xln xat xer xwr xwd xlo xhi (u.length : Int) (mx.length : Int) xkl fi se xdn xon xtw xol xrw xgl xus xpr xmk xab), (M 1, aI (K 0) 1247 g), (M 17, aI (K 0) 2000 gwo), (M 18, aI (K 0) 2000 gx)] → lv_has ls 6 [(0, .ref m0), (1, .int (iI pl)), (2, .int (iI 1)), (3, .int (iI fr)), (4, .int (iI to)), (5, .int (iI k))] → W p9 l e9 rm_X11_convert_1 s9 m9 ag9 bl9 mt9 c9 H locs 0 0 Q9 (F0 m9 221 ls []) := by
                intro n221
                induction n221 with
                | zero =>
                  intro k gx mx A0 fi se fr to H locs ls hk hss hA hfr hto hmx hTx hm221
                  exact absurd hm221 (by omega)
                | succ n221 ih221 =>
                  intro k gx mx A0 fi se fr to H locs ls hk hss hA hfr hto hmx hTx hm221 G hl
                  have hA12 := fmo_len hW fi 0
                  have hmxl : (mx.length : Int) = A0.length + (k - fr) := by rw [hmx, List.length_append, Int.natCast_add, sl_len (by omega) (by omega) (by omega)]
                  have hAl : A0.length ≤ 12 := by rw [hA]; exact hA12
                  have hseb := spe_b rs u pl 1
                  refine lv_iload F.1 F.2.1 dX11_convert_221 (lv_at hl 5 rfl) ?_
                  refine lv_iload F.1 F.2.1 dX11_convert_223 (lv_at hl 4 rfl) ?_
                  refine ad_icmp_ge (tgt := 260) F (by omega) dX11_convert_225 (by decide) (fun cc_198 => ?_) (fun cc_198 => ?_)
                  · refine lv_aload_n F.1 F.2.1 dX11_convert_260 rfl (lv_at hl 0 rfl) ?_
                    refine lv_aload_n F.1 F.2.1 dX11_convert_261 rfl (lv_at hl 0 rfl) ?_
                    refine ad_get F G fl_X11_242 0 rfl rfl dX11_convert_262 ?_
                    refine lv_iload_n F.1 F.2.1 dX11_convert_265 rfl (lv_at hl 2 rfl) ?_
                    refine ad_if_ne (tgt := 273) F (by decide) dX11_convert_266 (by decide) (fun _ => ?_) (fun cc_199 => absurd cc_199 (by decide))
                    refine ad_iconst F dX11_convert_273 ?_
                    refine ad_callV (As := [.int (iI se), .int (iI 0)]) (rest := []) F G (c_X11_addForm l D K z0 m0 M xth xrm xsv xln xat xer xwr xwd xlo xhi (u.length : Int) xkl fi se xdn xon xtw xol xrw xgl xus xpr xmk xab g gx rs ps md th nc mx se 0 hM hW hTx (by omega) (by rw [← hss.2]; exact hseb) (by omega)) my_X11_addForm mv_X11_252 (wr := [(M 17, aI (K 0) 2000 gwo)]) (isC := [0, 1, 3]) (isR := [2]) ⟨rfl, rfl, rfl, rfl, by decide⟩ 11 0 rfl rfl rfl rfl ⟨Nat.le_of_ble_eq_true rfl, Nat.le_of_ble_eq_true rfl⟩ ⟨Nat.le_of_ble_eq_true rfl, Nat.le_of_ble_eq_true rfl⟩ (Nat.le_of_ble_eq_true rfl) hl.1 (cells9 := 0) (slots9 := 0) ⟨rfl, rfl⟩ dX11_convert_274 (fun v u H locs hw_200 G => ?_)
                    obtain ⟨m2_201, gma2_202, rfl, hc_203, hc_204, rfl⟩ := hw_200
                    replace G := G.perm (ws' := [(m0, mO M xth xrm xsv xln xat xer xwr xwd xlo xhi (u.length : Int) (m2_201.length : Int) xkl fi se xdn xon xtw xol xrw xgl xus xpr xmk xab), (M 1, aI (K 0) 1247 g), (M 17, aI (K 0) 2000 gwo), (M 18, aI (K 0) 2000 gma2_202)]) [1, 2, 0, 3] rfl rfl
                    refine W.eq (g2 := F0 m9 277 ls []) rfl ?_
                    exact ad_vreturn F G hR rfl (Nat.le_of_ble_eq_true rfl) (Nat.le_of_ble_eq_true rfl) ⟨m2_201, gma2_202, rfl, (by rw [hc_203, hmx, hA, spw_eq hss.1 hss.2, ← hfr, ← hto, show k = to by omega]; rfl), hc_204, (by rw [hss.1, hss.2])⟩ dX11_convert_277
                  · refine lv_aload_n F.1 F.2.1 dX11_convert_228 rfl (lv_at hl 0 rfl) ?_
                    refine ad_get F G fl_X11_42 0 rfl rfl dX11_convert_229 ?_
                    refine lv_aload_n F.1 F.2.1 dX11_convert_232 rfl (lv_at hl 0 rfl) ?_
                    refine ad_get F G fl_X11_239 0 rfl rfl dX11_convert_233 ?_
                    refine lv_aload_n F.1 F.2.1 dX11_convert_236 rfl (lv_at hl 0 rfl) ?_
                    refine ad_get F G fl_X11_39 0 rfl rfl dX11_convert_237 ?_
                    refine lv_iload F.1 F.2.1 dX11_convert_240 (lv_at hl 5 rfl) ?_
                    refine ad_iald F G 2 rfl (w := lat u k) (by omega) (Tx_at hTu (by omega) (by omega)) dX11_convert_242 ?_
                    refine ad_iast F G 3 rfl (by omega) (ws' := [(m0, mO M xth xrm xsv xln xat xer xwr xwd xlo xhi (u.length : Int) (mx.length : Int) xkl fi se xdn xon xtw xol xrw xgl xus xpr xmk xab), (M 1, aI (K 0) 1247 g), (M 17, aI (K 0) 2000 gwo), (M 18, aI (K 0) 2000 (va_up gx (mx.length : Int).toNat (lat u k)))]) rfl dX11_convert_243 (fun H locs G => ?_)
                    refine lv_aload_n F.1 F.2.1 dX11_convert_244 rfl (lv_at hl 0 rfl) ?_
                    refine lv_dup F.1 F.2.1 dX11_convert_245 rfl ?_
                    refine ad_get F G fl_X11_239 0 rfl rfl dX11_convert_246 ?_
                    refine ad_iconst F dX11_convert_249 ?_
                    refine ad_iadd F dX11_convert_250 ?_
                    refine ad_put F G fl_X11_239 0 rfl rfl rfl (Nat.le_of_ble_eq_true rfl) (ws' := [(m0, mO M xth xrm xsv xln xat xer xwr xwd xlo xhi (u.length : Int) ((mx.length : Int) + 1) xkl fi se xdn xon xtw xol xrw xgl xus xpr xmk xab), (M 1, aI (K 0) 1247 g), (M 17, aI (K 0) 2000 gwo), (M 18, aI (K 0) 2000 (va_up gx (mx.length : Int).toNat (lat u k)))]) rfl dX11_convert_251 (fun H locs G => ?_)
                    have hpl : (((mx ++ [lat u k]).length : Nat) : Int) = (mx.length : Int) + 1 := by simp
                    replace G := G.eq (ws' := [(m0, mO M xth xrm xsv xln xat xer xwr xwd xlo xhi (u.length : Int) ((mx ++ [lat u k]).length : Int) xkl fi se xdn xon xtw xol xrw xgl xus xpr xmk xab), (M 1, aI (K 0) 1247 g), (M 17, aI (K 0) 2000 gwo), (M 18, aI (K 0) 2000 (va_up gx (mx.length : Int).toNat (lat u k)))]) (by rw [hpl])
                    refine ad_iinc (lv' := [(5, .int (iI (k + 1))), (0, .ref m0), (1, .int (iI pl)), (2, .int (iI 1)), (3, .int (iI fr)), (4, .int (iI to))]) F dX11_convert_254 hl (k := 5) rfl (by decide) rfl (fun ls hl => ?_)
                    refine lv_goto (tgt := 221) F.1 F.2.1 dX11_convert_257 (by decide) ?_
                    exact ih221 (k + 1) (va_up gx (mx.length : Int).toNat (lat u k)) (mx ++ [lat u k]) A0 fi se fr to _ _ _ (by omega) hss hA hfr hto (by rw [sl_succ (by omega) (by omega) (by omega), hmx, List.append_assoc]) (Tx_push hTx _) (by omega) (G.perm (ws' := [(m0, mO M xth xrm xsv xln xat xer xwr xwd xlo xhi (u.length : Int) ((mx ++ [lat u k]).length : Int) xkl fi se xdn xon xtw xol xrw xgl xus xpr xmk xab), (M 1, aI (K 0) 1247 g), (M 17, aI (K 0) 2000 gwo), (M 18, aI (K 0) 2000 (va_up gx (mx.length : Int).toNat (lat u k)))]) [0, 1, 2, 3] rfl rfl) (lv_sub hl [1, 2, 3, 4, 5, 0] rfl)
              exact lp221 ((((((u.length : Int) - 0) - ((fmo (rget rs (bR rs u pl 1 1)) 1).length : Int) : Int)) + 1).toNat) ((fmo (rget rs (bR rs u pl 1 1)) 1).length : Int) gma2_195 m2_194 m2_194 (bR rs u pl 1 1) (-1) ((fmo (rget rs (bR rs u pl 1 1)) 1).length : Int) ((u.length : Int) - 0) _ _ _ (by omega) hss (by rw [hc_196, List.nil_append]) hfr hto (by rw [sl_self, List.append_nil]) hc_197 (by omega) (G.perm (ws' := [(m0, mO M xth xrm xsv xln xat xer xwr xwd xlo xhi (u.length : Int) (m2_194.length : Int) xkl (bR rs u pl 1 1) (-1) xdn xon xtw xol xrw xgl xus xpr xmk xab), (M 1, aI (K 0) 1247 g), (M 17, aI (K 0) 2000 gwo), (M 18, aI (K 0) 2000 gma2_195)]) [0, 1, 2, 3] rfl rfl) (lv_sub hl [3, 4, 5, 2, 1, 0] rfl)
            · refine ad_iconst F dX11_convert_160 ?_
              refine lv_goto (tgt := 173) F.1 F.2.1 dX11_convert_161 (by decide) ?_
              refine lv_istore_n (lv' := [(3, .int (iI 0)), (0, .ref m0), (1, .int (iI pl)), (2, .int (iI 1))]) F.1 F.2.1 dX11_convert_173 rfl hl (by decide) rfl (fun ls hl => ?_)
              refine lv_aload_n F.1 F.2.1 dX11_convert_174 rfl (lv_at hl 1 rfl) ?_
              refine ad_get F G fl_X11_233 0 rfl rfl dX11_convert_175 ?_
              refine lv_aload_n F.1 F.2.1 dX11_convert_178 rfl (lv_at hl 1 rfl) ?_
              refine ad_get F G fl_X11_242 0 rfl rfl dX11_convert_179 ?_
              refine ad_if_ge (tgt := 189) F (by decide) dX11_convert_182 (by decide) (fun cc_205 => absurd cc_205 (by decide)) (fun _ => ?_)
              refine ad_iconst F dX11_convert_185 ?_
              refine lv_goto (tgt := 198) F.1 F.2.1 dX11_convert_186 (by decide) ?_
              refine ad_isub F dX11_convert_198 ?_
              refine lv_istore (lv' := [(4, .int (iI ((u.length : Int) - 0))), (3, .int (iI 0)), (0, .ref m0), (1, .int (iI pl)), (2, .int (iI 1))]) F.1 F.2.1 dX11_convert_199 hl (by decide) rfl (fun ls hl => ?_)
              refine lv_aload_n F.1 F.2.1 dX11_convert_201 rfl (lv_at hl 2 rfl) ?_
              refine lv_aload_n F.1 F.2.1 dX11_convert_202 rfl (lv_at hl 2 rfl) ?_
              refine ad_get F G fl_X11_249 0 rfl rfl dX11_convert_203 ?_
              refine lv_iload_n F.1 F.2.1 dX11_convert_206 rfl (lv_at hl 4 rfl) ?_
              refine ad_if_ne (tgt := 214) F (by decide) dX11_convert_207 (by decide) (fun _ => ?_) (fun cc_206 => absurd cc_206 (by decide))
              refine ad_iconst F dX11_convert_214 ?_
              refine ad_callV (As := [.int (iI (bR rs u pl 1 1)), .int (iI 0)]) (rest := []) F G (c_X11_addForm l D K z0 m0 M xth xrm xsv xln xat xer xwr xwd xlo xhi (u.length : Int) xkl (bR rs u pl 1 1) (-1) xdn xon xtw xol xrw xgl xus xpr xmk xab g gma rs ps md th nc ([] : List Int) (bR rs u pl 1 1) 0 hM hW Tx_nil (by simp) (by omega) (by omega)) my_X11_addForm mv_X11_252 (wr := [(M 17, aI (K 0) 2000 gwo)]) (isC := [0, 1, 3]) (isR := [2]) ⟨rfl, rfl, rfl, rfl, by decide⟩ 11 0 rfl rfl rfl rfl ⟨Nat.le_of_ble_eq_true rfl, Nat.le_of_ble_eq_true rfl⟩ ⟨Nat.le_of_ble_eq_true rfl, Nat.le_of_ble_eq_true rfl⟩ (Nat.le_of_ble_eq_true rfl) hl.1 (cells9 := 0) (slots9 := 0) ⟨rfl, rfl⟩ dX11_convert_215 (fun v u H locs hw_207 G => ?_)
              obtain ⟨m2_208, gma2_209, rfl, hc_210, hc_211, rfl⟩ := hw_207
              replace G := G.perm (ws' := [(m0, mO M xth xrm xsv xln xat xer xwr xwd xlo xhi (u.length : Int) (m2_208.length : Int) xkl (bR rs u pl 1 1) (-1) xdn xon xtw xol xrw xgl xus xpr xmk xab), (M 1, aI (K 0) 1247 g), (M 17, aI (K 0) 2000 gwo), (M 18, aI (K 0) 2000 gma2_209)]) [1, 2, 0, 3] rfl rfl
              refine W.eq (g2 := F0 m9 218 ls []) rfl ?_
              refine lv_iload_n F.1 F.2.1 dX11_convert_218 rfl (lv_at hl 1 rfl) ?_
              refine lv_istore (lv' := [(5, .int (iI 0)), (4, .int (iI ((u.length : Int) - 0))), (3, .int (iI 0)), (0, .ref m0), (1, .int (iI pl)), (2, .int (iI 1))]) F.1 F.2.1 dX11_convert_219 hl (by decide) rfl (fun ls hl => ?_)
              have hfr : 0 = ((fmo (rget rs (bR rs u pl 1 1)) 1).length : Int) := by first | rfl | (rw [show (bR rs u pl 1 1) = -1 by omega, fmo_m1]; rfl)
              have hto : (u.length : Int) - 0 = (u.length : Int) - ((fmo (rget rs (-1)) 1).length : Int) := by first | rfl | (rw [show (-1) = -1 by omega, fmo_m1]; rfl)
              have hsl := spl_le rs u pl 1
              rw [hss.1, hss.2] at hsl
              have lp221 : ∀ (n221 : Nat) (k : Int) (gx : Nat → Int) (mx : List Int) (A0 : List Int) (fi : Int) (se : Int) (fr : Int) (to : Int) (H : Heap) (locs : List Loc) (ls : Array Slot), (0 ≤ fr ∧ fr ≤ k ∧ k ≤ to ∧ to ≤ u.length) → (spm rs u pl 1 = fi ∧ spe rs u pl 1 = se) → (A0 = (fmo (rget rs fi) 0)) → (fr = ((fmo (rget rs fi) 1).length : Int)) → (to = (u.length : Int) - ((fmo (rget rs se) 1).length : Int)) → (mx = A0 ++ sl u fr k) → (Tx gx mx) → (to - k) < (n221 : Int) → ad_G D A9 s9.heap H locs [(m0, mO M xth xrm xsv xln xat xer xwr xwd xlo xhi (u.length : Int) (mx.length : Int) xkl fi se xdn xon xtw xol xrw xgl xus xpr xmk xab), (M 1, aI (K 0) 1247 g), (M 17, aI (K 0) 2000 gwo), (M 18, aI (K 0) 2000 gx)] → lv_has ls 6 [(0, .ref m0), (1, .int (iI pl)), (2, .int (iI 1)), (3, .int (iI fr)), (4, .int (iI to)), (5, .int (iI k))] → W p9 l e9 rm_X11_convert_1 s9 m9 ag9 bl9 mt9 c9 H locs 0 0 Q9 (F0 m9 221 ls []) := by
                intro n221
                induction n221 with
                | zero =>
                  intro k gx mx A0 fi se fr to H locs ls hk hss hA hfr hto hmx hTx hm221
                  exact absurd hm221 (by omega)
                | succ n221 ih221 =>
                  intro k gx mx A0 fi se fr to H locs ls hk hss hA hfr hto hmx hTx hm221 G hl
                  have hA12 := fmo_len hW fi 0
                  have hmxl : (mx.length : Int) = A0.length + (k - fr) := by rw [hmx, List.length_append, Int.natCast_add, sl_len (by omega) (by omega) (by omega)]
                  have hAl : A0.length ≤ 12 := by rw [hA]; exact hA12
                  have hseb := spe_b rs u pl 1
                  refine lv_iload F.1 F.2.1 dX11_convert_221 (lv_at hl 5 rfl) ?_
                  refine lv_iload F.1 F.2.1 dX11_convert_223 (lv_at hl 4 rfl) ?_
                  refine ad_icmp_ge (tgt := 260) F (by omega) dX11_convert_225 (by decide) (fun cc_212 => ?_) (fun cc_212 => ?_)
                  · refine lv_aload_n F.1 F.2.1 dX11_convert_260 rfl (lv_at hl 0 rfl) ?_
                    refine lv_aload_n F.1 F.2.1 dX11_convert_261 rfl (lv_at hl 0 rfl) ?_
                    refine ad_get F G fl_X11_242 0 rfl rfl dX11_convert_262 ?_
                    refine lv_iload_n F.1 F.2.1 dX11_convert_265 rfl (lv_at hl 2 rfl) ?_
                    refine ad_if_ne (tgt := 273) F (by decide) dX11_convert_266 (by decide) (fun _ => ?_) (fun cc_213 => absurd cc_213 (by decide))
                    refine ad_iconst F dX11_convert_273 ?_
                    refine ad_callV (As := [.int (iI se), .int (iI 0)]) (rest := []) F G (c_X11_addForm l D K z0 m0 M xth xrm xsv xln xat xer xwr xwd xlo xhi (u.length : Int) xkl fi se xdn xon xtw xol xrw xgl xus xpr xmk xab g gx rs ps md th nc mx se 0 hM hW hTx (by omega) (by rw [← hss.2]; exact hseb) (by omega)) my_X11_addForm mv_X11_252 (wr := [(M 17, aI (K 0) 2000 gwo)]) (isC := [0, 1, 3]) (isR := [2]) ⟨rfl, rfl, rfl, rfl, by decide⟩ 11 0 rfl rfl rfl rfl ⟨Nat.le_of_ble_eq_true rfl, Nat.le_of_ble_eq_true rfl⟩ ⟨Nat.le_of_ble_eq_true rfl, Nat.le_of_ble_eq_true rfl⟩ (Nat.le_of_ble_eq_true rfl) hl.1 (cells9 := 0) (slots9 := 0) ⟨rfl, rfl⟩ dX11_convert_274 (fun v u H locs hw_214 G => ?_)
                    obtain ⟨m2_215, gma2_216, rfl, hc_217, hc_218, rfl⟩ := hw_214
                    replace G := G.perm (ws' := [(m0, mO M xth xrm xsv xln xat xer xwr xwd xlo xhi (u.length : Int) (m2_215.length : Int) xkl fi se xdn xon xtw xol xrw xgl xus xpr xmk xab), (M 1, aI (K 0) 1247 g), (M 17, aI (K 0) 2000 gwo), (M 18, aI (K 0) 2000 gma2_216)]) [1, 2, 0, 3] rfl rfl
                    refine W.eq (g2 := F0 m9 277 ls []) rfl ?_
                    exact ad_vreturn F G hR rfl (Nat.le_of_ble_eq_true rfl) (Nat.le_of_ble_eq_true rfl) ⟨m2_215, gma2_216, rfl, (by rw [hc_217, hmx, hA, spw_eq hss.1 hss.2, ← hfr, ← hto, show k = to by omega]; rfl), hc_218, (by rw [hss.1, hss.2])⟩ dX11_convert_277
                  · refine lv_aload_n F.1 F.2.1 dX11_convert_228 rfl (lv_at hl 0 rfl) ?_
                    refine ad_get F G fl_X11_42 0 rfl rfl dX11_convert_229 ?_
                    refine lv_aload_n F.1 F.2.1 dX11_convert_232 rfl (lv_at hl 0 rfl) ?_
                    refine ad_get F G fl_X11_239 0 rfl rfl dX11_convert_233 ?_
                    refine lv_aload_n F.1 F.2.1 dX11_convert_236 rfl (lv_at hl 0 rfl) ?_
                    refine ad_get F G fl_X11_39 0 rfl rfl dX11_convert_237 ?_
                    refine lv_iload F.1 F.2.1 dX11_convert_240 (lv_at hl 5 rfl) ?_
                    refine ad_iald F G 2 rfl (w := lat u k) (by omega) (Tx_at hTu (by omega) (by omega)) dX11_convert_242 ?_
                    refine ad_iast F G 3 rfl (by omega) (ws' := [(m0, mO M xth xrm xsv xln xat xer xwr xwd xlo xhi (u.length : Int) (mx.length : Int) xkl fi se xdn xon xtw xol xrw xgl xus xpr xmk xab), (M 1, aI (K 0) 1247 g), (M 17, aI (K 0) 2000 gwo), (M 18, aI (K 0) 2000 (va_up gx (mx.length : Int).toNat (lat u k)))]) rfl dX11_convert_243 (fun H locs G => ?_)
                    refine lv_aload_n F.1 F.2.1 dX11_convert_244 rfl (lv_at hl 0 rfl) ?_
                    refine lv_dup F.1 F.2.1 dX11_convert_245 rfl ?_
                    refine ad_get F G fl_X11_239 0 rfl rfl dX11_convert_246 ?_
                    refine ad_iconst F dX11_convert_249 ?_
                    refine ad_iadd F dX11_convert_250 ?_
                    refine ad_put F G fl_X11_239 0 rfl rfl rfl (Nat.le_of_ble_eq_true rfl) (ws' := [(m0, mO M xth xrm xsv xln xat xer xwr xwd xlo xhi (u.length : Int) ((mx.length : Int) + 1) xkl fi se xdn xon xtw xol xrw xgl xus xpr xmk xab), (M 1, aI (K 0) 1247 g), (M 17, aI (K 0) 2000 gwo), (M 18, aI (K 0) 2000 (va_up gx (mx.length : Int).toNat (lat u k)))]) rfl dX11_convert_251 (fun H locs G => ?_)
                    have hpl : (((mx ++ [lat u k]).length : Nat) : Int) = (mx.length : Int) + 1 := by simp
                    replace G := G.eq (ws' := [(m0, mO M xth xrm xsv xln xat xer xwr xwd xlo xhi (u.length : Int) ((mx ++ [lat u k]).length : Int) xkl fi se xdn xon xtw xol xrw xgl xus xpr xmk xab), (M 1, aI (K 0) 1247 g), (M 17, aI (K 0) 2000 gwo), (M 18, aI (K 0) 2000 (va_up gx (mx.length : Int).toNat (lat u k)))]) (by rw [hpl])
                    refine ad_iinc (lv' := [(5, .int (iI (k + 1))), (0, .ref m0), (1, .int (iI pl)), (2, .int (iI 1)), (3, .int (iI fr)), (4, .int (iI to))]) F dX11_convert_254 hl (k := 5) rfl (by decide) rfl (fun ls hl => ?_)
                    refine lv_goto (tgt := 221) F.1 F.2.1 dX11_convert_257 (by decide) ?_
                    exact ih221 (k + 1) (va_up gx (mx.length : Int).toNat (lat u k)) (mx ++ [lat u k]) A0 fi se fr to _ _ _ (by omega) hss hA hfr hto (by rw [sl_succ (by omega) (by omega) (by omega), hmx, List.append_assoc]) (Tx_push hTx _) (by omega) (G.perm (ws' := [(m0, mO M xth xrm xsv xln xat xer xwr xwd xlo xhi (u.length : Int) ((mx ++ [lat u k]).length : Int) xkl fi se xdn xon xtw xol xrw xgl xus xpr xmk xab), (M 1, aI (K 0) 1247 g), (M 17, aI (K 0) 2000 gwo), (M 18, aI (K 0) 2000 (va_up gx (mx.length : Int).toNat (lat u k)))]) [0, 1, 2, 3] rfl rfl) (lv_sub hl [1, 2, 3, 4, 5, 0] rfl)
              exact lp221 ((((((u.length : Int) - 0) - 0 : Int)) + 1).toNat) 0 gma2_209 m2_208 m2_208 (bR rs u pl 1 1) (-1) 0 ((u.length : Int) - 0) _ _ _ (by omega) hss (by rw [hc_210, List.nil_append]) hfr hto (by rw [sl_self, List.append_nil]) hc_211 (by omega) (G.perm (ws' := [(m0, mO M xth xrm xsv xln xat xer xwr xwd xlo xhi (u.length : Int) (m2_208.length : Int) xkl (bR rs u pl 1 1) (-1) xdn xon xtw xol xrw xgl xus xpr xmk xab), (M 1, aI (K 0) 1247 g), (M 17, aI (K 0) 2000 gwo), (M 18, aI (K 0) 2000 gma2_209)]) [0, 1, 2, 3] rfl rfl) (lv_sub hl [3, 4, 5, 2, 1, 0] rfl)
          · replace G := G.perm (ws' := [(m0, mO M xth xrm xsv xln xat xer xwr xwd xlo xhi (u.length : Int) (([] : List Int).length : Int) xkl (bR rs u pl 1 1) (bR rs u pl 2 1) xdn xon xtw xol xrw xgl xus xpr xmk xab), (M 1, aI (K 0) 1247 g), (M 17, aI (K 0) 2000 gwo), (M 18, aI (K 0) 2000 gma)]) [2, 3, 0, 1] rfl rfl
            refine W.eq (g2 := F0 m9 120 ls [.int (iI 0)]) rfl ?_
            refine lv_istore_n (lv' := [(3, .int (iI 0)), (0, .ref m0), (1, .int (iI pl)), (2, .int (iI 1))]) F.1 F.2.1 dX11_convert_120 rfl hl (by decide) rfl (fun ls hl => ?_)
            refine lv_aload_n F.1 F.2.1 dX11_convert_121 rfl (lv_at hl 1 rfl) ?_
            refine lv_iload_n F.1 F.2.1 dX11_convert_122 rfl (lv_at hl 0 rfl) ?_
            refine ad_if_eq (tgt := 133) F (by decide) dX11_convert_123 (by decide) (fun _ => ?_) (fun cc_219 => absurd cc_219 (by decide))
            refine ad_iconst F dX11_convert_133 ?_
            refine ad_put F G fl_X11_249 0 rfl rfl rfl (Nat.le_of_ble_eq_true rfl) (ws' := [(m0, mO M xth xrm xsv xln xat xer xwr xwd xlo xhi (u.length : Int) (([] : List Int).length : Int) xkl (-1) (bR rs u pl 2 1) xdn xon xtw xol xrw xgl xus xpr xmk xab), (M 1, aI (K 0) 1247 g), (M 17, aI (K 0) 2000 gwo), (M 18, aI (K 0) 2000 gma)]) rfl dX11_convert_134 (fun H locs G => ?_)
            refine lv_aload_n F.1 F.2.1 dX11_convert_137 rfl (lv_at hl 1 rfl) ?_
            refine lv_iload_n F.1 F.2.1 dX11_convert_138 rfl (lv_at hl 0 rfl) ?_
            refine ad_if_eq (tgt := 146) F (by decide) dX11_convert_139 (by decide) (fun _ => ?_) (fun cc_220 => absurd cc_220 (by decide))
            refine lv_aload_n F.1 F.2.1 dX11_convert_146 rfl (lv_at hl 1 rfl) ?_
            refine ad_get F G fl_X11_242 0 rfl rfl dX11_convert_147 ?_
            refine ad_put F G fl_X11_242 0 rfl rfl rfl (Nat.le_of_ble_eq_true rfl) (ws' := [(m0, mO M xth xrm xsv xln xat xer xwr xwd xlo xhi (u.length : Int) (([] : List Int).length : Int) xkl (-1) (bR rs u pl 2 1) xdn xon xtw xol xrw xgl xus xpr xmk xab), (M 1, aI (K 0) 1247 g), (M 17, aI (K 0) 2000 gwo), (M 18, aI (K 0) 2000 gma)]) rfl dX11_convert_150 (fun H locs G => ?_)
            have hss : spm rs u pl 1 = (-1) ∧ spe rs u pl 1 = bR rs u pl 2 1 := (sp_o cc_2 ⟨by omega, by omega, by omega⟩).2 hc_186
            refine lv_aload_n F.1 F.2.1 dX11_convert_153 rfl (lv_at hl 1 rfl) ?_
            refine ad_get F G fl_X11_249 0 rfl rfl dX11_convert_154 ?_
            refine ad_if_ge (tgt := 164) F (by decide) dX11_convert_157 (by decide) (fun cc_221 => absurd cc_221 (by decide)) (fun _ => ?_)
            refine ad_iconst F dX11_convert_160 ?_
            refine lv_goto (tgt := 173) F.1 F.2.1 dX11_convert_161 (by decide) ?_
            refine lv_istore_n (lv' := [(3, .int (iI 0)), (0, .ref m0), (1, .int (iI pl)), (2, .int (iI 1))]) F.1 F.2.1 dX11_convert_173 rfl hl (by decide) rfl (fun ls hl => ?_)
            refine lv_aload_n F.1 F.2.1 dX11_convert_174 rfl (lv_at hl 1 rfl) ?_
            refine ad_get F G fl_X11_233 0 rfl rfl dX11_convert_175 ?_
            refine lv_aload_n F.1 F.2.1 dX11_convert_178 rfl (lv_at hl 1 rfl) ?_
            refine ad_get F G fl_X11_242 0 rfl rfl dX11_convert_179 ?_
            refine ad_if_ge (tgt := 189) F (by omega) dX11_convert_182 (by decide) (fun cc_222 => ?_) (fun cc_222 => ?_)
            · refine lv_aload_n F.1 F.2.1 dX11_convert_189 rfl (lv_at hl 1 rfl) ?_
              refine lv_aload_n F.1 F.2.1 dX11_convert_190 rfl (lv_at hl 1 rfl) ?_
              refine ad_get F G fl_X11_242 0 rfl rfl dX11_convert_191 ?_
              refine lv_iload_n F.1 F.2.1 dX11_convert_194 rfl (lv_at hl 3 rfl) ?_
              refine ad_callV (As := [.int (iI (bR rs u pl 2 1)), .int (iI 1)]) (rest := [.int (iI (u.length : Int))]) F G (c_X11_lengthOf l D K z0 m0 M xth xrm xsv xln xat xer xwr xwd xlo xhi (u.length : Int) (([] : List Int).length : Int) xkl (-1) (bR rs u pl 2 1) xdn xon xtw xol xrw xgl xus xpr xmk xab g rs ps md th nc (bR rs u pl 2 1) 1 hM hW (by omega) (by omega)) my_X11_lengthOf mv_X11_185 (wr := [(M 17, aI (K 0) 2000 gwo), (M 18, aI (K 0) 2000 gma)]) (isC := [0, 1]) (isR := [2, 3]) ⟨rfl, rfl, rfl, rfl, by decide⟩ 11 0 rfl rfl rfl rfl ⟨Nat.le_of_ble_eq_true rfl, Nat.le_of_ble_eq_true rfl⟩ ⟨Nat.le_of_ble_eq_true rfl, Nat.le_of_ble_eq_true rfl⟩ (Nat.le_of_ble_eq_true rfl) hl.1 (cells9 := 0) (slots9 := 0) ⟨rfl, rfl⟩ dX11_convert_195 (fun v u H locs hw_223 G => ?_)
              obtain ⟨rfl, rfl⟩ := hw_223
              replace G := G.perm (ws' := [(m0, mO M xth xrm xsv xln xat xer xwr xwd xlo xhi (u.length : Int) (([] : List Int).length : Int) xkl (-1) (bR rs u pl 2 1) xdn xon xtw xol xrw xgl xus xpr xmk xab), (M 1, aI (K 0) 1247 g), (M 17, aI (K 0) 2000 gwo), (M 18, aI (K 0) 2000 gma)]) [2, 3, 0, 1] rfl rfl
              refine W.eq (g2 := F0 m9 198 ls [.int (iI ((fmo (rget rs (bR rs u pl 2 1)) 1).length : Int)), .int (iI (u.length : Int))]) rfl ?_
              refine ad_isub F dX11_convert_198 ?_
              refine lv_istore (lv' := [(4, .int (iI ((u.length : Int) - ((fmo (rget rs (bR rs u pl 2 1)) 1).length : Int)))), (3, .int (iI 0)), (0, .ref m0), (1, .int (iI pl)), (2, .int (iI 1))]) F.1 F.2.1 dX11_convert_199 hl (by decide) rfl (fun ls hl => ?_)
              refine lv_aload_n F.1 F.2.1 dX11_convert_201 rfl (lv_at hl 2 rfl) ?_
              refine lv_aload_n F.1 F.2.1 dX11_convert_202 rfl (lv_at hl 2 rfl) ?_
              refine ad_get F G fl_X11_249 0 rfl rfl dX11_convert_203 ?_
              refine lv_iload_n F.1 F.2.1 dX11_convert_206 rfl (lv_at hl 4 rfl) ?_
              refine ad_if_ne (tgt := 214) F (by decide) dX11_convert_207 (by decide) (fun _ => ?_) (fun cc_224 => absurd cc_224 (by decide))
              refine ad_iconst F dX11_convert_214 ?_
              refine ad_callV (As := [.int (iI (-1)), .int (iI 0)]) (rest := []) F G (c_X11_addForm l D K z0 m0 M xth xrm xsv xln xat xer xwr xwd xlo xhi (u.length : Int) xkl (-1) (bR rs u pl 2 1) xdn xon xtw xol xrw xgl xus xpr xmk xab g gma rs ps md th nc ([] : List Int) (-1) 0 hM hW Tx_nil (by simp) (by omega) (by omega)) my_X11_addForm mv_X11_252 (wr := [(M 17, aI (K 0) 2000 gwo)]) (isC := [0, 1, 3]) (isR := [2]) ⟨rfl, rfl, rfl, rfl, by decide⟩ 11 0 rfl rfl rfl rfl ⟨Nat.le_of_ble_eq_true rfl, Nat.le_of_ble_eq_true rfl⟩ ⟨Nat.le_of_ble_eq_true rfl, Nat.le_of_ble_eq_true rfl⟩ (Nat.le_of_ble_eq_true rfl) hl.1 (cells9 := 0) (slots9 := 0) ⟨rfl, rfl⟩ dX11_convert_215 (fun v u H locs hw_225 G => ?_)
              obtain ⟨m2_226, gma2_227, rfl, hc_228, hc_229, rfl⟩ := hw_225
              replace G := G.perm (ws' := [(m0, mO M xth xrm xsv xln xat xer xwr xwd xlo xhi (u.length : Int) (m2_226.length : Int) xkl (-1) (bR rs u pl 2 1) xdn xon xtw xol xrw xgl xus xpr xmk xab), (M 1, aI (K 0) 1247 g), (M 17, aI (K 0) 2000 gwo), (M 18, aI (K 0) 2000 gma2_227)]) [1, 2, 0, 3] rfl rfl
              refine W.eq (g2 := F0 m9 218 ls []) rfl ?_
              refine lv_iload_n F.1 F.2.1 dX11_convert_218 rfl (lv_at hl 1 rfl) ?_
              refine lv_istore (lv' := [(5, .int (iI 0)), (4, .int (iI ((u.length : Int) - ((fmo (rget rs (bR rs u pl 2 1)) 1).length : Int)))), (3, .int (iI 0)), (0, .ref m0), (1, .int (iI pl)), (2, .int (iI 1))]) F.1 F.2.1 dX11_convert_219 hl (by decide) rfl (fun ls hl => ?_)
              have hfr : 0 = ((fmo (rget rs (-1)) 1).length : Int) := by first | rfl | (rw [show (-1) = -1 by omega, fmo_m1]; rfl)
              have hto : (u.length : Int) - ((fmo (rget rs (bR rs u pl 2 1)) 1).length : Int) = (u.length : Int) - ((fmo (rget rs (bR rs u pl 2 1)) 1).length : Int) := by first | rfl | (rw [show (bR rs u pl 2 1) = -1 by omega, fmo_m1]; rfl)
              have hsl := spl_le rs u pl 1
              rw [hss.1, hss.2] at hsl
              have lp221 : ∀ (n221 : Nat) (k : Int) (gx : Nat → Int) (mx : List Int) (A0 : List Int) (fi : Int) (se : Int) (fr : Int) (to : Int) (H : Heap) (locs : List Loc) (ls : Array Slot), (0 ≤ fr ∧ fr ≤ k ∧ k ≤ to ∧ to ≤ u.length) → (spm rs u pl 1 = fi ∧ spe rs u pl 1 = se) → (A0 = (fmo (rget rs fi) 0)) → (fr = ((fmo (rget rs fi) 1).length : Int)) → (to = (u.length : Int) - ((fmo (rget rs se) 1).length : Int)) → (mx = A0 ++ sl u fr k) → (Tx gx mx) → (to - k) < (n221 : Int) → ad_G D A9 s9.heap H locs [(m0, mO M xth xrm xsv xln xat xer xwr xwd xlo xhi (u.length : Int) (mx.length : Int) xkl fi se xdn xon xtw xol xrw xgl xus xpr xmk xab), (M 1, aI (K 0) 1247 g), (M 17, aI (K 0) 2000 gwo), (M 18, aI (K 0) 2000 gx)] → lv_has ls 6 [(0, .ref m0), (1, .int (iI pl)), (2, .int (iI 1)), (3, .int (iI fr)), (4, .int (iI to)), (5, .int (iI k))] → W p9 l e9 rm_X11_convert_1 s9 m9 ag9 bl9 mt9 c9 H locs 0 0 Q9 (F0 m9 221 ls []) := by
                intro n221
                induction n221 with
                | zero =>
                  intro k gx mx A0 fi se fr to H locs ls hk hss hA hfr hto hmx hTx hm221
                  exact absurd hm221 (by omega)
                | succ n221 ih221 =>
                  intro k gx mx A0 fi se fr to H locs ls hk hss hA hfr hto hmx hTx hm221 G hl
                  have hA12 := fmo_len hW fi 0
                  have hmxl : (mx.length : Int) = A0.length + (k - fr) := by rw [hmx, List.length_append, Int.natCast_add, sl_len (by omega) (by omega) (by omega)]
                  have hAl : A0.length ≤ 12 := by rw [hA]; exact hA12
                  have hseb := spe_b rs u pl 1
                  refine lv_iload F.1 F.2.1 dX11_convert_221 (lv_at hl 5 rfl) ?_
                  refine lv_iload F.1 F.2.1 dX11_convert_223 (lv_at hl 4 rfl) ?_
                  refine ad_icmp_ge (tgt := 260) F (by omega) dX11_convert_225 (by decide) (fun cc_230 => ?_) (fun cc_230 => ?_)
                  · refine lv_aload_n F.1 F.2.1 dX11_convert_260 rfl (lv_at hl 0 rfl) ?_
                    refine lv_aload_n F.1 F.2.1 dX11_convert_261 rfl (lv_at hl 0 rfl) ?_
                    refine ad_get F G fl_X11_242 0 rfl rfl dX11_convert_262 ?_
                    refine lv_iload_n F.1 F.2.1 dX11_convert_265 rfl (lv_at hl 2 rfl) ?_
                    refine ad_if_ne (tgt := 273) F (by decide) dX11_convert_266 (by decide) (fun _ => ?_) (fun cc_231 => absurd cc_231 (by decide))
                    refine ad_iconst F dX11_convert_273 ?_
                    refine ad_callV (As := [.int (iI se), .int (iI 0)]) (rest := []) F G (c_X11_addForm l D K z0 m0 M xth xrm xsv xln xat xer xwr xwd xlo xhi (u.length : Int) xkl fi se xdn xon xtw xol xrw xgl xus xpr xmk xab g gx rs ps md th nc mx se 0 hM hW hTx (by omega) (by rw [← hss.2]; exact hseb) (by omega)) my_X11_addForm mv_X11_252 (wr := [(M 17, aI (K 0) 2000 gwo)]) (isC := [0, 1, 3]) (isR := [2]) ⟨rfl, rfl, rfl, rfl, by decide⟩ 11 0 rfl rfl rfl rfl ⟨Nat.le_of_ble_eq_true rfl, Nat.le_of_ble_eq_true rfl⟩ ⟨Nat.le_of_ble_eq_true rfl, Nat.le_of_ble_eq_true rfl⟩ (Nat.le_of_ble_eq_true rfl) hl.1 (cells9 := 0) (slots9 := 0) ⟨rfl, rfl⟩ dX11_convert_274 (fun v u H locs hw_232 G => ?_)
                    obtain ⟨m2_233, gma2_234, rfl, hc_235, hc_236, rfl⟩ := hw_232
                    replace G := G.perm (ws' := [(m0, mO M xth xrm xsv xln xat xer xwr xwd xlo xhi (u.length : Int) (m2_233.length : Int) xkl fi se xdn xon xtw xol xrw xgl xus xpr xmk xab), (M 1, aI (K 0) 1247 g), (M 17, aI (K 0) 2000 gwo), (M 18, aI (K 0) 2000 gma2_234)]) [1, 2, 0, 3] rfl rfl
                    refine W.eq (g2 := F0 m9 277 ls []) rfl ?_
                    exact ad_vreturn F G hR rfl (Nat.le_of_ble_eq_true rfl) (Nat.le_of_ble_eq_true rfl) ⟨m2_233, gma2_234, rfl, (by rw [hc_235, hmx, hA, spw_eq hss.1 hss.2, ← hfr, ← hto, show k = to by omega]; rfl), hc_236, (by rw [hss.1, hss.2])⟩ dX11_convert_277
                  · refine lv_aload_n F.1 F.2.1 dX11_convert_228 rfl (lv_at hl 0 rfl) ?_
                    refine ad_get F G fl_X11_42 0 rfl rfl dX11_convert_229 ?_
                    refine lv_aload_n F.1 F.2.1 dX11_convert_232 rfl (lv_at hl 0 rfl) ?_
                    refine ad_get F G fl_X11_239 0 rfl rfl dX11_convert_233 ?_
                    refine lv_aload_n F.1 F.2.1 dX11_convert_236 rfl (lv_at hl 0 rfl) ?_
                    refine ad_get F G fl_X11_39 0 rfl rfl dX11_convert_237 ?_
                    refine lv_iload F.1 F.2.1 dX11_convert_240 (lv_at hl 5 rfl) ?_
                    refine ad_iald F G 2 rfl (w := lat u k) (by omega) (Tx_at hTu (by omega) (by omega)) dX11_convert_242 ?_
                    refine ad_iast F G 3 rfl (by omega) (ws' := [(m0, mO M xth xrm xsv xln xat xer xwr xwd xlo xhi (u.length : Int) (mx.length : Int) xkl fi se xdn xon xtw xol xrw xgl xus xpr xmk xab), (M 1, aI (K 0) 1247 g), (M 17, aI (K 0) 2000 gwo), (M 18, aI (K 0) 2000 (va_up gx (mx.length : Int).toNat (lat u k)))]) rfl dX11_convert_243 (fun H locs G => ?_)
                    refine lv_aload_n F.1 F.2.1 dX11_convert_244 rfl (lv_at hl 0 rfl) ?_
                    refine lv_dup F.1 F.2.1 dX11_convert_245 rfl ?_
                    refine ad_get F G fl_X11_239 0 rfl rfl dX11_convert_246 ?_
                    refine ad_iconst F dX11_convert_249 ?_
                    refine ad_iadd F dX11_convert_250 ?_
                    refine ad_put F G fl_X11_239 0 rfl rfl rfl (Nat.le_of_ble_eq_true rfl) (ws' := [(m0, mO M xth xrm xsv xln xat xer xwr xwd xlo xhi (u.length : Int) ((mx.length : Int) + 1) xkl fi se xdn xon xtw xol xrw xgl xus xpr xmk xab), (M 1, aI (K 0) 1247 g), (M 17, aI (K 0) 2000 gwo), (M 18, aI (K 0) 2000 (va_up gx (mx.length : Int).toNat (lat u k)))]) rfl dX11_convert_251 (fun H locs G => ?_)
                    have hpl : (((mx ++ [lat u k]).length : Nat) : Int) = (mx.length : Int) + 1 := by simp
                    replace G := G.eq (ws' := [(m0, mO M xth xrm xsv xln xat xer xwr xwd xlo xhi (u.length : Int) ((mx ++ [lat u k]).length : Int) xkl fi se xdn xon xtw xol xrw xgl xus xpr xmk xab), (M 1, aI (K 0) 1247 g), (M 17, aI (K 0) 2000 gwo), (M 18, aI (K 0) 2000 (va_up gx (mx.length : Int).toNat (lat u k)))]) (by rw [hpl])
                    refine ad_iinc (lv' := [(5, .int (iI (k + 1))), (0, .ref m0), (1, .int (iI pl)), (2, .int (iI 1)), (3, .int (iI fr)), (4, .int (iI to))]) F dX11_convert_254 hl (k := 5) rfl (by decide) rfl (fun ls hl => ?_)
                    refine lv_goto (tgt := 221) F.1 F.2.1 dX11_convert_257 (by decide) ?_
                    exact ih221 (k + 1) (va_up gx (mx.length : Int).toNat (lat u k)) (mx ++ [lat u k]) A0 fi se fr to _ _ _ (by omega) hss hA hfr hto (by rw [sl_succ (by omega) (by omega) (by omega), hmx, List.append_assoc]) (Tx_push hTx _) (by omega) (G.perm (ws' := [(m0, mO M xth xrm xsv xln xat xer xwr xwd xlo xhi (u.length : Int) ((mx ++ [lat u k]).length : Int) xkl fi se xdn xon xtw xol xrw xgl xus xpr xmk xab), (M 1, aI (K 0) 1247 g), (M 17, aI (K 0) 2000 gwo), (M 18, aI (K 0) 2000 (va_up gx (mx.length : Int).toNat (lat u k)))]) [0, 1, 2, 3] rfl rfl) (lv_sub hl [1, 2, 3, 4, 5, 0] rfl)
              exact lp221 ((((((u.length : Int) - ((fmo (rget rs (bR rs u pl 2 1)) 1).length : Int)) - 0 : Int)) + 1).toNat) 0 gma2_227 m2_226 m2_226 (-1) (bR rs u pl 2 1) 0 ((u.length : Int) - ((fmo (rget rs (bR rs u pl 2 1)) 1).length : Int)) _ _ _ (by omega) hss (by rw [hc_228, List.nil_append]) hfr hto (by rw [sl_self, List.append_nil]) hc_229 (by omega) (G.perm (ws' := [(m0, mO M xth xrm xsv xln xat xer xwr xwd xlo xhi (u.length : Int) (m2_226.length : Int) xkl (-1) (bR rs u pl 2 1) xdn xon xtw xol xrw xgl xus xpr xmk xab), (M 1, aI (K 0) 1247 g), (M 17, aI (K 0) 2000 gwo), (M 18, aI (K 0) 2000 gma2_227)]) [0, 1, 2, 3] rfl rfl) (lv_sub hl [3, 4, 5, 2, 1, 0] rfl)
            · refine ad_iconst F dX11_convert_185 ?_
              refine lv_goto (tgt := 198) F.1 F.2.1 dX11_convert_186 (by decide) ?_
              refine ad_isub F dX11_convert_198 ?_
              refine lv_istore (lv' := [(4, .int (iI ((u.length : Int) - 0))), (3, .int (iI 0)), (0, .ref m0), (1, .int (iI pl)), (2, .int (iI 1))]) F.1 F.2.1 dX11_convert_199 hl (by decide) rfl (fun ls hl => ?_)
              refine lv_aload_n F.1 F.2.1 dX11_convert_201 rfl (lv_at hl 2 rfl) ?_
              refine lv_aload_n F.1 F.2.1 dX11_convert_202 rfl (lv_at hl 2 rfl) ?_
              refine ad_get F G fl_X11_249 0 rfl rfl dX11_convert_203 ?_
              refine lv_iload_n F.1 F.2.1 dX11_convert_206 rfl (lv_at hl 4 rfl) ?_
              refine ad_if_ne (tgt := 214) F (by decide) dX11_convert_207 (by decide) (fun _ => ?_) (fun cc_237 => absurd cc_237 (by decide))
              refine ad_iconst F dX11_convert_214 ?_
              refine ad_callV (As := [.int (iI (-1)), .int (iI 0)]) (rest := []) F G (c_X11_addForm l D K z0 m0 M xth xrm xsv xln xat xer xwr xwd xlo xhi (u.length : Int) xkl (-1) (bR rs u pl 2 1) xdn xon xtw xol xrw xgl xus xpr xmk xab g gma rs ps md th nc ([] : List Int) (-1) 0 hM hW Tx_nil (by simp) (by omega) (by omega)) my_X11_addForm mv_X11_252 (wr := [(M 17, aI (K 0) 2000 gwo)]) (isC := [0, 1, 3]) (isR := [2]) ⟨rfl, rfl, rfl, rfl, by decide⟩ 11 0 rfl rfl rfl rfl ⟨Nat.le_of_ble_eq_true rfl, Nat.le_of_ble_eq_true rfl⟩ ⟨Nat.le_of_ble_eq_true rfl, Nat.le_of_ble_eq_true rfl⟩ (Nat.le_of_ble_eq_true rfl) hl.1 (cells9 := 0) (slots9 := 0) ⟨rfl, rfl⟩ dX11_convert_215 (fun v u H locs hw_238 G => ?_)
              obtain ⟨m2_239, gma2_240, rfl, hc_241, hc_242, rfl⟩ := hw_238
              replace G := G.perm (ws' := [(m0, mO M xth xrm xsv xln xat xer xwr xwd xlo xhi (u.length : Int) (m2_239.length : Int) xkl (-1) (bR rs u pl 2 1) xdn xon xtw xol xrw xgl xus xpr xmk xab), (M 1, aI (K 0) 1247 g), (M 17, aI (K 0) 2000 gwo), (M 18, aI (K 0) 2000 gma2_240)]) [1, 2, 0, 3] rfl rfl
              refine W.eq (g2 := F0 m9 218 ls []) rfl ?_
              refine lv_iload_n F.1 F.2.1 dX11_convert_218 rfl (lv_at hl 1 rfl) ?_
              refine lv_istore (lv' := [(5, .int (iI 0)), (4, .int (iI ((u.length : Int) - 0))), (3, .int (iI 0)), (0, .ref m0), (1, .int (iI pl)), (2, .int (iI 1))]) F.1 F.2.1 dX11_convert_219 hl (by decide) rfl (fun ls hl => ?_)
              have hfr : 0 = ((fmo (rget rs (-1)) 1).length : Int) := by first | rfl | (rw [show (-1) = -1 by omega, fmo_m1]; rfl)
              have hto : (u.length : Int) - 0 = (u.length : Int) - ((fmo (rget rs (bR rs u pl 2 1)) 1).length : Int) := by first | rfl | (rw [show (bR rs u pl 2 1) = -1 by omega, fmo_m1]; rfl)
              have hsl := spl_le rs u pl 1
              rw [hss.1, hss.2] at hsl
              have lp221 : ∀ (n221 : Nat) (k : Int) (gx : Nat → Int) (mx : List Int) (A0 : List Int) (fi : Int) (se : Int) (fr : Int) (to : Int) (H : Heap) (locs : List Loc) (ls : Array Slot), (0 ≤ fr ∧ fr ≤ k ∧ k ≤ to ∧ to ≤ u.length) → (spm rs u pl 1 = fi ∧ spe rs u pl 1 = se) → (A0 = (fmo (rget rs fi) 0)) → (fr = ((fmo (rget rs fi) 1).length : Int)) → (to = (u.length : Int) - ((fmo (rget rs se) 1).length : Int)) → (mx = A0 ++ sl u fr k) → (Tx gx mx) → (to - k) < (n221 : Int) → ad_G D A9 s9.heap H locs [(m0, mO M xth xrm xsv xln xat xer xwr xwd xlo xhi (u.length : Int) (mx.length : Int) xkl fi se xdn xon xtw xol xrw xgl xus xpr xmk xab), (M 1, aI (K 0) 1247 g), (M 17, aI (K 0) 2000 gwo), (M 18, aI (K 0) 2000 gx)] → lv_has ls 6 [(0, .ref m0), (1, .int (iI pl)), (2, .int (iI 1)), (3, .int (iI fr)), (4, .int (iI to)), (5, .int (iI k))] → W p9 l e9 rm_X11_convert_1 s9 m9 ag9 bl9 mt9 c9 H locs 0 0 Q9 (F0 m9 221 ls []) := by
                intro n221
                induction n221 with
                | zero =>
                  intro k gx mx A0 fi se fr to H locs ls hk hss hA hfr hto hmx hTx hm221
                  exact absurd hm221 (by omega)
                | succ n221 ih221 =>
                  intro k gx mx A0 fi se fr to H locs ls hk hss hA hfr hto hmx hTx hm221 G hl
                  have hA12 := fmo_len hW fi 0
                  have hmxl : (mx.length : Int) = A0.length + (k - fr) := by rw [hmx, List.length_append, Int.natCast_add, sl_len (by omega) (by omega) (by omega)]
                  have hAl : A0.length ≤ 12 := by rw [hA]; exact hA12
                  have hseb := spe_b rs u pl 1
                  refine lv_iload F.1 F.2.1 dX11_convert_221 (lv_at hl 5 rfl) ?_
                  refine lv_iload F.1 F.2.1 dX11_convert_223 (lv_at hl 4 rfl) ?_
                  refine ad_icmp_ge (tgt := 260) F (by omega) dX11_convert_225 (by decide) (fun cc_243 => ?_) (fun cc_243 => ?_)
                  · refine lv_aload_n F.1 F.2.1 dX11_convert_260 rfl (lv_at hl 0 rfl) ?_
                    refine lv_aload_n F.1 F.2.1 dX11_convert_261 rfl (lv_at hl 0 rfl) ?_
                    refine ad_get F G fl_X11_242 0 rfl rfl dX11_convert_262 ?_
                    refine lv_iload_n F.1 F.2.1 dX11_convert_265 rfl (lv_at hl 2 rfl) ?_
                    refine ad_if_ne (tgt := 273) F (by decide) dX11_convert_266 (by decide) (fun _ => ?_) (fun cc_244 => absurd cc_244 (by decide))
                    refine ad_iconst F dX11_convert_273 ?_
                    refine ad_callV (As := [.int (iI se), .int (iI 0)]) (rest := []) F G (c_X11_addForm l D K z0 m0 M xth xrm xsv xln xat xer xwr xwd xlo xhi (u.length : Int) xkl fi se xdn xon xtw xol xrw xgl xus xpr xmk xab g gx rs ps md th nc mx se 0 hM hW hTx (by omega) (by rw [← hss.2]; exact hseb) (by omega)) my_X11_addForm mv_X11_252 (wr := [(M 17, aI (K 0) 2000 gwo)]) (isC := [0, 1, 3]) (isR := [2]) ⟨rfl, rfl, rfl, rfl, by decide⟩ 11 0 rfl rfl rfl rfl ⟨Nat.le_of_ble_eq_true rfl, Nat.le_of_ble_eq_true rfl⟩ ⟨Nat.le_of_ble_eq_true rfl, Nat.le_of_ble_eq_true rfl⟩ (Nat.le_of_ble_eq_true rfl) hl.1 (cells9 := 0) (slots9 := 0) ⟨rfl, rfl⟩ dX11_convert_274 (fun v u H locs hw_245 G => ?_)
                    obtain ⟨m2_246, gma2_247, rfl, hc_248, hc_249, rfl⟩ := hw_245
                    replace G := G.perm (ws' := [(m0, mO M xth xrm xsv xln xat xer xwr xwd xlo xhi (u.length : Int) (m2_246.length : Int) xkl fi se xdn xon xtw xol xrw xgl xus xpr xmk xab), (M 1, aI (K 0) 1247 g), (M 17, aI (K 0) 2000 gwo), (M 18, aI (K 0) 2000 gma2_247)]) [1, 2, 0, 3] rfl rfl
                    refine W.eq (g2 := F0 m9 277 ls []) rfl ?_
                    exact ad_vreturn F G hR rfl (Nat.le_of_ble_eq_true rfl) (Nat.le_of_ble_eq_true rfl) ⟨m2_246, gma2_247, rfl, (by rw [hc_248, hmx, hA, spw_eq hss.1 hss.2, ← hfr, ← hto, show k = to by omega]; rfl), hc_249, (by rw [hss.1, hss.2])⟩ dX11_convert_277
                  · refine lv_aload_n F.1 F.2.1 dX11_convert_228 rfl (lv_at hl 0 rfl) ?_
                    refine ad_get F G fl_X11_42 0 rfl rfl dX11_convert_229 ?_
                    refine lv_aload_n F.1 F.2.1 dX11_convert_232 rfl (lv_at hl 0 rfl) ?_
                    refine ad_get F G fl_X11_239 0 rfl rfl dX11_convert_233 ?_
                    refine lv_aload_n F.1 F.2.1 dX11_convert_236 rfl (lv_at hl 0 rfl) ?_
                    refine ad_get F G fl_X11_39 0 rfl rfl dX11_convert_237 ?_
                    refine lv_iload F.1 F.2.1 dX11_convert_240 (lv_at hl 5 rfl) ?_
                    refine ad_iald F G 2 rfl (w := lat u k) (by omega) (Tx_at hTu (by omega) (by omega)) dX11_convert_242 ?_
                    refine ad_iast F G 3 rfl (by omega) (ws' := [(m0, mO M xth xrm xsv xln xat xer xwr xwd xlo xhi (u.length : Int) (mx.length : Int) xkl fi se xdn xon xtw xol xrw xgl xus xpr xmk xab), (M 1, aI (K 0) 1247 g), (M 17, aI (K 0) 2000 gwo), (M 18, aI (K 0) 2000 (va_up gx (mx.length : Int).toNat (lat u k)))]) rfl dX11_convert_243 (fun H locs G => ?_)
                    refine lv_aload_n F.1 F.2.1 dX11_convert_244 rfl (lv_at hl 0 rfl) ?_
                    refine lv_dup F.1 F.2.1 dX11_convert_245 rfl ?_
                    refine ad_get F G fl_X11_239 0 rfl rfl dX11_convert_246 ?_
                    refine ad_iconst F dX11_convert_249 ?_
                    refine ad_iadd F dX11_convert_250 ?_
                    refine ad_put F G fl_X11_239 0 rfl rfl rfl (Nat.le_of_ble_eq_true rfl) (ws' := [(m0, mO M xth xrm xsv xln xat xer xwr xwd xlo xhi (u.length : Int) ((mx.length : Int) + 1) xkl fi se xdn xon xtw xol xrw xgl xus xpr xmk xab), (M 1, aI (K 0) 1247 g), (M 17, aI (K 0) 2000 gwo), (M 18, aI (K 0) 2000 (va_up gx (mx.length : Int).toNat (lat u k)))]) rfl dX11_convert_251 (fun H locs G => ?_)
                    have hpl : (((mx ++ [lat u k]).length : Nat) : Int) = (mx.length : Int) + 1 := by simp
                    replace G := G.eq (ws' := [(m0, mO M xth xrm xsv xln xat xer xwr xwd xlo xhi (u.length : Int) ((mx ++ [lat u k]).length : Int) xkl fi se xdn xon xtw xol xrw xgl xus xpr xmk xab), (M 1, aI (K 0) 1247 g), (M 17, aI (K 0) 2000 gwo), (M 18, aI (K 0) 2000 (va_up gx (mx.length : Int).toNat (lat u k)))]) (by rw [hpl])
                    refine ad_iinc (lv' := [(5, .int (iI (k + 1))), (0, .ref m0), (1, .int (iI pl)), (2, .int (iI 1)), (3, .int (iI fr)), (4, .int (iI to))]) F dX11_convert_254 hl (k := 5) rfl (by decide) rfl (fun ls hl => ?_)
                    refine lv_goto (tgt := 221) F.1 F.2.1 dX11_convert_257 (by decide) ?_
                    exact ih221 (k + 1) (va_up gx (mx.length : Int).toNat (lat u k)) (mx ++ [lat u k]) A0 fi se fr to _ _ _ (by omega) hss hA hfr hto (by rw [sl_succ (by omega) (by omega) (by omega), hmx, List.append_assoc]) (Tx_push hTx _) (by omega) (G.perm (ws' := [(m0, mO M xth xrm xsv xln xat xer xwr xwd xlo xhi (u.length : Int) ((mx ++ [lat u k]).length : Int) xkl fi se xdn xon xtw xol xrw xgl xus xpr xmk xab), (M 1, aI (K 0) 1247 g), (M 17, aI (K 0) 2000 gwo), (M 18, aI (K 0) 2000 (va_up gx (mx.length : Int).toNat (lat u k)))]) [0, 1, 2, 3] rfl rfl) (lv_sub hl [1, 2, 3, 4, 5, 0] rfl)
              exact lp221 ((((((u.length : Int) - 0) - 0 : Int)) + 1).toNat) 0 gma2_240 m2_239 m2_239 (-1) (bR rs u pl 2 1) 0 ((u.length : Int) - 0) _ _ _ (by omega) hss (by rw [hc_241, List.nil_append]) hfr hto (by rw [sl_self, List.append_nil]) hc_242 (by omega) (G.perm (ws' := [(m0, mO M xth xrm xsv xln xat xer xwr xwd xlo xhi (u.length : Int) (m2_239.length : Int) xkl (-1) (bR rs u pl 2 1) xdn xon xtw xol xrw xgl xus xpr xmk xab), (M 1, aI (K 0) 1247 g), (M 17, aI (K 0) 2000 gwo), (M 18, aI (K 0) 2000 gma2_240)]) [0, 1, 2, 3] rfl rfl) (lv_sub hl [3, 4, 5, 2, 1, 0] rfl)
  · refine lv_aload_n F.1 F.2.1 dX11_convert_28 rfl (lv_at hl 0 rfl) ?_
    refine lv_aload_n F.1 F.2.1 dX11_convert_29 rfl (lv_at hl 0 rfl) ?_
    refine ad_get F G fl_X11_249 0 rfl rfl dX11_convert_30 ?_
    refine lv_iload_n F.1 F.2.1 dX11_convert_33 rfl (lv_at hl 2 rfl) ?_
    refine ad_if_ne (tgt := 41) F (by decide) dX11_convert_34 (by decide) (fun _ => ?_) (fun cc_250 => absurd cc_250 (by decide))
    refine ad_iconst F dX11_convert_41 ?_
    refine ad_callV (As := [.int (iI (bR rs u pl 0 1)), .int (iI 0)]) (rest := []) F G (c_X11_addForm l D K z0 m0 M xth xrm xsv xln xat xer xwr xwd xlo xhi (u.length : Int) xkl (bR rs u pl 0 1) (-1) xdn xon xtw xol xrw xgl xus xpr xmk xab g gma rs ps md th nc ([] : List Int) (bR rs u pl 0 1) 0 hM hW Tx_nil (by simp) (by omega) (by omega)) my_X11_addForm mv_X11_252 (wr := [(M 17, aI (K 0) 2000 gwo)]) (isC := [0, 1, 3]) (isR := [2]) ⟨rfl, rfl, rfl, rfl, by decide⟩ 11 0 rfl rfl rfl rfl ⟨Nat.le_of_ble_eq_true rfl, Nat.le_of_ble_eq_true rfl⟩ ⟨Nat.le_of_ble_eq_true rfl, Nat.le_of_ble_eq_true rfl⟩ (Nat.le_of_ble_eq_true rfl) hl.1 (cells9 := 0) (slots9 := 0) ⟨rfl, rfl⟩ dX11_convert_42 (fun v u H locs hw_251 G => ?_)
    obtain ⟨m2_252, gma2_253, rfl, hc_254, hc_255, rfl⟩ := hw_251
    replace G := G.perm (ws' := [(m0, mO M xth xrm xsv xln xat xer xwr xwd xlo xhi (u.length : Int) (m2_252.length : Int) xkl (bR rs u pl 0 1) (-1) xdn xon xtw xol xrw xgl xus xpr xmk xab), (M 1, aI (K 0) 1247 g), (M 17, aI (K 0) 2000 gwo), (M 18, aI (K 0) 2000 gma2_253)]) [1, 2, 0, 3] rfl rfl
    refine W.eq (g2 := F0 m9 45 ls []) rfl ?_
    have hss := sp_0 cc_2
    exact ad_vreturn F G hR rfl (Nat.le_of_ble_eq_true rfl) (Nat.le_of_ble_eq_true rfl) ⟨m2_252, gma2_253, rfl, (by rw [hc_254, List.nil_append, hss.2.2]; rfl), hc_255, (by rw [hss.1, hss.2.1])⟩ dX11_convert_45
