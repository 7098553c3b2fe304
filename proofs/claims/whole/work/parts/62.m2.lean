theorem MRow.cn {g : Nat → Int} {rs : List Rl} {ps : List Pr} {md th nc bl sz : Int} (h : MRow g rs ps md th nc) {w : Int} (hw : 0 ≤ w ∧ w ≤ 3) : g w.toNat = cnA rs ps md th bl sz nc w := by
  obtain ⟨⟨a0, a1, a2, a3, -⟩, -⟩ := h
  rcases (show w = 0 ∨ w = 1 ∨ w = 2 ∨ w = 3 by omega) with rfl | rfl | rfl | rfl
  · exact a0
  · exact a1
  · exact a2
  · exact a3
theorem MForm.at {g : Nat → Int} {p : Int} {a b : List Int} (h : MForm g p a b) {k : Int} (hk : 3 ≤ k ∧ k < 23) : g (p + k).toNat = if k = 3 then (a.length : Int) else if k = 4 then (b.length : Int) else if k < 11 then lat a (k - 5) else lat b (k - 11) := by
  obtain ⟨h1, h2, h3, h4⟩ := h
  by_cases e3 : k = 3
  · rw [if_pos e3, e3]; exact h1
  · by_cases e4 : k = 4
    · rw [if_neg e3, if_pos e4, e4]; exact h2
    · by_cases e5 : k < 11
      · rw [if_neg e3, if_neg e4, if_pos e5, show p + k = p + 5 + (k - 5) by omega]; exact h3 _ (by omega) (by omega)
      · rw [if_neg e3, if_neg e4, if_neg e5, show p + k = p + 5 + 6 + (k - 11) by omega]; exact h4 _ (by omega) (by omega)
theorem lat_fw {a : List Int} (h : Fw a) (k : Int) : 0 ≤ lat a k ∧ lat a k ≤ 122 := by
  unfold lat
  split
  · by_cases hl : k.toNat < a.length
    · rw [gd_in hl]
      have := h.2 _ (List.getElem_mem hl)
      omega
    · rw [gd_out (by omega)]; omega
  · omega
theorem MForm.rng {g : Nat → Int} {p : Int} {a b : List Int} (h : MForm g p a b) (ha : Fw a) (hb : Fw b) {k : Int} (hk : 3 ≤ k ∧ k < 23) : 0 ≤ g (p + k).toNat ∧ g (p + k).toNat ≤ 122 := by
  rw [h.at hk]
  have h1 := ha.1
  have h2 := hb.1
  have h3 := lat_fw ha (k - 5)
  have h4 := lat_fw hb (k - 11)
  split
  · omega
  · split
    · omega
    · split <;> omega
theorem MForm_eq {g : Nat → Int} {p q : Int} {a b c d : List Int} (h : MForm g p a b) (h' : MForm g q c d) (ha : Fw a) (hb : Fw b) (hc : Fw c) (hd : Fw d) (l1 : a.length ≤ 6) (l2 : c.length ≤ 6) : (∀ j : Int, 3 ≤ j → j < 23 → g (p + j).toNat = g (q + j).toNat) ↔ (a = c ∧ b = d) := by
  have b1 := hb.1
  have d1 := hd.1
  constructor
  · intro e
    have e3 := e 3 (by omega) (by omega)
    have e4 := e 4 (by omega) (by omega)
    rw [h.1, h'.1] at e3
    rw [h.2.1, h'.2.1] at e4
    refine ⟨lat_eq e3 (fun j j0 j1 => ?_), lat_eq e4 (fun j j0 j1 => ?_)⟩
    · have := e (5 + j) (by omega) (by omega)
      rw [show p + (5 + j) = p + 5 + j by omega, show q + (5 + j) = q + 5 + j by omega, h.2.2.1 j j0 (by omega), h'.2.2.1 j j0 (by omega)] at this
      exact this
    · have := e (11 + j) (by omega) (by omega)
      rw [show p + (11 + j) = p + 5 + 6 + j by omega, show q + (11 + j) = q + 5 + 6 + j by omega, h.2.2.2 j j0 (by omega), h'.2.2.2 j j0 (by omega)] at this
      exact this
  · rintro ⟨rfl, rfl⟩ j j0 j1
    rw [h.at ⟨j0, j1⟩, h'.at ⟨j0, j1⟩]
def rm_X11_findCollision : Room := { frames := 5, cells := 0, slots := 0, locals := 106 }
set_option maxHeartbeats 4000000 in
set_option maxRecDepth 100000 in
theorem c_X11_findCollision (l : Launch) (D : va_G) (K : Nat → ClassId) (z0 : Nat) (m0 : Nat) (M : Nat → Nat) (xth : Int) (xrm : Int) (xsv : Int) (xln : Int) (xat : Int) (xer : Int) (xwr : Int) (xwd : Int) (xlo : Int) (xhi : Int) (xwl : Int) (xml : Int) (xkl : Int) (xfi : Int) (xse : Int) (xdn : Int) (xon : Int) (xtw : Int) (xol : Int) (xrw : Int) (xgl : Int) (xus : Int) (xpr : Int) (xmk : Int) (xab : Int) (g : Nat → Int) (rs : List Rl) (ps : List Pr) (md : Int) (th : Int) (nc : Int) (z : Int) (hM : MRow g rs ps md th nc) (hW : RW rs) (hz : -2147483648 ≤ z ∧ z < 2147483648) : CT l D K z0 yX11_findCollision cX11_findCollision 5 (some .int) rm_X11_findCollision [.ref m0, .int (iI z)] [(m0, mO M xth xrm xsv xln xat xer xwr xwd xlo xhi xwl xml xkl xfi xse xdn xon xtw xol xrw xgl xus xpr xmk xab), (M 1, aI (K 0) 1247 g)] (fun v9 u9 => ∃ (lo2 : Int), ∃ (hi2 : Int), v9 = some (.int (iI ((colO rs rs.length).length : Int))) ∧ (0 ≤ z → z < ((colO rs rs.length).length : Int) → (colO rs rs.length)[z.toNat]? = some (lo2, hi2)) ∧ u9 = [(m0, mO M xth xrm xsv xln xat xer xwr xwd lo2 hi2 xwl xml xkl xfi xse xdn xon xtw xol xrw xgl xus xpr xmk xab), (M 1, aI (K 0) 1247 g)]) := by
  refine CT.start RX11 "findCollision" (by decide) rfl rfl (Nat.le_of_ble_eq_true rfl) ?_
  intro p9 e9 s9 m9 ag9 bl9 mt9 c9 A9 Q9 ls F G hR hl
  have hl : lv_has ls 5 [(0, .ref m0), (1, .int (iI z))] := hl
  have hn := hW.1
  have hcb := colO_len rs rs.length
  refine ad_iconst F dX11_findCollision_0 ?_
  refine lv_istore_n (lv' := [(2, .int (iI 0)), (0, .ref m0), (1, .int (iI z))]) F.1 F.2.1 dX11_findCollision_1 rfl hl (by decide) rfl (fun ls hl => ?_)
  refine ad_iconst F dX11_findCollision_2 ?_
  refine lv_istore_n (lv' := [(3, .int (iI 0)), (2, .int (iI 0)), (0, .ref m0), (1, .int (iI z))]) F.1 F.2.1 dX11_findCollision_3 rfl hl (by decide) rfl (fun ls hl => ?_)
  have lp4 : ∀ (n4 : Nat) (i : Int) (k : Int) (lo : Int) (hi_ : Int) (H : Heap) (locs : List Loc) (ls : Array Slot), (0 ≤ i ∧ i ≤ rs.length) → (k = (colO rs i.toNat).length) → (0 ≤ z → z < k → (colO rs rs.length)[z.toNat]? = some (lo, hi_)) → (rs.length - i) < (n4 : Int) → ad_G D A9 s9.heap H locs [(m0, mO M xth xrm xsv xln xat xer xwr xwd lo hi_ xwl xml xkl xfi xse xdn xon xtw xol xrw xgl xus xpr xmk xab), (M 1, aI (K 0) 1247 g)] → lv_has ls 5 [(0, .ref m0), (1, .int (iI z)), (2, .int (iI k)), (3, .int (iI i))] → W p9 l e9 rm_X11_findCollision s9 m9 ag9 bl9 mt9 c9 H locs 0 0 Q9 (F0 m9 4 ls []) := by
    intro n4
    induction n4 with
    | zero =>
      intro i k lo hi_ H locs ls hi hk hq hm4
      exact absurd hm4 (by omega)
    | succ n4 ih4 =>
      intro i k lo hi_ H locs ls hi hk hq hm4 G hl
      refine lv_iload_n F.1 F.2.1 dX11_findCollision_4 rfl (lv_at hl 3 rfl) ?_
      refine lv_aload_n F.1 F.2.1 dX11_findCollision_5 rfl (lv_at hl 0 rfl) ?_
      refine ad_get F G fl_X11_9 0 rfl rfl dX11_findCollision_6 ?_
      refine ad_iconst F dX11_findCollision_9 ?_
      refine ad_iald F G 1 rfl (w := (rs.length : Int)) (by omega) (hM.1.1) dX11_findCollision_10 ?_
      refine ad_icmp_ge (tgt := 71) F (by omega) dX11_findCollision_11 (by decide) (fun cc_1 => ?_) (fun cc_1 => ?_)
      · refine lv_iload_n F.1 F.2.1 dX11_findCollision_71 rfl (lv_at hl 2 rfl) ?_
        exact ad_ireturn F G hR rfl (Nat.le_of_ble_eq_true rfl) (Nat.le_of_ble_eq_true rfl) ⟨lo, hi_, (ad_eqi (by rw [hk, show i = rs.length by omega]; rfl)), (fun q1 q2 => hq q1 (by rw [hk, show i = rs.length by omega]; exact q2)), rfl⟩ dX11_findCollision_72
      · refine lv_iload_n F.1 F.2.1 dX11_findCollision_14 rfl (lv_at hl 3 rfl) ?_
        refine ad_iconst F dX11_findCollision_15 ?_
        refine ad_iadd F dX11_findCollision_16 ?_
        refine lv_istore (lv' := [(4, .int (iI (i + 1))), (0, .ref m0), (1, .int (iI z)), (2, .int (iI k)), (3, .int (iI i))]) F.1 F.2.1 dX11_findCollision_17 hl (by decide) rfl (fun ls hl => ?_)
        have lp19 : ∀ (n19 : Nat) (j : Int) (k2 : Int) (lo2 : Int) (hi2 : Int) (H : Heap) (locs : List Loc) (ls : Array Slot), (i < j ∧ j ≤ rs.length) → (k2 = (colO rs i.toNat).length + (colI rs i j.toNat).length) → (0 ≤ z → z < k2 → (colO rs rs.length)[z.toNat]? = some (lo2, hi2)) → (rs.length - j) < (n19 : Int) → ad_G D A9 s9.heap H locs [(m0, mO M xth xrm xsv xln xat xer xwr xwd lo2 hi2 xwl xml xkl xfi xse xdn xon xtw xol xrw xgl xus xpr xmk xab), (M 1, aI (K 0) 1247 g)] → lv_has ls 5 [(0, .ref m0), (1, .int (iI z)), (2, .int (iI k2)), (3, .int (iI i)), (4, .int (iI j))] → W p9 l e9 rm_X11_findCollision s9 m9 ag9 bl9 mt9 c9 H locs 0 0 Q9 (F0 m9 19 ls []) := by
          intro n19
          induction n19 with
          | zero =>
            intro j k2 lo2 hi2 H locs ls hj hk2 hq2 hm19
            exact absurd hm19 (by omega)
          | succ n19 ih19 =>
            intro j k2 lo2 hi2 H locs ls hj hk2 hq2 hm19 G hl
            have hkc : (k2 ≤ 600) := by have := colO_len rs i.toNat; have := Nat.mul_le_mul (show i.toNat ≤ 24 by omega) hn; have := colI_len rs i j.toNat; omega
            refine lv_iload F.1 F.2.1 dX11_findCollision_19 (lv_at hl 4 rfl) ?_
            refine lv_aload_n F.1 F.2.1 dX11_findCollision_21 rfl (lv_at hl 0 rfl) ?_
            refine ad_get F G fl_X11_9 0 rfl rfl dX11_findCollision_22 ?_
            refine ad_iconst F dX11_findCollision_25 ?_
            refine ad_iald F G 1 rfl (w := (rs.length : Int)) (by omega) (hM.1.1) dX11_findCollision_26 ?_
            refine ad_icmp_ge (tgt := 65) F (by omega) dX11_findCollision_27 (by decide) (fun cc_2 => ?_) (fun cc_2 => ?_)
            · refine ad_iinc (lv' := [(3, .int (iI (i + 1))), (0, .ref m0), (1, .int (iI z)), (2, .int (iI k2)), (4, .int (iI j))]) F dX11_findCollision_65 hl (k := 3) rfl (by decide) rfl (fun ls hl => ?_)
              refine lv_goto (tgt := 4) F.1 F.2.1 dX11_findCollision_68 (by decide) ?_
              exact ih4 (i + 1) k2 lo2 hi2 _ _ _ (by omega) (by rw [hk2, show j = rs.length by omega, colO_s (by omega), List.length_append]; simp only [Int.toNat_natCast]; omega) hq2 (by omega) (G.perm (ws' := [(m0, mO M xth xrm xsv xln xat xer xwr xwd lo2 hi2 xwl xml xkl xfi xse xdn xon xtw xol xrw xgl xus xpr xmk xab), (M 1, aI (K 0) 1247 g)]) [0, 1] rfl rfl) (lv_sub hl [1, 2, 3, 0] rfl)
            · refine lv_aload_n F.1 F.2.1 dX11_findCollision_30 rfl (lv_at hl 0 rfl) ?_
              refine lv_iload_n F.1 F.2.1 dX11_findCollision_31 rfl (lv_at hl 3 rfl) ?_
              refine lv_iload F.1 F.2.1 dX11_findCollision_32 (lv_at hl 4 rfl) ?_
              refine ad_callV (As := [.int (iI i), .int (iI j)]) (rest := []) F G (c_X11_collide l D K z0 m0 M xth xrm xsv xln xat xer xwr xwd lo2 hi2 xwl xml xkl xfi xse xdn xon xtw xol xrw xgl xus xpr xmk xab g rs ps md th nc i j hM hW (by omega) (by omega)) my_X11_collide mv_X11_200 (wr := []) (isC := [0, 1]) (isR := []) ⟨rfl, rfl, rfl, rfl, by decide⟩ 11 0 rfl rfl rfl rfl ⟨Nat.le_of_ble_eq_true rfl, Nat.le_of_ble_eq_true rfl⟩ ⟨Nat.le_of_ble_eq_true rfl, Nat.le_of_ble_eq_true rfl⟩ (Nat.le_of_ble_eq_true rfl) hl.1 (cells9 := 0) (slots9 := 0) ⟨rfl, rfl⟩ dX11_findCollision_34 (fun v u H locs hw_3 G => ?_)
              rcases hw_3 with ⟨rfl, hc_4, rfl⟩ | ⟨rfl, hc_5, rfl⟩
              · replace G := G.perm (ws' := [(m0, mO M xth xrm xsv xln xat xer xwr xwd lo2 hi2 xwl xml xkl xfi xse xdn xon xtw xol xrw xgl xus xpr xmk xab), (M 1, aI (K 0) 1247 g)]) [0, 1] rfl rfl
                refine W.eq (g2 := F0 m9 37 ls [.int (iI 1)]) rfl ?_
                refine ad_if_eq (tgt := 59) F (by decide) dX11_findCollision_37 (by decide) (fun cc_6 => absurd cc_6 (by decide)) (fun _ => ?_)
                refine lv_iload_n F.1 F.2.1 dX11_findCollision_40 rfl (lv_at hl 2 rfl) ?_
                refine lv_iload_n F.1 F.2.1 dX11_findCollision_41 rfl (lv_at hl 1 rfl) ?_
                refine ad_icmp_ne (tgt := 56) F (by omega) dX11_findCollision_42 (by decide) (fun cc_7 => ?_) (fun cc_7 => ?_)
                · refine ad_iinc (lv' := [(2, .int (iI (k2 + 1))), (0, .ref m0), (1, .int (iI z)), (3, .int (iI i)), (4, .int (iI j))]) F dX11_findCollision_56 hl (k := 2) rfl (by decide) rfl (fun ls hl => ?_)
                  refine ad_iinc (lv' := [(4, .int (iI (j + 1))), (2, .int (iI (k2 + 1))), (0, .ref m0), (1, .int (iI z)), (3, .int (iI i))]) F dX11_findCollision_59 hl (k := 4) rfl (by decide) rfl (fun ls hl => ?_)
                  refine lv_goto (tgt := 19) F.1 F.2.1 dX11_findCollision_62 (by decide) ?_
                  exact ih19 (j + 1) (k2 + 1) lo2 hi2 _ _ _ (by omega) (by rw [hk2, colI_s (by omega), if_pos ⟨by omega, cob_iff.mpr hc_4⟩, List.length_append]; simp only [List.length_cons, List.length_nil]; omega) (fun q1 q2 => hq2 q1 (by have := cc_7; omega)) (by omega) (G.perm (ws' := [(m0, mO M xth xrm xsv xln xat xer xwr xwd lo2 hi2 xwl xml xkl xfi xse xdn xon xtw xol xrw xgl xus xpr xmk xab), (M 1, aI (K 0) 1247 g)]) [0, 1] rfl rfl) (lv_sub hl [2, 3, 1, 4, 0] rfl)
                · refine lv_aload_n F.1 F.2.1 dX11_findCollision_45 rfl (lv_at hl 0 rfl) ?_
                  refine lv_iload_n F.1 F.2.1 dX11_findCollision_46 rfl (lv_at hl 3 rfl) ?_
                  refine ad_put F G fl_X11_203 0 rfl rfl rfl (Nat.le_of_ble_eq_true rfl) (ws' := [(m0, mO M xth xrm xsv xln xat xer xwr xwd i hi2 xwl xml xkl xfi xse xdn xon xtw xol xrw xgl xus xpr xmk xab), (M 1, aI (K 0) 1247 g)]) rfl dX11_findCollision_47 (fun H locs G => ?_)
                  refine lv_aload_n F.1 F.2.1 dX11_findCollision_50 rfl (lv_at hl 0 rfl) ?_
                  refine lv_iload F.1 F.2.1 dX11_findCollision_51 (lv_at hl 4 rfl) ?_
                  refine ad_put F G fl_X11_206 0 rfl rfl rfl (Nat.le_of_ble_eq_true rfl) (ws' := [(m0, mO M xth xrm xsv xln xat xer xwr xwd i j xwl xml xkl xfi xse xdn xon xtw xol xrw xgl xus xpr xmk xab), (M 1, aI (K 0) 1247 g)]) rfl dX11_findCollision_53 (fun H locs G => ?_)
                  refine ad_iinc (lv' := [(2, .int (iI (k2 + 1))), (0, .ref m0), (1, .int (iI z)), (3, .int (iI i)), (4, .int (iI j))]) F dX11_findCollision_56 hl (k := 2) rfl (by decide) rfl (fun ls hl => ?_)
                  refine ad_iinc (lv' := [(4, .int (iI (j + 1))), (2, .int (iI (k2 + 1))), (0, .ref m0), (1, .int (iI z)), (3, .int (iI i))]) F dX11_findCollision_59 hl (k := 4) rfl (by decide) rfl (fun ls hl => ?_)
                  refine lv_goto (tgt := 19) F.1 F.2.1 dX11_findCollision_62 (by decide) ?_
                  exact ih19 (j + 1) (k2 + 1) i j _ _ _ (by omega) (by rw [hk2, colI_s (by omega), if_pos ⟨by omega, cob_iff.mpr hc_4⟩, List.length_append]; simp only [List.length_cons, List.length_nil]; omega) (fun q1 q2 => by rw [show z.toNat = (colO rs i.toNat).length + (colI rs i j.toNat).length by have := cc_7; omega]; exact col_at hi.1 hj.1 (by omega) hc_4) (by omega) (G.perm (ws' := [(m0, mO M xth xrm xsv xln xat xer xwr xwd i j xwl xml xkl xfi xse xdn xon xtw xol xrw xgl xus xpr xmk xab), (M 1, aI (K 0) 1247 g)]) [0, 1] rfl rfl) (lv_sub hl [2, 3, 1, 4, 0] rfl)
              · replace G := G.perm (ws' := [(m0, mO M xth xrm xsv xln xat xer xwr xwd lo2 hi2 xwl xml xkl xfi xse xdn xon xtw xol xrw xgl xus xpr xmk xab), (M 1, aI (K 0) 1247 g)]) [0, 1] rfl rfl
                refine W.eq (g2 := F0 m9 37 ls [.int (iI 0)]) rfl ?_
                refine ad_if_eq (tgt := 59) F (by decide) dX11_findCollision_37 (by decide) (fun _ => ?_) (fun cc_8 => absurd cc_8 (by decide))
                refine ad_iinc (lv' := [(4, .int (iI (j + 1))), (0, .ref m0), (1, .int (iI z)), (2, .int (iI k2)), (3, .int (iI i))]) F dX11_findCollision_59 hl (k := 4) rfl (by decide) rfl (fun ls hl => ?_)
                refine lv_goto (tgt := 19) F.1 F.2.1 dX11_findCollision_62 (by decide) ?_
                exact ih19 (j + 1) k2 lo2 hi2 _ _ _ (by omega) (by rw [hk2, colI_s (by omega), if_neg (fun q => hc_5 (cob_iff.mp q.2)), List.append_nil]) hq2 (by omega) (G.perm (ws' := [(m0, mO M xth xrm xsv xln xat xer xwr xwd lo2 hi2 xwl xml xkl xfi xse xdn xon xtw xol xrw xgl xus xpr xmk xab), (M 1, aI (K 0) 1247 g)]) [0, 1] rfl rfl) (lv_sub hl [1, 2, 3, 4, 0] rfl)
        exact lp19 ((((rs.length - (i + 1) : Int)) + 1).toNat) (i + 1) k lo hi_ _ _ _ (by omega) (by rw [hk]; have := congrArg List.length (colI_z (rs := rs) (i := i) (i + 1).toNat (by omega)); simp only [List.length_nil] at this; omega) hq (by omega) (G.perm (ws' := [(m0, mO M xth xrm xsv xln xat xer xwr xwd lo hi_ xwl xml xkl xfi xse xdn xon xtw xol xrw xgl xus xpr xmk xab), (M 1, aI (K 0) 1247 g)]) [0, 1] rfl rfl) (lv_sub hl [1, 2, 3, 4, 0] rfl)
  exact lp4 ((((rs.length - 0 : Int)) + 1).toNat) 0 0 xlo xhi _ _ _ (by omega) rfl (fun q1 q2 => by omega) (by omega) (G.perm (ws' := [(m0, mO M xth xrm xsv xln xat xer xwr xwd xlo xhi xwl xml xkl xfi xse xdn xon xtw xol xrw xgl xus xpr xmk xab), (M 1, aI (K 0) 1247 g)]) [0, 1] rfl rfl) (lv_sub hl [2, 3, 1, 0] rfl)

def rm_X11_count : Room := { frames := 6, cells := 0, slots := 0, locals := 130 }
set_option maxHeartbeats 4000000 in
set_option maxRecDepth 100000 in
theorem c_X11_count (l : Launch) (D : va_G) (K : Nat → ClassId) (z0 : Nat) (m0 : Nat) (M : Nat → Nat) (xth : Int) (xrm : Int) (xsv : Int) (xln : Int) (xat : Int) (xer : Int) (xwr : Int) (xwd : Int) (xlo : Int) (xhi : Int) (xwl : Int) (xml : Int) (xkl : Int) (xfi : Int) (xse : Int) (xdn : Int) (xon : Int) (xtw : Int) (xol : Int) (xrw : Int) (xgl : Int) (xus : Int) (xpr : Int) (xmk : Int) (xab : Int) (g : Nat → Int) (rs : List Rl) (ps : List Pr) (md : Int) (th : Int) (nc : Int) (w : Int) (hM : MRow g rs ps md th nc) (hW : RW rs) (hw : -2147483648 ≤ w ∧ w < 2147483648) : CT l D K z0 yX11_count cX11_count 2 (some .int) rm_X11_count [.ref m0, .int (iI w)] [(m0, mO M xth xrm xsv xln xat xer xwr xwd xlo xhi xwl xml xkl xfi xse xdn xon xtw xol xrw xgl xus xpr xmk xab), (M 1, aI (K 0) 1247 g)] (fun v9 u9 => (v9 = some (.int (iI 0)) ∧ (¬ (0 ≤ w ∧ w ≤ 7)) ∧ u9 = [(m0, mO M 1 xrm xsv xln xat xer xwr xwd xlo xhi xwl xml xkl xfi xse xdn xon xtw xol xrw xgl xus xpr xmk xab), (M 1, aI (K 0) 1247 g)]) ∨ (∃ (lo2 : Int), ∃ (hi2 : Int), v9 = some (.int (iI (cnA rs ps md th xln xrm nc w))) ∧ (0 ≤ w ∧ w ≤ 7) ∧ u9 = [(m0, mO M 0 xrm xsv xln xat xer xwr xwd lo2 hi2 xwl xml xkl xfi xse xdn xon xtw xol xrw xgl xus xpr xmk xab), (M 1, aI (K 0) 1247 g)])) := by
  refine CT.start RX11 "count" (by decide) rfl rfl (Nat.le_of_ble_eq_true rfl) ?_
  intro p9 e9 s9 m9 ag9 bl9 mt9 c9 A9 Q9 ls F G hR hl
  have hl : lv_has ls 2 [(0, .ref m0), (1, .int (iI w))] := hl
  have hn := hW.1
  refine lv_aload_n F.1 F.2.1 dX11_count_0 rfl (lv_at hl 0 rfl) ?_
  refine ad_iconst F dX11_count_1 ?_
  refine lv_iload_n F.1 F.2.1 dX11_count_2 rfl (lv_at hl 1 rfl) ?_
  refine ad_iconst F dX11_count_3 ?_
  refine ad_bipush F dX11_count_4 (by decide) ?_
  refine ad_callS (As := [.int (iI w), .int (iI 0), .int (iI 7)]) (rest := [.int (iI 1), .ref m0]) F G (c_X11_isBetween l D K z0 w 0 7 hw (by omega) (by omega)) my_X11_isBetween ms_X11_107 (wr := [(m0, mO M xth xrm xsv xln xat xer xwr xwd xlo xhi xwl xml xkl xfi xse xdn xon xtw xol xrw xgl xus xpr xmk xab), (M 1, aI (K 0) 1247 g)]) (isC := []) (isR := [0, 1]) ⟨rfl, rfl, rfl, rfl, by decide⟩ rfl rfl ⟨Nat.le_of_ble_eq_true rfl, Nat.le_of_ble_eq_true rfl⟩ ⟨Nat.le_of_ble_eq_true rfl, Nat.le_of_ble_eq_true rfl⟩ (Nat.le_of_ble_eq_true rfl) hl.1 (cells9 := 0) (slots9 := 0) ⟨rfl, rfl⟩ dX11_count_6 (fun v u H locs hw_1 G => ?_)
  rcases hw_1 with ⟨rfl, hc_2, rfl⟩ | ⟨rfl, hc_3, rfl⟩
  · replace G := G.perm (ws' := [(m0, mO M xth xrm xsv xln xat xer xwr xwd xlo xhi xwl xml xkl xfi xse xdn xon xtw xol xrw xgl xus xpr xmk xab), (M 1, aI (K 0) 1247 g)]) [0, 1] rfl rfl
    refine W.eq (g2 := F0 m9 9 ls [.int (iI 1), .int (iI 1), .ref m0]) rfl ?_
    refine ad_if_ne (tgt := 16) F (by decide) dX11_count_9 (by decide) (fun _ => ?_) (fun cc_4 => absurd cc_4 (by decide))
    refine ad_iconst F dX11_count_16 ?_
    refine ad_callV (As := [.int (iI 1), .int (iI 0)]) (rest := []) F G (c_X11_fails_0 l D K z0 m0 M xth xrm xsv xln xat xer xwr xwd xlo xhi xwl xml xkl xfi xse xdn xon xtw xol xrw xgl xus xpr xmk xab 1 (by omega)) my_X11_fails mv_X11_111 (wr := [(M 1, aI (K 0) 1247 g)]) (isC := [0]) (isR := [1]) ⟨rfl, rfl, rfl, rfl, by decide⟩ 11 0 rfl rfl rfl rfl ⟨Nat.le_of_ble_eq_true rfl, Nat.le_of_ble_eq_true rfl⟩ ⟨Nat.le_of_ble_eq_true rfl, Nat.le_of_ble_eq_true rfl⟩ (Nat.le_of_ble_eq_true rfl) hl.1 (cells9 := 0) (slots9 := 0) ⟨rfl, rfl⟩ dX11_count_17 (fun v u H locs hw_5 G => ?_)
    obtain ⟨rfl, rfl⟩ := hw_5
    replace G := G.perm (ws' := [(m0, mO M 0 xrm xsv xln xat xer xwr xwd xlo xhi xwl xml xkl xfi xse xdn xon xtw xol xrw xgl xus xpr xmk xab), (M 1, aI (K 0) 1247 g)]) [1, 0] rfl rfl
    refine W.eq (g2 := F0 m9 20 ls [.int (iI 0)]) rfl ?_
    refine ad_if_eq (tgt := 25) F (by decide) dX11_count_20 (by decide) (fun _ => ?_) (fun cc_6 => absurd cc_6 (by decide))
    refine lv_iload_n F.1 F.2.1 dX11_count_25 rfl (lv_at hl 1 rfl) ?_
    rcases (show (w < 4 ∨ 7 < w) ∨ w = 4 ∨ w = 5 ∨ w = 6 ∨ w = 7 by omega) with cs_7 | cs_7 | cs_7 | cs_7 | cs_7
    · refine ad_tabOut (tgt := 79) F dX11_count_26 (by omega) cs_7 (by decide) ?_
      refine lv_aload_n F.1 F.2.1 dX11_count_79 rfl (lv_at hl 0 rfl) ?_
      refine ad_get F G fl_X11_9 0 rfl rfl dX11_count_80 ?_
      refine lv_iload_n F.1 F.2.1 dX11_count_83 rfl (lv_at hl 1 rfl) ?_
      refine ad_iald F G 1 rfl (w := cnA rs ps md th xln xrm nc w) (by omega) (hM.cn (by omega)) dX11_count_84 ?_
      exact ad_ireturn F G hR rfl (Nat.le_of_ble_eq_true rfl) (Nat.le_of_ble_eq_true rfl) (Or.inr (⟨xlo, xhi, rfl, hc_2, rfl⟩)) dX11_count_85
    · refine ad_tabIn (v := 4) (tgt := 56) F dX11_count_26 cs_7 (by decide) (by decide) (by decide) rfl (by decide) ?_
      refine lv_aload_n F.1 F.2.1 dX11_count_56 rfl (lv_at hl 0 rfl) ?_
      refine ad_iconst F dX11_count_57 ?_
      refine ad_callV (As := [.int (iI (-1))]) (rest := []) F G (c_X11_findCollision l D K z0 m0 M 0 xrm xsv xln xat xer xwr xwd xlo xhi xwl xml xkl xfi xse xdn xon xtw xol xrw xgl xus xpr xmk xab g rs ps md th nc (-1) hM hW (by omega)) my_X11_findCollision mv_X11_209 (wr := []) (isC := [0, 1]) (isR := []) ⟨rfl, rfl, rfl, rfl, by decide⟩ 11 0 rfl rfl rfl rfl ⟨Nat.le_of_ble_eq_true rfl, Nat.le_of_ble_eq_true rfl⟩ ⟨Nat.le_of_ble_eq_true rfl, Nat.le_of_ble_eq_true rfl⟩ (Nat.le_of_ble_eq_true rfl) hl.1 (cells9 := 0) (slots9 := 0) ⟨rfl, rfl⟩ dX11_count_58 (fun v u H locs hw_8 G => ?_)
      obtain ⟨lo2_9, hi2_10, rfl, hc_11, rfl⟩ := hw_8
      replace G := G.perm (ws' := [(m0, mO M 0 xrm xsv xln xat xer xwr xwd lo2_9 hi2_10 xwl xml xkl xfi xse xdn xon xtw xol xrw xgl xus xpr xmk xab), (M 1, aI (K 0) 1247 g)]) [0, 1] rfl rfl
      refine W.eq (g2 := F0 m9 61 ls [.int (iI ((colO rs rs.length).length : Int))]) rfl ?_
      exact ad_ireturn F G hR rfl (Nat.le_of_ble_eq_true rfl) (Nat.le_of_ble_eq_true rfl) (Or.inr (⟨lo2_9, hi2_10, (ad_eqi (by rw [cs_7]; rfl)), hc_2, rfl⟩)) dX11_count_61
    · refine ad_tabIn (v := 5) (tgt := 62) F dX11_count_26 cs_7 (by decide) (by decide) (by decide) rfl (by decide) ?_
      refine lv_aload_n F.1 F.2.1 dX11_count_62 rfl (lv_at hl 0 rfl) ?_
      refine ad_get F G fl_X11_115 0 rfl rfl dX11_count_63 ?_
      exact ad_ireturn F G hR rfl (Nat.le_of_ble_eq_true rfl) (Nat.le_of_ble_eq_true rfl) (Or.inr (⟨xlo, xhi, (ad_eqi (by rw [cs_7]; rfl)), hc_2, rfl⟩)) dX11_count_66
    · refine ad_tabIn (v := 6) (tgt := 67) F dX11_count_26 cs_7 (by decide) (by decide) (by decide) rfl (by decide) ?_
      refine lv_aload_n F.1 F.2.1 dX11_count_67 rfl (lv_at hl 0 rfl) ?_
      refine ad_get F G fl_X11_92 0 rfl rfl dX11_count_68 ?_
      exact ad_ireturn F G hR rfl (Nat.le_of_ble_eq_true rfl) (Nat.le_of_ble_eq_true rfl) (Or.inr (⟨xlo, xhi, (ad_eqi (by rw [cs_7]; rfl)), hc_2, rfl⟩)) dX11_count_71
    · refine ad_tabIn (v := 7) (tgt := 72) F dX11_count_26 cs_7 (by decide) (by decide) (by decide) rfl (by decide) ?_
      refine lv_aload_n F.1 F.2.1 dX11_count_72 rfl (lv_at hl 0 rfl) ?_
      refine ad_get F G fl_X11_9 0 rfl rfl dX11_count_73 ?_
      refine ad_iconst F dX11_count_76 ?_
      refine ad_iald F G 1 rfl (w := nc) (by omega) (hM.1.2.2.2.2) dX11_count_77 ?_
      exact ad_ireturn F G hR rfl (Nat.le_of_ble_eq_true rfl) (Nat.le_of_ble_eq_true rfl) (Or.inr (⟨xlo, xhi, (ad_eqi (by rw [cs_7]; rfl)), hc_2, rfl⟩)) dX11_count_78
  · replace G := G.perm (ws' := [(m0, mO M xth xrm xsv xln xat xer xwr xwd xlo xhi xwl xml xkl xfi xse xdn xon xtw xol xrw xgl xus xpr xmk xab), (M 1, aI (K 0) 1247 g)]) [0, 1] rfl rfl
    refine W.eq (g2 := F0 m9 9 ls [.int (iI 0), .int (iI 1), .ref m0]) rfl ?_
    refine ad_if_ne (tgt := 16) F (by decide) dX11_count_9 (by decide) (fun cc_12 => absurd cc_12 (by decide)) (fun _ => ?_)
    refine ad_iconst F dX11_count_12 ?_
    refine lv_goto (tgt := 17) F.1 F.2.1 dX11_count_13 (by decide) ?_
    refine ad_callV (As := [.int (iI 1), .int (iI 1)]) (rest := []) F G (c_X11_fails_1 l D K z0 m0 M xth xrm xsv xln xat xer xwr xwd xlo xhi xwl xml xkl xfi xse xdn xon xtw xol xrw xgl xus xpr xmk xab 1 (by omega)) my_X11_fails mv_X11_111 (wr := [(M 1, aI (K 0) 1247 g)]) (isC := [0]) (isR := [1]) ⟨rfl, rfl, rfl, rfl, by decide⟩ 11 0 rfl rfl rfl rfl ⟨Nat.le_of_ble_eq_true rfl, Nat.le_of_ble_eq_true rfl⟩ ⟨Nat.le_of_ble_eq_true rfl, Nat.le_of_ble_eq_true rfl⟩ (Nat.le_of_ble_eq_true rfl) hl.1 (cells9 := 0) (slots9 := 0) ⟨rfl, rfl⟩ dX11_count_17 (fun v u H locs hw_13 G => ?_)
    obtain ⟨rfl, rfl⟩ := hw_13
    replace G := G.perm (ws' := [(m0, mO M 1 xrm xsv xln xat xer xwr xwd xlo xhi xwl xml xkl xfi xse xdn xon xtw xol xrw xgl xus xpr xmk xab), (M 1, aI (K 0) 1247 g)]) [1, 0] rfl rfl
    refine W.eq (g2 := F0 m9 20 ls [.int (iI 1)]) rfl ?_
    refine ad_if_eq (tgt := 25) F (by decide) dX11_count_20 (by decide) (fun cc_14 => absurd cc_14 (by decide)) (fun _ => ?_)
    refine ad_iconst F dX11_count_23 ?_
    exact ad_ireturn F G hR rfl (Nat.le_of_ble_eq_true rfl) (Nat.le_of_ble_eq_true rfl) (Or.inl ⟨rfl, hc_3, rfl⟩) dX11_count_24

def rm_X11_collision : Room := { frames := 6, cells := 0, slots := 0, locals := 130 }
set_option maxHeartbeats 4000000 in
set_option maxRecDepth 100000 in
theorem c_X11_collision (l : Launch) (D : va_G) (K : Nat → ClassId) (z0 : Nat) (m0 : Nat) (M : Nat → Nat) (xth : Int) (xrm : Int) (xsv : Int) (xln : Int) (xat : Int) (xer : Int) (xwr : Int) (xwd : Int) (xlo : Int) (xhi : Int) (xwl : Int) (xml : Int) (xkl : Int) (xfi : Int) (xse : Int) (xdn : Int) (xon : Int) (xtw : Int) (xol : Int) (xrw : Int) (xgl : Int) (xus : Int) (xpr : Int) (xmk : Int) (xab : Int) (g : Nat → Int) (rs : List Rl) (ps : List Pr) (md : Int) (th : Int) (nc : Int) (z : Int) (b : Int) (hM : MRow g rs ps md th nc) (hW : RW rs) (hz : -2147483648 ≤ z ∧ z < 2147483648) (hb : b = 0 ∨ b = 1) : CT l D K z0 yX11_collision cX11_collision 3 (some .int) rm_X11_collision [.ref m0, .int (iI z), .int (iI b)] [(m0, mO M xth xrm xsv xln xat xer xwr xwd xlo xhi xwl xml xkl xfi xse xdn xon xtw xol xrw xgl xus xpr xmk xab), (M 1, aI (K 0) 1247 g)] (fun v9 u9 => (∃ (lo2 : Int), ∃ (hi2 : Int), v9 = some (.int (iI 0)) ∧ (z < 0 ∨ ((colO rs rs.length).length : Int) ≤ z) ∧ u9 = [(m0, mO M 1 xrm xsv xln xat xer xwr xwd lo2 hi2 xwl xml xkl xfi xse xdn xon xtw xol xrw xgl xus xpr xmk xab), (M 1, aI (K 0) 1247 g)]) ∨ (∃ (r : Int), ∃ (lo2 : Int), ∃ (hi2 : Int), v9 = some (.int (iI r)) ∧ (∃ x y : Int, 0 ≤ z ∧ (colO rs rs.length)[z.toNat]? = some (x, y) ∧ r = (if b = 1 then y else x)) ∧ u9 = [(m0, mO M 0 xrm xsv xln xat xer xwr xwd lo2 hi2 xwl xml xkl xfi xse xdn xon xtw xol xrw xgl xus xpr xmk xab), (M 1, aI (K 0) 1247 g)])) := by
  refine CT.start RX11 "collision" (by decide) rfl rfl (Nat.le_of_ble_eq_true rfl) ?_
  intro p9 e9 s9 m9 ag9 bl9 mt9 c9 A9 Q9 ls F G hR hl
  have hl : lv_has ls 3 [(0, .ref m0), (1, .int (iI z)), (2, .int (iI b))] := hl
  have hn := hW.1
  have hcb := colO_len rs rs.length
  have hcb2 := Nat.mul_le_mul hn hn
  refine lv_aload_n F.1 F.2.1 dX11_collision_0 rfl (lv_at hl 0 rfl) ?_
  refine ad_iconst F dX11_collision_1 ?_
  refine lv_iload_n F.1 F.2.1 dX11_collision_2 rfl (lv_at hl 1 rfl) ?_
  refine ad_if_lt (tgt := 15) F (by omega) dX11_collision_3 (by decide) (fun cc_1 => ?_) (fun cc_1 => ?_)
  · refine ad_iconst F dX11_collision_15 ?_
    refine lv_goto (tgt := 20) F.1 F.2.1 dX11_collision_16 (by decide) ?_
    refine ad_callV (As := [.int (iI 1), .int (iI 1)]) (rest := []) F G (c_X11_fails_1 l D K z0 m0 M xth xrm xsv xln xat xer xwr xwd xlo xhi xwl xml xkl xfi xse xdn xon xtw xol xrw xgl xus xpr xmk xab 1 (by omega)) my_X11_fails mv_X11_111 (wr := [(M 1, aI (K 0) 1247 g)]) (isC := [0]) (isR := [1]) ⟨rfl, rfl, rfl, rfl, by decide⟩ 11 0 rfl rfl rfl rfl ⟨Nat.le_of_ble_eq_true rfl, Nat.le_of_ble_eq_true rfl⟩ ⟨Nat.le_of_ble_eq_true rfl, Nat.le_of_ble_eq_true rfl⟩ (Nat.le_of_ble_eq_true rfl) hl.1 (cells9 := 0) (slots9 := 0) ⟨rfl, rfl⟩ dX11_collision_20 (fun v u H locs hw_2 G => ?_)
    obtain ⟨rfl, rfl⟩ := hw_2
    replace G := G.perm (ws' := [(m0, mO M 1 xrm xsv xln xat xer xwr xwd xlo xhi xwl xml xkl xfi xse xdn xon xtw xol xrw xgl xus xpr xmk xab), (M 1, aI (K 0) 1247 g)]) [1, 0] rfl rfl
    refine W.eq (g2 := F0 m9 23 ls [.int (iI 1)]) rfl ?_
    refine ad_if_eq (tgt := 28) F (by decide) dX11_collision_23 (by decide) (fun cc_3 => absurd cc_3 (by decide)) (fun _ => ?_)
    refine ad_iconst F dX11_collision_26 ?_
    exact ad_ireturn F G hR rfl (Nat.le_of_ble_eq_true rfl) (Nat.le_of_ble_eq_true rfl) (Or.inl ⟨xlo, xhi, rfl, (by omega), rfl⟩) dX11_collision_27
  · refine lv_iload_n F.1 F.2.1 dX11_collision_6 rfl (lv_at hl 1 rfl) ?_
    refine lv_aload_n F.1 F.2.1 dX11_collision_7 rfl (lv_at hl 0 rfl) ?_
    refine lv_iload_n F.1 F.2.1 dX11_collision_8 rfl (lv_at hl 1 rfl) ?_
    refine ad_callV (As := [.int (iI z)]) (rest := [.int (iI z), .int (iI 1), .ref m0]) F G (c_X11_findCollision l D K z0 m0 M xth xrm xsv xln xat xer xwr xwd xlo xhi xwl xml xkl xfi xse xdn xon xtw xol xrw xgl xus xpr xmk xab g rs ps md th nc z hM hW hz) my_X11_findCollision mv_X11_209 (wr := []) (isC := [0, 1]) (isR := []) ⟨rfl, rfl, rfl, rfl, by decide⟩ 11 0 rfl rfl rfl rfl ⟨Nat.le_of_ble_eq_true rfl, Nat.le_of_ble_eq_true rfl⟩ ⟨Nat.le_of_ble_eq_true rfl, Nat.le_of_ble_eq_true rfl⟩ (Nat.le_of_ble_eq_true rfl) hl.1 (cells9 := 0) (slots9 := 0) ⟨rfl, rfl⟩ dX11_collision_9 (fun v u H locs hw_4 G => ?_)
    obtain ⟨lo2_5, hi2_6, rfl, hc_7, rfl⟩ := hw_4
    replace G := G.perm (ws' := [(m0, mO M xth xrm xsv xln xat xer xwr xwd lo2_5 hi2_6 xwl xml xkl xfi xse xdn xon xtw xol xrw xgl xus xpr xmk xab), (M 1, aI (K 0) 1247 g)]) [0, 1] rfl rfl
    refine W.eq (g2 := F0 m9 12 ls [.int (iI ((colO rs rs.length).length : Int)), .int (iI z), .int (iI 1), .ref m0]) rfl ?_
    refine ad_icmp_lt (tgt := 19) F (by omega) dX11_collision_12 (by decide) (fun cc_8 => ?_) (fun cc_8 => ?_)
    · refine ad_iconst F dX11_collision_19 ?_
      refine ad_callV (As := [.int (iI 1), .int (iI 0)]) (rest := []) F G (c_X11_fails_0 l D K z0 m0 M xth xrm xsv xln xat xer xwr xwd lo2_5 hi2_6 xwl xml xkl xfi xse xdn xon xtw xol xrw xgl xus xpr xmk xab 1 (by omega)) my_X11_fails mv_X11_111 (wr := [(M 1, aI (K 0) 1247 g)]) (isC := [0]) (isR := [1]) ⟨rfl, rfl, rfl, rfl, by decide⟩ 11 0 rfl rfl rfl rfl ⟨Nat.le_of_ble_eq_true rfl, Nat.le_of_ble_eq_true rfl⟩ ⟨Nat.le_of_ble_eq_true rfl, Nat.le_of_ble_eq_true rfl⟩ (Nat.le_of_ble_eq_true rfl) hl.1 (cells9 := 0) (slots9 := 0) ⟨rfl, rfl⟩ dX11_collision_20 (fun v u H locs hw_9 G => ?_)
      obtain ⟨rfl, rfl⟩ := hw_9
      replace G := G.perm (ws' := [(m0, mO M 0 xrm xsv xln xat xer xwr xwd lo2_5 hi2_6 xwl xml xkl xfi xse xdn xon xtw xol xrw xgl xus xpr xmk xab), (M 1, aI (K 0) 1247 g)]) [1, 0] rfl rfl
      refine W.eq (g2 := F0 m9 23 ls [.int (iI 0)]) rfl ?_
      refine ad_if_eq (tgt := 28) F (by decide) dX11_collision_23 (by decide) (fun _ => ?_) (fun cc_10 => absurd cc_10 (by decide))
      refine lv_iload_n F.1 F.2.1 dX11_collision_28 rfl (lv_at hl 2 rfl) ?_
      refine ad_if_eq (tgt := 39) F (by omega) dX11_collision_29 (by decide) (fun cc_11 => ?_) (fun cc_11 => ?_)
      · refine lv_aload_n F.1 F.2.1 dX11_collision_39 rfl (lv_at hl 0 rfl) ?_
        refine ad_get F G fl_X11_203 0 rfl rfl dX11_collision_40 ?_
        exact ad_ireturn F G hR rfl (Nat.le_of_ble_eq_true rfl) (Nat.le_of_ble_eq_true rfl) (Or.inr (⟨lo2_5, lo2_5, hi2_6, rfl, ⟨_, _, by omega, hc_7 (by omega) (by omega), by split <;> first | rfl | omega⟩, rfl⟩)) dX11_collision_43
      · refine lv_aload_n F.1 F.2.1 dX11_collision_32 rfl (lv_at hl 0 rfl) ?_
        refine ad_get F G fl_X11_206 0 rfl rfl dX11_collision_33 ?_
        refine lv_goto (tgt := 43) F.1 F.2.1 dX11_collision_36 (by decide) ?_
        exact ad_ireturn F G hR rfl (Nat.le_of_ble_eq_true rfl) (Nat.le_of_ble_eq_true rfl) (Or.inr (⟨hi2_6, lo2_5, hi2_6, rfl, ⟨_, _, by omega, hc_7 (by omega) (by omega), by split <;> first | rfl | omega⟩, rfl⟩)) dX11_collision_43
    · refine ad_iconst F dX11_collision_15 ?_
      refine lv_goto (tgt := 20) F.1 F.2.1 dX11_collision_16 (by decide) ?_
      refine ad_callV (As := [.int (iI 1), .int (iI 1)]) (rest := []) F G (c_X11_fails_1 l D K z0 m0 M xth xrm xsv xln xat xer xwr xwd lo2_5 hi2_6 xwl xml xkl xfi xse xdn xon xtw xol xrw xgl xus xpr xmk xab 1 (by omega)) my_X11_fails mv_X11_111 (wr := [(M 1, aI (K 0) 1247 g)]) (isC := [0]) (isR := [1]) ⟨rfl, rfl, rfl, rfl, by decide⟩ 11 0 rfl rfl rfl rfl ⟨Nat.le_of_ble_eq_true rfl, Nat.le_of_ble_eq_true rfl⟩ ⟨Nat.le_of_ble_eq_true rfl, Nat.le_of_ble_eq_true rfl⟩ (Nat.le_of_ble_eq_true rfl) hl.1 (cells9 := 0) (slots9 := 0) ⟨rfl, rfl⟩ dX11_collision_20 (fun v u H locs hw_12 G => ?_)
      obtain ⟨rfl, rfl⟩ := hw_12
      replace G := G.perm (ws' := [(m0, mO M 1 xrm xsv xln xat xer xwr xwd lo2_5 hi2_6 xwl xml xkl xfi xse xdn xon xtw xol xrw xgl xus xpr xmk xab), (M 1, aI (K 0) 1247 g)]) [1, 0] rfl rfl
      refine W.eq (g2 := F0 m9 23 ls [.int (iI 1)]) rfl ?_
      refine ad_if_eq (tgt := 28) F (by decide) dX11_collision_23 (by decide) (fun cc_13 => absurd cc_13 (by decide)) (fun _ => ?_)
      refine ad_iconst F dX11_collision_26 ?_
      exact ad_ireturn F G hR rfl (Nat.le_of_ble_eq_true rfl) (Nat.le_of_ble_eq_true rfl) (Or.inl ⟨lo2_5, hi2_6, rfl, (by omega), rfl⟩) dX11_collision_27

def rm_X11_rule : Room := { frames := 4, cells := 0, slots := 0, locals := 79 }
set_option maxHeartbeats 4000000 in
set_option maxRecDepth 100000 in
theorem c_X11_rule (l : Launch) (D : va_G) (K : Nat → ClassId) (z0 : Nat) (m0 : Nat) (M : Nat → Nat) (xth : Int) (xrm : Int) (xsv : Int) (xln : Int) (xat : Int) (xer : Int) (xwr : Int) (xwd : Int) (xlo : Int) (xhi : Int) (xwl : Int) (xml : Int) (xkl : Int) (xfi : Int) (xse : Int) (xdn : Int) (xon : Int) (xtw : Int) (xol : Int) (xrw : Int) (xgl : Int) (xus : Int) (xpr : Int) (xmk : Int) (xab : Int) (g : Nat → Int) (rs : List Rl) (ps : List Pr) (md : Int) (th : Int) (nc : Int) (z : Int) (w : Int) (hM : MRow g rs ps md th nc) (hW : RW rs) (hz : -2147483648 ≤ z ∧ z < 2147483648) (hw : -2147483648 ≤ w ∧ w < 2147483648) : CT l D K z0 yX11_rule cX11_rule 3 (some .int) rm_X11_rule [.ref m0, .int (iI z), .int (iI w)] [(m0, mO M xth xrm xsv xln xat xer xwr xwd xlo xhi xwl xml xkl xfi xse xdn xon xtw xol xrw xgl xus xpr xmk xab), (M 1, aI (K 0) 1247 g)] (fun v9 u9 => (v9 = some (.int (iI 0)) ∧ (¬ (0 ≤ z ∧ z < rs.length)) ∧ u9 = [(m0, mO M 1 xrm xsv xln xat xer xwr xwd xlo xhi xwl xml xkl xfi xse xdn xon xtw xol xrw xgl xus xpr xmk xab), (M 1, aI (K 0) 1247 g)]) ∨ (v9 = some (.int (iI 0)) ∧ (0 ≤ z ∧ z < rs.length) ∧ (¬ (0 ≤ w ∧ w ≤ 5)) ∧ u9 = [(m0, mO M 2 xrm xsv xln xat xer xwr xwd xlo xhi xwl xml xkl xfi xse xdn xon xtw xol xrw xgl xus xpr xmk xab), (M 1, aI (K 0) 1247 g)]) ∨ (v9 = some (.int (iI (ruA rs z w))) ∧ (0 ≤ z ∧ z < rs.length) ∧ (0 ≤ w ∧ w ≤ 5) ∧ u9 = [(m0, mO M 0 xrm xsv xln xat xer xwr xwd xlo xhi xwl xml xkl xfi xse xdn xon xtw xol xrw xgl xus xpr xmk xab), (M 1, aI (K 0) 1247 g)])) := by
  refine CT.start RX11 "rule" (by decide) rfl rfl (Nat.le_of_ble_eq_true rfl) ?_
  intro p9 e9 s9 m9 ag9 bl9 mt9 c9 A9 Q9 ls F G hR hl
  have hl : lv_has ls 3 [(0, .ref m0), (1, .int (iI z)), (2, .int (iI w))] := hl
  have hn := hW.1
  refine lv_aload_n F.1 F.2.1 dX11_rule_0 rfl (lv_at hl 0 rfl) ?_
  refine ad_iconst F dX11_rule_1 ?_
  refine lv_aload_n F.1 F.2.1 dX11_rule_2 rfl (lv_at hl 0 rfl) ?_
  refine lv_iload_n F.1 F.2.1 dX11_rule_3 rfl (lv_at hl 1 rfl) ?_
  refine ad_callV (As := [.int (iI z)]) (rest := [.int (iI 1), .ref m0]) F G (c_X11_isRule l D K z0 m0 M xth xrm xsv xln xat xer xwr xwd xlo xhi xwl xml xkl xfi xse xdn xon xtw xol xrw xgl xus xpr xmk xab g rs ps md th nc z hM hW hz) my_X11_isRule mv_X11_171 (wr := []) (isC := [0, 1]) (isR := []) ⟨rfl, rfl, rfl, rfl, by decide⟩ 11 0 rfl rfl rfl rfl ⟨Nat.le_of_ble_eq_true rfl, Nat.le_of_ble_eq_true rfl⟩ ⟨Nat.le_of_ble_eq_true rfl, Nat.le_of_ble_eq_true rfl⟩ (Nat.le_of_ble_eq_true rfl) hl.1 (cells9 := 0) (slots9 := 0) ⟨rfl, rfl⟩ dX11_rule_4 (fun v u H locs hw_1 G => ?_)
  rcases hw_1 with ⟨rfl, hc_2, rfl⟩ | ⟨rfl, hc_3, rfl⟩
  · replace G := G.perm (ws' := [(m0, mO M xth xrm xsv xln xat xer xwr xwd xlo xhi xwl xml xkl xfi xse xdn xon xtw xol xrw xgl xus xpr xmk xab), (M 1, aI (K 0) 1247 g)]) [0, 1] rfl rfl
    refine W.eq (g2 := F0 m9 7 ls [.int (iI 1), .int (iI 1), .ref m0]) rfl ?_
    refine ad_if_ne (tgt := 14) F (by decide) dX11_rule_7 (by decide) (fun _ => ?_) (fun cc_4 => absurd cc_4 (by decide))
    refine ad_iconst F dX11_rule_14 ?_
    refine ad_callV (As := [.int (iI 1), .int (iI 0)]) (rest := []) F G (c_X11_fails_0 l D K z0 m0 M xth xrm xsv xln xat xer xwr xwd xlo xhi xwl xml xkl xfi xse xdn xon xtw xol xrw xgl xus xpr xmk xab 1 (by omega)) my_X11_fails mv_X11_111 (wr := [(M 1, aI (K 0) 1247 g)]) (isC := [0]) (isR := [1]) ⟨rfl, rfl, rfl, rfl, by decide⟩ 11 0 rfl rfl rfl rfl ⟨Nat.le_of_ble_eq_true rfl, Nat.le_of_ble_eq_true rfl⟩ ⟨Nat.le_of_ble_eq_true rfl, Nat.le_of_ble_eq_true rfl⟩ (Nat.le_of_ble_eq_true rfl) hl.1 (cells9 := 0) (slots9 := 0) ⟨rfl, rfl⟩ dX11_rule_15 (fun v u H locs hw_5 G => ?_)
    obtain ⟨rfl, rfl⟩ := hw_5
    replace G := G.perm (ws' := [(m0, mO M 0 xrm xsv xln xat xer xwr xwd xlo xhi xwl xml xkl xfi xse xdn xon xtw xol xrw xgl xus xpr xmk xab), (M 1, aI (K 0) 1247 g)]) [1, 0] rfl rfl
    refine W.eq (g2 := F0 m9 18 ls [.int (iI 0)]) rfl ?_
    refine ad_if_ne (tgt := 43) F (by decide) dX11_rule_18 (by decide) (fun cc_6 => absurd cc_6 (by decide)) (fun _ => ?_)
    refine lv_aload_n F.1 F.2.1 dX11_rule_21 rfl (lv_at hl 0 rfl) ?_
    refine ad_iconst F dX11_rule_22 ?_
    refine lv_iload_n F.1 F.2.1 dX11_rule_23 rfl (lv_at hl 2 rfl) ?_
    refine ad_iconst F dX11_rule_24 ?_
    refine ad_iconst F dX11_rule_25 ?_
    refine ad_callS (As := [.int (iI w), .int (iI 0), .int (iI 5)]) (rest := [.int (iI 2), .ref m0]) F G (c_X11_isBetween l D K z0 w 0 5 hw (by omega) (by omega)) my_X11_isBetween ms_X11_107 (wr := [(m0, mO M 0 xrm xsv xln xat xer xwr xwd xlo xhi xwl xml xkl xfi xse xdn xon xtw xol xrw xgl xus xpr xmk xab), (M 1, aI (K 0) 1247 g)]) (isC := []) (isR := [0, 1]) ⟨rfl, rfl, rfl, rfl, by decide⟩ rfl rfl ⟨Nat.le_of_ble_eq_true rfl, Nat.le_of_ble_eq_true rfl⟩ ⟨Nat.le_of_ble_eq_true rfl, Nat.le_of_ble_eq_true rfl⟩ (Nat.le_of_ble_eq_true rfl) hl.1 (cells9 := 0) (slots9 := 0) ⟨rfl, rfl⟩ dX11_rule_26 (fun v u H locs hw_7 G => ?_)
    rcases hw_7 with ⟨rfl, hc_8, rfl⟩ | ⟨rfl, hc_9, rfl⟩
    · replace G := G.perm (ws' := [(m0, mO M 0 xrm xsv xln xat xer xwr xwd xlo xhi xwl xml xkl xfi xse xdn xon xtw xol xrw xgl xus xpr xmk xab), (M 1, aI (K 0) 1247 g)]) [0, 1] rfl rfl
      refine W.eq (g2 := F0 m9 29 ls [.int (iI 1), .int (iI 2), .ref m0]) rfl ?_
      refine ad_if_ne (tgt := 36) F (by decide) dX11_rule_29 (by decide) (fun _ => ?_) (fun cc_10 => absurd cc_10 (by decide))
      refine ad_iconst F dX11_rule_36 ?_
      refine ad_callV (As := [.int (iI 2), .int (iI 0)]) (rest := []) F G (c_X11_fails_0 l D K z0 m0 M 0 xrm xsv xln xat xer xwr xwd xlo xhi xwl xml xkl xfi xse xdn xon xtw xol xrw xgl xus xpr xmk xab 2 (by omega)) my_X11_fails mv_X11_111 (wr := [(M 1, aI (K 0) 1247 g)]) (isC := [0]) (isR := [1]) ⟨rfl, rfl, rfl, rfl, by decide⟩ 11 0 rfl rfl rfl rfl ⟨Nat.le_of_ble_eq_true rfl, Nat.le_of_ble_eq_true rfl⟩ ⟨Nat.le_of_ble_eq_true rfl, Nat.le_of_ble_eq_true rfl⟩ (Nat.le_of_ble_eq_true rfl) hl.1 (cells9 := 0) (slots9 := 0) ⟨rfl, rfl⟩ dX11_rule_37 (fun v u H locs hw_11 G => ?_)
      obtain ⟨rfl, rfl⟩ := hw_11
      replace G := G.perm (ws' := [(m0, mO M 0 xrm xsv xln xat xer xwr xwd xlo xhi xwl xml xkl xfi xse xdn xon xtw xol xrw xgl xus xpr xmk xab), (M 1, aI (K 0) 1247 g)]) [1, 0] rfl rfl
      refine W.eq (g2 := F0 m9 40 ls [.int (iI 0)]) rfl ?_
      refine ad_if_eq (tgt := 45) F (by decide) dX11_rule_40 (by decide) (fun _ => ?_) (fun cc_12 => absurd cc_12 (by decide))
      refine lv_iload_n F.1 F.2.1 dX11_rule_45 rfl (lv_at hl 2 rfl) ?_
      refine ad_iconst F dX11_rule_46 ?_
      refine ad_icmp_ne (tgt := 58) F (by omega) dX11_rule_47 (by decide) (fun cc_13 => ?_) (fun cc_13 => ?_)
      · refine lv_aload_n F.1 F.2.1 dX11_rule_58 rfl (lv_at hl 0 rfl) ?_
        refine lv_iload_n F.1 F.2.1 dX11_rule_59 rfl (lv_at hl 1 rfl) ?_
        refine lv_iload_n F.1 F.2.1 dX11_rule_60 rfl (lv_at hl 2 rfl) ?_
        refine ad_callV (As := [.int (iI z), .int (iI w)]) (rest := []) F G (c_X11_of_w l D K z0 m0 M 0 xrm xsv xln xat xer xwr xwd xlo xhi xwl xml xkl xfi xse xdn xon xtw xol xrw xgl xus xpr xmk xab g rs ps md th nc z w hM hW hc_2 (by omega)) my_X11_of mv_X11_99 (wr := []) (isC := [0, 1]) (isR := []) ⟨rfl, rfl, rfl, rfl, by decide⟩ 11 0 rfl rfl rfl rfl ⟨Nat.le_of_ble_eq_true rfl, Nat.le_of_ble_eq_true rfl⟩ ⟨Nat.le_of_ble_eq_true rfl, Nat.le_of_ble_eq_true rfl⟩ (Nat.le_of_ble_eq_true rfl) hl.1 (cells9 := 0) (slots9 := 0) ⟨rfl, rfl⟩ dX11_rule_61 (fun v u H locs hw_14 G => ?_)
        obtain ⟨rfl, rfl⟩ := hw_14
        replace G := G.perm (ws' := [(m0, mO M 0 xrm xsv xln xat xer xwr xwd xlo xhi xwl xml xkl xfi xse xdn xon xtw xol xrw xgl xus xpr xmk xab), (M 1, aI (K 0) 1247 g)]) [0, 1] rfl rfl
        refine W.eq (g2 := F0 m9 64 ls [.int (iI (ruA rs z w))]) rfl ?_
        exact ad_ireturn F G hR rfl (Nat.le_of_ble_eq_true rfl) (Nat.le_of_ble_eq_true rfl) (Or.inr (Or.inr (⟨rfl, hc_2, hc_8, rfl⟩))) dX11_rule_64
      · refine lv_aload_n F.1 F.2.1 dX11_rule_50 rfl (lv_at hl 0 rfl) ?_
        refine lv_iload_n F.1 F.2.1 dX11_rule_51 rfl (lv_at hl 1 rfl) ?_
        refine ad_callV (As := [.int (iI z)]) (rest := []) F G (c_X11_countBetter l D K z0 m0 M 0 xrm xsv xln xat xer xwr xwd xlo xhi xwl xml xkl xfi xse xdn xon xtw xol xrw xgl xus xpr xmk xab g rs ps md th nc z hM hW hc_2) my_X11_countBetter mv_X11_181 (wr := []) (isC := [0, 1]) (isR := []) ⟨rfl, rfl, rfl, rfl, by decide⟩ 11 0 rfl rfl rfl rfl ⟨Nat.le_of_ble_eq_true rfl, Nat.le_of_ble_eq_true rfl⟩ ⟨Nat.le_of_ble_eq_true rfl, Nat.le_of_ble_eq_true rfl⟩ (Nat.le_of_ble_eq_true rfl) hl.1 (cells9 := 0) (slots9 := 0) ⟨rfl, rfl⟩ dX11_rule_52 (fun v u H locs hw_15 G => ?_)
        obtain ⟨rfl, rfl⟩ := hw_15
        replace G := G.perm (ws' := [(m0, mO M 0 xrm xsv xln xat xer xwr xwd xlo xhi xwl xml xkl xfi xse xdn xon xtw xol xrw xgl xus xpr xmk xab), (M 1, aI (K 0) 1247 g)]) [0, 1] rfl rfl
        refine W.eq (g2 := F0 m9 55 ls [.int (iI (cntb (fun o => btb rs o z) rs.length))]) rfl ?_
        refine lv_goto (tgt := 64) F.1 F.2.1 dX11_rule_55 (by decide) ?_
        exact ad_ireturn F G hR rfl (Nat.le_of_ble_eq_true rfl) (Nat.le_of_ble_eq_true rfl) (Or.inr (Or.inr (⟨(ad_eqi (by rw [cc_13]; rfl)), hc_2, hc_8, rfl⟩))) dX11_rule_64
    · replace G := G.perm (ws' := [(m0, mO M 0 xrm xsv xln xat xer xwr xwd xlo xhi xwl xml xkl xfi xse xdn xon xtw xol xrw xgl xus xpr xmk xab), (M 1, aI (K 0) 1247 g)]) [0, 1] rfl rfl
      refine W.eq (g2 := F0 m9 29 ls [.int (iI 0), .int (iI 2), .ref m0]) rfl ?_
      refine ad_if_ne (tgt := 36) F (by decide) dX11_rule_29 (by decide) (fun cc_16 => absurd cc_16 (by decide)) (fun _ => ?_)
      refine ad_iconst F dX11_rule_32 ?_
      refine lv_goto (tgt := 37) F.1 F.2.1 dX11_rule_33 (by decide) ?_
      refine ad_callV (As := [.int (iI 2), .int (iI 1)]) (rest := []) F G (c_X11_fails_1 l D K z0 m0 M 0 xrm xsv xln xat xer xwr xwd xlo xhi xwl xml xkl xfi xse xdn xon xtw xol xrw xgl xus xpr xmk xab 2 (by omega)) my_X11_fails mv_X11_111 (wr := [(M 1, aI (K 0) 1247 g)]) (isC := [0]) (isR := [1]) ⟨rfl, rfl, rfl, rfl, by decide⟩ 11 0 rfl rfl rfl rfl ⟨Nat.le_of_ble_eq_true rfl, Nat.le_of_ble_eq_true rfl⟩ ⟨Nat.le_of_ble_eq_true rfl, Nat.le_of_ble_eq_true rfl⟩ (Nat.le_of_ble_eq_true rfl) hl.1 (cells9 := 0) (slots9 := 0) ⟨rfl, rfl⟩ dX11_rule_37 (fun v u H locs hw_17 G => ?_)
      obtain ⟨rfl, rfl⟩ := hw_17
      replace G := G.perm (ws' := [(m0, mO M 2 xrm xsv xln xat xer xwr xwd xlo xhi xwl xml xkl xfi xse xdn xon xtw xol xrw xgl xus xpr xmk xab), (M 1, aI (K 0) 1247 g)]) [1, 0] rfl rfl
      refine W.eq (g2 := F0 m9 40 ls [.int (iI 1)]) rfl ?_
      refine ad_if_eq (tgt := 45) F (by decide) dX11_rule_40 (by decide) (fun cc_18 => absurd cc_18 (by decide)) (fun _ => ?_)
      refine ad_iconst F dX11_rule_43 ?_
      exact ad_ireturn F G hR rfl (Nat.le_of_ble_eq_true rfl) (Nat.le_of_ble_eq_true rfl) (Or.inr (Or.inl ⟨rfl, hc_2, hc_9, rfl⟩)) dX11_rule_44
  · replace G := G.perm (ws' := [(m0, mO M xth xrm xsv xln xat xer xwr xwd xlo xhi xwl xml xkl xfi xse xdn xon xtw xol xrw xgl xus xpr xmk xab), (M 1, aI (K 0) 1247 g)]) [0, 1] rfl rfl
    refine W.eq (g2 := F0 m9 7 ls [.int (iI 0), .int (iI 1), .ref m0]) rfl ?_
    refine ad_if_ne (tgt := 14) F (by decide) dX11_rule_7 (by decide) (fun cc_19 => absurd cc_19 (by decide)) (fun _ => ?_)
    refine ad_iconst F dX11_rule_10 ?_
    refine lv_goto (tgt := 15) F.1 F.2.1 dX11_rule_11 (by decide) ?_
    refine ad_callV (As := [.int (iI 1), .int (iI 1)]) (rest := []) F G (c_X11_fails_1 l D K z0 m0 M xth xrm xsv xln xat xer xwr xwd xlo xhi xwl xml xkl xfi xse xdn xon xtw xol xrw xgl xus xpr xmk xab 1 (by omega)) my_X11_fails mv_X11_111 (wr := [(M 1, aI (K 0) 1247 g)]) (isC := [0]) (isR := [1]) ⟨rfl, rfl, rfl, rfl, by decide⟩ 11 0 rfl rfl rfl rfl ⟨Nat.le_of_ble_eq_true rfl, Nat.le_of_ble_eq_true rfl⟩ ⟨Nat.le_of_ble_eq_true rfl, Nat.le_of_ble_eq_true rfl⟩ (Nat.le_of_ble_eq_true rfl) hl.1 (cells9 := 0) (slots9 := 0) ⟨rfl, rfl⟩ dX11_rule_15 (fun v u H locs hw_20 G => ?_)
    obtain ⟨rfl, rfl⟩ := hw_20
    replace G := G.perm (ws' := [(m0, mO M 1 xrm xsv xln xat xer xwr xwd xlo xhi xwl xml xkl xfi xse xdn xon xtw xol xrw xgl xus xpr xmk xab), (M 1, aI (K 0) 1247 g)]) [1, 0] rfl rfl
    refine W.eq (g2 := F0 m9 18 ls [.int (iI 1)]) rfl ?_
    refine ad_if_ne (tgt := 43) F (by decide) dX11_rule_18 (by decide) (fun _ => ?_) (fun cc_21 => absurd cc_21 (by decide))
    refine ad_iconst F dX11_rule_43 ?_
    exact ad_ireturn F G hR rfl (Nat.le_of_ble_eq_true rfl) (Nat.le_of_ble_eq_true rfl) (Or.inl ⟨rfl, hc_3, rfl⟩) dX11_rule_44

def rm_X11_letter : Room := { frames := 3, cells := 0, slots := 0, locals := 57 }
set_option maxHeartbeats 4000000 in
set_option maxRecDepth 100000 in
theorem c_X11_letter (l : Launch) (D : va_G) (K : Nat → ClassId) (z0 : Nat) (m0 : Nat) (M : Nat → Nat) (xth : Int) (xrm : Int) (xsv : Int) (xln : Int) (xat : Int) (xer : Int) (xwr : Int) (xwd : Int) (xlo : Int) (xhi : Int) (xwl : Int) (xml : Int) (xkl : Int) (xfi : Int) (xse : Int) (xdn : Int) (xon : Int) (xtw : Int) (xol : Int) (xrw : Int) (xgl : Int) (xus : Int) (xpr : Int) (xmk : Int) (xab : Int) (g : Nat → Int) (rs : List Rl) (ps : List Pr) (md : Int) (th : Int) (nc : Int) (z : Int) (b : Int) (k : Int) (hM : MRow g rs ps md th nc) (hW : RW rs) (hz : -2147483648 ≤ z ∧ z < 2147483648) (hb : b = 0 ∨ b = 1) (hk : -2147483648 ≤ k ∧ k < 2147483648) : CT l D K z0 yX11_letter cX11_letter 4 (some .char) rm_X11_letter [.ref m0, .int (iI z), .int (iI b), .int (iI k)] [(m0, mO M xth xrm xsv xln xat xer xwr xwd xlo xhi xwl xml xkl xfi xse xdn xon xtw xol xrw xgl xus xpr xmk xab), (M 1, aI (K 0) 1247 g)] (fun v9 u9 => (v9 = some (.int (iI 0)) ∧ (¬ (0 ≤ z ∧ z < rs.length)) ∧ u9 = [(m0, mO M 1 xrm xsv xln xat xer xwr xwd xlo xhi xwl xml xkl xfi xse xdn xon xtw xol xrw xgl xus xpr xmk xab), (M 1, aI (K 0) 1247 g)]) ∨ (v9 = some (.int (iI 0)) ∧ (0 ≤ z ∧ z < rs.length) ∧ (¬ (0 ≤ k ∧ k < (fmo (rget rs z) b).length)) ∧ u9 = [(m0, mO M 2 xrm xsv xln xat xer xwr xwd xlo xhi xwl xml xkl xfi xse xdn xon xtw xol xrw xgl xus xpr xmk xab), (M 1, aI (K 0) 1247 g)]) ∨ (v9 = some (.int (iI (lat (fmo (rget rs z) b) k))) ∧ (0 ≤ z ∧ z < rs.length) ∧ (0 ≤ k ∧ k < (fmo (rget rs z) b).length) ∧ u9 = [(m0, mO M 0 xrm xsv xln xat xer xwr xwd xlo xhi xwl xml xkl xfi xse xdn xon xtw xol xrw xgl xus xpr xmk xab), (M 1, aI (K 0) 1247 g)])) := by
  refine CT.start RX11 "letter" (by decide) rfl rfl (Nat.le_of_ble_eq_true rfl) ?_
  intro p9 e9 s9 m9 ag9 bl9 mt9 c9 A9 Q9 ls F G hR hl
  have hl : lv_has ls 4 [(0, .ref m0), (1, .int (iI z)), (2, .int (iI b)), (3, .int (iI k))] := hl
  have hn := hW.1
  have hfl := (fmo_Fw hW z b).1
  refine lv_aload_n F.1 F.2.1 dX11_letter_0 rfl (lv_at hl 0 rfl) ?_
  refine ad_iconst F dX11_letter_1 ?_
  refine lv_aload_n F.1 F.2.1 dX11_letter_2 rfl (lv_at hl 0 rfl) ?_
  refine lv_iload_n F.1 F.2.1 dX11_letter_3 rfl (lv_at hl 1 rfl) ?_
  refine ad_callV (As := [.int (iI z)]) (rest := [.int (iI 1), .ref m0]) F G (c_X11_isRule l D K z0 m0 M xth xrm xsv xln xat xer xwr xwd xlo xhi xwl xml xkl xfi xse xdn xon xtw xol xrw xgl xus xpr xmk xab g rs ps md th nc z hM hW hz) my_X11_isRule mv_X11_171 (wr := []) (isC := [0, 1]) (isR := []) ⟨rfl, rfl, rfl, rfl, by decide⟩ 11 0 rfl rfl rfl rfl ⟨Nat.le_of_ble_eq_true rfl, Nat.le_of_ble_eq_true rfl⟩ ⟨Nat.le_of_ble_eq_true rfl, Nat.le_of_ble_eq_true rfl⟩ (Nat.le_of_ble_eq_true rfl) hl.1 (cells9 := 0) (slots9 := 0) ⟨rfl, rfl⟩ dX11_letter_4 (fun v u H locs hw_1 G => ?_)
  rcases hw_1 with ⟨rfl, hc_2, rfl⟩ | ⟨rfl, hc_3, rfl⟩
  · replace G := G.perm (ws' := [(m0, mO M xth xrm xsv xln xat xer xwr xwd xlo xhi xwl xml xkl xfi xse xdn xon xtw xol xrw xgl xus xpr xmk xab), (M 1, aI (K 0) 1247 g)]) [0, 1] rfl rfl
    refine W.eq (g2 := F0 m9 7 ls [.int (iI 1), .int (iI 1), .ref m0]) rfl ?_
    refine ad_if_ne (tgt := 14) F (by decide) dX11_letter_7 (by decide) (fun _ => ?_) (fun cc_4 => absurd cc_4 (by decide))
    refine ad_iconst F dX11_letter_14 ?_
    refine ad_callV (As := [.int (iI 1), .int (iI 0)]) (rest := []) F G (c_X11_fails_0 l D K z0 m0 M xth xrm xsv xln xat xer xwr xwd xlo xhi xwl xml xkl xfi xse xdn xon xtw xol xrw xgl xus xpr xmk xab 1 (by omega)) my_X11_fails mv_X11_111 (wr := [(M 1, aI (K 0) 1247 g)]) (isC := [0]) (isR := [1]) ⟨rfl, rfl, rfl, rfl, by decide⟩ 11 0 rfl rfl rfl rfl ⟨Nat.le_of_ble_eq_true rfl, Nat.le_of_ble_eq_true rfl⟩ ⟨Nat.le_of_ble_eq_true rfl, Nat.le_of_ble_eq_true rfl⟩ (Nat.le_of_ble_eq_true rfl) hl.1 (cells9 := 0) (slots9 := 0) ⟨rfl, rfl⟩ dX11_letter_15 (fun v u H locs hw_5 G => ?_)
    obtain ⟨rfl, rfl⟩ := hw_5
    replace G := G.perm (ws' := [(m0, mO M 0 xrm xsv xln xat xer xwr xwd xlo xhi xwl xml xkl xfi xse xdn xon xtw xol xrw xgl xus xpr xmk xab), (M 1, aI (K 0) 1247 g)]) [1, 0] rfl rfl
    refine W.eq (g2 := F0 m9 18 ls [.int (iI 0)]) rfl ?_
    refine ad_if_ne (tgt := 50) F (by decide) dX11_letter_18 (by decide) (fun cc_6 => absurd cc_6 (by decide)) (fun _ => ?_)
    refine lv_aload_n F.1 F.2.1 dX11_letter_21 rfl (lv_at hl 0 rfl) ?_
    refine ad_iconst F dX11_letter_22 ?_
    refine lv_iload_n F.1 F.2.1 dX11_letter_23 rfl (lv_at hl 3 rfl) ?_
    refine ad_iconst F dX11_letter_24 ?_
    refine lv_aload_n F.1 F.2.1 dX11_letter_25 rfl (lv_at hl 0 rfl) ?_
    refine lv_iload_n F.1 F.2.1 dX11_letter_26 rfl (lv_at hl 1 rfl) ?_
    refine lv_iload_n F.1 F.2.1 dX11_letter_27 rfl (lv_at hl 2 rfl) ?_
    refine ad_callV (As := [.int (iI z), .int (iI b)]) (rest := [.int (iI 0), .int (iI k), .int (iI 2), .ref m0]) F G (c_X11_lengthOf l D K z0 m0 M 0 xrm xsv xln xat xer xwr xwd xlo xhi xwl xml xkl xfi xse xdn xon xtw xol xrw xgl xus xpr xmk xab g rs ps md th nc z b hM hW hc_2 hb) my_X11_lengthOf mv_X11_185 (wr := []) (isC := [0, 1]) (isR := []) ⟨rfl, rfl, rfl, rfl, by decide⟩ 11 0 rfl rfl rfl rfl ⟨Nat.le_of_ble_eq_true rfl, Nat.le_of_ble_eq_true rfl⟩ ⟨Nat.le_of_ble_eq_true rfl, Nat.le_of_ble_eq_true rfl⟩ (Nat.le_of_ble_eq_true rfl) hl.1 (cells9 := 0) (slots9 := 0) ⟨rfl, rfl⟩ dX11_letter_28 (fun v u H locs hw_7 G => ?_)
    obtain ⟨rfl, rfl⟩ := hw_7
    replace G := G.perm (ws' := [(m0, mO M 0 xrm xsv xln xat xer xwr xwd xlo xhi xwl xml xkl xfi xse xdn xon xtw xol xrw xgl xus xpr xmk xab), (M 1, aI (K 0) 1247 g)]) [0, 1] rfl rfl
    refine W.eq (g2 := F0 m9 31 ls [.int (iI ((fmo (rget rs z) b).length : Int)), .int (iI 0), .int (iI k), .int (iI 2), .ref m0]) rfl ?_
    refine ad_iconst F dX11_letter_31 ?_
    refine ad_isub F dX11_letter_32 ?_
    refine ad_callS (As := [.int (iI k), .int (iI 0), .int (iI (((fmo (rget rs z) b).length : Int) - 1))]) (rest := [.int (iI 2), .ref m0]) F G (c_X11_isBetween l D K z0 k 0 (((fmo (rget rs z) b).length : Int) - 1) hk (by omega) (by omega)) my_X11_isBetween ms_X11_107 (wr := [(m0, mO M 0 xrm xsv xln xat xer xwr xwd xlo xhi xwl xml xkl xfi xse xdn xon xtw xol xrw xgl xus xpr xmk xab), (M 1, aI (K 0) 1247 g)]) (isC := []) (isR := [0, 1]) ⟨rfl, rfl, rfl, rfl, by decide⟩ rfl rfl ⟨Nat.le_of_ble_eq_true rfl, Nat.le_of_ble_eq_true rfl⟩ ⟨Nat.le_of_ble_eq_true rfl, Nat.le_of_ble_eq_true rfl⟩ (Nat.le_of_ble_eq_true rfl) hl.1 (cells9 := 0) (slots9 := 0) ⟨rfl, rfl⟩ dX11_letter_33 (fun v u H locs hw_8 G => ?_)
    rcases hw_8 with ⟨rfl, hc_9, rfl⟩ | ⟨rfl, hc_10, rfl⟩
    · replace G := G.perm (ws' := [(m0, mO M 0 xrm xsv xln xat xer xwr xwd xlo xhi xwl xml xkl xfi xse xdn xon xtw xol xrw xgl xus xpr xmk xab), (M 1, aI (K 0) 1247 g)]) [0, 1] rfl rfl
      refine W.eq (g2 := F0 m9 36 ls [.int (iI 1), .int (iI 2), .ref m0]) rfl ?_
      refine ad_if_ne (tgt := 43) F (by decide) dX11_letter_36 (by decide) (fun _ => ?_) (fun cc_11 => absurd cc_11 (by decide))
      refine ad_iconst F dX11_letter_43 ?_
      refine ad_callV (As := [.int (iI 2), .int (iI 0)]) (rest := []) F G (c_X11_fails_0 l D K z0 m0 M 0 xrm xsv xln xat xer xwr xwd xlo xhi xwl xml xkl xfi xse xdn xon xtw xol xrw xgl xus xpr xmk xab 2 (by omega)) my_X11_fails mv_X11_111 (wr := [(M 1, aI (K 0) 1247 g)]) (isC := [0]) (isR := [1]) ⟨rfl, rfl, rfl, rfl, by decide⟩ 11 0 rfl rfl rfl rfl ⟨Nat.le_of_ble_eq_true rfl, Nat.le_of_ble_eq_true rfl⟩ ⟨Nat.le_of_ble_eq_true rfl, Nat.le_of_ble_eq_true rfl⟩ (Nat.le_of_ble_eq_true rfl) hl.1 (cells9 := 0) (slots9 := 0) ⟨rfl, rfl⟩ dX11_letter_44 (fun v u H locs hw_12 G => ?_)
      obtain ⟨rfl, rfl⟩ := hw_12
      replace G := G.perm (ws' := [(m0, mO M 0 xrm xsv xln xat xer xwr xwd xlo xhi xwl xml xkl xfi xse xdn xon xtw xol xrw xgl xus xpr xmk xab), (M 1, aI (K 0) 1247 g)]) [1, 0] rfl rfl
      refine W.eq (g2 := F0 m9 47 ls [.int (iI 0)]) rfl ?_
      refine ad_if_eq (tgt := 52) F (by decide) dX11_letter_47 (by decide) (fun _ => ?_) (fun cc_13 => absurd cc_13 (by decide))
      refine lv_aload_n F.1 F.2.1 dX11_letter_52 rfl (lv_at hl 0 rfl) ?_
      refine lv_iload_n F.1 F.2.1 dX11_letter_53 rfl (lv_at hl 1 rfl) ?_
      refine lv_iload_n F.1 F.2.1 dX11_letter_54 rfl (lv_at hl 2 rfl) ?_
      refine lv_iload_n F.1 F.2.1 dX11_letter_55 rfl (lv_at hl 3 rfl) ?_
      refine ad_callV (As := [.int (iI z), .int (iI b), .int (iI k)]) (rest := []) F G (c_X11_letterOf l D K z0 m0 M 0 xrm xsv xln xat xer xwr xwd xlo xhi xwl xml xkl xfi xse xdn xon xtw xol xrw xgl xus xpr xmk xab g rs ps md th nc z b k hM hW hc_2 hb (by omega)) my_X11_letterOf mv_X11_189 (wr := []) (isC := [0, 1]) (isR := []) ⟨rfl, rfl, rfl, rfl, by decide⟩ 11 0 rfl rfl rfl rfl ⟨Nat.le_of_ble_eq_true rfl, Nat.le_of_ble_eq_true rfl⟩ ⟨Nat.le_of_ble_eq_true rfl, Nat.le_of_ble_eq_true rfl⟩ (Nat.le_of_ble_eq_true rfl) hl.1 (cells9 := 0) (slots9 := 0) ⟨rfl, rfl⟩ dX11_letter_56 (fun v u H locs hw_14 G => ?_)
      obtain ⟨rfl, rfl⟩ := hw_14
      replace G := G.perm (ws' := [(m0, mO M 0 xrm xsv xln xat xer xwr xwd xlo xhi xwl xml xkl xfi xse xdn xon xtw xol xrw xgl xus xpr xmk xab), (M 1, aI (K 0) 1247 g)]) [0, 1] rfl rfl
      refine W.eq (g2 := F0 m9 59 ls [.int (iI (lat (fmo (rget rs z) b) k))]) rfl ?_
      have hlt : 97 ≤ lat (fmo (rget rs z) b) k ∧ lat (fmo (rget rs z) b) k ≤ 122 := lat_let (fmo_Fw hW z b) (k := k) (by omega) (by omega)
      refine lv_i2c (v := iI (lat (fmo (rget rs z) b) k)) F.1 F.2.1 dX11_letter_59 (iI_i2c (by omega)) ?_
      exact ad_zreturn F G hR rfl (Nat.le_of_ble_eq_true rfl) (Nat.le_of_ble_eq_true rfl) (iI_charN (by omega)).1 (Or.inr (Or.inr (⟨rfl, hc_2, (by omega), rfl⟩))) dX11_letter_60
    · replace G := G.perm (ws' := [(m0, mO M 0 xrm xsv xln xat xer xwr xwd xlo xhi xwl xml xkl xfi xse xdn xon xtw xol xrw xgl xus xpr xmk xab), (M 1, aI (K 0) 1247 g)]) [0, 1] rfl rfl
      refine W.eq (g2 := F0 m9 36 ls [.int (iI 0), .int (iI 2), .ref m0]) rfl ?_
      refine ad_if_ne (tgt := 43) F (by decide) dX11_letter_36 (by decide) (fun cc_15 => absurd cc_15 (by decide)) (fun _ => ?_)
      refine ad_iconst F dX11_letter_39 ?_
      refine lv_goto (tgt := 44) F.1 F.2.1 dX11_letter_40 (by decide) ?_
      refine ad_callV (As := [.int (iI 2), .int (iI 1)]) (rest := []) F G (c_X11_fails_1 l D K z0 m0 M 0 xrm xsv xln xat xer xwr xwd xlo xhi xwl xml xkl xfi xse xdn xon xtw xol xrw xgl xus xpr xmk xab 2 (by omega)) my_X11_fails mv_X11_111 (wr := [(M 1, aI (K 0) 1247 g)]) (isC := [0]) (isR := [1]) ⟨rfl, rfl, rfl, rfl, by decide⟩ 11 0 rfl rfl rfl rfl ⟨Nat.le_of_ble_eq_true rfl, Nat.le_of_ble_eq_true rfl⟩ ⟨Nat.le_of_ble_eq_true rfl, Nat.le_of_ble_eq_true rfl⟩ (Nat.le_of_ble_eq_true rfl) hl.1 (cells9 := 0) (slots9 := 0) ⟨rfl, rfl⟩ dX11_letter_44 (fun v u H locs hw_16 G => ?_)
      obtain ⟨rfl, rfl⟩ := hw_16
      replace G := G.perm (ws' := [(m0, mO M 2 xrm xsv xln xat xer xwr xwd xlo xhi xwl xml xkl xfi xse xdn xon xtw xol xrw xgl xus xpr xmk xab), (M 1, aI (K 0) 1247 g)]) [1, 0] rfl rfl
      refine W.eq (g2 := F0 m9 47 ls [.int (iI 1)]) rfl ?_
      refine ad_if_eq (tgt := 52) F (by decide) dX11_letter_47 (by decide) (fun cc_17 => absurd cc_17 (by decide)) (fun _ => ?_)
      refine ad_iconst F dX11_letter_50 ?_
      exact ad_zreturn F G hR rfl (Nat.le_of_ble_eq_true rfl) (Nat.le_of_ble_eq_true rfl) (iI_charN (by omega)).1 (Or.inr (Or.inl ⟨rfl, hc_2, (by omega), rfl⟩)) dX11_letter_51
  · replace G := G.perm (ws' := [(m0, mO M xth xrm xsv xln xat xer xwr xwd xlo xhi xwl xml xkl xfi xse xdn xon xtw xol xrw xgl xus xpr xmk xab), (M 1, aI (K 0) 1247 g)]) [0, 1] rfl rfl
    refine W.eq (g2 := F0 m9 7 ls [.int (iI 0), .int (iI 1), .ref m0]) rfl ?_
    refine ad_if_ne (tgt := 14) F (by decide) dX11_letter_7 (by decide) (fun cc_18 => absurd cc_18 (by decide)) (fun _ => ?_)
    refine ad_iconst F dX11_letter_10 ?_
    refine lv_goto (tgt := 15) F.1 F.2.1 dX11_letter_11 (by decide) ?_
    refine ad_callV (As := [.int (iI 1), .int (iI 1)]) (rest := []) F G (c_X11_fails_1 l D K z0 m0 M xth xrm xsv xln xat xer xwr xwd xlo xhi xwl xml xkl xfi xse xdn xon xtw xol xrw xgl xus xpr xmk xab 1 (by omega)) my_X11_fails mv_X11_111 (wr := [(M 1, aI (K 0) 1247 g)]) (isC := [0]) (isR := [1]) ⟨rfl, rfl, rfl, rfl, by decide⟩ 11 0 rfl rfl rfl rfl ⟨Nat.le_of_ble_eq_true rfl, Nat.le_of_ble_eq_true rfl⟩ ⟨Nat.le_of_ble_eq_true rfl, Nat.le_of_ble_eq_true rfl⟩ (Nat.le_of_ble_eq_true rfl) hl.1 (cells9 := 0) (slots9 := 0) ⟨rfl, rfl⟩ dX11_letter_15 (fun v u H locs hw_19 G => ?_)
    obtain ⟨rfl, rfl⟩ := hw_19
    replace G := G.perm (ws' := [(m0, mO M 1 xrm xsv xln xat xer xwr xwd xlo xhi xwl xml xkl xfi xse xdn xon xtw xol xrw xgl xus xpr xmk xab), (M 1, aI (K 0) 1247 g)]) [1, 0] rfl rfl
    refine W.eq (g2 := F0 m9 18 ls [.int (iI 1)]) rfl ?_
    refine ad_if_ne (tgt := 50) F (by decide) dX11_letter_18 (by decide) (fun _ => ?_) (fun cc_20 => absurd cc_20 (by decide))
    refine ad_iconst F dX11_letter_50 ?_
    exact ad_zreturn F G hR rfl (Nat.le_of_ble_eq_true rfl) (Nat.le_of_ble_eq_true rfl) (iI_charN (by omega)).1 (Or.inl ⟨rfl, hc_3, rfl⟩) dX11_letter_51

def rm_X11_order : Room := { frames := 4, cells := 0, slots := 0, locals := 79 }
set_option maxHeartbeats 4000000 in
set_option maxRecDepth 100000 in
theorem c_X11_order (l : Launch) (D : va_G) (K : Nat → ClassId) (z0 : Nat) (m0 : Nat) (M : Nat → Nat) (xth : Int) (xrm : Int) (xsv : Int) (xln : Int) (xat : Int) (xer : Int) (xwr : Int) (xwd : Int) (xlo : Int) (xhi : Int) (xwl : Int) (xml : Int) (xkl : Int) (xfi : Int) (xse : Int) (xdn : Int) (xon : Int) (xtw : Int) (xol : Int) (xrw : Int) (xgl : Int) (xus : Int) (xpr : Int) (xmk : Int) (xab : Int) (g : Nat → Int) (rs : List Rl) (ps : List Pr) (md : Int) (th : Int) (nc : Int) (z : Int) (hM : MRow g rs ps md th nc) (hW : RW rs) (hz : -2147483648 ≤ z ∧ z < 2147483648) : CT l D K z0 yX11_order cX11_order 4 (some .int) rm_X11_order [.ref m0, .int (iI z)] [(m0, mO M xth xrm xsv xln xat xer xwr xwd xlo xhi xwl xml xkl xfi xse xdn xon xtw xol xrw xgl xus xpr xmk xab), (M 1, aI (K 0) 1247 g)] (fun v9 u9 => (v9 = some (.int (iI 0)) ∧ (∀ j : Int, 0 ≤ j → j < rs.length → cntb (fun o => btb rs o j) rs.length ≠ z) ∧ u9 = [(m0, mO M 1 xrm xsv xln xat xer xwr xwd xlo xhi xwl xml xkl xfi xse xdn xon xtw xol xrw xgl xus xpr xmk xab), (M 1, aI (K 0) 1247 g)]) ∨ (∃ (f : Int), v9 = some (.int (iI f)) ∧ (0 ≤ f ∧ f < rs.length ∧ cntb (fun o => btb rs o f) rs.length = z) ∧ u9 = [(m0, mO M 0 xrm xsv xln xat xer xwr xwd xlo xhi xwl xml xkl xfi xse xdn xon xtw xol xrw xgl xus xpr xmk xab), (M 1, aI (K 0) 1247 g)])) := by
  refine CT.start RX11 "order" (by decide) rfl rfl (Nat.le_of_ble_eq_true rfl) ?_
  intro p9 e9 s9 m9 ag9 bl9 mt9 c9 A9 Q9 ls F G hR hl
  have hl : lv_has ls 4 [(0, .ref m0), (1, .int (iI z))] := hl
  have hn := hW.1
  refine ad_iconst F dX11_order_0 ?_
  refine lv_istore_n (lv' := [(2, .int (iI (-1))), (0, .ref m0), (1, .int (iI z))]) F.1 F.2.1 dX11_order_1 rfl hl (by decide) rfl (fun ls hl => ?_)
  refine ad_iconst F dX11_order_2 ?_
  refine lv_istore_n (lv' := [(3, .int (iI 0)), (2, .int (iI (-1))), (0, .ref m0), (1, .int (iI z))]) F.1 F.2.1 dX11_order_3 rfl hl (by decide) rfl (fun ls hl => ?_)
  have lp4 : ∀ (n4 : Nat) (i : Int) (f : Int) (H : Heap) (locs : List Loc) (ls : Array Slot), (0 ≤ i ∧ i ≤ rs.length) → (-1 ≤ f ∧ f < i) → (f < 0 → ∀ j : Int, 0 ≤ j → j < i → cntb (fun o => btb rs o j) rs.length ≠ z) → (0 ≤ f → cntb (fun o => btb rs o f) rs.length = z) → (rs.length - i) < (n4 : Int) → ad_G D A9 s9.heap H locs [(m0, mO M xth xrm xsv xln xat xer xwr xwd xlo xhi xwl xml xkl xfi xse xdn xon xtw xol xrw xgl xus xpr xmk xab), (M 1, aI (K 0) 1247 g)] → lv_has ls 4 [(0, .ref m0), (1, .int (iI z)), (2, .int (iI f)), (3, .int (iI i))] → W p9 l e9 rm_X11_order s9 m9 ag9 bl9 mt9 c9 H locs 0 0 Q9 (F0 m9 4 ls []) := by
    intro n4
    induction n4 with
    | zero =>
      intro i f H locs ls hi hf hno hyes hm4
      exact absurd hm4 (by omega)
    | succ n4 ih4 =>
      intro i f H locs ls hi hf hno hyes hm4 G hl
      refine lv_iload_n F.1 F.2.1 dX11_order_4 rfl (lv_at hl 3 rfl) ?_
      refine lv_aload_n F.1 F.2.1 dX11_order_5 rfl (lv_at hl 0 rfl) ?_
      refine ad_get F G fl_X11_9 0 rfl rfl dX11_order_6 ?_
      refine ad_iconst F dX11_order_9 ?_
      refine ad_iald F G 1 rfl (w := (rs.length : Int)) (by omega) (hM.1.1) dX11_order_10 ?_
      refine ad_icmp_ge (tgt := 35) F (by omega) dX11_order_11 (by decide) (fun cc_1 => ?_) (fun cc_1 => ?_)
      · refine lv_aload_n F.1 F.2.1 dX11_order_35 rfl (lv_at hl 0 rfl) ?_
        refine ad_iconst F dX11_order_36 ?_
        refine lv_iload_n F.1 F.2.1 dX11_order_37 rfl (lv_at hl 2 rfl) ?_
        refine ad_if_ge (tgt := 45) F (by omega) dX11_order_38 (by decide) (fun cc_2 => ?_) (fun cc_2 => ?_)
        · refine ad_iconst F dX11_order_45 ?_
          refine ad_callV (As := [.int (iI 1), .int (iI 0)]) (rest := []) F G (c_X11_fails_0 l D K z0 m0 M xth xrm xsv xln xat xer xwr xwd xlo xhi xwl xml xkl xfi xse xdn xon xtw xol xrw xgl xus xpr xmk xab 1 (by omega)) my_X11_fails mv_X11_111 (wr := [(M 1, aI (K 0) 1247 g)]) (isC := [0]) (isR := [1]) ⟨rfl, rfl, rfl, rfl, by decide⟩ 11 0 rfl rfl rfl rfl ⟨Nat.le_of_ble_eq_true rfl, Nat.le_of_ble_eq_true rfl⟩ ⟨Nat.le_of_ble_eq_true rfl, Nat.le_of_ble_eq_true rfl⟩ (Nat.le_of_ble_eq_true rfl) hl.1 (cells9 := 0) (slots9 := 0) ⟨rfl, rfl⟩ dX11_order_46 (fun v u H locs hw_3 G => ?_)
          obtain ⟨rfl, rfl⟩ := hw_3
          replace G := G.perm (ws' := [(m0, mO M 0 xrm xsv xln xat xer xwr xwd xlo xhi xwl xml xkl xfi xse xdn xon xtw xol xrw xgl xus xpr xmk xab), (M 1, aI (K 0) 1247 g)]) [1, 0] rfl rfl
          refine W.eq (g2 := F0 m9 49 ls [.int (iI 0)]) rfl ?_
          refine ad_if_eq (tgt := 56) F (by decide) dX11_order_49 (by decide) (fun _ => ?_) (fun cc_4 => absurd cc_4 (by decide))
          refine lv_iload_n F.1 F.2.1 dX11_order_56 rfl (lv_at hl 2 rfl) ?_
          exact ad_ireturn F G hR rfl (Nat.le_of_ble_eq_true rfl) (Nat.le_of_ble_eq_true rfl) (Or.inr (⟨f, rfl, ⟨by omega, by omega, hyes (by omega)⟩, rfl⟩)) dX11_order_57
        · refine ad_iconst F dX11_order_41 ?_
          refine lv_goto (tgt := 46) F.1 F.2.1 dX11_order_42 (by decide) ?_
          refine ad_callV (As := [.int (iI 1), .int (iI 1)]) (rest := []) F G (c_X11_fails_1 l D K z0 m0 M xth xrm xsv xln xat xer xwr xwd xlo xhi xwl xml xkl xfi xse xdn xon xtw xol xrw xgl xus xpr xmk xab 1 (by omega)) my_X11_fails mv_X11_111 (wr := [(M 1, aI (K 0) 1247 g)]) (isC := [0]) (isR := [1]) ⟨rfl, rfl, rfl, rfl, by decide⟩ 11 0 rfl rfl rfl rfl ⟨Nat.le_of_ble_eq_true rfl, Nat.le_of_ble_eq_true rfl⟩ ⟨Nat.le_of_ble_eq_true rfl, Nat.le_of_ble_eq_true rfl⟩ (Nat.le_of_ble_eq_true rfl) hl.1 (cells9 := 0) (slots9 := 0) ⟨rfl, rfl⟩ dX11_order_46 (fun v u H locs hw_5 G => ?_)
          obtain ⟨rfl, rfl⟩ := hw_5
          replace G := G.perm (ws' := [(m0, mO M 1 xrm xsv xln xat xer xwr xwd xlo xhi xwl xml xkl xfi xse xdn xon xtw xol xrw xgl xus xpr xmk xab), (M 1, aI (K 0) 1247 g)]) [1, 0] rfl rfl
          refine W.eq (g2 := F0 m9 49 ls [.int (iI 1)]) rfl ?_
          refine ad_if_eq (tgt := 56) F (by decide) dX11_order_49 (by decide) (fun cc_6 => absurd cc_6 (by decide)) (fun _ => ?_)
          refine ad_iconst F dX11_order_52 ?_
          refine lv_goto (tgt := 57) F.1 F.2.1 dX11_order_53 (by decide) ?_
          exact ad_ireturn F G hR rfl (Nat.le_of_ble_eq_true rfl) (Nat.le_of_ble_eq_true rfl) (Or.inl ⟨rfl, (fun j h1 h2 => hno (by omega) j h1 (by omega)), rfl⟩) dX11_order_57
      · refine lv_aload_n F.1 F.2.1 dX11_order_14 rfl (lv_at hl 0 rfl) ?_
        refine lv_iload_n F.1 F.2.1 dX11_order_15 rfl (lv_at hl 3 rfl) ?_
        refine ad_callV (As := [.int (iI i)]) (rest := []) F G (c_X11_countBetter l D K z0 m0 M xth xrm xsv xln xat xer xwr xwd xlo xhi xwl xml xkl xfi xse xdn xon xtw xol xrw xgl xus xpr xmk xab g rs ps md th nc i hM hW (by omega)) my_X11_countBetter mv_X11_181 (wr := []) (isC := [0, 1]) (isR := []) ⟨rfl, rfl, rfl, rfl, by decide⟩ 11 0 rfl rfl rfl rfl ⟨Nat.le_of_ble_eq_true rfl, Nat.le_of_ble_eq_true rfl⟩ ⟨Nat.le_of_ble_eq_true rfl, Nat.le_of_ble_eq_true rfl⟩ (Nat.le_of_ble_eq_true rfl) hl.1 (cells9 := 0) (slots9 := 0) ⟨rfl, rfl⟩ dX11_order_16 (fun v u H locs hw_7 G => ?_)
        obtain ⟨rfl, rfl⟩ := hw_7
        replace G := G.perm (ws' := [(m0, mO M xth xrm xsv xln xat xer xwr xwd xlo xhi xwl xml xkl xfi xse xdn xon xtw xol xrw xgl xus xpr xmk xab), (M 1, aI (K 0) 1247 g)]) [0, 1] rfl rfl
        refine W.eq (g2 := F0 m9 19 ls [.int (iI (cntb (fun o => btb rs o i) rs.length))]) rfl ?_
        have hcb := cntb_bound (fun o => btb rs o i) rs.length
        refine lv_iload_n F.1 F.2.1 dX11_order_19 rfl (lv_at hl 1 rfl) ?_
        refine ad_icmp_ne (tgt := 27) F (by omega) dX11_order_20 (by decide) (fun cc_8 => ?_) (fun cc_8 => ?_)
        · refine lv_iload_n F.1 F.2.1 dX11_order_27 rfl (lv_at hl 2 rfl) ?_
          refine lv_istore_n (lv' := [(2, .int (iI f)), (0, .ref m0), (1, .int (iI z)), (3, .int (iI i))]) F.1 F.2.1 dX11_order_28 rfl hl (by decide) rfl (fun ls hl => ?_)
          refine ad_iinc (lv' := [(3, .int (iI (i + 1))), (2, .int (iI f)), (0, .ref m0), (1, .int (iI z))]) F dX11_order_29 hl (k := 3) rfl (by decide) rfl (fun ls hl => ?_)
          refine lv_goto (tgt := 4) F.1 F.2.1 dX11_order_32 (by decide) ?_
          exact ih4 (i + 1) f _ _ _ (by omega) (by omega) (fun h j h1 h2 => (show j < i ∨ j = i by omega).elim (fun q => hno h j h1 q) (fun q => by rw [q]; exact cc_8)) hyes (by omega) (G.perm (ws' := [(m0, mO M xth xrm xsv xln xat xer xwr xwd xlo xhi xwl xml xkl xfi xse xdn xon xtw xol xrw xgl xus xpr xmk xab), (M 1, aI (K 0) 1247 g)]) [0, 1] rfl rfl) (lv_sub hl [2, 3, 1, 0] rfl)
        · refine lv_iload_n F.1 F.2.1 dX11_order_23 rfl (lv_at hl 3 rfl) ?_
          refine lv_goto (tgt := 28) F.1 F.2.1 dX11_order_24 (by decide) ?_
          refine lv_istore_n (lv' := [(2, .int (iI i)), (0, .ref m0), (1, .int (iI z)), (3, .int (iI i))]) F.1 F.2.1 dX11_order_28 rfl hl (by decide) rfl (fun ls hl => ?_)
          refine ad_iinc (lv' := [(3, .int (iI (i + 1))), (2, .int (iI i)), (0, .ref m0), (1, .int (iI z))]) F dX11_order_29 hl (k := 3) rfl (by decide) rfl (fun ls hl => ?_)
          refine lv_goto (tgt := 4) F.1 F.2.1 dX11_order_32 (by decide) ?_
          exact ih4 (i + 1) i _ _ _ (by omega) (by omega) (fun h => by omega) (fun _ => cc_8) (by omega) (G.perm (ws' := [(m0, mO M xth xrm xsv xln xat xer xwr xwd xlo xhi xwl xml xkl xfi xse xdn xon xtw xol xrw xgl xus xpr xmk xab), (M 1, aI (K 0) 1247 g)]) [0, 1] rfl rfl) (lv_sub hl [2, 3, 1, 0] rfl)
  exact lp4 ((((rs.length - 0 : Int)) + 1).toNat) 0 (-1) _ _ _ (by omega) (by omega) (fun _ j h1 h2 => by omega) (fun h => by omega) (by omega) (G.perm (ws' := [(m0, mO M xth xrm xsv xln xat xer xwr xwd xlo xhi xwl xml xkl xfi xse xdn xon xtw xol xrw xgl xus xpr xmk xab), (M 1, aI (K 0) 1247 g)]) [0, 1] rfl rfl) (lv_sub hl [2, 3, 1, 0] rfl)

def rm_X11_shadow : Room := { frames := 4, cells := 0, slots := 0, locals := 82 }
set_option maxHeartbeats 4000000 in
set_option maxRecDepth 100000 in
theorem c_X11_shadow (l : Launch) (D : va_G) (K : Nat → ClassId) (z0 : Nat) (m0 : Nat) (M : Nat → Nat) (xth : Int) (xrm : Int) (xsv : Int) (xln : Int) (xat : Int) (xer : Int) (xwr : Int) (xwd : Int) (xlo : Int) (xhi : Int) (xwl : Int) (xml : Int) (xkl : Int) (xfi : Int) (xse : Int) (xdn : Int) (xon : Int) (xtw : Int) (xol : Int) (xrw : Int) (xgl : Int) (xus : Int) (xpr : Int) (xmk : Int) (xab : Int) (g : Nat → Int) (rs : List Rl) (ps : List Pr) (md : Int) (th : Int) (nc : Int) (x : Int) (b : Int) (hM : MRow g rs ps md th nc) (hW : RW rs) (hx : -2147483648 ≤ x ∧ x < 2147483648) (hb : b = 0 ∨ b = 1) : CT l D K z0 yX11_shadow cX11_shadow 6 (some .int) rm_X11_shadow [.ref m0, .int (iI x), .int (iI b)] [(m0, mO M xth xrm xsv xln xat xer xwr xwd xlo xhi xwl xml xkl xfi xse xdn xon xtw xol xrw xgl xus xpr xmk xab), (M 1, aI (K 0) 1247 g)] (fun v9 u9 => (v9 = some (.int (iI 0)) ∧ (¬ (0 ≤ x ∧ x < rs.length)) ∧ u9 = [(m0, mO M 1 xrm xsv xln xat xer xwr xwd xlo xhi xwl xml xkl xfi xse xdn xon xtw xol xrw xgl xus xpr xmk xab), (M 1, aI (K 0) 1247 g)]) ∨ (v9 = some (.int (iI (shG rs x b rs.length))) ∧ (0 ≤ x ∧ x < rs.length) ∧ u9 = [(m0, mO M 0 xrm xsv xln xat xer xwr xwd xlo xhi xwl xml xkl xfi xse xdn xon xtw xol xrw xgl xus xpr xmk xab), (M 1, aI (K 0) 1247 g)])) := by
  refine CT.start RX11 "shadow" (by decide) rfl rfl (Nat.le_of_ble_eq_true rfl) ?_
  intro p9 e9 s9 m9 ag9 bl9 mt9 c9 A9 Q9 ls F G hR hl
  have hl : lv_has ls 6 [(0, .ref m0), (1, .int (iI x)), (2, .int (iI b))] := hl
  have hn := hW.1
  refine lv_aload_n F.1 F.2.1 dX11_shadow_0 rfl (lv_at hl 0 rfl) ?_
  refine ad_iconst F dX11_shadow_1 ?_
  refine lv_aload_n F.1 F.2.1 dX11_shadow_2 rfl (lv_at hl 0 rfl) ?_
  refine lv_iload_n F.1 F.2.1 dX11_shadow_3 rfl (lv_at hl 1 rfl) ?_
  refine ad_callV (As := [.int (iI x)]) (rest := [.int (iI 1), .ref m0]) F G (c_X11_isRule l D K z0 m0 M xth xrm xsv xln xat xer xwr xwd xlo xhi xwl xml xkl xfi xse xdn xon xtw xol xrw xgl xus xpr xmk xab g rs ps md th nc x hM hW hx) my_X11_isRule mv_X11_171 (wr := []) (isC := [0, 1]) (isR := []) ⟨rfl, rfl, rfl, rfl, by decide⟩ 11 0 rfl rfl rfl rfl ⟨Nat.le_of_ble_eq_true rfl, Nat.le_of_ble_eq_true rfl⟩ ⟨Nat.le_of_ble_eq_true rfl, Nat.le_of_ble_eq_true rfl⟩ (Nat.le_of_ble_eq_true rfl) hl.1 (cells9 := 0) (slots9 := 0) ⟨rfl, rfl⟩ dX11_shadow_4 (fun v u H locs hw_1 G => ?_)
  rcases hw_1 with ⟨rfl, hc_2, rfl⟩ | ⟨rfl, hc_3, rfl⟩
  · replace G := G.perm (ws' := [(m0, mO M xth xrm xsv xln xat xer xwr xwd xlo xhi xwl xml xkl xfi xse xdn xon xtw xol xrw xgl xus xpr xmk xab), (M 1, aI (K 0) 1247 g)]) [0, 1] rfl rfl
    refine W.eq (g2 := F0 m9 7 ls [.int (iI 1), .int (iI 1), .ref m0]) rfl ?_
    refine ad_if_ne (tgt := 14) F (by decide) dX11_shadow_7 (by decide) (fun _ => ?_) (fun cc_4 => absurd cc_4 (by decide))
    refine ad_iconst F dX11_shadow_14 ?_
    refine ad_callV (As := [.int (iI 1), .int (iI 0)]) (rest := []) F G (c_X11_fails_0 l D K z0 m0 M xth xrm xsv xln xat xer xwr xwd xlo xhi xwl xml xkl xfi xse xdn xon xtw xol xrw xgl xus xpr xmk xab 1 (by omega)) my_X11_fails mv_X11_111 (wr := [(M 1, aI (K 0) 1247 g)]) (isC := [0]) (isR := [1]) ⟨rfl, rfl, rfl, rfl, by decide⟩ 11 0 rfl rfl rfl rfl ⟨Nat.le_of_ble_eq_true rfl, Nat.le_of_ble_eq_true rfl⟩ ⟨Nat.le_of_ble_eq_true rfl, Nat.le_of_ble_eq_true rfl⟩ (Nat.le_of_ble_eq_true rfl) hl.1 (cells9 := 0) (slots9 := 0) ⟨rfl, rfl⟩ dX11_shadow_15 (fun v u H locs hw_5 G => ?_)
    obtain ⟨rfl, rfl⟩ := hw_5
    replace G := G.perm (ws' := [(m0, mO M 0 xrm xsv xln xat xer xwr xwd xlo xhi xwl xml xkl xfi xse xdn xon xtw xol xrw xgl xus xpr xmk xab), (M 1, aI (K 0) 1247 g)]) [1, 0] rfl rfl
    refine W.eq (g2 := F0 m9 18 ls [.int (iI 0)]) rfl ?_
    refine ad_if_eq (tgt := 23) F (by decide) dX11_shadow_18 (by decide) (fun _ => ?_) (fun cc_6 => absurd cc_6 (by decide))
    refine ad_iconst F dX11_shadow_23 ?_
    refine lv_istore_n (lv' := [(3, .int (iI (-1))), (0, .ref m0), (1, .int (iI x)), (2, .int (iI b))]) F.1 F.2.1 dX11_shadow_24 rfl hl (by decide) rfl (fun ls hl => ?_)
    refine ad_iconst F dX11_shadow_25 ?_
    refine lv_istore (lv' := [(4, .int (iI 0)), (3, .int (iI (-1))), (0, .ref m0), (1, .int (iI x)), (2, .int (iI b))]) F.1 F.2.1 dX11_shadow_26 hl (by decide) rfl (fun ls hl => ?_)
    have lp28 : ∀ (n28 : Nat) (bs : Int) (i : Int) (H : Heap) (locs : List Loc) (ls : Array Slot), (0 ≤ i ∧ i ≤ rs.length) → (bs = shG rs x b i.toNat) → (rs.length - i) < (n28 : Int) → ad_G D A9 s9.heap H locs [(m0, mO M 0 xrm xsv xln xat xer xwr xwd xlo xhi xwl xml xkl xfi xse xdn xon xtw xol xrw xgl xus xpr xmk xab), (M 1, aI (K 0) 1247 g)] → lv_has ls 6 [(0, .ref m0), (1, .int (iI x)), (2, .int (iI b)), (3, .int (iI bs)), (4, .int (iI i))] → W p9 l e9 rm_X11_shadow s9 m9 ag9 bl9 mt9 c9 H locs 0 0 Q9 (F0 m9 28 ls []) := by
      intro n28
      induction n28 with
      | zero =>
        intro bs i H locs ls hi hb1 hm28
        exact absurd hm28 (by omega)
      | succ n28 ih28 =>
        intro bs i H locs ls hi hb1 hm28 G hl
        have hbb := shG_b rs x b i.toNat
        refine lv_iload F.1 F.2.1 dX11_shadow_28 (lv_at hl 4 rfl) ?_
        refine lv_aload_n F.1 F.2.1 dX11_shadow_30 rfl (lv_at hl 0 rfl) ?_
        refine ad_get F G fl_X11_9 0 rfl rfl dX11_shadow_31 ?_
        refine ad_iconst F dX11_shadow_34 ?_
        refine ad_iald F G 1 rfl (w := (rs.length : Int)) (by omega) (hM.1.1) dX11_shadow_35 ?_
        refine ad_icmp_ge (tgt := 131) F (by omega) dX11_shadow_36 (by decide) (fun cc_7 => ?_) (fun cc_7 => ?_)
        · refine lv_iload_n F.1 F.2.1 dX11_shadow_131 rfl (lv_at hl 3 rfl) ?_
          exact ad_ireturn F G hR rfl (Nat.le_of_ble_eq_true rfl) (Nat.le_of_ble_eq_true rfl) (Or.inr (⟨(ad_eqi (by rw [hb1, show i = rs.length by omega]; rfl)), hc_2, rfl⟩)) dX11_shadow_132
        · refine lv_iload F.1 F.2.1 dX11_shadow_39 (lv_at hl 4 rfl) ?_
          refine lv_iload_n F.1 F.2.1 dX11_shadow_41 rfl (lv_at hl 1 rfl) ?_
          refine ad_icmp_eq (tgt := 96) F (by omega) dX11_shadow_42 (by decide) (fun cc_8 => ?_) (fun cc_8 => ?_)
          · refine ad_iconst F dX11_shadow_96 ?_
            refine lv_istore (lv' := [(5, .int (iI 0)), (0, .ref m0), (1, .int (iI x)), (2, .int (iI b)), (3, .int (iI bs)), (4, .int (iI i))]) F.1 F.2.1 dX11_shadow_97 hl (by decide) rfl (fun ls hl => ?_)
            refine lv_iload F.1 F.2.1 dX11_shadow_99 (lv_at hl 0 rfl) ?_
            refine ad_if_eq (tgt := 123) F (by decide) dX11_shadow_101 (by decide) (fun _ => ?_) (fun cc_9 => absurd cc_9 (by decide))
            refine lv_iload_n F.1 F.2.1 dX11_shadow_123 rfl (lv_at hl 4 rfl) ?_
            refine lv_istore_n (lv' := [(3, .int (iI bs)), (5, .int (iI 0)), (0, .ref m0), (1, .int (iI x)), (2, .int (iI b)), (4, .int (iI i))]) F.1 F.2.1 dX11_shadow_124 rfl hl (by decide) rfl (fun ls hl => ?_)
            refine ad_iinc (lv' := [(4, .int (iI (i + 1))), (3, .int (iI bs)), (5, .int (iI 0)), (0, .ref m0), (1, .int (iI x)), (2, .int (iI b))]) F dX11_shadow_125 hl (k := 5) rfl (by decide) rfl (fun ls hl => ?_)
            refine lv_goto (tgt := 28) F.1 F.2.1 dX11_shadow_128 (by decide) ?_
            exact ih28 bs (i + 1) _ _ _ (by omega) (by rw [shG_s (by omega), if_neg (fun q => btr_irr cc_8 (btb_iff.mp (of_decide_eq_true q.1).2.1))]; exact hb1) (by omega) (G.perm (ws' := [(m0, mO M 0 xrm xsv xln xat xer xwr xwd xlo xhi xwl xml xkl xfi xse xdn xon xtw xol xrw xgl xus xpr xmk xab), (M 1, aI (K 0) 1247 g)]) [0, 1] rfl rfl) (lv_sub hl [3, 4, 5, 1, 0] rfl)
          · refine lv_aload_n F.1 F.2.1 dX11_shadow_45 rfl (lv_at hl 0 rfl) ?_
            refine lv_iload F.1 F.2.1 dX11_shadow_46 (lv_at hl 4 rfl) ?_
            refine ad_iconst F dX11_shadow_48 ?_
            refine ad_callV (As := [.int (iI i), .int (iI 0)]) (rest := []) F G (c_X11_of_0 l D K z0 m0 M 0 xrm xsv xln xat xer xwr xwd xlo xhi xwl xml xkl xfi xse xdn xon xtw xol xrw xgl xus xpr xmk xab g rs ps md th nc i hM hW (by omega)) my_X11_of mv_X11_99 (wr := []) (isC := [0, 1]) (isR := []) ⟨rfl, rfl, rfl, rfl, by decide⟩ 11 0 rfl rfl rfl rfl ⟨Nat.le_of_ble_eq_true rfl, Nat.le_of_ble_eq_true rfl⟩ ⟨Nat.le_of_ble_eq_true rfl, Nat.le_of_ble_eq_true rfl⟩ (Nat.le_of_ble_eq_true rfl) hl.1 (cells9 := 0) (slots9 := 0) ⟨rfl, rfl⟩ dX11_shadow_49 (fun v u H locs hw_10 G => ?_)
            obtain ⟨rfl, rfl⟩ := hw_10
            replace G := G.perm (ws' := [(m0, mO M 0 xrm xsv xln xat xer xwr xwd xlo xhi xwl xml xkl xfi xse xdn xon xtw xol xrw xgl xus xpr xmk xab), (M 1, aI (K 0) 1247 g)]) [0, 1] rfl rfl
            refine W.eq (g2 := F0 m9 52 ls [.int (iI ((rget rs i).1))]) rfl ?_
            refine lv_aload_n F.1 F.2.1 dX11_shadow_52 rfl (lv_at hl 0 rfl) ?_
            refine lv_iload_n F.1 F.2.1 dX11_shadow_53 rfl (lv_at hl 1 rfl) ?_
            refine ad_iconst F dX11_shadow_54 ?_
            refine ad_callV (As := [.int (iI x), .int (iI 0)]) (rest := [.int (iI ((rget rs i).1))]) F G (c_X11_of_0 l D K z0 m0 M 0 xrm xsv xln xat xer xwr xwd xlo xhi xwl xml xkl xfi xse xdn xon xtw xol xrw xgl xus xpr xmk xab g rs ps md th nc x hM hW hc_2) my_X11_of mv_X11_99 (wr := []) (isC := [0, 1]) (isR := []) ⟨rfl, rfl, rfl, rfl, by decide⟩ 11 0 rfl rfl rfl rfl ⟨Nat.le_of_ble_eq_true rfl, Nat.le_of_ble_eq_true rfl⟩ ⟨Nat.le_of_ble_eq_true rfl, Nat.le_of_ble_eq_true rfl⟩ (Nat.le_of_ble_eq_true rfl) hl.1 (cells9 := 0) (slots9 := 0) ⟨rfl, rfl⟩ dX11_shadow_55 (fun v u H locs hw_11 G => ?_)
            obtain ⟨rfl, rfl⟩ := hw_11
            replace G := G.perm (ws' := [(m0, mO M 0 xrm xsv xln xat xer xwr xwd xlo xhi xwl xml xkl xfi xse xdn xon xtw xol xrw xgl xus xpr xmk xab), (M 1, aI (K 0) 1247 g)]) [0, 1] rfl rfl
            refine W.eq (g2 := F0 m9 58 ls [.int (iI ((rget rs x).1)), .int (iI ((rget rs i).1))]) rfl ?_
            have hk1 := hW.bd (z := i) (by omega) (by omega)
            have hk2 := hW.bd (z := x) (by omega) (by omega)
            refine ad_icmp_ne (tgt := 96) F (by omega) dX11_shadow_58 (by decide) (fun cc_12 => ?_) (fun cc_12 => ?_)
            · refine ad_iconst F dX11_shadow_96 ?_
              refine lv_istore (lv' := [(5, .int (iI 0)), (0, .ref m0), (1, .int (iI x)), (2, .int (iI b)), (3, .int (iI bs)), (4, .int (iI i))]) F.1 F.2.1 dX11_shadow_97 hl (by decide) rfl (fun ls hl => ?_)
              refine lv_iload F.1 F.2.1 dX11_shadow_99 (lv_at hl 0 rfl) ?_
              refine ad_if_eq (tgt := 123) F (by decide) dX11_shadow_101 (by decide) (fun _ => ?_) (fun cc_13 => absurd cc_13 (by decide))
              refine lv_iload_n F.1 F.2.1 dX11_shadow_123 rfl (lv_at hl 4 rfl) ?_
              refine lv_istore_n (lv' := [(3, .int (iI bs)), (5, .int (iI 0)), (0, .ref m0), (1, .int (iI x)), (2, .int (iI b)), (4, .int (iI i))]) F.1 F.2.1 dX11_shadow_124 rfl hl (by decide) rfl (fun ls hl => ?_)
              refine ad_iinc (lv' := [(4, .int (iI (i + 1))), (3, .int (iI bs)), (5, .int (iI 0)), (0, .ref m0), (1, .int (iI x)), (2, .int (iI b))]) F dX11_shadow_125 hl (k := 5) rfl (by decide) rfl (fun ls hl => ?_)
              refine lv_goto (tgt := 28) F.1 F.2.1 dX11_shadow_128 (by decide) ?_
              exact ih28 bs (i + 1) _ _ _ (by omega) (by rw [shG_s (by omega), if_neg (fun q => cc_12 (of_decide_eq_true q.1).1)]; exact hb1) (by omega) (G.perm (ws' := [(m0, mO M 0 xrm xsv xln xat xer xwr xwd xlo xhi xwl xml xkl xfi xse xdn xon xtw xol xrw xgl xus xpr xmk xab), (M 1, aI (K 0) 1247 g)]) [0, 1] rfl rfl) (lv_sub hl [3, 4, 5, 1, 0] rfl)
            · refine lv_aload_n F.1 F.2.1 dX11_shadow_61 rfl (lv_at hl 0 rfl) ?_
              refine lv_iload F.1 F.2.1 dX11_shadow_62 (lv_at hl 4 rfl) ?_
              refine lv_iload_n F.1 F.2.1 dX11_shadow_64 rfl (lv_at hl 1 rfl) ?_
              refine ad_callV (As := [.int (iI i), .int (iI x)]) (rest := []) F G (c_X11_isBetter l D K z0 m0 M 0 xrm xsv xln xat xer xwr xwd xlo xhi xwl xml xkl xfi xse xdn xon xtw xol xrw xgl xus xpr xmk xab g rs ps md th nc i x hM hW (by omega) hc_2) my_X11_isBetter mv_X11_178 (wr := []) (isC := [0, 1]) (isR := []) ⟨rfl, rfl, rfl, rfl, by decide⟩ 11 0 rfl rfl rfl rfl ⟨Nat.le_of_ble_eq_true rfl, Nat.le_of_ble_eq_true rfl⟩ ⟨Nat.le_of_ble_eq_true rfl, Nat.le_of_ble_eq_true rfl⟩ (Nat.le_of_ble_eq_true rfl) hl.1 (cells9 := 0) (slots9 := 0) ⟨rfl, rfl⟩ dX11_shadow_65 (fun v u H locs hw_14 G => ?_)
              rcases hw_14 with ⟨rfl, hc_15, rfl⟩ | ⟨rfl, hc_16, rfl⟩
              · replace G := G.perm (ws' := [(m0, mO M 0 xrm xsv xln xat xer xwr xwd xlo xhi xwl xml xkl xfi xse xdn xon xtw xol xrw xgl xus xpr xmk xab), (M 1, aI (K 0) 1247 g)]) [0, 1] rfl rfl
                refine W.eq (g2 := F0 m9 68 ls [.int (iI 1)]) rfl ?_
                refine ad_if_eq (tgt := 96) F (by decide) dX11_shadow_68 (by decide) (fun cc_17 => absurd cc_17 (by decide)) (fun _ => ?_)
                refine lv_aload_n F.1 F.2.1 dX11_shadow_71 rfl (lv_at hl 0 rfl) ?_
                refine lv_iload F.1 F.2.1 dX11_shadow_72 (lv_at hl 4 rfl) ?_
                refine lv_iload_n F.1 F.2.1 dX11_shadow_74 rfl (lv_at hl 1 rfl) ?_
                refine lv_iload_n F.1 F.2.1 dX11_shadow_75 rfl (lv_at hl 2 rfl) ?_
                refine ad_callV (As := [.int (iI i), .int (iI x), .int (iI b)]) (rest := []) F G (c_X11_haveSame l D K z0 m0 M 0 xrm xsv xln xat xer xwr xwd xlo xhi xwl xml xkl xfi xse xdn xon xtw xol xrw xgl xus xpr xmk xab g rs ps md th nc i x b hM hW (by omega) hc_2 hb) my_X11_haveSame mv_X11_196 (wr := []) (isC := [0, 1]) (isR := []) ⟨rfl, rfl, rfl, rfl, by decide⟩ 11 0 rfl rfl rfl rfl ⟨Nat.le_of_ble_eq_true rfl, Nat.le_of_ble_eq_true rfl⟩ ⟨Nat.le_of_ble_eq_true rfl, Nat.le_of_ble_eq_true rfl⟩ (Nat.le_of_ble_eq_true rfl) hl.1 (cells9 := 0) (slots9 := 0) ⟨rfl, rfl⟩ dX11_shadow_76 (fun v u H locs hw_18 G => ?_)
                rcases hw_18 with ⟨rfl, hc_19, rfl⟩ | ⟨rfl, hc_20, rfl⟩
                · replace G := G.perm (ws' := [(m0, mO M 0 xrm xsv xln xat xer xwr xwd xlo xhi xwl xml xkl xfi xse xdn xon xtw xol xrw xgl xus xpr xmk xab), (M 1, aI (K 0) 1247 g)]) [0, 1] rfl rfl
                  refine W.eq (g2 := F0 m9 79 ls [.int (iI 1)]) rfl ?_
                  refine ad_if_eq (tgt := 96) F (by decide) dX11_shadow_79 (by decide) (fun cc_21 => absurd cc_21 (by decide)) (fun _ => ?_)
                  refine lv_aload_n F.1 F.2.1 dX11_shadow_82 rfl (lv_at hl 0 rfl) ?_
                  refine lv_iload F.1 F.2.1 dX11_shadow_83 (lv_at hl 4 rfl) ?_
                  refine lv_iload_n F.1 F.2.1 dX11_shadow_85 rfl (lv_at hl 1 rfl) ?_
                  refine ad_callV (As := [.int (iI i), .int (iI x)]) (rest := []) F G (c_X11_fitsWith l D K z0 m0 M 0 xrm xsv xln xat xer xwr xwd xlo xhi xwl xml xkl xfi xse xdn xon xtw xol xrw xgl xus xpr xmk xab g rs ps md th nc i x hM hW (by omega) hc_2) my_X11_fitsWith mv_X11_212 (wr := []) (isC := [0, 1]) (isR := []) ⟨rfl, rfl, rfl, rfl, by decide⟩ 11 0 rfl rfl rfl rfl ⟨Nat.le_of_ble_eq_true rfl, Nat.le_of_ble_eq_true rfl⟩ ⟨Nat.le_of_ble_eq_true rfl, Nat.le_of_ble_eq_true rfl⟩ (Nat.le_of_ble_eq_true rfl) hl.1 (cells9 := 0) (slots9 := 0) ⟨rfl, rfl⟩ dX11_shadow_86 (fun v u H locs hw_22 G => ?_)
                  rcases hw_22 with ⟨rfl, hc_23, rfl⟩ | ⟨rfl, hc_24, rfl⟩
                  · replace G := G.perm (ws' := [(m0, mO M 0 xrm xsv xln xat xer xwr xwd xlo xhi xwl xml xkl xfi xse xdn xon xtw xol xrw xgl xus xpr xmk xab), (M 1, aI (K 0) 1247 g)]) [0, 1] rfl rfl
                    refine W.eq (g2 := F0 m9 89 ls [.int (iI 1)]) rfl ?_
                    refine ad_if_eq (tgt := 96) F (by decide) dX11_shadow_89 (by decide) (fun cc_25 => absurd cc_25 (by decide)) (fun _ => ?_)
                    refine ad_iconst F dX11_shadow_92 ?_
                    refine lv_goto (tgt := 97) F.1 F.2.1 dX11_shadow_93 (by decide) ?_
                    refine lv_istore (lv' := [(5, .int (iI 1)), (0, .ref m0), (1, .int (iI x)), (2, .int (iI b)), (3, .int (iI bs)), (4, .int (iI i))]) F.1 F.2.1 dX11_shadow_97 hl (by decide) rfl (fun ls hl => ?_)
                    refine lv_iload F.1 F.2.1 dX11_shadow_99 (lv_at hl 0 rfl) ?_
                    refine ad_if_eq (tgt := 123) F (by decide) dX11_shadow_101 (by decide) (fun cc_26 => absurd cc_26 (by decide)) (fun _ => ?_)
                    refine lv_iload_n F.1 F.2.1 dX11_shadow_104 rfl (lv_at hl 4 rfl) ?_
                    refine ad_if_lt (tgt := 118) F (by omega) dX11_shadow_105 (by decide) (fun cc_27 => ?_) (fun cc_27 => ?_)
                    · refine lv_iload F.1 F.2.1 dX11_shadow_118 (lv_at hl 5 rfl) ?_
                      refine lv_goto (tgt := 124) F.1 F.2.1 dX11_shadow_120 (by decide) ?_
                      refine lv_istore_n (lv' := [(3, .int (iI i)), (5, .int (iI 1)), (0, .ref m0), (1, .int (iI x)), (2, .int (iI b)), (4, .int (iI i))]) F.1 F.2.1 dX11_shadow_124 rfl hl (by decide) rfl (fun ls hl => ?_)
                      refine ad_iinc (lv' := [(4, .int (iI (i + 1))), (3, .int (iI i)), (5, .int (iI 1)), (0, .ref m0), (1, .int (iI x)), (2, .int (iI b))]) F dX11_shadow_125 hl (k := 5) rfl (by decide) rfl (fun ls hl => ?_)
                      refine lv_goto (tgt := 28) F.1 F.2.1 dX11_shadow_128 (by decide) ?_
                      exact ih28 i (i + 1) _ _ _ (by omega) (by rw [shG_s (by omega), if_pos ⟨(decide_eq_true ⟨cc_12, btb_iff.mpr hc_15, hc_19.symm, hc_23⟩ : shb rs x i b = true), Or.inl (by rw [← hb1]; exact cc_27)⟩]) (by omega) (G.perm (ws' := [(m0, mO M 0 xrm xsv xln xat xer xwr xwd xlo xhi xwl xml xkl xfi xse xdn xon xtw xol xrw xgl xus xpr xmk xab), (M 1, aI (K 0) 1247 g)]) [0, 1] rfl rfl) (lv_sub hl [3, 4, 5, 1, 0] rfl)
                    · refine lv_aload_n F.1 F.2.1 dX11_shadow_108 rfl (lv_at hl 1 rfl) ?_
                      refine lv_iload F.1 F.2.1 dX11_shadow_109 (lv_at hl 5 rfl) ?_
                      refine lv_iload_n F.1 F.2.1 dX11_shadow_111 rfl (lv_at hl 4 rfl) ?_
                      refine ad_callV (As := [.int (iI i), .int (iI bs)]) (rest := []) F G (c_X11_isBetter l D K z0 m0 M 0 xrm xsv xln xat xer xwr xwd xlo xhi xwl xml xkl xfi xse xdn xon xtw xol xrw xgl xus xpr xmk xab g rs ps md th nc i bs hM hW (by omega) (by omega)) my_X11_isBetter mv_X11_178 (wr := []) (isC := [0, 1]) (isR := []) ⟨rfl, rfl, rfl, rfl, by decide⟩ 11 0 rfl rfl rfl rfl ⟨Nat.le_of_ble_eq_true rfl, Nat.le_of_ble_eq_true rfl⟩ ⟨Nat.le_of_ble_eq_true rfl, Nat.le_of_ble_eq_true rfl⟩ (Nat.le_of_ble_eq_true rfl) hl.1 (cells9 := 0) (slots9 := 0) ⟨rfl, rfl⟩ dX11_shadow_112 (fun v u H locs hw_28 G => ?_)
                      rcases hw_28 with ⟨rfl, hc_29, rfl⟩ | ⟨rfl, hc_30, rfl⟩
                      · replace G := G.perm (ws' := [(m0, mO M 0 xrm xsv xln xat xer xwr xwd xlo xhi xwl xml xkl xfi xse xdn xon xtw xol xrw xgl xus xpr xmk xab), (M 1, aI (K 0) 1247 g)]) [0, 1] rfl rfl
                        refine W.eq (g2 := F0 m9 115 ls [.int (iI 1)]) rfl ?_
                        refine ad_if_eq (tgt := 123) F (by decide) dX11_shadow_115 (by decide) (fun cc_31 => absurd cc_31 (by decide)) (fun _ => ?_)
                        refine lv_iload F.1 F.2.1 dX11_shadow_118 (lv_at hl 5 rfl) ?_
                        refine lv_goto (tgt := 124) F.1 F.2.1 dX11_shadow_120 (by decide) ?_
                        refine lv_istore_n (lv' := [(3, .int (iI i)), (5, .int (iI 1)), (0, .ref m0), (1, .int (iI x)), (2, .int (iI b)), (4, .int (iI i))]) F.1 F.2.1 dX11_shadow_124 rfl hl (by decide) rfl (fun ls hl => ?_)
                        refine ad_iinc (lv' := [(4, .int (iI (i + 1))), (3, .int (iI i)), (5, .int (iI 1)), (0, .ref m0), (1, .int (iI x)), (2, .int (iI b))]) F dX11_shadow_125 hl (k := 5) rfl (by decide) rfl (fun ls hl => ?_)
                        refine lv_goto (tgt := 28) F.1 F.2.1 dX11_shadow_128 (by decide) ?_
                        exact ih28 i (i + 1) _ _ _ (by omega) (by rw [shG_s (by omega), if_pos ⟨(decide_eq_true ⟨cc_12, btb_iff.mpr hc_15, hc_19.symm, hc_23⟩ : shb rs x i b = true), Or.inr (by rw [← hb1]; exact btb_iff.mpr hc_29)⟩]) (by omega) (G.perm (ws' := [(m0, mO M 0 xrm xsv xln xat xer xwr xwd xlo xhi xwl xml xkl xfi xse xdn xon xtw xol xrw xgl xus xpr xmk xab), (M 1, aI (K 0) 1247 g)]) [0, 1] rfl rfl) (lv_sub hl [3, 4, 5, 1, 0] rfl)
                      · replace G := G.perm (ws' := [(m0, mO M 0 xrm xsv xln xat xer xwr xwd xlo xhi xwl xml xkl xfi xse xdn xon xtw xol xrw xgl xus xpr xmk xab), (M 1, aI (K 0) 1247 g)]) [0, 1] rfl rfl
                        refine W.eq (g2 := F0 m9 115 ls [.int (iI 0)]) rfl ?_
                        refine ad_if_eq (tgt := 123) F (by decide) dX11_shadow_115 (by decide) (fun _ => ?_) (fun cc_32 => absurd cc_32 (by decide))
                        refine lv_iload_n F.1 F.2.1 dX11_shadow_123 rfl (lv_at hl 4 rfl) ?_
                        refine lv_istore_n (lv' := [(3, .int (iI bs)), (5, .int (iI 1)), (0, .ref m0), (1, .int (iI x)), (2, .int (iI b)), (4, .int (iI i))]) F.1 F.2.1 dX11_shadow_124 rfl hl (by decide) rfl (fun ls hl => ?_)
                        refine ad_iinc (lv' := [(4, .int (iI (i + 1))), (3, .int (iI bs)), (5, .int (iI 1)), (0, .ref m0), (1, .int (iI x)), (2, .int (iI b))]) F dX11_shadow_125 hl (k := 5) rfl (by decide) rfl (fun ls hl => ?_)
                        refine lv_goto (tgt := 28) F.1 F.2.1 dX11_shadow_128 (by decide) ?_
                        exact ih28 bs (i + 1) _ _ _ (by omega) (by rw [shG_s (by omega), if_neg (fun q => q.2.elim (fun r => by rw [← hb1] at r; omega) (fun r => hc_30 (btb_iff.mp (by rw [hb1]; exact r))))]; exact hb1) (by omega) (G.perm (ws' := [(m0, mO M 0 xrm xsv xln xat xer xwr xwd xlo xhi xwl xml xkl xfi xse xdn xon xtw xol xrw xgl xus xpr xmk xab), (M 1, aI (K 0) 1247 g)]) [0, 1] rfl rfl) (lv_sub hl [3, 4, 5, 1, 0] rfl)
                  · replace G := G.perm (ws' := [(m0, mO M 0 xrm xsv xln xat xer xwr xwd xlo xhi xwl xml xkl xfi xse xdn xon xtw xol xrw xgl xus xpr xmk xab), (M 1, aI (K 0) 1247 g)]) [0, 1] rfl rfl
                    refine W.eq (g2 := F0 m9 89 ls [.int (iI 0)]) rfl ?_
                    refine ad_if_eq (tgt := 96) F (by decide) dX11_shadow_89 (by decide) (fun _ => ?_) (fun cc_33 => absurd cc_33 (by decide))
                    refine ad_iconst F dX11_shadow_96 ?_
                    refine lv_istore (lv' := [(5, .int (iI 0)), (0, .ref m0), (1, .int (iI x)), (2, .int (iI b)), (3, .int (iI bs)), (4, .int (iI i))]) F.1 F.2.1 dX11_shadow_97 hl (by decide) rfl (fun ls hl => ?_)
                    refine lv_iload F.1 F.2.1 dX11_shadow_99 (lv_at hl 0 rfl) ?_
                    refine ad_if_eq (tgt := 123) F (by decide) dX11_shadow_101 (by decide) (fun _ => ?_) (fun cc_34 => absurd cc_34 (by decide))
                    refine lv_iload_n F.1 F.2.1 dX11_shadow_123 rfl (lv_at hl 4 rfl) ?_
                    refine lv_istore_n (lv' := [(3, .int (iI bs)), (5, .int (iI 0)), (0, .ref m0), (1, .int (iI x)), (2, .int (iI b)), (4, .int (iI i))]) F.1 F.2.1 dX11_shadow_124 rfl hl (by decide) rfl (fun ls hl => ?_)
                    refine ad_iinc (lv' := [(4, .int (iI (i + 1))), (3, .int (iI bs)), (5, .int (iI 0)), (0, .ref m0), (1, .int (iI x)), (2, .int (iI b))]) F dX11_shadow_125 hl (k := 5) rfl (by decide) rfl (fun ls hl => ?_)
                    refine lv_goto (tgt := 28) F.1 F.2.1 dX11_shadow_128 (by decide) ?_
                    exact ih28 bs (i + 1) _ _ _ (by omega) (by rw [shG_s (by omega), if_neg (fun q => hc_24 (of_decide_eq_true q.1).2.2.2)]; exact hb1) (by omega) (G.perm (ws' := [(m0, mO M 0 xrm xsv xln xat xer xwr xwd xlo xhi xwl xml xkl xfi xse xdn xon xtw xol xrw xgl xus xpr xmk xab), (M 1, aI (K 0) 1247 g)]) [0, 1] rfl rfl) (lv_sub hl [3, 4, 5, 1, 0] rfl)
                · replace G := G.perm (ws' := [(m0, mO M 0 xrm xsv xln xat xer xwr xwd xlo xhi xwl xml xkl xfi xse xdn xon xtw xol xrw xgl xus xpr xmk xab), (M 1, aI (K 0) 1247 g)]) [0, 1] rfl rfl
                  refine W.eq (g2 := F0 m9 79 ls [.int (iI 0)]) rfl ?_
                  refine ad_if_eq (tgt := 96) F (by decide) dX11_shadow_79 (by decide) (fun _ => ?_) (fun cc_35 => absurd cc_35 (by decide))
                  refine ad_iconst F dX11_shadow_96 ?_
                  refine lv_istore (lv' := [(5, .int (iI 0)), (0, .ref m0), (1, .int (iI x)), (2, .int (iI b)), (3, .int (iI bs)), (4, .int (iI i))]) F.1 F.2.1 dX11_shadow_97 hl (by decide) rfl (fun ls hl => ?_)
                  refine lv_iload F.1 F.2.1 dX11_shadow_99 (lv_at hl 0 rfl) ?_
                  refine ad_if_eq (tgt := 123) F (by decide) dX11_shadow_101 (by decide) (fun _ => ?_) (fun cc_36 => absurd cc_36 (by decide))
                  refine lv_iload_n F.1 F.2.1 dX11_shadow_123 rfl (lv_at hl 4 rfl) ?_
                  refine lv_istore_n (lv' := [(3, .int (iI bs)), (5, .int (iI 0)), (0, .ref m0), (1, .int (iI x)), (2, .int (iI b)), (4, .int (iI i))]) F.1 F.2.1 dX11_shadow_124 rfl hl (by decide) rfl (fun ls hl => ?_)
                  refine ad_iinc (lv' := [(4, .int (iI (i + 1))), (3, .int (iI bs)), (5, .int (iI 0)), (0, .ref m0), (1, .int (iI x)), (2, .int (iI b))]) F dX11_shadow_125 hl (k := 5) rfl (by decide) rfl (fun ls hl => ?_)
                  refine lv_goto (tgt := 28) F.1 F.2.1 dX11_shadow_128 (by decide) ?_
                  exact ih28 bs (i + 1) _ _ _ (by omega) (by rw [shG_s (by omega), if_neg (fun q => hc_20 (of_decide_eq_true q.1).2.2.1.symm)]; exact hb1) (by omega) (G.perm (ws' := [(m0, mO M 0 xrm xsv xln xat xer xwr xwd xlo xhi xwl xml xkl xfi xse xdn xon xtw xol xrw xgl xus xpr xmk xab), (M 1, aI (K 0) 1247 g)]) [0, 1] rfl rfl) (lv_sub hl [3, 4, 5, 1, 0] rfl)
              · replace G := G.perm (ws' := [(m0, mO M 0 xrm xsv xln xat xer xwr xwd xlo xhi xwl xml xkl xfi xse xdn xon xtw xol xrw xgl xus xpr xmk xab), (M 1, aI (K 0) 1247 g)]) [0, 1] rfl rfl
                refine W.eq (g2 := F0 m9 68 ls [.int (iI 0)]) rfl ?_
                refine ad_if_eq (tgt := 96) F (by decide) dX11_shadow_68 (by decide) (fun _ => ?_) (fun cc_37 => absurd cc_37 (by decide))
                refine ad_iconst F dX11_shadow_96 ?_
                refine lv_istore (lv' := [(5, .int (iI 0)), (0, .ref m0), (1, .int (iI x)), (2, .int (iI b)), (3, .int (iI bs)), (4, .int (iI i))]) F.1 F.2.1 dX11_shadow_97 hl (by decide) rfl (fun ls hl => ?_)
                refine lv_iload F.1 F.2.1 dX11_shadow_99 (lv_at hl 0 rfl) ?_
                refine ad_if_eq (tgt := 123) F (by decide) dX11_shadow_101 (by decide) (fun _ => ?_) (fun cc_38 => absurd cc_38 (by decide))
                refine lv_iload_n F.1 F.2.1 dX11_shadow_123 rfl (lv_at hl 4 rfl) ?_
                refine lv_istore_n (lv' := [(3, .int (iI bs)), (5, .int (iI 0)), (0, .ref m0), (1, .int (iI x)), (2, .int (iI b)), (4, .int (iI i))]) F.1 F.2.1 dX11_shadow_124 rfl hl (by decide) rfl (fun ls hl => ?_)
                refine ad_iinc (lv' := [(4, .int (iI (i + 1))), (3, .int (iI bs)), (5, .int (iI 0)), (0, .ref m0), (1, .int (iI x)), (2, .int (iI b))]) F dX11_shadow_125 hl (k := 5) rfl (by decide) rfl (fun ls hl => ?_)
                refine lv_goto (tgt := 28) F.1 F.2.1 dX11_shadow_128 (by decide) ?_
                exact ih28 bs (i + 1) _ _ _ (by omega) (by rw [shG_s (by omega), if_neg (fun q => hc_16 (btb_iff.mp (of_decide_eq_true q.1).2.1))]; exact hb1) (by omega) (G.perm (ws' := [(m0, mO M 0 xrm xsv xln xat xer xwr xwd xlo xhi xwl xml xkl xfi xse xdn xon xtw xol xrw xgl xus xpr xmk xab), (M 1, aI (K 0) 1247 g)]) [0, 1] rfl rfl) (lv_sub hl [3, 4, 5, 1, 0] rfl)
    exact lp28 ((((rs.length - 0 : Int)) + 1).toNat) (-1) 0 _ _ _ (by omega) rfl (by omega) (G.perm (ws' := [(m0, mO M 0 xrm xsv xln xat xer xwr xwd xlo xhi xwl xml xkl xfi xse xdn xon xtw xol xrw xgl xus xpr xmk xab), (M 1, aI (K 0) 1247 g)]) [0, 1] rfl rfl) (lv_sub hl [2, 3, 4, 1, 0] rfl)
  · replace G := G.perm (ws' := [(m0, mO M xth xrm xsv xln xat xer xwr xwd xlo xhi xwl xml xkl xfi xse xdn xon xtw xol xrw xgl xus xpr xmk xab), (M 1, aI (K 0) 1247 g)]) [0, 1] rfl rfl
    refine W.eq (g2 := F0 m9 7 ls [.int (iI 0), .int (iI 1), .ref m0]) rfl ?_
    refine ad_if_ne (tgt := 14) F (by decide) dX11_shadow_7 (by decide) (fun cc_39 => absurd cc_39 (by decide)) (fun _ => ?_)
    refine ad_iconst F dX11_shadow_10 ?_
    refine lv_goto (tgt := 15) F.1 F.2.1 dX11_shadow_11 (by decide) ?_
    refine ad_callV (As := [.int (iI 1), .int (iI 1)]) (rest := []) F G (c_X11_fails_1 l D K z0 m0 M xth xrm xsv xln xat xer xwr xwd xlo xhi xwl xml xkl xfi xse xdn xon xtw xol xrw xgl xus xpr xmk xab 1 (by omega)) my_X11_fails mv_X11_111 (wr := [(M 1, aI (K 0) 1247 g)]) (isC := [0]) (isR := [1]) ⟨rfl, rfl, rfl, rfl, by decide⟩ 11 0 rfl rfl rfl rfl ⟨Nat.le_of_ble_eq_true rfl, Nat.le_of_ble_eq_true rfl⟩ ⟨Nat.le_of_ble_eq_true rfl, Nat.le_of_ble_eq_true rfl⟩ (Nat.le_of_ble_eq_true rfl) hl.1 (cells9 := 0) (slots9 := 0) ⟨rfl, rfl⟩ dX11_shadow_15 (fun v u H locs hw_40 G => ?_)
    obtain ⟨rfl, rfl⟩ := hw_40
    replace G := G.perm (ws' := [(m0, mO M 1 xrm xsv xln xat xer xwr xwd xlo xhi xwl xml xkl xfi xse xdn xon xtw xol xrw xgl xus xpr xmk xab), (M 1, aI (K 0) 1247 g)]) [1, 0] rfl rfl
    refine W.eq (g2 := F0 m9 18 ls [.int (iI 1)]) rfl ?_
    refine ad_if_eq (tgt := 23) F (by decide) dX11_shadow_18 (by decide) (fun cc_41 => absurd cc_41 (by decide)) (fun _ => ?_)
    refine ad_iconst F dX11_shadow_21 ?_
    exact ad_ireturn F G hR rfl (Nat.le_of_ble_eq_true rfl) (Nat.le_of_ble_eq_true rfl) (Or.inl ⟨rfl, hc_3, rfl⟩) dX11_shadow_22

def rm_X11_letterCount : Room := { frames := 3, cells := 0, slots := 0, locals := 57 }
set_option maxHeartbeats 4000000 in
set_option maxRecDepth 100000 in
theorem c_X11_letterCount (l : Launch) (D : va_G) (K : Nat → ClassId) (z0 : Nat) (m0 : Nat) (M : Nat → Nat) (xth : Int) (xrm : Int) (xsv : Int) (xln : Int) (xat : Int) (xer : Int) (xwr : Int) (xwd : Int) (xlo : Int) (xhi : Int) (xwl : Int) (xml : Int) (xkl : Int) (xfi : Int) (xse : Int) (xdn : Int) (xon : Int) (xtw : Int) (xol : Int) (xrw : Int) (xgl : Int) (xus : Int) (xpr : Int) (xmk : Int) (xab : Int) (g : Nat → Int) (rs : List Rl) (ps : List Pr) (md : Int) (th : Int) (nc : Int) (x : Int) (b : Int) (hM : MRow g rs ps md th nc) (hW : RW rs) (hx : 0 ≤ x ∧ x < 65536) (hb : b = 0 ∨ b = 1) : CT l D K z0 yX11_letterCount cX11_letterCount 6 (some .int) rm_X11_letterCount [.ref m0, .int (iI x), .int (iI b)] [(m0, mO M xth xrm xsv xln xat xer xwr xwd xlo xhi xwl xml xkl xfi xse xdn xon xtw xol xrw xgl xus xpr xmk xab), (M 1, aI (K 0) 1247 g)] (fun v9 u9 => (v9 = some (.int (iI 0)) ∧ (¬ (97 ≤ x ∧ x ≤ 122)) ∧ u9 = [(m0, mO M 1 xrm xsv xln xat xer xwr xwd xlo xhi xwl xml xkl xfi xse xdn xon xtw xol xrw xgl xus xpr xmk xab), (M 1, aI (K 0) 1247 g)]) ∨ (v9 = some (.int (iI (sumb (tmsA rs x b) rs.length))) ∧ (97 ≤ x ∧ x ≤ 122) ∧ u9 = [(m0, mO M 0 xrm xsv xln xat xer xwr xwd xlo xhi xwl xml xkl xfi xse xdn xon xtw xol xrw xgl xus xpr xmk xab), (M 1, aI (K 0) 1247 g)])) := by
  refine CT.start RX11 "letterCount" (by decide) rfl rfl (Nat.le_of_ble_eq_true rfl) ?_
  intro p9 e9 s9 m9 ag9 bl9 mt9 c9 A9 Q9 ls F G hR hl
  have hl : lv_has ls 6 [(0, .ref m0), (1, .int (iI x)), (2, .int (iI b))] := hl
  have hn := hW.1
  refine lv_aload_n F.1 F.2.1 dX11_letterCount_0 rfl (lv_at hl 0 rfl) ?_
  refine ad_iconst F dX11_letterCount_1 ?_
  refine lv_iload_n F.1 F.2.1 dX11_letterCount_2 rfl (lv_at hl 1 rfl) ?_
  refine ad_bipush F dX11_letterCount_3 (by decide) ?_
  refine ad_icmp_lt (tgt := 14) F (by omega) dX11_letterCount_5 (by decide) (fun cc_1 => ?_) (fun cc_1 => ?_)
  · refine ad_iconst F dX11_letterCount_14 ?_
    refine lv_goto (tgt := 19) F.1 F.2.1 dX11_letterCount_15 (by decide) ?_
    refine ad_callV (As := [.int (iI 1), .int (iI 1)]) (rest := []) F G (c_X11_fails_1 l D K z0 m0 M xth xrm xsv xln xat xer xwr xwd xlo xhi xwl xml xkl xfi xse xdn xon xtw xol xrw xgl xus xpr xmk xab 1 (by omega)) my_X11_fails mv_X11_111 (wr := [(M 1, aI (K 0) 1247 g)]) (isC := [0]) (isR := [1]) ⟨rfl, rfl, rfl, rfl, by decide⟩ 11 0 rfl rfl rfl rfl ⟨Nat.le_of_ble_eq_true rfl, Nat.le_of_ble_eq_true rfl⟩ ⟨Nat.le_of_ble_eq_true rfl, Nat.le_of_ble_eq_true rfl⟩ (Nat.le_of_ble_eq_true rfl) hl.1 (cells9 := 0) (slots9 := 0) ⟨rfl, rfl⟩ dX11_letterCount_19 (fun v u H locs hw_2 G => ?_)
    obtain ⟨rfl, rfl⟩ := hw_2
    replace G := G.perm (ws' := [(m0, mO M 1 xrm xsv xln xat xer xwr xwd xlo xhi xwl xml xkl xfi xse xdn xon xtw xol xrw xgl xus xpr xmk xab), (M 1, aI (K 0) 1247 g)]) [1, 0] rfl rfl
    refine W.eq (g2 := F0 m9 22 ls [.int (iI 1)]) rfl ?_
    refine ad_if_eq (tgt := 27) F (by decide) dX11_letterCount_22 (by decide) (fun cc_3 => absurd cc_3 (by decide)) (fun _ => ?_)
    refine ad_iconst F dX11_letterCount_25 ?_
    exact ad_ireturn F G hR rfl (Nat.le_of_ble_eq_true rfl) (Nat.le_of_ble_eq_true rfl) (Or.inl ⟨rfl, (by omega), rfl⟩) dX11_letterCount_26
  · refine lv_iload_n F.1 F.2.1 dX11_letterCount_8 rfl (lv_at hl 1 rfl) ?_
    refine ad_bipush F dX11_letterCount_9 (by decide) ?_
    refine ad_icmp_le (tgt := 18) F (by omega) dX11_letterCount_11 (by decide) (fun cc_4 => ?_) (fun cc_4 => ?_)
    · refine ad_iconst F dX11_letterCount_18 ?_
      refine ad_callV (As := [.int (iI 1), .int (iI 0)]) (rest := []) F G (c_X11_fails_0 l D K z0 m0 M xth xrm xsv xln xat xer xwr xwd xlo xhi xwl xml xkl xfi xse xdn xon xtw xol xrw xgl xus xpr xmk xab 1 (by omega)) my_X11_fails mv_X11_111 (wr := [(M 1, aI (K 0) 1247 g)]) (isC := [0]) (isR := [1]) ⟨rfl, rfl, rfl, rfl, by decide⟩ 11 0 rfl rfl rfl rfl ⟨Nat.le_of_ble_eq_true rfl, Nat.le_of_ble_eq_true rfl⟩ ⟨Nat.le_of_ble_eq_true rfl, Nat.le_of_ble_eq_true rfl⟩ (Nat.le_of_ble_eq_true rfl) hl.1 (cells9 := 0) (slots9 := 0) ⟨rfl, rfl⟩ dX11_letterCount_19 (fun v u H locs hw_5 G => ?_)
      obtain ⟨rfl, rfl⟩ := hw_5
      replace G := G.perm (ws' := [(m0, mO M 0 xrm xsv xln xat xer xwr xwd xlo xhi xwl xml xkl xfi xse xdn xon xtw xol xrw xgl xus xpr xmk xab), (M 1, aI (K 0) 1247 g)]) [1, 0] rfl rfl
      refine W.eq (g2 := F0 m9 22 ls [.int (iI 0)]) rfl ?_
      refine ad_if_eq (tgt := 27) F (by decide) dX11_letterCount_22 (by decide) (fun _ => ?_) (fun cc_6 => absurd cc_6 (by decide))
      refine ad_iconst F dX11_letterCount_27 ?_
      refine lv_istore_n (lv' := [(3, .int (iI 0)), (0, .ref m0), (1, .int (iI x)), (2, .int (iI b))]) F.1 F.2.1 dX11_letterCount_28 rfl hl (by decide) rfl (fun ls hl => ?_)
      refine ad_iconst F dX11_letterCount_29 ?_
      refine lv_istore (lv' := [(4, .int (iI 0)), (3, .int (iI 0)), (0, .ref m0), (1, .int (iI x)), (2, .int (iI b))]) F.1 F.2.1 dX11_letterCount_30 hl (by decide) rfl (fun ls hl => ?_)
      have lp32 : ∀ (n32 : Nat) (k : Int) (i : Int) (H : Heap) (locs : List Loc) (ls : Array Slot), (0 ≤ i ∧ i ≤ rs.length) → (k = sumb (tmsA rs x b) i.toNat) → (rs.length - i) < (n32 : Int) → ad_G D A9 s9.heap H locs [(m0, mO M 0 xrm xsv xln xat xer xwr xwd xlo xhi xwl xml xkl xfi xse xdn xon xtw xol xrw xgl xus xpr xmk xab), (M 1, aI (K 0) 1247 g)] → lv_has ls 6 [(0, .ref m0), (1, .int (iI x)), (2, .int (iI b)), (3, .int (iI k)), (4, .int (iI i))] → W p9 l e9 rm_X11_letterCount s9 m9 ag9 bl9 mt9 c9 H locs 0 0 Q9 (F0 m9 32 ls []) := by
        intro n32
        induction n32 with
        | zero =>
          intro k i H locs ls hi hk hm32
          exact absurd hm32 (by omega)
        | succ n32 ih32 =>
          intro k i H locs ls hi hk hm32 G hl
          refine lv_iload F.1 F.2.1 dX11_letterCount_32 (lv_at hl 4 rfl) ?_
          refine lv_aload_n F.1 F.2.1 dX11_letterCount_34 rfl (lv_at hl 0 rfl) ?_
          refine ad_get F G fl_X11_9 0 rfl rfl dX11_letterCount_35 ?_
          refine ad_iconst F dX11_letterCount_38 ?_
          refine ad_iald F G 1 rfl (w := (rs.length : Int)) (by omega) (hM.1.1) dX11_letterCount_39 ?_
          refine ad_icmp_ge (tgt := 91) F (by omega) dX11_letterCount_40 (by decide) (fun cc_7 => ?_) (fun cc_7 => ?_)
          · refine lv_iload_n F.1 F.2.1 dX11_letterCount_91 rfl (lv_at hl 3 rfl) ?_
            exact ad_ireturn F G hR rfl (Nat.le_of_ble_eq_true rfl) (Nat.le_of_ble_eq_true rfl) (Or.inr (⟨(ad_eqi (by rw [hk, show i = rs.length by omega]; rfl)), (by omega), rfl⟩)) dX11_letterCount_92
          · refine ad_iconst F dX11_letterCount_43 ?_
            refine lv_istore (lv' := [(5, .int (iI 0)), (0, .ref m0), (1, .int (iI x)), (2, .int (iI b)), (3, .int (iI k)), (4, .int (iI i))]) F.1 F.2.1 dX11_letterCount_44 hl (by decide) rfl (fun ls hl => ?_)
            have lp46 : ∀ (n46 : Nat) (k2 : Int) (j : Int) (H : Heap) (locs : List Loc) (ls : Array Slot), (0 ≤ j ∧ j ≤ (fmo (rget rs i) b).length) → (k2 = k + cntb (fun o => decide (lat (fmo (rget rs i) b) o = x)) j.toNat) → ((fmo (rget rs i) b).length - j) < (n46 : Int) → ad_G D A9 s9.heap H locs [(m0, mO M 0 xrm xsv xln xat xer xwr xwd xlo xhi xwl xml xkl xfi xse xdn xon xtw xol xrw xgl xus xpr xmk xab), (M 1, aI (K 0) 1247 g)] → lv_has ls 6 [(0, .ref m0), (1, .int (iI x)), (2, .int (iI b)), (3, .int (iI k2)), (4, .int (iI i)), (5, .int (iI j))] → W p9 l e9 rm_X11_letterCount s9 m9 ag9 bl9 mt9 c9 H locs 0 0 Q9 (F0 m9 46 ls []) := by
              intro n46
              induction n46 with
              | zero =>
                intro k2 j H locs ls hj hk2 hm46
                exact absurd hm46 (by omega)
              | succ n46 ih46 =>
                intro k2 j H locs ls hj hk2 hm46 G hl
                have hfl := (fmo_Fw hW i b).1
                refine lv_iload F.1 F.2.1 dX11_letterCount_46 (lv_at hl 5 rfl) ?_
                refine lv_aload_n F.1 F.2.1 dX11_letterCount_48 rfl (lv_at hl 0 rfl) ?_
                refine lv_iload F.1 F.2.1 dX11_letterCount_49 (lv_at hl 4 rfl) ?_
                refine lv_iload_n F.1 F.2.1 dX11_letterCount_51 rfl (lv_at hl 2 rfl) ?_
                refine ad_callV (As := [.int (iI i), .int (iI b)]) (rest := [.int (iI j)]) F G (c_X11_lengthOf l D K z0 m0 M 0 xrm xsv xln xat xer xwr xwd xlo xhi xwl xml xkl xfi xse xdn xon xtw xol xrw xgl xus xpr xmk xab g rs ps md th nc i b hM hW (by omega) hb) my_X11_lengthOf mv_X11_185 (wr := []) (isC := [0, 1]) (isR := []) ⟨rfl, rfl, rfl, rfl, by decide⟩ 11 0 rfl rfl rfl rfl ⟨Nat.le_of_ble_eq_true rfl, Nat.le_of_ble_eq_true rfl⟩ ⟨Nat.le_of_ble_eq_true rfl, Nat.le_of_ble_eq_true rfl⟩ (Nat.le_of_ble_eq_true rfl) hl.1 (cells9 := 0) (slots9 := 0) ⟨rfl, rfl⟩ dX11_letterCount_52 (fun v u H locs hw_8 G => ?_)
                obtain ⟨rfl, rfl⟩ := hw_8
                replace G := G.perm (ws' := [(m0, mO M 0 xrm xsv xln xat xer xwr xwd xlo xhi xwl xml xkl xfi xse xdn xon xtw xol xrw xgl xus xpr xmk xab), (M 1, aI (K 0) 1247 g)]) [0, 1] rfl rfl
                refine W.eq (g2 := F0 m9 55 ls [.int (iI ((fmo (rget rs i) b).length : Int)), .int (iI j)]) rfl ?_
                refine ad_icmp_ge (tgt := 85) F (by omega) dX11_letterCount_55 (by decide) (fun cc_9 => ?_) (fun cc_9 => ?_)
                · refine ad_iinc (lv' := [(4, .int (iI (i + 1))), (0, .ref m0), (1, .int (iI x)), (2, .int (iI b)), (3, .int (iI k2)), (5, .int (iI j))]) F dX11_letterCount_85 hl (k := 4) rfl (by decide) rfl (fun ls hl => ?_)
                  refine lv_goto (tgt := 32) F.1 F.2.1 dX11_letterCount_88 (by decide) ?_
                  exact ih32 k2 (i + 1) _ _ _ (by omega) (by rw [hk2, show j = (fmo (rget rs i) b).length by omega, sumb_s (by omega), hk]; rfl) (by omega) (G.perm (ws' := [(m0, mO M 0 xrm xsv xln xat xer xwr xwd xlo xhi xwl xml xkl xfi xse xdn xon xtw xol xrw xgl xus xpr xmk xab), (M 1, aI (K 0) 1247 g)]) [0, 1] rfl rfl) (lv_sub hl [1, 2, 3, 4, 0] rfl)
                · refine lv_iload_n F.1 F.2.1 dX11_letterCount_58 rfl (lv_at hl 3 rfl) ?_
                  refine lv_aload_n F.1 F.2.1 dX11_letterCount_59 rfl (lv_at hl 0 rfl) ?_
                  refine lv_iload F.1 F.2.1 dX11_letterCount_60 (lv_at hl 4 rfl) ?_
                  refine lv_iload_n F.1 F.2.1 dX11_letterCount_62 rfl (lv_at hl 2 rfl) ?_
                  refine lv_iload F.1 F.2.1 dX11_letterCount_63 (lv_at hl 5 rfl) ?_
                  refine ad_callV (As := [.int (iI i), .int (iI b), .int (iI j)]) (rest := [.int (iI k2)]) F G (c_X11_letterOf l D K z0 m0 M 0 xrm xsv xln xat xer xwr xwd xlo xhi xwl xml xkl xfi xse xdn xon xtw xol xrw xgl xus xpr xmk xab g rs ps md th nc i b j hM hW (by omega) hb (by omega)) my_X11_letterOf mv_X11_189 (wr := []) (isC := [0, 1]) (isR := []) ⟨rfl, rfl, rfl, rfl, by decide⟩ 11 0 rfl rfl rfl rfl ⟨Nat.le_of_ble_eq_true rfl, Nat.le_of_ble_eq_true rfl⟩ ⟨Nat.le_of_ble_eq_true rfl, Nat.le_of_ble_eq_true rfl⟩ (Nat.le_of_ble_eq_true rfl) hl.1 (cells9 := 0) (slots9 := 0) ⟨rfl, rfl⟩ dX11_letterCount_65 (fun v u H locs hw_10 G => ?_)
                  obtain ⟨rfl, rfl⟩ := hw_10
                  replace G := G.perm (ws' := [(m0, mO M 0 xrm xsv xln xat xer xwr xwd xlo xhi xwl xml xkl xfi xse xdn xon xtw xol xrw xgl xus xpr xmk xab), (M 1, aI (K 0) 1247 g)]) [0, 1] rfl rfl
                  refine W.eq (g2 := F0 m9 68 ls [.int (iI (lat (fmo (rget rs i) b) j)), .int (iI k2)]) rfl ?_
                  have hlt : 97 ≤ lat (fmo (rget rs i) b) j ∧ lat (fmo (rget rs i) b) j ≤ 122 := lat_let (fmo_Fw hW i b) (k := j) (by omega) (by omega)
                  refine lv_iload_n F.1 F.2.1 dX11_letterCount_68 rfl (lv_at hl 1 rfl) ?_
                  refine ad_icmp_ne (tgt := 76) F (by omega) dX11_letterCount_69 (by decide) (fun cc_11 => ?_) (fun cc_11 => ?_)
                  · refine ad_iconst F dX11_letterCount_76 ?_
                    refine ad_iadd F dX11_letterCount_77 ?_
                    refine lv_istore_n (lv' := [(3, .int (iI (k2 + 0))), (0, .ref m0), (1, .int (iI x)), (2, .int (iI b)), (4, .int (iI i)), (5, .int (iI j))]) F.1 F.2.1 dX11_letterCount_78 rfl hl (by decide) rfl (fun ls hl => ?_)
                    refine ad_iinc (lv' := [(5, .int (iI (j + 1))), (3, .int (iI (k2 + 0))), (0, .ref m0), (1, .int (iI x)), (2, .int (iI b)), (4, .int (iI i))]) F dX11_letterCount_79 hl (k := 5) rfl (by decide) rfl (fun ls hl => ?_)
                    refine lv_goto (tgt := 46) F.1 F.2.1 dX11_letterCount_82 (by decide) ?_
                    exact ih46 (k2 + 0) (j + 1) _ _ _ (by omega) (by rw [cntb_s (by omega), if_neg (fun q => cc_11 (of_decide_eq_true q)), hk2]; omega) (by omega) (G.perm (ws' := [(m0, mO M 0 xrm xsv xln xat xer xwr xwd xlo xhi xwl xml xkl xfi xse xdn xon xtw xol xrw xgl xus xpr xmk xab), (M 1, aI (K 0) 1247 g)]) [0, 1] rfl rfl) (lv_sub hl [2, 3, 4, 1, 5, 0] rfl)
                  · refine ad_iconst F dX11_letterCount_72 ?_
                    refine lv_goto (tgt := 77) F.1 F.2.1 dX11_letterCount_73 (by decide) ?_
                    refine ad_iadd F dX11_letterCount_77 ?_
                    refine lv_istore_n (lv' := [(3, .int (iI (k2 + 1))), (0, .ref m0), (1, .int (iI x)), (2, .int (iI b)), (4, .int (iI i)), (5, .int (iI j))]) F.1 F.2.1 dX11_letterCount_78 rfl hl (by decide) rfl (fun ls hl => ?_)
                    refine ad_iinc (lv' := [(5, .int (iI (j + 1))), (3, .int (iI (k2 + 1))), (0, .ref m0), (1, .int (iI x)), (2, .int (iI b)), (4, .int (iI i))]) F dX11_letterCount_79 hl (k := 5) rfl (by decide) rfl (fun ls hl => ?_)
                    refine lv_goto (tgt := 46) F.1 F.2.1 dX11_letterCount_82 (by decide) ?_
                    exact ih46 (k2 + 1) (j + 1) _ _ _ (by omega) (by rw [cntb_s (by omega), if_pos (decide_eq_true cc_11), hk2]; omega) (by omega) (G.perm (ws' := [(m0, mO M 0 xrm xsv xln xat xer xwr xwd xlo xhi xwl xml xkl xfi xse xdn xon xtw xol xrw xgl xus xpr xmk xab), (M 1, aI (K 0) 1247 g)]) [0, 1] rfl rfl) (lv_sub hl [2, 3, 4, 1, 5, 0] rfl)
            exact lp46 (((((fmo (rget rs i) b).length - 0 : Int)) + 1).toNat) k 0 _ _ _ (by omega) (by simp [cntb]) (by omega) (G.perm (ws' := [(m0, mO M 0 xrm xsv xln xat xer xwr xwd xlo xhi xwl xml xkl xfi xse xdn xon xtw xol xrw xgl xus xpr xmk xab), (M 1, aI (K 0) 1247 g)]) [0, 1] rfl rfl) (lv_sub hl [1, 2, 3, 4, 5, 0] rfl)
      exact lp32 ((((rs.length - 0 : Int)) + 1).toNat) 0 0 _ _ _ (by omega) rfl (by omega) (G.perm (ws' := [(m0, mO M 0 xrm xsv xln xat xer xwr xwd xlo xhi xwl xml xkl xfi xse xdn xon xtw xol xrw xgl xus xpr xmk xab), (M 1, aI (K 0) 1247 g)]) [0, 1] rfl rfl) (lv_sub hl [2, 3, 4, 1, 0] rfl)
    · refine ad_iconst F dX11_letterCount_14 ?_
      refine lv_goto (tgt := 19) F.1 F.2.1 dX11_letterCount_15 (by decide) ?_
      refine ad_callV (As := [.int (iI 1), .int (iI 1)]) (rest := []) F G (c_X11_fails_1 l D K z0 m0 M xth xrm xsv xln xat xer xwr xwd xlo xhi xwl xml xkl xfi xse xdn xon xtw xol xrw xgl xus xpr xmk xab 1 (by omega)) my_X11_fails mv_X11_111 (wr := [(M 1, aI (K 0) 1247 g)]) (isC := [0]) (isR := [1]) ⟨rfl, rfl, rfl, rfl, by decide⟩ 11 0 rfl rfl rfl rfl ⟨Nat.le_of_ble_eq_true rfl, Nat.le_of_ble_eq_true rfl⟩ ⟨Nat.le_of_ble_eq_true rfl, Nat.le_of_ble_eq_true rfl⟩ (Nat.le_of_ble_eq_true rfl) hl.1 (cells9 := 0) (slots9 := 0) ⟨rfl, rfl⟩ dX11_letterCount_19 (fun v u H locs hw_12 G => ?_)
      obtain ⟨rfl, rfl⟩ := hw_12
      replace G := G.perm (ws' := [(m0, mO M 1 xrm xsv xln xat xer xwr xwd xlo xhi xwl xml xkl xfi xse xdn xon xtw xol xrw xgl xus xpr xmk xab), (M 1, aI (K 0) 1247 g)]) [1, 0] rfl rfl
      refine W.eq (g2 := F0 m9 22 ls [.int (iI 1)]) rfl ?_
      refine ad_if_eq (tgt := 27) F (by decide) dX11_letterCount_22 (by decide) (fun cc_13 => absurd cc_13 (by decide)) (fun _ => ?_)
      refine ad_iconst F dX11_letterCount_25 ?_
      exact ad_ireturn F G hR rfl (Nat.le_of_ble_eq_true rfl) (Nat.le_of_ble_eq_true rfl) (Or.inl ⟨rfl, (by omega), rfl⟩) dX11_letterCount_26

def rm_X11_saving : Room := { frames := 3, cells := 0, slots := 0, locals := 56 }
set_option maxHeartbeats 4000000 in
set_option maxRecDepth 100000 in
theorem c_X11_saving (l : Launch) (D : va_G) (K : Nat → ClassId) (z0 : Nat) (m0 : Nat) (M : Nat → Nat) (xth : Int) (xrm : Int) (xsv : Int) (xln : Int) (xat : Int) (xer : Int) (xwr : Int) (xwd : Int) (xlo : Int) (xhi : Int) (xwl : Int) (xml : Int) (xkl : Int) (xfi : Int) (xse : Int) (xdn : Int) (xon : Int) (xtw : Int) (xol : Int) (xrw : Int) (xgl : Int) (xus : Int) (xpr : Int) (xmk : Int) (xab : Int) (g : Nat → Int) (rs : List Rl) (ps : List Pr) (md : Int) (th : Int) (nc : Int) (k : Int) (hM : MRow g rs ps md th nc) (hW : RW rs) (hk : -2147483648 ≤ k ∧ k < 2147483648) : CT l D K z0 yX11_saving cX11_saving 5 (some .int) rm_X11_saving [.ref m0, .int (iI k)] [(m0, mO M xth xrm xsv xln xat xer xwr xwd xlo xhi xwl xml xkl xfi xse xdn xon xtw xol xrw xgl xus xpr xmk xab), (M 1, aI (K 0) 1247 g)] (fun v9 u9 => (v9 = some (.int (iI 0)) ∧ (¬ (-1 ≤ k ∧ k ≤ 2)) ∧ u9 = [(m0, mO M 1 xrm xsv xln xat xer xwr xwd xlo xhi xwl xml xkl xfi xse xdn xon xtw xol xrw xgl xus xpr xmk xab), (M 1, aI (K 0) 1247 g)]) ∨ (v9 = some (.int (iI (sumb (savA rs k) rs.length))) ∧ (-1 ≤ k ∧ k ≤ 2) ∧ u9 = [(m0, mO M 0 xrm xsv xln xat xer xwr xwd xlo xhi xwl xml xkl xfi xse xdn xon xtw xol xrw xgl xus xpr xmk xab), (M 1, aI (K 0) 1247 g)])) := by
  refine CT.start RX11 "saving" (by decide) rfl rfl (Nat.le_of_ble_eq_true rfl) ?_
  intro p9 e9 s9 m9 ag9 bl9 mt9 c9 A9 Q9 ls F G hR hl
  have hl : lv_has ls 5 [(0, .ref m0), (1, .int (iI k))] := hl
  have hn := hW.1
  refine lv_aload_n F.1 F.2.1 dX11_saving_0 rfl (lv_at hl 0 rfl) ?_
  refine ad_iconst F dX11_saving_1 ?_
  refine lv_iload_n F.1 F.2.1 dX11_saving_2 rfl (lv_at hl 1 rfl) ?_
  refine ad_iconst F dX11_saving_3 ?_
  refine ad_iconst F dX11_saving_4 ?_
  refine ad_callS (As := [.int (iI k), .int (iI (-1)), .int (iI 2)]) (rest := [.int (iI 1), .ref m0]) F G (c_X11_isBetween l D K z0 k (-1) 2 hk (by omega) (by omega)) my_X11_isBetween ms_X11_107 (wr := [(m0, mO M xth xrm xsv xln xat xer xwr xwd xlo xhi xwl xml xkl xfi xse xdn xon xtw xol xrw xgl xus xpr xmk xab), (M 1, aI (K 0) 1247 g)]) (isC := []) (isR := [0, 1]) ⟨rfl, rfl, rfl, rfl, by decide⟩ rfl rfl ⟨Nat.le_of_ble_eq_true rfl, Nat.le_of_ble_eq_true rfl⟩ ⟨Nat.le_of_ble_eq_true rfl, Nat.le_of_ble_eq_true rfl⟩ (Nat.le_of_ble_eq_true rfl) hl.1 (cells9 := 0) (slots9 := 0) ⟨rfl, rfl⟩ dX11_saving_5 (fun v u H locs hw_1 G => ?_)
  rcases hw_1 with ⟨rfl, hc_2, rfl⟩ | ⟨rfl, hc_3, rfl⟩
  · replace G := G.perm (ws' := [(m0, mO M xth xrm xsv xln xat xer xwr xwd xlo xhi xwl xml xkl xfi xse xdn xon xtw xol xrw xgl xus xpr xmk xab), (M 1, aI (K 0) 1247 g)]) [0, 1] rfl rfl
    refine W.eq (g2 := F0 m9 8 ls [.int (iI 1), .int (iI 1), .ref m0]) rfl ?_
    refine ad_if_ne (tgt := 15) F (by decide) dX11_saving_8 (by decide) (fun _ => ?_) (fun cc_4 => absurd cc_4 (by decide))
    refine ad_iconst F dX11_saving_15 ?_
    refine ad_callV (As := [.int (iI 1), .int (iI 0)]) (rest := []) F G (c_X11_fails_0 l D K z0 m0 M xth xrm xsv xln xat xer xwr xwd xlo xhi xwl xml xkl xfi xse xdn xon xtw xol xrw xgl xus xpr xmk xab 1 (by omega)) my_X11_fails mv_X11_111 (wr := [(M 1, aI (K 0) 1247 g)]) (isC := [0]) (isR := [1]) ⟨rfl, rfl, rfl, rfl, by decide⟩ 11 0 rfl rfl rfl rfl ⟨Nat.le_of_ble_eq_true rfl, Nat.le_of_ble_eq_true rfl⟩ ⟨Nat.le_of_ble_eq_true rfl, Nat.le_of_ble_eq_true rfl⟩ (Nat.le_of_ble_eq_true rfl) hl.1 (cells9 := 0) (slots9 := 0) ⟨rfl, rfl⟩ dX11_saving_16 (fun v u H locs hw_5 G => ?_)
    obtain ⟨rfl, rfl⟩ := hw_5
    replace G := G.perm (ws' := [(m0, mO M 0 xrm xsv xln xat xer xwr xwd xlo xhi xwl xml xkl xfi xse xdn xon xtw xol xrw xgl xus xpr xmk xab), (M 1, aI (K 0) 1247 g)]) [1, 0] rfl rfl
    refine W.eq (g2 := F0 m9 19 ls [.int (iI 0)]) rfl ?_
    refine ad_if_eq (tgt := 24) F (by decide) dX11_saving_19 (by decide) (fun _ => ?_) (fun cc_6 => absurd cc_6 (by decide))
    refine ad_iconst F dX11_saving_24 ?_
    refine lv_istore_n (lv' := [(2, .int (iI 0)), (0, .ref m0), (1, .int (iI k))]) F.1 F.2.1 dX11_saving_25 rfl hl (by decide) rfl (fun ls hl => ?_)
    refine ad_iconst F dX11_saving_26 ?_
    refine lv_istore_n (lv' := [(3, .int (iI 0)), (2, .int (iI 0)), (0, .ref m0), (1, .int (iI k))]) F.1 F.2.1 dX11_saving_27 rfl hl (by decide) rfl (fun ls hl => ?_)
    have lp28 : ∀ (n28 : Nat) (s : Int) (i : Int) (H : Heap) (locs : List Loc) (ls : Array Slot), (0 ≤ i ∧ i ≤ rs.length) → (s = sumb (savA rs k) i.toNat) → (rs.length - i) < (n28 : Int) → ad_G D A9 s9.heap H locs [(m0, mO M 0 xrm xsv xln xat xer xwr xwd xlo xhi xwl xml xkl xfi xse xdn xon xtw xol xrw xgl xus xpr xmk xab), (M 1, aI (K 0) 1247 g)] → lv_has ls 5 [(0, .ref m0), (1, .int (iI k)), (2, .int (iI s)), (3, .int (iI i))] → W p9 l e9 rm_X11_saving s9 m9 ag9 bl9 mt9 c9 H locs 0 0 Q9 (F0 m9 28 ls []) := by
      intro n28
      induction n28 with
      | zero =>
        intro s i H locs ls hi hs hm28
        exact absurd hm28 (by omega)
      | succ n28 ih28 =>
        intro s i H locs ls hi hs hm28 G hl
        refine lv_iload_n F.1 F.2.1 dX11_saving_28 rfl (lv_at hl 3 rfl) ?_
        refine lv_aload_n F.1 F.2.1 dX11_saving_29 rfl (lv_at hl 0 rfl) ?_
        refine ad_get F G fl_X11_9 0 rfl rfl dX11_saving_30 ?_
        refine ad_iconst F dX11_saving_33 ?_
        refine ad_iald F G 1 rfl (w := (rs.length : Int)) (by omega) (hM.1.1) dX11_saving_34 ?_
        refine ad_icmp_ge (tgt := 105) F (by omega) dX11_saving_35 (by decide) (fun cc_7 => ?_) (fun cc_7 => ?_)
        · refine lv_iload_n F.1 F.2.1 dX11_saving_105 rfl (lv_at hl 2 rfl) ?_
          exact ad_ireturn F G hR rfl (Nat.le_of_ble_eq_true rfl) (Nat.le_of_ble_eq_true rfl) (Or.inr (⟨(ad_eqi (by rw [hs, show i = rs.length by omega]; rfl)), (by omega), rfl⟩)) dX11_saving_106
        · refine lv_iload_n F.1 F.2.1 dX11_saving_38 rfl (lv_at hl 1 rfl) ?_
          refine ad_if_lt (tgt := 52) F (by omega) dX11_saving_39 (by decide) (fun cc_8 => ?_) (fun cc_8 => ?_)
          · refine ad_iconst F dX11_saving_52 ?_
            refine lv_goto (tgt := 57) F.1 F.2.1 dX11_saving_53 (by decide) ?_
            refine lv_istore (lv' := [(4, .int (iI 1)), (0, .ref m0), (1, .int (iI k)), (2, .int (iI s)), (3, .int (iI i))]) F.1 F.2.1 dX11_saving_57 hl (by decide) rfl (fun ls hl => ?_)
            refine lv_iload_n F.1 F.2.1 dX11_saving_59 rfl (lv_at hl 3 rfl) ?_
            refine lv_iload F.1 F.2.1 dX11_saving_60 (lv_at hl 0 rfl) ?_
            refine ad_if_eq (tgt := 96) F (by decide) dX11_saving_62 (by decide) (fun cc_9 => absurd cc_9 (by decide)) (fun _ => ?_)
            refine lv_aload_n F.1 F.2.1 dX11_saving_65 rfl (lv_at hl 1 rfl) ?_
            refine lv_iload_n F.1 F.2.1 dX11_saving_66 rfl (lv_at hl 4 rfl) ?_
            refine ad_iconst F dX11_saving_67 ?_
            refine ad_callV (As := [.int (iI i), .int (iI 1)]) (rest := [.int (iI s)]) F G (c_X11_lengthOf l D K z0 m0 M 0 xrm xsv xln xat xer xwr xwd xlo xhi xwl xml xkl xfi xse xdn xon xtw xol xrw xgl xus xpr xmk xab g rs ps md th nc i 1 hM hW (by omega) (by omega)) my_X11_lengthOf mv_X11_185 (wr := []) (isC := [0, 1]) (isR := []) ⟨rfl, rfl, rfl, rfl, by decide⟩ 11 0 rfl rfl rfl rfl ⟨Nat.le_of_ble_eq_true rfl, Nat.le_of_ble_eq_true rfl⟩ ⟨Nat.le_of_ble_eq_true rfl, Nat.le_of_ble_eq_true rfl⟩ (Nat.le_of_ble_eq_true rfl) hl.1 (cells9 := 0) (slots9 := 0) ⟨rfl, rfl⟩ dX11_saving_68 (fun v u H locs hw_10 G => ?_)
            obtain ⟨rfl, rfl⟩ := hw_10
            replace G := G.perm (ws' := [(m0, mO M 0 xrm xsv xln xat xer xwr xwd xlo xhi xwl xml xkl xfi xse xdn xon xtw xol xrw xgl xus xpr xmk xab), (M 1, aI (K 0) 1247 g)]) [0, 1] rfl rfl
            refine W.eq (g2 := F0 m9 71 ls [.int (iI ((fmo (rget rs i) 1).length : Int)), .int (iI s)]) rfl ?_
            refine lv_aload_n F.1 F.2.1 dX11_saving_71 rfl (lv_at hl 1 rfl) ?_
            refine lv_iload_n F.1 F.2.1 dX11_saving_72 rfl (lv_at hl 4 rfl) ?_
            refine ad_iconst F dX11_saving_73 ?_
            refine ad_callV (As := [.int (iI i), .int (iI 0)]) (rest := [.int (iI ((fmo (rget rs i) 1).length : Int)), .int (iI s)]) F G (c_X11_lengthOf l D K z0 m0 M 0 xrm xsv xln xat xer xwr xwd xlo xhi xwl xml xkl xfi xse xdn xon xtw xol xrw xgl xus xpr xmk xab g rs ps md th nc i 0 hM hW (by omega) (by omega)) my_X11_lengthOf mv_X11_185 (wr := []) (isC := [0, 1]) (isR := []) ⟨rfl, rfl, rfl, rfl, by decide⟩ 11 0 rfl rfl rfl rfl ⟨Nat.le_of_ble_eq_true rfl, Nat.le_of_ble_eq_true rfl⟩ ⟨Nat.le_of_ble_eq_true rfl, Nat.le_of_ble_eq_true rfl⟩ (Nat.le_of_ble_eq_true rfl) hl.1 (cells9 := 0) (slots9 := 0) ⟨rfl, rfl⟩ dX11_saving_74 (fun v u H locs hw_11 G => ?_)
            obtain ⟨rfl, rfl⟩ := hw_11
            replace G := G.perm (ws' := [(m0, mO M 0 xrm xsv xln xat xer xwr xwd xlo xhi xwl xml xkl xfi xse xdn xon xtw xol xrw xgl xus xpr xmk xab), (M 1, aI (K 0) 1247 g)]) [0, 1] rfl rfl
            refine W.eq (g2 := F0 m9 77 ls [.int (iI ((fmo (rget rs i) 0).length : Int)), .int (iI ((fmo (rget rs i) 1).length : Int)), .int (iI s)]) rfl ?_
            refine ad_isub F dX11_saving_77 ?_
            refine lv_aload_n F.1 F.2.1 dX11_saving_78 rfl (lv_at hl 1 rfl) ?_
            refine lv_iload_n F.1 F.2.1 dX11_saving_79 rfl (lv_at hl 4 rfl) ?_
            refine ad_iconst F dX11_saving_80 ?_
            refine ad_callV (As := [.int (iI i), .int (iI 0)]) (rest := [.int (iI (((fmo (rget rs i) 1).length : Int) - ((fmo (rget rs i) 0).length : Int))), .int (iI s)]) F G (c_X11_of_0 l D K z0 m0 M 0 xrm xsv xln xat xer xwr xwd xlo xhi xwl xml xkl xfi xse xdn xon xtw xol xrw xgl xus xpr xmk xab g rs ps md th nc i hM hW (by omega)) my_X11_of mv_X11_99 (wr := []) (isC := [0, 1]) (isR := []) ⟨rfl, rfl, rfl, rfl, by decide⟩ 11 0 rfl rfl rfl rfl ⟨Nat.le_of_ble_eq_true rfl, Nat.le_of_ble_eq_true rfl⟩ ⟨Nat.le_of_ble_eq_true rfl, Nat.le_of_ble_eq_true rfl⟩ (Nat.le_of_ble_eq_true rfl) hl.1 (cells9 := 0) (slots9 := 0) ⟨rfl, rfl⟩ dX11_saving_81 (fun v u H locs hw_12 G => ?_)
            obtain ⟨rfl, rfl⟩ := hw_12
            replace G := G.perm (ws' := [(m0, mO M 0 xrm xsv xln xat xer xwr xwd xlo xhi xwl xml xkl xfi xse xdn xon xtw xol xrw xgl xus xpr xmk xab), (M 1, aI (K 0) 1247 g)]) [0, 1] rfl rfl
            refine W.eq (g2 := F0 m9 84 ls [.int (iI ((rget rs i).1)), .int (iI (((fmo (rget rs i) 1).length : Int) - ((fmo (rget rs i) 0).length : Int))), .int (iI s)]) rfl ?_
            have hk3 := hW.bd (z := i) (by omega) (by omega)
            refine ad_if_ne (tgt := 91) F (by omega) dX11_saving_84 (by decide) (fun cc_13 => ?_) (fun cc_13 => ?_)
            · refine ad_iconst F dX11_saving_91 ?_
              refine ad_imul F dX11_saving_92 ?_
              refine lv_goto (tgt := 97) F.1 F.2.1 dX11_saving_93 (by decide) ?_
              refine ad_iadd F dX11_saving_97 ?_
              refine lv_istore_n (lv' := [(2, .int (iI (s + ((((fmo (rget rs i) 1).length : Int) - ((fmo (rget rs i) 0).length : Int)) * 2)))), (4, .int (iI 1)), (0, .ref m0), (1, .int (iI k)), (3, .int (iI i))]) F.1 F.2.1 dX11_saving_98 rfl hl (by decide) rfl (fun ls hl => ?_)
              refine ad_iinc (lv' := [(3, .int (iI (i + 1))), (2, .int (iI (s + ((((fmo (rget rs i) 1).length : Int) - ((fmo (rget rs i) 0).length : Int)) * 2)))), (4, .int (iI 1)), (0, .ref m0), (1, .int (iI k))]) F dX11_saving_99 hl (k := 4) rfl (by decide) rfl (fun ls hl => ?_)
              refine lv_goto (tgt := 28) F.1 F.2.1 dX11_saving_102 (by decide) ?_
              exact ih28 (s + ((((fmo (rget rs i) 1).length : Int) - ((fmo (rget rs i) 0).length : Int)) * 2)) (i + 1) _ _ _ (by omega) (by rw [sumb_s (by omega), hs]; unfold savA sav fmo; rw [if_pos (by omega), if_neg cc_13]; simp only [if_true, show ((0 : Int) = 1) = False by decide, if_false]; omega) (by omega) (G.perm (ws' := [(m0, mO M 0 xrm xsv xln xat xer xwr xwd xlo xhi xwl xml xkl xfi xse xdn xon xtw xol xrw xgl xus xpr xmk xab), (M 1, aI (K 0) 1247 g)]) [0, 1] rfl rfl) (lv_sub hl [3, 4, 1, 0] rfl)
            · refine ad_iconst F dX11_saving_87 ?_
              refine lv_goto (tgt := 92) F.1 F.2.1 dX11_saving_88 (by decide) ?_
              refine ad_imul F dX11_saving_92 ?_
              refine lv_goto (tgt := 97) F.1 F.2.1 dX11_saving_93 (by decide) ?_
              refine ad_iadd F dX11_saving_97 ?_
              refine lv_istore_n (lv' := [(2, .int (iI (s + ((((fmo (rget rs i) 1).length : Int) - ((fmo (rget rs i) 0).length : Int)) * 1)))), (4, .int (iI 1)), (0, .ref m0), (1, .int (iI k)), (3, .int (iI i))]) F.1 F.2.1 dX11_saving_98 rfl hl (by decide) rfl (fun ls hl => ?_)
              refine ad_iinc (lv' := [(3, .int (iI (i + 1))), (2, .int (iI (s + ((((fmo (rget rs i) 1).length : Int) - ((fmo (rget rs i) 0).length : Int)) * 1)))), (4, .int (iI 1)), (0, .ref m0), (1, .int (iI k))]) F dX11_saving_99 hl (k := 4) rfl (by decide) rfl (fun ls hl => ?_)
              refine lv_goto (tgt := 28) F.1 F.2.1 dX11_saving_102 (by decide) ?_
              exact ih28 (s + ((((fmo (rget rs i) 1).length : Int) - ((fmo (rget rs i) 0).length : Int)) * 1)) (i + 1) _ _ _ (by omega) (by rw [sumb_s (by omega), hs]; unfold savA sav fmo; rw [if_pos (by omega), if_pos cc_13]; simp only [if_true, show ((0 : Int) = 1) = False by decide, if_false]; omega) (by omega) (G.perm (ws' := [(m0, mO M 0 xrm xsv xln xat xer xwr xwd xlo xhi xwl xml xkl xfi xse xdn xon xtw xol xrw xgl xus xpr xmk xab), (M 1, aI (K 0) 1247 g)]) [0, 1] rfl rfl) (lv_sub hl [3, 4, 1, 0] rfl)
          · refine lv_aload_n F.1 F.2.1 dX11_saving_42 rfl (lv_at hl 0 rfl) ?_
            refine lv_iload_n F.1 F.2.1 dX11_saving_43 rfl (lv_at hl 3 rfl) ?_
            refine ad_iconst F dX11_saving_44 ?_
            refine ad_callV (As := [.int (iI i), .int (iI 0)]) (rest := []) F G (c_X11_of_0 l D K z0 m0 M 0 xrm xsv xln xat xer xwr xwd xlo xhi xwl xml xkl xfi xse xdn xon xtw xol xrw xgl xus xpr xmk xab g rs ps md th nc i hM hW (by omega)) my_X11_of mv_X11_99 (wr := []) (isC := [0, 1]) (isR := []) ⟨rfl, rfl, rfl, rfl, by decide⟩ 11 0 rfl rfl rfl rfl ⟨Nat.le_of_ble_eq_true rfl, Nat.le_of_ble_eq_true rfl⟩ ⟨Nat.le_of_ble_eq_true rfl, Nat.le_of_ble_eq_true rfl⟩ (Nat.le_of_ble_eq_true rfl) hl.1 (cells9 := 0) (slots9 := 0) ⟨rfl, rfl⟩ dX11_saving_45 (fun v u H locs hw_14 G => ?_)
            obtain ⟨rfl, rfl⟩ := hw_14
            replace G := G.perm (ws' := [(m0, mO M 0 xrm xsv xln xat xer xwr xwd xlo xhi xwl xml xkl xfi xse xdn xon xtw xol xrw xgl xus xpr xmk xab), (M 1, aI (K 0) 1247 g)]) [0, 1] rfl rfl
            refine W.eq (g2 := F0 m9 48 ls [.int (iI ((rget rs i).1))]) rfl ?_
            have hk1 := hW.bd (z := i) (by omega) (by omega)
            refine lv_iload_n F.1 F.2.1 dX11_saving_48 rfl (lv_at hl 1 rfl) ?_
            refine ad_icmp_ne (tgt := 56) F (by omega) dX11_saving_49 (by decide) (fun cc_15 => ?_) (fun cc_15 => ?_)
            · refine ad_iconst F dX11_saving_56 ?_
              refine lv_istore (lv' := [(4, .int (iI 0)), (0, .ref m0), (1, .int (iI k)), (2, .int (iI s)), (3, .int (iI i))]) F.1 F.2.1 dX11_saving_57 hl (by decide) rfl (fun ls hl => ?_)
              refine lv_iload_n F.1 F.2.1 dX11_saving_59 rfl (lv_at hl 3 rfl) ?_
              refine lv_iload F.1 F.2.1 dX11_saving_60 (lv_at hl 0 rfl) ?_
              refine ad_if_eq (tgt := 96) F (by decide) dX11_saving_62 (by decide) (fun _ => ?_) (fun cc_16 => absurd cc_16 (by decide))
              refine ad_iconst F dX11_saving_96 ?_
              refine ad_iadd F dX11_saving_97 ?_
              refine lv_istore_n (lv' := [(2, .int (iI (s + 0))), (4, .int (iI 0)), (0, .ref m0), (1, .int (iI k)), (3, .int (iI i))]) F.1 F.2.1 dX11_saving_98 rfl hl (by decide) rfl (fun ls hl => ?_)
              refine ad_iinc (lv' := [(3, .int (iI (i + 1))), (2, .int (iI (s + 0))), (4, .int (iI 0)), (0, .ref m0), (1, .int (iI k))]) F dX11_saving_99 hl (k := 4) rfl (by decide) rfl (fun ls hl => ?_)
              refine lv_goto (tgt := 28) F.1 F.2.1 dX11_saving_102 (by decide) ?_
              exact ih28 (s + 0) (i + 1) _ _ _ (by omega) (by rw [sumb_s (by omega), hs]; unfold savA; rw [if_neg (by omega)]) (by omega) (G.perm (ws' := [(m0, mO M 0 xrm xsv xln xat xer xwr xwd xlo xhi xwl xml xkl xfi xse xdn xon xtw xol xrw xgl xus xpr xmk xab), (M 1, aI (K 0) 1247 g)]) [0, 1] rfl rfl) (lv_sub hl [3, 4, 1, 0] rfl)
            · refine ad_iconst F dX11_saving_52 ?_
              refine lv_goto (tgt := 57) F.1 F.2.1 dX11_saving_53 (by decide) ?_
              refine lv_istore (lv' := [(4, .int (iI 1)), (0, .ref m0), (1, .int (iI k)), (2, .int (iI s)), (3, .int (iI i))]) F.1 F.2.1 dX11_saving_57 hl (by decide) rfl (fun ls hl => ?_)
              refine lv_iload_n F.1 F.2.1 dX11_saving_59 rfl (lv_at hl 3 rfl) ?_
              refine lv_iload F.1 F.2.1 dX11_saving_60 (lv_at hl 0 rfl) ?_
              refine ad_if_eq (tgt := 96) F (by decide) dX11_saving_62 (by decide) (fun cc_17 => absurd cc_17 (by decide)) (fun _ => ?_)
              refine lv_aload_n F.1 F.2.1 dX11_saving_65 rfl (lv_at hl 1 rfl) ?_
              refine lv_iload_n F.1 F.2.1 dX11_saving_66 rfl (lv_at hl 4 rfl) ?_
              refine ad_iconst F dX11_saving_67 ?_
              refine ad_callV (As := [.int (iI i), .int (iI 1)]) (rest := [.int (iI s)]) F G (c_X11_lengthOf l D K z0 m0 M 0 xrm xsv xln xat xer xwr xwd xlo xhi xwl xml xkl xfi xse xdn xon xtw xol xrw xgl xus xpr xmk xab g rs ps md th nc i 1 hM hW (by omega) (by omega)) my_X11_lengthOf mv_X11_185 (wr := []) (isC := [0, 1]) (isR := []) ⟨rfl, rfl, rfl, rfl, by decide⟩ 11 0 rfl rfl rfl rfl ⟨Nat.le_of_ble_eq_true rfl, Nat.le_of_ble_eq_true rfl⟩ ⟨Nat.le_of_ble_eq_true rfl, Nat.le_of_ble_eq_true rfl⟩ (Nat.le_of_ble_eq_true rfl) hl.1 (cells9 := 0) (slots9 := 0) ⟨rfl, rfl⟩ dX11_saving_68 (fun v u H locs hw_18 G => ?_)
              obtain ⟨rfl, rfl⟩ := hw_18
              replace G := G.perm (ws' := [(m0, mO M 0 xrm xsv xln xat xer xwr xwd xlo xhi xwl xml xkl xfi xse xdn xon xtw xol xrw xgl xus xpr xmk xab), (M 1, aI (K 0) 1247 g)]) [0, 1] rfl rfl
              refine W.eq (g2 := F0 m9 71 ls [.int (iI ((fmo (rget rs i) 1).length : Int)), .int (iI s)]) rfl ?_
              refine lv_aload_n F.1 F.2.1 dX11_saving_71 rfl (lv_at hl 1 rfl) ?_
              refine lv_iload_n F.1 F.2.1 dX11_saving_72 rfl (lv_at hl 4 rfl) ?_
              refine ad_iconst F dX11_saving_73 ?_
              refine ad_callV (As := [.int (iI i), .int (iI 0)]) (rest := [.int (iI ((fmo (rget rs i) 1).length : Int)), .int (iI s)]) F G (c_X11_lengthOf l D K z0 m0 M 0 xrm xsv xln xat xer xwr xwd xlo xhi xwl xml xkl xfi xse xdn xon xtw xol xrw xgl xus xpr xmk xab g rs ps md th nc i 0 hM hW (by omega) (by omega)) my_X11_lengthOf mv_X11_185 (wr := []) (isC := [0, 1]) (isR := []) ⟨rfl, rfl, rfl, rfl, by decide⟩ 11 0 rfl rfl rfl rfl ⟨Nat.le_of_ble_eq_true rfl, Nat.le_of_ble_eq_true rfl⟩ ⟨Nat.le_of_ble_eq_true rfl, Nat.le_of_ble_eq_true rfl⟩ (Nat.le_of_ble_eq_true rfl) hl.1 (cells9 := 0) (slots9 := 0) ⟨rfl, rfl⟩ dX11_saving_74 (fun v u H locs hw_19 G => ?_)
              obtain ⟨rfl, rfl⟩ := hw_19
              replace G := G.perm (ws' := [(m0, mO M 0 xrm xsv xln xat xer xwr xwd xlo xhi xwl xml xkl xfi xse xdn xon xtw xol xrw xgl xus xpr xmk xab), (M 1, aI (K 0) 1247 g)]) [0, 1] rfl rfl
              refine W.eq (g2 := F0 m9 77 ls [.int (iI ((fmo (rget rs i) 0).length : Int)), .int (iI ((fmo (rget rs i) 1).length : Int)), .int (iI s)]) rfl ?_
              refine ad_isub F dX11_saving_77 ?_
              refine lv_aload_n F.1 F.2.1 dX11_saving_78 rfl (lv_at hl 1 rfl) ?_
              refine lv_iload_n F.1 F.2.1 dX11_saving_79 rfl (lv_at hl 4 rfl) ?_
              refine ad_iconst F dX11_saving_80 ?_
              refine ad_callV (As := [.int (iI i), .int (iI 0)]) (rest := [.int (iI (((fmo (rget rs i) 1).length : Int) - ((fmo (rget rs i) 0).length : Int))), .int (iI s)]) F G (c_X11_of_0 l D K z0 m0 M 0 xrm xsv xln xat xer xwr xwd xlo xhi xwl xml xkl xfi xse xdn xon xtw xol xrw xgl xus xpr xmk xab g rs ps md th nc i hM hW (by omega)) my_X11_of mv_X11_99 (wr := []) (isC := [0, 1]) (isR := []) ⟨rfl, rfl, rfl, rfl, by decide⟩ 11 0 rfl rfl rfl rfl ⟨Nat.le_of_ble_eq_true rfl, Nat.le_of_ble_eq_true rfl⟩ ⟨Nat.le_of_ble_eq_true rfl, Nat.le_of_ble_eq_true rfl⟩ (Nat.le_of_ble_eq_true rfl) hl.1 (cells9 := 0) (slots9 := 0) ⟨rfl, rfl⟩ dX11_saving_81 (fun v u H locs hw_20 G => ?_)
              obtain ⟨rfl, rfl⟩ := hw_20
              replace G := G.perm (ws' := [(m0, mO M 0 xrm xsv xln xat xer xwr xwd xlo xhi xwl xml xkl xfi xse xdn xon xtw xol xrw xgl xus xpr xmk xab), (M 1, aI (K 0) 1247 g)]) [0, 1] rfl rfl
              refine W.eq (g2 := F0 m9 84 ls [.int (iI ((rget rs i).1)), .int (iI (((fmo (rget rs i) 1).length : Int) - ((fmo (rget rs i) 0).length : Int))), .int (iI s)]) rfl ?_
              have hk3 := hW.bd (z := i) (by omega) (by omega)
              refine ad_if_ne (tgt := 91) F (by omega) dX11_saving_84 (by decide) (fun cc_21 => ?_) (fun cc_21 => ?_)
              · refine ad_iconst F dX11_saving_91 ?_
                refine ad_imul F dX11_saving_92 ?_
                refine lv_goto (tgt := 97) F.1 F.2.1 dX11_saving_93 (by decide) ?_
                refine ad_iadd F dX11_saving_97 ?_
                refine lv_istore_n (lv' := [(2, .int (iI (s + ((((fmo (rget rs i) 1).length : Int) - ((fmo (rget rs i) 0).length : Int)) * 2)))), (4, .int (iI 1)), (0, .ref m0), (1, .int (iI k)), (3, .int (iI i))]) F.1 F.2.1 dX11_saving_98 rfl hl (by decide) rfl (fun ls hl => ?_)
                refine ad_iinc (lv' := [(3, .int (iI (i + 1))), (2, .int (iI (s + ((((fmo (rget rs i) 1).length : Int) - ((fmo (rget rs i) 0).length : Int)) * 2)))), (4, .int (iI 1)), (0, .ref m0), (1, .int (iI k))]) F dX11_saving_99 hl (k := 4) rfl (by decide) rfl (fun ls hl => ?_)
                refine lv_goto (tgt := 28) F.1 F.2.1 dX11_saving_102 (by decide) ?_
                exact ih28 (s + ((((fmo (rget rs i) 1).length : Int) - ((fmo (rget rs i) 0).length : Int)) * 2)) (i + 1) _ _ _ (by omega) (by rw [sumb_s (by omega), hs]; unfold savA sav fmo; rw [if_pos (by omega), if_neg cc_21]; simp only [if_true, show ((0 : Int) = 1) = False by decide, if_false]; omega) (by omega) (G.perm (ws' := [(m0, mO M 0 xrm xsv xln xat xer xwr xwd xlo xhi xwl xml xkl xfi xse xdn xon xtw xol xrw xgl xus xpr xmk xab), (M 1, aI (K 0) 1247 g)]) [0, 1] rfl rfl) (lv_sub hl [3, 4, 1, 0] rfl)
              · refine ad_iconst F dX11_saving_87 ?_
                refine lv_goto (tgt := 92) F.1 F.2.1 dX11_saving_88 (by decide) ?_
                refine ad_imul F dX11_saving_92 ?_
                refine lv_goto (tgt := 97) F.1 F.2.1 dX11_saving_93 (by decide) ?_
                refine ad_iadd F dX11_saving_97 ?_
                refine lv_istore_n (lv' := [(2, .int (iI (s + ((((fmo (rget rs i) 1).length : Int) - ((fmo (rget rs i) 0).length : Int)) * 1)))), (4, .int (iI 1)), (0, .ref m0), (1, .int (iI k)), (3, .int (iI i))]) F.1 F.2.1 dX11_saving_98 rfl hl (by decide) rfl (fun ls hl => ?_)
                refine ad_iinc (lv' := [(3, .int (iI (i + 1))), (2, .int (iI (s + ((((fmo (rget rs i) 1).length : Int) - ((fmo (rget rs i) 0).length : Int)) * 1)))), (4, .int (iI 1)), (0, .ref m0), (1, .int (iI k))]) F dX11_saving_99 hl (k := 4) rfl (by decide) rfl (fun ls hl => ?_)
                refine lv_goto (tgt := 28) F.1 F.2.1 dX11_saving_102 (by decide) ?_
                exact ih28 (s + ((((fmo (rget rs i) 1).length : Int) - ((fmo (rget rs i) 0).length : Int)) * 1)) (i + 1) _ _ _ (by omega) (by rw [sumb_s (by omega), hs]; unfold savA sav fmo; rw [if_pos (by omega), if_pos cc_21]; simp only [if_true, show ((0 : Int) = 1) = False by decide, if_false]; omega) (by omega) (G.perm (ws' := [(m0, mO M 0 xrm xsv xln xat xer xwr xwd xlo xhi xwl xml xkl xfi xse xdn xon xtw xol xrw xgl xus xpr xmk xab), (M 1, aI (K 0) 1247 g)]) [0, 1] rfl rfl) (lv_sub hl [3, 4, 1, 0] rfl)
    exact lp28 ((((rs.length - 0 : Int)) + 1).toNat) 0 0 _ _ _ (by omega) rfl (by omega) (G.perm (ws' := [(m0, mO M 0 xrm xsv xln xat xer xwr xwd xlo xhi xwl xml xkl xfi xse xdn xon xtw xol xrw xgl xus xpr xmk xab), (M 1, aI (K 0) 1247 g)]) [0, 1] rfl rfl) (lv_sub hl [2, 3, 1, 0] rfl)
  · replace G := G.perm (ws' := [(m0, mO M xth xrm xsv xln xat xer xwr xwd xlo xhi xwl xml xkl xfi xse xdn xon xtw xol xrw xgl xus xpr xmk xab), (M 1, aI (K 0) 1247 g)]) [0, 1] rfl rfl
    refine W.eq (g2 := F0 m9 8 ls [.int (iI 0), .int (iI 1), .ref m0]) rfl ?_
    refine ad_if_ne (tgt := 15) F (by decide) dX11_saving_8 (by decide) (fun cc_22 => absurd cc_22 (by decide)) (fun _ => ?_)
    refine ad_iconst F dX11_saving_11 ?_
    refine lv_goto (tgt := 16) F.1 F.2.1 dX11_saving_12 (by decide) ?_
    refine ad_callV (As := [.int (iI 1), .int (iI 1)]) (rest := []) F G (c_X11_fails_1 l D K z0 m0 M xth xrm xsv xln xat xer xwr xwd xlo xhi xwl xml xkl xfi xse xdn xon xtw xol xrw xgl xus xpr xmk xab 1 (by omega)) my_X11_fails mv_X11_111 (wr := [(M 1, aI (K 0) 1247 g)]) (isC := [0]) (isR := [1]) ⟨rfl, rfl, rfl, rfl, by decide⟩ 11 0 rfl rfl rfl rfl ⟨Nat.le_of_ble_eq_true rfl, Nat.le_of_ble_eq_true rfl⟩ ⟨Nat.le_of_ble_eq_true rfl, Nat.le_of_ble_eq_true rfl⟩ (Nat.le_of_ble_eq_true rfl) hl.1 (cells9 := 0) (slots9 := 0) ⟨rfl, rfl⟩ dX11_saving_16 (fun v u H locs hw_23 G => ?_)
    obtain ⟨rfl, rfl⟩ := hw_23
    replace G := G.perm (ws' := [(m0, mO M 1 xrm xsv xln xat xer xwr xwd xlo xhi xwl xml xkl xfi xse xdn xon xtw xol xrw xgl xus xpr xmk xab), (M 1, aI (K 0) 1247 g)]) [1, 0] rfl rfl
    refine W.eq (g2 := F0 m9 19 ls [.int (iI 1)]) rfl ?_
    refine ad_if_eq (tgt := 24) F (by decide) dX11_saving_19 (by decide) (fun cc_24 => absurd cc_24 (by decide)) (fun _ => ?_)
    refine ad_iconst F dX11_saving_22 ?_
    exact ad_ireturn F G hR rfl (Nat.le_of_ble_eq_true rfl) (Nat.le_of_ble_eq_true rfl) (Or.inl ⟨rfl, (by omega), rfl⟩) dX11_saving_23

def rm_X11_hasForms : Room := { frames := 1, cells := 0, slots := 0, locals := 12 }
set_option maxHeartbeats 4000000 in
set_option maxRecDepth 100000 in
theorem c_X11_hasForms (l : Launch) (D : va_G) (K : Nat → ClassId) (z0 : Nat) (m0 : Nat) (M : Nat → Nat) (xth : Int) (xrm : Int) (xsv : Int) (xln : Int) (xat : Int) (xer : Int) (xwr : Int) (xwd : Int) (xlo : Int) (xhi : Int) (xwl : Int) (xml : Int) (xkl : Int) (xfi : Int) (xse : Int) (xdn : Int) (xon : Int) (xtw : Int) (xol : Int) (xrw : Int) (xgl : Int) (xus : Int) (xpr : Int) (xmk : Int) (xab : Int) (g : Nat → Int) (p : Int) (q : Int) (a : List Int) (b : List Int) (c : List Int) (d : List Int) (hp : 0 ≤ p ∧ p ≤ 1224) (hq : 0 ≤ q ∧ q ≤ 1224) (hF : MForm g p a b) (hF2 : MForm g q c d) (hw : (Fw a ∧ Fw b) ∧ (Fw c ∧ Fw d)) (hl6 : a.length ≤ 6 ∧ c.length ≤ 6) : CT l D K z0 yX11_hasForms cX11_hasForms 5 (some .boolean) rm_X11_hasForms [.ref m0, .int (iI p), .int (iI q)] [(m0, mO M xth xrm xsv xln xat xer xwr xwd xlo xhi xwl xml xkl xfi xse xdn xon xtw xol xrw xgl xus xpr xmk xab), (M 1, aI (K 0) 1247 g)] (fun v9 u9 => (v9 = some (.int (iI 1)) ∧ (a = c ∧ b = d) ∧ u9 = [(m0, mO M xth xrm xsv xln xat xer xwr xwd xlo xhi xwl xml xkl xfi xse xdn xon xtw xol xrw xgl xus xpr xmk xab), (M 1, aI (K 0) 1247 g)]) ∨ (v9 = some (.int (iI 0)) ∧ (¬ (a = c ∧ b = d)) ∧ u9 = [(m0, mO M xth xrm xsv xln xat xer xwr xwd xlo xhi xwl xml xkl xfi xse xdn xon xtw xol xrw xgl xus xpr xmk xab), (M 1, aI (K 0) 1247 g)])) := by
  refine CT.start RX11 "hasForms" (by decide) rfl rfl (Nat.le_of_ble_eq_true rfl) ?_
  intro p9 e9 s9 m9 ag9 bl9 mt9 c9 A9 Q9 ls F G hR hl
  have hl : lv_has ls 5 [(0, .ref m0), (1, .int (iI p)), (2, .int (iI q))] := hl
  refine ad_iconst F dX11_hasForms_0 ?_
  refine lv_istore_n (lv' := [(3, .int (iI 1)), (0, .ref m0), (1, .int (iI p)), (2, .int (iI q))]) F.1 F.2.1 dX11_hasForms_1 rfl hl (by decide) rfl (fun ls hl => ?_)
  refine ad_iconst F dX11_hasForms_2 ?_
  refine lv_istore (lv' := [(4, .int (iI 3)), (3, .int (iI 1)), (0, .ref m0), (1, .int (iI p)), (2, .int (iI q))]) F.1 F.2.1 dX11_hasForms_3 hl (by decide) rfl (fun ls hl => ?_)
  have lp5 : ∀ (n5 : Nat) (sm : Int) (k : Int) (H : Heap) (locs : List Loc) (ls : Array Slot), (3 ≤ k ∧ k ≤ 23) → ((sm = 1 ∧ ∀ j : Int, 3 ≤ j → j < k → g (p + j).toNat = g (q + j).toNat) ∨ (sm = 0 ∧ ¬ ∀ j : Int, 3 ≤ j → j < 23 → g (p + j).toNat = g (q + j).toNat)) → (23 - k) < (n5 : Int) → ad_G D A9 s9.heap H locs [(m0, mO M xth xrm xsv xln xat xer xwr xwd xlo xhi xwl xml xkl xfi xse xdn xon xtw xol xrw xgl xus xpr xmk xab), (M 1, aI (K 0) 1247 g)] → lv_has ls 5 [(0, .ref m0), (1, .int (iI p)), (2, .int (iI q)), (3, .int (iI sm)), (4, .int (iI k))] → W p9 l e9 rm_X11_hasForms s9 m9 ag9 bl9 mt9 c9 H locs 0 0 Q9 (F0 m9 5 ls []) := by
    intro n5
    induction n5 with
    | zero =>
      intro sm k H locs ls hk hs hm5
      exact absurd hm5 (by omega)
    | succ n5 ih5 =>
      intro sm k H locs ls hk hs hm5 G hl
      have hsm : sm = 0 ∨ sm = 1 := hs.elim (fun q => Or.inr q.1) (fun q => Or.inl q.1)
      refine lv_iload F.1 F.2.1 dX11_hasForms_5 (lv_at hl 4 rfl) ?_
      refine ad_bipush F dX11_hasForms_7 (by decide) ?_
      refine ad_icmp_ge (tgt := 47) F (by omega) dX11_hasForms_9 (by decide) (fun cc_1 => ?_) (fun cc_1 => ?_)
      · refine lv_iload_n F.1 F.2.1 dX11_hasForms_47 rfl (lv_at hl 3 rfl) ?_
        by_cases sp_2 : sm = 1
        · exact ad_zreturn F G hR rfl (Nat.le_of_ble_eq_true rfl) (Nat.le_of_ble_eq_true rfl) (iI_boolN (by omega)).1 (Or.inl ⟨(ad_eqi (by omega)), (hs.elim (fun h => (MForm_eq hF hF2 hw.1.1 hw.1.2 hw.2.1 hw.2.2 hl6.1 hl6.2).mp (fun j h1 h2 => h.2 j h1 (by omega))) (fun h => by omega)), rfl⟩) dX11_hasForms_48
        · exact ad_zreturn F G hR rfl (Nat.le_of_ble_eq_true rfl) (Nat.le_of_ble_eq_true rfl) (iI_boolN (by omega)).1 (Or.inr (⟨(ad_eqi (by omega)), (fun r => hs.elim (fun h => by omega) (fun h => h.2 ((MForm_eq hF hF2 hw.1.1 hw.1.2 hw.2.1 hw.2.2 hl6.1 hl6.2).mpr r))), rfl⟩)) dX11_hasForms_48
      · refine lv_iload_n F.1 F.2.1 dX11_hasForms_12 rfl (lv_at hl 3 rfl) ?_
        refine lv_aload_n F.1 F.2.1 dX11_hasForms_13 rfl (lv_at hl 0 rfl) ?_
        refine ad_get F G fl_X11_9 0 rfl rfl dX11_hasForms_14 ?_
        refine lv_iload_n F.1 F.2.1 dX11_hasForms_17 rfl (lv_at hl 1 rfl) ?_
        refine lv_iload F.1 F.2.1 dX11_hasForms_18 (lv_at hl 4 rfl) ?_
        refine ad_iadd F dX11_hasForms_20 ?_
        refine ad_iald F G 1 rfl (w := g (p + k).toNat) (by omega) rfl dX11_hasForms_21 ?_
        refine lv_aload_n F.1 F.2.1 dX11_hasForms_22 rfl (lv_at hl 0 rfl) ?_
        refine ad_get F G fl_X11_9 0 rfl rfl dX11_hasForms_23 ?_
        refine lv_iload_n F.1 F.2.1 dX11_hasForms_26 rfl (lv_at hl 2 rfl) ?_
        refine lv_iload F.1 F.2.1 dX11_hasForms_27 (lv_at hl 4 rfl) ?_
        refine ad_iadd F dX11_hasForms_29 ?_
        refine ad_iald F G 1 rfl (w := g (q + k).toNat) (by omega) rfl dX11_hasForms_30 ?_
        have r1 := hF.rng hw.1.1 hw.1.2 (k := k) (by omega)
        have r2 := hF2.rng hw.2.1 hw.2.2 (k := k) (by omega)
        refine ad_icmp_ne (tgt := 38) F (by omega) dX11_hasForms_31 (by decide) (fun cc_3 => ?_) (fun cc_3 => ?_)
        · refine ad_iconst F dX11_hasForms_38 ?_
          refine ad_iandy F (by omega) dX11_hasForms_39 ?_
          refine lv_istore_n (lv' := [(3, .int (iI 0)), (0, .ref m0), (1, .int (iI p)), (2, .int (iI q)), (4, .int (iI k))]) F.1 F.2.1 dX11_hasForms_40 rfl hl (by decide) rfl (fun ls hl => ?_)
          refine ad_iinc (lv' := [(4, .int (iI (k + 1))), (3, .int (iI 0)), (0, .ref m0), (1, .int (iI p)), (2, .int (iI q))]) F dX11_hasForms_41 hl (k := 4) rfl (by decide) rfl (fun ls hl => ?_)
          refine lv_goto (tgt := 5) F.1 F.2.1 dX11_hasForms_44 (by decide) ?_
          exact ih5 0 (k + 1) _ _ _ (by omega) (Or.inr ⟨rfl, fun h => cc_3 (h k (by omega) (by omega))⟩) (by omega) (G.perm (ws' := [(m0, mO M xth xrm xsv xln xat xer xwr xwd xlo xhi xwl xml xkl xfi xse xdn xon xtw xol xrw xgl xus xpr xmk xab), (M 1, aI (K 0) 1247 g)]) [0, 1] rfl rfl) (lv_sub hl [2, 3, 4, 1, 0] rfl)
        · refine ad_iconst F dX11_hasForms_34 ?_
          refine lv_goto (tgt := 39) F.1 F.2.1 dX11_hasForms_35 (by decide) ?_
          refine ad_iandn F (by omega) dX11_hasForms_39 ?_
          refine lv_istore_n (lv' := [(3, .int (iI sm)), (0, .ref m0), (1, .int (iI p)), (2, .int (iI q)), (4, .int (iI k))]) F.1 F.2.1 dX11_hasForms_40 rfl hl (by decide) rfl (fun ls hl => ?_)
          refine ad_iinc (lv' := [(4, .int (iI (k + 1))), (3, .int (iI sm)), (0, .ref m0), (1, .int (iI p)), (2, .int (iI q))]) F dX11_hasForms_41 hl (k := 4) rfl (by decide) rfl (fun ls hl => ?_)
          refine lv_goto (tgt := 5) F.1 F.2.1 dX11_hasForms_44 (by decide) ?_
          exact ih5 sm (k + 1) _ _ _ (by omega) (hs.imp (fun h => ⟨h.1, fun j h1 h2 => (show j < k ∨ j = k by omega).elim (fun r => h.2 j h1 r) (fun r => by rw [r]; exact cc_3)⟩) id) (by omega) (G.perm (ws' := [(m0, mO M xth xrm xsv xln xat xer xwr xwd xlo xhi xwl xml xkl xfi xse xdn xon xtw xol xrw xgl xus xpr xmk xab), (M 1, aI (K 0) 1247 g)]) [0, 1] rfl rfl) (lv_sub hl [2, 3, 4, 1, 0] rfl)
  exact lp5 ((((23 - 3 : Int)) + 1).toNat) 1 3 _ _ _ (by omega) (Or.inl ⟨rfl, fun j h1 h2 => by omega⟩) (by omega) (G.perm (ws' := [(m0, mO M xth xrm xsv xln xat xer xwr xwd xlo xhi xwl xml xkl xfi xse xdn xon xtw xol xrw xgl xus xpr xmk xab), (M 1, aI (K 0) 1247 g)]) [0, 1] rfl rfl) (lv_sub hl [2, 3, 4, 1, 0] rfl)

def rm_X11_ruleLike : Room := { frames := 2, cells := 0, slots := 0, locals := 36 }
set_option maxHeartbeats 4000000 in
set_option maxRecDepth 100000 in
theorem c_X11_ruleLike (l : Launch) (D : va_G) (K : Nat → ClassId) (z0 : Nat) (m0 : Nat) (M : Nat → Nat) (xth : Int) (xrm : Int) (xsv : Int) (xln : Int) (xat : Int) (xer : Int) (xwr : Int) (xwd : Int) (xlo : Int) (xhi : Int) (xwl : Int) (xml : Int) (xkl : Int) (xfi : Int) (xse : Int) (xdn : Int) (xon : Int) (xtw : Int) (xol : Int) (xrw : Int) (xgl : Int) (xus : Int) (xpr : Int) (xmk : Int) (xab : Int) (g : Nat → Int) (rs : List Rl) (ps : List Pr) (md : Int) (th : Int) (nc : Int) (y : Int) (B : Int) (hM : MRow g rs ps md th nc) (hW : RW rs) (hV : PW ps B) (hy : 0 ≤ y ∧ y < ps.length) : CT l D K z0 yX11_ruleLike cX11_ruleLike 4 (some .int) rm_X11_ruleLike [.ref m0, .int (iI y)] [(m0, mO M xth xrm xsv xln xat xer xwr xwd xlo xhi xwl xml xkl xfi xse xdn xon xtw xol xrw xgl xus xpr xmk xab), (M 1, aI (K 0) 1247 g)] (fun v9 u9 => v9 = some (.int (iI (wfi rs (pget ps y).2.1 (pget ps y).2.2))) ∧ u9 = [(m0, mO M xth xrm xsv xln xat xer xwr xwd xlo xhi xwl xml xkl xfi xse xdn xon xtw xol xrw xgl xus xpr xmk xab), (M 1, aI (K 0) 1247 g)]) := by
  refine CT.start RX11 "ruleLike" (by decide) rfl rfl (Nat.le_of_ble_eq_true rfl) ?_
  intro p9 e9 s9 m9 ag9 bl9 mt9 c9 A9 Q9 ls F G hR hl
  have hl : lv_has ls 4 [(0, .ref m0), (1, .int (iI y))] := hl
  have hn := hW.1
  have hpn := hV.1
  have hpo := hV.at hy.1 hy.2
  refine ad_iconst F dX11_ruleLike_0 ?_
  refine lv_istore_n (lv' := [(2, .int (iI (-1))), (0, .ref m0), (1, .int (iI y))]) F.1 F.2.1 dX11_ruleLike_1 rfl hl (by decide) rfl (fun ls hl => ?_)
  refine lv_aload_n F.1 F.2.1 dX11_ruleLike_2 rfl (lv_at hl 1 rfl) ?_
  refine ad_get F G fl_X11_9 0 rfl rfl dX11_ruleLike_3 ?_
  refine ad_iconst F dX11_ruleLike_6 ?_
  refine ad_iald F G 1 rfl (w := (rs.length : Int)) (by omega) (hM.1.1) dX11_ruleLike_7 ?_
  refine ad_iconst F dX11_ruleLike_8 ?_
  refine ad_isub F dX11_ruleLike_9 ?_
  refine lv_istore_n (lv' := [(3, .int (iI ((rs.length : Int) - 1))), (2, .int (iI (-1))), (0, .ref m0), (1, .int (iI y))]) F.1 F.2.1 dX11_ruleLike_10 rfl hl (by decide) rfl (fun ls hl => ?_)
  have lp11 : ∀ (n11 : Nat) (f : Int) (i : Int) (H : Heap) (locs : List Loc) (ls : Array Slot), (-1 ≤ i ∧ i < rs.length) → ((f = -1 ∨ i < f) ∧ f < rs.length) → (f < 0 → ∀ j : Int, i < j → j < rs.length → ¬ wm rs (pget ps y).2.1 (pget ps y).2.2 j) → (0 ≤ f → wm rs (pget ps y).2.1 (pget ps y).2.2 f ∧ ∀ j : Int, i < j → j < f → ¬ wm rs (pget ps y).2.1 (pget ps y).2.2 j) → (i + 1) < (n11 : Int) → ad_G D A9 s9.heap H locs [(m0, mO M xth xrm xsv xln xat xer xwr xwd xlo xhi xwl xml xkl xfi xse xdn xon xtw xol xrw xgl xus xpr xmk xab), (M 1, aI (K 0) 1247 g)] → lv_has ls 4 [(0, .ref m0), (1, .int (iI y)), (2, .int (iI f)), (3, .int (iI i))] → W p9 l e9 rm_X11_ruleLike s9 m9 ag9 bl9 mt9 c9 H locs 0 0 Q9 (F0 m9 11 ls []) := by
    intro n11
    induction n11 with
    | zero =>
      intro f i H locs ls hi hf hno hyes hm11
      exact absurd hm11 (by omega)
    | succ n11 ih11 =>
      intro f i H locs ls hi hf hno hyes hm11 G hl
      refine lv_iload_n F.1 F.2.1 dX11_ruleLike_11 rfl (lv_at hl 3 rfl) ?_
      refine ad_if_lt (tgt := 57) F (by omega) dX11_ruleLike_12 (by decide) (fun cc_1 => ?_) (fun cc_1 => ?_)
      · refine lv_iload_n F.1 F.2.1 dX11_ruleLike_57 rfl (lv_at hl 2 rfl) ?_
        exact ad_ireturn F G hR rfl (Nat.le_of_ble_eq_true rfl) (Nat.le_of_ble_eq_true rfl) ⟨(ad_eqi (by rcases (show f < 0 ∨ 0 ≤ f by omega) with h | h; (rw [wfi_no (fun j h1 h2 => hno h j (by omega) h2)]; omega); exact (wfi_at h hf.2 (hyes h).1 (fun j h1 h2 => (hyes h).2 j (by omega) h2)).symm)), rfl⟩ dX11_ruleLike_58
      · refine lv_aload_n F.1 F.2.1 dX11_ruleLike_15 rfl (lv_at hl 0 rfl) ?_
        refine lv_iload_n F.1 F.2.1 dX11_ruleLike_16 rfl (lv_at hl 3 rfl) ?_
        refine ad_iconst F dX11_ruleLike_17 ?_
        refine ad_callV (As := [.int (iI i), .int (iI 0)]) (rest := []) F G (c_X11_of_0 l D K z0 m0 M xth xrm xsv xln xat xer xwr xwd xlo xhi xwl xml xkl xfi xse xdn xon xtw xol xrw xgl xus xpr xmk xab g rs ps md th nc i hM hW (by omega)) my_X11_of mv_X11_99 (wr := []) (isC := [0, 1]) (isR := []) ⟨rfl, rfl, rfl, rfl, by decide⟩ 11 0 rfl rfl rfl rfl ⟨Nat.le_of_ble_eq_true rfl, Nat.le_of_ble_eq_true rfl⟩ ⟨Nat.le_of_ble_eq_true rfl, Nat.le_of_ble_eq_true rfl⟩ (Nat.le_of_ble_eq_true rfl) hl.1 (cells9 := 0) (slots9 := 0) ⟨rfl, rfl⟩ dX11_ruleLike_18 (fun v u H locs hw_2 G => ?_)
        obtain ⟨rfl, rfl⟩ := hw_2
        replace G := G.perm (ws' := [(m0, mO M xth xrm xsv xln xat xer xwr xwd xlo xhi xwl xml xkl xfi xse xdn xon xtw xol xrw xgl xus xpr xmk xab), (M 1, aI (K 0) 1247 g)]) [0, 1] rfl rfl
        refine W.eq (g2 := F0 m9 21 ls [.int (iI ((rget rs i).1))]) rfl ?_
        have hk1 := hW.bd (z := i) (by omega) (by omega)
        refine ad_if_ne (tgt := 49) F (by omega) dX11_ruleLike_21 (by decide) (fun cc_3 => ?_) (fun cc_3 => ?_)
        · refine lv_iload_n F.1 F.2.1 dX11_ruleLike_49 rfl (lv_at hl 2 rfl) ?_
          refine lv_istore_n (lv' := [(2, .int (iI f)), (0, .ref m0), (1, .int (iI y)), (3, .int (iI i))]) F.1 F.2.1 dX11_ruleLike_50 rfl hl (by decide) rfl (fun ls hl => ?_)
          refine ad_iinc (lv' := [(3, .int (iI (i + (-1)))), (2, .int (iI f)), (0, .ref m0), (1, .int (iI y))]) F dX11_ruleLike_51 hl (k := 3) rfl (by decide) rfl (fun ls hl => ?_)
          refine lv_goto (tgt := 11) F.1 F.2.1 dX11_ruleLike_54 (by decide) ?_
          exact ih11 f (i + (-1)) _ _ _ (by omega) (by omega) (fun h j h1 h2 => (show i < j ∨ j = i by omega).elim (fun q => hno h j q h2) (fun q => by rw [q]; exact fun w => cc_3 w.1)) (fun h => ⟨(hyes h).1, fun j h1 h2 => (show i < j ∨ j = i by omega).elim (fun q => (hyes h).2 j q h2) (fun q => by rw [q]; exact fun w => cc_3 w.1)⟩) (by omega) (G.perm (ws' := [(m0, mO M xth xrm xsv xln xat xer xwr xwd xlo xhi xwl xml xkl xfi xse xdn xon xtw xol xrw xgl xus xpr xmk xab), (M 1, aI (K 0) 1247 g)]) [0, 1] rfl rfl) (lv_sub hl [2, 3, 1, 0] rfl)
        · refine lv_aload_n F.1 F.2.1 dX11_ruleLike_24 rfl (lv_at hl 0 rfl) ?_
          refine ad_iconst F dX11_ruleLike_25 ?_
          refine lv_iload_n F.1 F.2.1 dX11_ruleLike_26 rfl (lv_at hl 3 rfl) ?_
          refine ad_bipush F dX11_ruleLike_27 (by decide) ?_
          refine ad_imul F dX11_ruleLike_29 ?_
          refine ad_iadd F dX11_ruleLike_30 ?_
          refine ad_sipush F dX11_ruleLike_31 (by decide) ?_
          refine lv_iload_n F.1 F.2.1 dX11_ruleLike_34 rfl (lv_at hl 1 rfl) ?_
          refine ad_bipush F dX11_ruleLike_35 (by decide) ?_
          refine ad_imul F dX11_ruleLike_37 ?_
          refine ad_iadd F dX11_ruleLike_38 ?_
          refine ad_callV (As := [.int (iI (5 + (i * 23))), .int (iI (557 + (y * 23)))]) (rest := []) F G (c_X11_hasForms l D K z0 m0 M xth xrm xsv xln xat xer xwr xwd xlo xhi xwl xml xkl xfi xse xdn xon xtw xol xrw xgl xus xpr xmk xab g (5 + (i * 23)) (557 + (y * 23)) ((rget rs i).2.2.2.1) ((rget rs i).2.2.2.2) ((pget ps y).2.1) ((pget ps y).2.2) (by omega) (by omega) (hM.2.1 i (by omega) (by omega)).2 (hM.2.2 y hy.1 hy.2).2 ⟨⟨(hW.at (z := i) (by omega) (by omega)).2.2.2.1, (hW.at (z := i) (by omega) (by omega)).2.2.2.2.1⟩, hpo.2.2.1, hpo.2.2.2.1⟩ ⟨(hW.at (z := i) (by omega) (by omega)).2.2.2.2.2.2.1, hpo.2.2.2.2.2.1⟩) my_X11_hasForms mv_X11_215 (wr := []) (isC := [0, 1]) (isR := []) ⟨rfl, rfl, rfl, rfl, by decide⟩ 11 0 rfl rfl rfl rfl ⟨Nat.le_of_ble_eq_true rfl, Nat.le_of_ble_eq_true rfl⟩ ⟨Nat.le_of_ble_eq_true rfl, Nat.le_of_ble_eq_true rfl⟩ (Nat.le_of_ble_eq_true rfl) hl.1 (cells9 := 0) (slots9 := 0) ⟨rfl, rfl⟩ dX11_ruleLike_39 (fun v u H locs hw_4 G => ?_)
          rcases hw_4 with ⟨rfl, hc_5, rfl⟩ | ⟨rfl, hc_6, rfl⟩
          · replace G := G.perm (ws' := [(m0, mO M xth xrm xsv xln xat xer xwr xwd xlo xhi xwl xml xkl xfi xse xdn xon xtw xol xrw xgl xus xpr xmk xab), (M 1, aI (K 0) 1247 g)]) [0, 1] rfl rfl
            refine W.eq (g2 := F0 m9 42 ls [.int (iI 1)]) rfl ?_
            refine ad_if_eq (tgt := 49) F (by decide) dX11_ruleLike_42 (by decide) (fun cc_7 => absurd cc_7 (by decide)) (fun _ => ?_)
            refine lv_iload_n F.1 F.2.1 dX11_ruleLike_45 rfl (lv_at hl 3 rfl) ?_
            refine lv_goto (tgt := 50) F.1 F.2.1 dX11_ruleLike_46 (by decide) ?_
            refine lv_istore_n (lv' := [(2, .int (iI i)), (0, .ref m0), (1, .int (iI y)), (3, .int (iI i))]) F.1 F.2.1 dX11_ruleLike_50 rfl hl (by decide) rfl (fun ls hl => ?_)
            refine ad_iinc (lv' := [(3, .int (iI (i + (-1)))), (2, .int (iI i)), (0, .ref m0), (1, .int (iI y))]) F dX11_ruleLike_51 hl (k := 3) rfl (by decide) rfl (fun ls hl => ?_)
            refine lv_goto (tgt := 11) F.1 F.2.1 dX11_ruleLike_54 (by decide) ?_
            exact ih11 i (i + (-1)) _ _ _ (by omega) (by omega) (fun h j h1 h2 => by omega) (fun h => ⟨⟨cc_3, hc_5⟩, fun j h1 h2 => by omega⟩) (by omega) (G.perm (ws' := [(m0, mO M xth xrm xsv xln xat xer xwr xwd xlo xhi xwl xml xkl xfi xse xdn xon xtw xol xrw xgl xus xpr xmk xab), (M 1, aI (K 0) 1247 g)]) [0, 1] rfl rfl) (lv_sub hl [2, 3, 1, 0] rfl)
          · replace G := G.perm (ws' := [(m0, mO M xth xrm xsv xln xat xer xwr xwd xlo xhi xwl xml xkl xfi xse xdn xon xtw xol xrw xgl xus xpr xmk xab), (M 1, aI (K 0) 1247 g)]) [0, 1] rfl rfl
            refine W.eq (g2 := F0 m9 42 ls [.int (iI 0)]) rfl ?_
            refine ad_if_eq (tgt := 49) F (by decide) dX11_ruleLike_42 (by decide) (fun _ => ?_) (fun cc_8 => absurd cc_8 (by decide))
            refine lv_iload_n F.1 F.2.1 dX11_ruleLike_49 rfl (lv_at hl 2 rfl) ?_
            refine lv_istore_n (lv' := [(2, .int (iI f)), (0, .ref m0), (1, .int (iI y)), (3, .int (iI i))]) F.1 F.2.1 dX11_ruleLike_50 rfl hl (by decide) rfl (fun ls hl => ?_)
            refine ad_iinc (lv' := [(3, .int (iI (i + (-1)))), (2, .int (iI f)), (0, .ref m0), (1, .int (iI y))]) F dX11_ruleLike_51 hl (k := 3) rfl (by decide) rfl (fun ls hl => ?_)
            refine lv_goto (tgt := 11) F.1 F.2.1 dX11_ruleLike_54 (by decide) ?_
            exact ih11 f (i + (-1)) _ _ _ (by omega) (by omega) (fun h j h1 h2 => (show i < j ∨ j = i by omega).elim (fun q => hno h j q h2) (fun q => by rw [q]; exact fun w => hc_6 w.2)) (fun h => ⟨(hyes h).1, fun j h1 h2 => (show i < j ∨ j = i by omega).elim (fun q => (hyes h).2 j q h2) (fun q => by rw [q]; exact fun w => hc_6 w.2)⟩) (by omega) (G.perm (ws' := [(m0, mO M xth xrm xsv xln xat xer xwr xwd xlo xhi xwl xml xkl xfi xse xdn xon xtw xol xrw xgl xus xpr xmk xab), (M 1, aI (K 0) 1247 g)]) [0, 1] rfl rfl) (lv_sub hl [2, 3, 1, 0] rfl)
  exact lp11 ((((((rs.length : Int) - 1) + 1 : Int)) + 1).toNat) (-1) ((rs.length : Int) - 1) _ _ _ (by omega) (by omega) (fun _ j h1 h2 => by omega) (fun h => by omega) (by omega) (G.perm (ws' := [(m0, mO M xth xrm xsv xln xat xer xwr xwd xlo xhi xwl xml xkl xfi xse xdn xon xtw xol xrw xgl xus xpr xmk xab), (M 1, aI (K 0) 1247 g)]) [0, 1] rfl rfl) (lv_sub hl [2, 3, 1, 0] rfl)

def rm_X11_pair : Room := { frames := 3, cells := 0, slots := 0, locals := 59 }
set_option maxHeartbeats 4000000 in
set_option maxRecDepth 100000 in
theorem c_X11_pair (l : Launch) (D : va_G) (K : Nat → ClassId) (z0 : Nat) (m0 : Nat) (M : Nat → Nat) (xth : Int) (xrm : Int) (xsv : Int) (xln : Int) (xat : Int) (xer : Int) (xwr : Int) (xwd : Int) (xlo : Int) (xhi : Int) (xwl : Int) (xml : Int) (xkl : Int) (xfi : Int) (xse : Int) (xdn : Int) (xon : Int) (xtw : Int) (xol : Int) (xrw : Int) (xgl : Int) (xus : Int) (xpr : Int) (xmk : Int) (xab : Int) (g : Nat → Int) (rs : List Rl) (ps : List Pr) (md : Int) (th : Int) (nc : Int) (z : Int) (w : Int) (B : Int) (hM : MRow g rs ps md th nc) (hW : RW rs) (hV : PW ps B) (hz : -2147483648 ≤ z ∧ z < 2147483648) (hw : -2147483648 ≤ w ∧ w < 2147483648) : CT l D K z0 yX11_pair cX11_pair 4 (some .int) rm_X11_pair [.ref m0, .int (iI z), .int (iI w)] [(m0, mO M xth xrm xsv xln xat xer xwr xwd xlo xhi xwl xml xkl xfi xse xdn xon xtw xol xrw xgl xus xpr xmk xab), (M 1, aI (K 0) 1247 g)] (fun v9 u9 => (v9 = some (.int (iI 0)) ∧ (¬ (0 ≤ z ∧ z < ps.length)) ∧ u9 = [(m0, mO M 1 xrm xsv xln xat xer xwr xwd xlo xhi xwl xml xkl xfi xse xdn xon xtw xol xrw xgl xus xpr xmk xab), (M 1, aI (K 0) 1247 g)]) ∨ (v9 = some (.int (iI 0)) ∧ (0 ≤ z ∧ z < ps.length) ∧ (¬ (0 ≤ w ∧ w ≤ 3)) ∧ u9 = [(m0, mO M 2 xrm xsv xln xat xer xwr xwd xlo xhi xwl xml xkl xfi xse xdn xon xtw xol xrw xgl xus xpr xmk xab), (M 1, aI (K 0) 1247 g)]) ∨ (v9 = some (.int (iI (paA rs ps z w))) ∧ (0 ≤ z ∧ z < ps.length) ∧ (0 ≤ w ∧ w ≤ 3) ∧ u9 = [(m0, mO M 0 xrm xsv xln xat xer xwr xwd xlo xhi xwl xml xkl xfi xse xdn xon xtw xol xrw xgl xus xpr xmk xab), (M 1, aI (K 0) 1247 g)])) := by
  refine CT.start RX11 "pair" (by decide) rfl rfl (Nat.le_of_ble_eq_true rfl) ?_
  intro p9 e9 s9 m9 ag9 bl9 mt9 c9 A9 Q9 ls F G hR hl
  have hl : lv_has ls 4 [(0, .ref m0), (1, .int (iI z)), (2, .int (iI w))] := hl
  have hn := hW.1
  have hpn := hV.1
  refine lv_aload_n F.1 F.2.1 dX11_pair_0 rfl (lv_at hl 0 rfl) ?_
  refine ad_iconst F dX11_pair_1 ?_
  refine lv_iload_n F.1 F.2.1 dX11_pair_2 rfl (lv_at hl 1 rfl) ?_
  refine ad_iconst F dX11_pair_3 ?_
  refine lv_aload_n F.1 F.2.1 dX11_pair_4 rfl (lv_at hl 0 rfl) ?_
  refine ad_get F G fl_X11_9 0 rfl rfl dX11_pair_5 ?_
  refine ad_iconst F dX11_pair_8 ?_
  refine ad_iald F G 1 rfl (w := (ps.length : Int)) (by omega) (hM.1.2.1) dX11_pair_9 ?_
  refine ad_iconst F dX11_pair_10 ?_
  refine ad_isub F dX11_pair_11 ?_
  refine ad_callS (As := [.int (iI z), .int (iI 0), .int (iI ((ps.length : Int) - 1))]) (rest := [.int (iI 1), .ref m0]) F G (c_X11_isBetween l D K z0 z 0 ((ps.length : Int) - 1) hz (by omega) (by omega)) my_X11_isBetween ms_X11_107 (wr := [(m0, mO M xth xrm xsv xln xat xer xwr xwd xlo xhi xwl xml xkl xfi xse xdn xon xtw xol xrw xgl xus xpr xmk xab), (M 1, aI (K 0) 1247 g)]) (isC := []) (isR := [0, 1]) ⟨rfl, rfl, rfl, rfl, by decide⟩ rfl rfl ⟨Nat.le_of_ble_eq_true rfl, Nat.le_of_ble_eq_true rfl⟩ ⟨Nat.le_of_ble_eq_true rfl, Nat.le_of_ble_eq_true rfl⟩ (Nat.le_of_ble_eq_true rfl) hl.1 (cells9 := 0) (slots9 := 0) ⟨rfl, rfl⟩ dX11_pair_12 (fun v u H locs hw_1 G => ?_)
  rcases hw_1 with ⟨rfl, hc_2, rfl⟩ | ⟨rfl, hc_3, rfl⟩
  · replace G := G.perm (ws' := [(m0, mO M xth xrm xsv xln xat xer xwr xwd xlo xhi xwl xml xkl xfi xse xdn xon xtw xol xrw xgl xus xpr xmk xab), (M 1, aI (K 0) 1247 g)]) [0, 1] rfl rfl
    refine W.eq (g2 := F0 m9 15 ls [.int (iI 1), .int (iI 1), .ref m0]) rfl ?_
    refine ad_if_ne (tgt := 22) F (by decide) dX11_pair_15 (by decide) (fun _ => ?_) (fun cc_4 => absurd cc_4 (by decide))
    refine ad_iconst F dX11_pair_22 ?_
    refine ad_callV (As := [.int (iI 1), .int (iI 0)]) (rest := []) F G (c_X11_fails_0 l D K z0 m0 M xth xrm xsv xln xat xer xwr xwd xlo xhi xwl xml xkl xfi xse xdn xon xtw xol xrw xgl xus xpr xmk xab 1 (by omega)) my_X11_fails mv_X11_111 (wr := [(M 1, aI (K 0) 1247 g)]) (isC := [0]) (isR := [1]) ⟨rfl, rfl, rfl, rfl, by decide⟩ 11 0 rfl rfl rfl rfl ⟨Nat.le_of_ble_eq_true rfl, Nat.le_of_ble_eq_true rfl⟩ ⟨Nat.le_of_ble_eq_true rfl, Nat.le_of_ble_eq_true rfl⟩ (Nat.le_of_ble_eq_true rfl) hl.1 (cells9 := 0) (slots9 := 0) ⟨rfl, rfl⟩ dX11_pair_23 (fun v u H locs hw_5 G => ?_)
    obtain ⟨rfl, rfl⟩ := hw_5
    replace G := G.perm (ws' := [(m0, mO M 0 xrm xsv xln xat xer xwr xwd xlo xhi xwl xml xkl xfi xse xdn xon xtw xol xrw xgl xus xpr xmk xab), (M 1, aI (K 0) 1247 g)]) [1, 0] rfl rfl
    refine W.eq (g2 := F0 m9 26 ls [.int (iI 0)]) rfl ?_
    refine ad_if_ne (tgt := 51) F (by decide) dX11_pair_26 (by decide) (fun cc_6 => absurd cc_6 (by decide)) (fun _ => ?_)
    refine lv_aload_n F.1 F.2.1 dX11_pair_29 rfl (lv_at hl 0 rfl) ?_
    refine ad_iconst F dX11_pair_30 ?_
    refine lv_iload_n F.1 F.2.1 dX11_pair_31 rfl (lv_at hl 2 rfl) ?_
    refine ad_iconst F dX11_pair_32 ?_
    refine ad_iconst F dX11_pair_33 ?_
    refine ad_callS (As := [.int (iI w), .int (iI 0), .int (iI 3)]) (rest := [.int (iI 2), .ref m0]) F G (c_X11_isBetween l D K z0 w 0 3 hw (by omega) (by omega)) my_X11_isBetween ms_X11_107 (wr := [(m0, mO M 0 xrm xsv xln xat xer xwr xwd xlo xhi xwl xml xkl xfi xse xdn xon xtw xol xrw xgl xus xpr xmk xab), (M 1, aI (K 0) 1247 g)]) (isC := []) (isR := [0, 1]) ⟨rfl, rfl, rfl, rfl, by decide⟩ rfl rfl ⟨Nat.le_of_ble_eq_true rfl, Nat.le_of_ble_eq_true rfl⟩ ⟨Nat.le_of_ble_eq_true rfl, Nat.le_of_ble_eq_true rfl⟩ (Nat.le_of_ble_eq_true rfl) hl.1 (cells9 := 0) (slots9 := 0) ⟨rfl, rfl⟩ dX11_pair_34 (fun v u H locs hw_7 G => ?_)
    rcases hw_7 with ⟨rfl, hc_8, rfl⟩ | ⟨rfl, hc_9, rfl⟩
    · replace G := G.perm (ws' := [(m0, mO M 0 xrm xsv xln xat xer xwr xwd xlo xhi xwl xml xkl xfi xse xdn xon xtw xol xrw xgl xus xpr xmk xab), (M 1, aI (K 0) 1247 g)]) [0, 1] rfl rfl
      refine W.eq (g2 := F0 m9 37 ls [.int (iI 1), .int (iI 2), .ref m0]) rfl ?_
      refine ad_if_ne (tgt := 44) F (by decide) dX11_pair_37 (by decide) (fun _ => ?_) (fun cc_10 => absurd cc_10 (by decide))
      refine ad_iconst F dX11_pair_44 ?_
      refine ad_callV (As := [.int (iI 2), .int (iI 0)]) (rest := []) F G (c_X11_fails_0 l D K z0 m0 M 0 xrm xsv xln xat xer xwr xwd xlo xhi xwl xml xkl xfi xse xdn xon xtw xol xrw xgl xus xpr xmk xab 2 (by omega)) my_X11_fails mv_X11_111 (wr := [(M 1, aI (K 0) 1247 g)]) (isC := [0]) (isR := [1]) ⟨rfl, rfl, rfl, rfl, by decide⟩ 11 0 rfl rfl rfl rfl ⟨Nat.le_of_ble_eq_true rfl, Nat.le_of_ble_eq_true rfl⟩ ⟨Nat.le_of_ble_eq_true rfl, Nat.le_of_ble_eq_true rfl⟩ (Nat.le_of_ble_eq_true rfl) hl.1 (cells9 := 0) (slots9 := 0) ⟨rfl, rfl⟩ dX11_pair_45 (fun v u H locs hw_11 G => ?_)
      obtain ⟨rfl, rfl⟩ := hw_11
      replace G := G.perm (ws' := [(m0, mO M 0 xrm xsv xln xat xer xwr xwd xlo xhi xwl xml xkl xfi xse xdn xon xtw xol xrw xgl xus xpr xmk xab), (M 1, aI (K 0) 1247 g)]) [1, 0] rfl rfl
      refine W.eq (g2 := F0 m9 48 ls [.int (iI 0)]) rfl ?_
      refine ad_if_eq (tgt := 53) F (by decide) dX11_pair_48 (by decide) (fun _ => ?_) (fun cc_12 => absurd cc_12 (by decide))
      refine ad_sipush F dX11_pair_53 (by decide) ?_
      refine lv_iload_n F.1 F.2.1 dX11_pair_56 rfl (lv_at hl 1 rfl) ?_
      refine ad_bipush F dX11_pair_57 (by decide) ?_
      refine ad_imul F dX11_pair_59 ?_
      refine ad_iadd F dX11_pair_60 ?_
      refine lv_istore_n (lv' := [(3, .int (iI (557 + (z * 23)))), (0, .ref m0), (1, .int (iI z)), (2, .int (iI w))]) F.1 F.2.1 dX11_pair_61 rfl hl (by decide) rfl (fun ls hl => ?_)
      refine lv_iload_n F.1 F.2.1 dX11_pair_62 rfl (lv_at hl 3 rfl) ?_
      refine ad_if_ne (tgt := 77) F (by omega) dX11_pair_63 (by decide) (fun cc_13 => ?_) (fun cc_13 => ?_)
      · refine lv_iload_n F.1 F.2.1 dX11_pair_77 rfl (lv_at hl 3 rfl) ?_
        refine ad_iconst F dX11_pair_78 ?_
        refine ad_icmp_ne (tgt := 93) F (by omega) dX11_pair_79 (by decide) (fun cc_14 => ?_) (fun cc_14 => ?_)
        · refine lv_iload_n F.1 F.2.1 dX11_pair_93 rfl (lv_at hl 3 rfl) ?_
          refine ad_iconst F dX11_pair_94 ?_
          refine ad_icmp_ne (tgt := 109) F (by omega) dX11_pair_95 (by decide) (fun cc_15 => ?_) (fun cc_15 => ?_)
          · refine lv_aload_n F.1 F.2.1 dX11_pair_109 rfl (lv_at hl 1 rfl) ?_
            refine lv_iload_n F.1 F.2.1 dX11_pair_110 rfl (lv_at hl 2 rfl) ?_
            refine ad_callV (As := [.int (iI z)]) (rest := []) F G (c_X11_ruleLike l D K z0 m0 M 0 xrm xsv xln xat xer xwr xwd xlo xhi xwl xml xkl xfi xse xdn xon xtw xol xrw xgl xus xpr xmk xab g rs ps md th nc z B hM hW hV (by omega)) my_X11_ruleLike mv_X11_221 (wr := []) (isC := [0, 1]) (isR := []) ⟨rfl, rfl, rfl, rfl, by decide⟩ 11 0 rfl rfl rfl rfl ⟨Nat.le_of_ble_eq_true rfl, Nat.le_of_ble_eq_true rfl⟩ ⟨Nat.le_of_ble_eq_true rfl, Nat.le_of_ble_eq_true rfl⟩ (Nat.le_of_ble_eq_true rfl) hl.1 (cells9 := 0) (slots9 := 0) ⟨rfl, rfl⟩ dX11_pair_111 (fun v u H locs hw_16 G => ?_)
            obtain ⟨rfl, rfl⟩ := hw_16
            replace G := G.perm (ws' := [(m0, mO M 0 xrm xsv xln xat xer xwr xwd xlo xhi xwl xml xkl xfi xse xdn xon xtw xol xrw xgl xus xpr xmk xab), (M 1, aI (K 0) 1247 g)]) [0, 1] rfl rfl
            refine W.eq (g2 := F0 m9 114 ls [.int (iI (wfi rs (pget ps z).2.1 (pget ps z).2.2))]) rfl ?_
            exact ad_ireturn F G hR rfl (Nat.le_of_ble_eq_true rfl) (Nat.le_of_ble_eq_true rfl) (Or.inr (Or.inr (⟨(ad_eqi (by rw [show w = 3 by omega]; rfl)), (by omega), hc_8, rfl⟩))) dX11_pair_114
          · refine lv_aload_n F.1 F.2.1 dX11_pair_98 rfl (lv_at hl 1 rfl) ?_
            refine ad_get F G fl_X11_9 0 rfl rfl dX11_pair_99 ?_
            refine lv_iload_n F.1 F.2.1 dX11_pair_102 rfl (lv_at hl 0 rfl) ?_
            refine ad_iconst F dX11_pair_103 ?_
            refine ad_iadd F dX11_pair_104 ?_
            refine ad_iald F G 1 rfl (w := ((pget ps z).2.2.length : Int)) (by omega) (hM.2.2 z (by omega) (by omega)).2.2.1 dX11_pair_105 ?_
            refine lv_goto (tgt := 114) F.1 F.2.1 dX11_pair_106 (by decide) ?_
            exact ad_ireturn F G hR rfl (Nat.le_of_ble_eq_true rfl) (Nat.le_of_ble_eq_true rfl) (Or.inr (Or.inr (⟨(ad_eqi (by rw [cc_15]; rfl)), (by omega), hc_8, rfl⟩))) dX11_pair_114
        · refine lv_aload_n F.1 F.2.1 dX11_pair_82 rfl (lv_at hl 1 rfl) ?_
          refine ad_get F G fl_X11_9 0 rfl rfl dX11_pair_83 ?_
          refine lv_iload_n F.1 F.2.1 dX11_pair_86 rfl (lv_at hl 0 rfl) ?_
          refine ad_iconst F dX11_pair_87 ?_
          refine ad_iadd F dX11_pair_88 ?_
          refine ad_iald F G 1 rfl (w := ((pget ps z).2.1.length : Int)) (by omega) (hM.2.2 z (by omega) (by omega)).2.1 dX11_pair_89 ?_
          refine lv_goto (tgt := 114) F.1 F.2.1 dX11_pair_90 (by decide) ?_
          exact ad_ireturn F G hR rfl (Nat.le_of_ble_eq_true rfl) (Nat.le_of_ble_eq_true rfl) (Or.inr (Or.inr (⟨(ad_eqi (by rw [cc_14]; rfl)), (by omega), hc_8, rfl⟩))) dX11_pair_114
      · refine lv_aload_n F.1 F.2.1 dX11_pair_66 rfl (lv_at hl 1 rfl) ?_
        refine ad_get F G fl_X11_9 0 rfl rfl dX11_pair_67 ?_
        refine lv_iload_n F.1 F.2.1 dX11_pair_70 rfl (lv_at hl 0 rfl) ?_
        refine ad_iconst F dX11_pair_71 ?_
        refine ad_iadd F dX11_pair_72 ?_
        refine ad_iald F G 1 rfl (w := (pget ps z).1) (by omega) (hM.2.2 z (by omega) (by omega)).1 dX11_pair_73 ?_
        refine lv_goto (tgt := 114) F.1 F.2.1 dX11_pair_74 (by decide) ?_
        exact ad_ireturn F G hR rfl (Nat.le_of_ble_eq_true rfl) (Nat.le_of_ble_eq_true rfl) (Or.inr (Or.inr (⟨(ad_eqi (by rw [cc_13]; rfl)), (by omega), hc_8, rfl⟩))) dX11_pair_114
    · replace G := G.perm (ws' := [(m0, mO M 0 xrm xsv xln xat xer xwr xwd xlo xhi xwl xml xkl xfi xse xdn xon xtw xol xrw xgl xus xpr xmk xab), (M 1, aI (K 0) 1247 g)]) [0, 1] rfl rfl
      refine W.eq (g2 := F0 m9 37 ls [.int (iI 0), .int (iI 2), .ref m0]) rfl ?_
      refine ad_if_ne (tgt := 44) F (by decide) dX11_pair_37 (by decide) (fun cc_17 => absurd cc_17 (by decide)) (fun _ => ?_)
      refine ad_iconst F dX11_pair_40 ?_
      refine lv_goto (tgt := 45) F.1 F.2.1 dX11_pair_41 (by decide) ?_
      refine ad_callV (As := [.int (iI 2), .int (iI 1)]) (rest := []) F G (c_X11_fails_1 l D K z0 m0 M 0 xrm xsv xln xat xer xwr xwd xlo xhi xwl xml xkl xfi xse xdn xon xtw xol xrw xgl xus xpr xmk xab 2 (by omega)) my_X11_fails mv_X11_111 (wr := [(M 1, aI (K 0) 1247 g)]) (isC := [0]) (isR := [1]) ⟨rfl, rfl, rfl, rfl, by decide⟩ 11 0 rfl rfl rfl rfl ⟨Nat.le_of_ble_eq_true rfl, Nat.le_of_ble_eq_true rfl⟩ ⟨Nat.le_of_ble_eq_true rfl, Nat.le_of_ble_eq_true rfl⟩ (Nat.le_of_ble_eq_true rfl) hl.1 (cells9 := 0) (slots9 := 0) ⟨rfl, rfl⟩ dX11_pair_45 (fun v u H locs hw_18 G => ?_)
      obtain ⟨rfl, rfl⟩ := hw_18
      replace G := G.perm (ws' := [(m0, mO M 2 xrm xsv xln xat xer xwr xwd xlo xhi xwl xml xkl xfi xse xdn xon xtw xol xrw xgl xus xpr xmk xab), (M 1, aI (K 0) 1247 g)]) [1, 0] rfl rfl
      refine W.eq (g2 := F0 m9 48 ls [.int (iI 1)]) rfl ?_
      refine ad_if_eq (tgt := 53) F (by decide) dX11_pair_48 (by decide) (fun cc_19 => absurd cc_19 (by decide)) (fun _ => ?_)
      refine ad_iconst F dX11_pair_51 ?_
      exact ad_ireturn F G hR rfl (Nat.le_of_ble_eq_true rfl) (Nat.le_of_ble_eq_true rfl) (Or.inr (Or.inl ⟨rfl, (by omega), hc_9, rfl⟩)) dX11_pair_52
  · replace G := G.perm (ws' := [(m0, mO M xth xrm xsv xln xat xer xwr xwd xlo xhi xwl xml xkl xfi xse xdn xon xtw xol xrw xgl xus xpr xmk xab), (M 1, aI (K 0) 1247 g)]) [0, 1] rfl rfl
    refine W.eq (g2 := F0 m9 15 ls [.int (iI 0), .int (iI 1), .ref m0]) rfl ?_
    refine ad_if_ne (tgt := 22) F (by decide) dX11_pair_15 (by decide) (fun cc_20 => absurd cc_20 (by decide)) (fun _ => ?_)
    refine ad_iconst F dX11_pair_18 ?_
    refine lv_goto (tgt := 23) F.1 F.2.1 dX11_pair_19 (by decide) ?_
    refine ad_callV (As := [.int (iI 1), .int (iI 1)]) (rest := []) F G (c_X11_fails_1 l D K z0 m0 M xth xrm xsv xln xat xer xwr xwd xlo xhi xwl xml xkl xfi xse xdn xon xtw xol xrw xgl xus xpr xmk xab 1 (by omega)) my_X11_fails mv_X11_111 (wr := [(M 1, aI (K 0) 1247 g)]) (isC := [0]) (isR := [1]) ⟨rfl, rfl, rfl, rfl, by decide⟩ 11 0 rfl rfl rfl rfl ⟨Nat.le_of_ble_eq_true rfl, Nat.le_of_ble_eq_true rfl⟩ ⟨Nat.le_of_ble_eq_true rfl, Nat.le_of_ble_eq_true rfl⟩ (Nat.le_of_ble_eq_true rfl) hl.1 (cells9 := 0) (slots9 := 0) ⟨rfl, rfl⟩ dX11_pair_23 (fun v u H locs hw_21 G => ?_)
    obtain ⟨rfl, rfl⟩ := hw_21
    replace G := G.perm (ws' := [(m0, mO M 1 xrm xsv xln xat xer xwr xwd xlo xhi xwl xml xkl xfi xse xdn xon xtw xol xrw xgl xus xpr xmk xab), (M 1, aI (K 0) 1247 g)]) [1, 0] rfl rfl
    refine W.eq (g2 := F0 m9 26 ls [.int (iI 1)]) rfl ?_
    refine ad_if_ne (tgt := 51) F (by decide) dX11_pair_26 (by decide) (fun _ => ?_) (fun cc_22 => absurd cc_22 (by decide))
    refine ad_iconst F dX11_pair_51 ?_
    exact ad_ireturn F G hR rfl (Nat.le_of_ble_eq_true rfl) (Nat.le_of_ble_eq_true rfl) (Or.inl ⟨rfl, (by omega), rfl⟩) dX11_pair_52
