theorem my_L_result : ad_myH yL_result cL_result 4 (some .int) hL_result 3 := ⟨(ad_mt (List.mem_of_getElem? (i := 1091) (by decide +kernel)) (by decide +kernel)), ⟨by decide, by decide, by decide +kernel⟩, (ad_mt (List.mem_of_getElem? (i := 0) (by decide +kernel)) (by decide +kernel))⟩
set_option maxRecDepth 20000 in
theorem lc_result {p : Program} {l : Launch} {e : Env} {R : Room} {s : State} {m : MethodId} {args : Array Value} {below : List Frame} {meth : Method} {c : Code} {H : Heap} {locs : List Loc} {cells slots : Nat} {Q : State → Prop} {ret : Option FieldType} {D : va_G} {K : Nat → ClassId} {z0 : Nat} {A : Nat → Prop} {ls : Array Slot} {b d0 m0 o1 o2 L n : Nat} {xs : Nat → Int32} {fs fm : List Value} {go : Nat → Int64} {gd : Nat → UInt64} {wD wM : va_W} {N M MH ME MS : Nat → Nat} {S : Sx} {xth i : Int} {nm : String} (hl0 : l.stackTraces = false) (F : ad_F p s m args meth c RL nm cL_law 9 ret D K z0 A) (B : LB s A b L xs) (hn : n < 512) (hD : DkI K N n S fs wD) (hM : MoI K M MH ME MS xth S fm wM) (hS : SxI n S) (hi : 0 ≤ i ∧ i + 4 ≤ L ∧ L ≤ 2048) (hR : 20 ≤ R.frames ∧ 1000 ≤ R.locals) (hC : cells + 4 ≤ R.cells ∧ slots + 1214 ≤ R.slots) (G : ad_G D A s.heap H locs (WL K d0 m0 o1 o2 fs fm go gd wD wM)) (hl : lv_has ls 9 (LV b d0 m0 o1 o2 i)) (kk : LK p l e R s m args below meth c cells slots Q D A K b d0 m0 o1 o2 n N M MH ME MS i) : W p l e R s m args below meth c H locs cells slots Q (F0 m 1653 ls []) := by
  refine lv_aload_n F.1 F.2.1 dL_law_1653 rfl (lv_at hl 4 rfl) ?_
  refine la_x F G B (lv_at hl 5 rfl) (lv_at hl 0 rfl) (k := 1) ⟨by omega, by omega, by omega⟩ dL_law_1654 dL_law_1655 dL_law_1657 dL_law_1658 dL_law_1659 ?_
  refine lv_aload_n F.1 F.2.1 dL_law_1660 rfl (lv_at hl 2 rfl) ?_
  refine la_c (As := [.ref d0, .int (iI ((xs (i + 1).toNat).toInt)), .ref o1]) (a := (an_result S ((xs (i + 1).toNat).toInt))) F G (w_result l D K z0 d0 o1 fs wD go ((xs (i + 1).toNat).toInt) (PRg K N n (an_result S ((xs (i + 1).toNat).toInt))) (PXg K N n (an_result S ((xs (i + 1).toNat).toInt))) (dk_result l hl0 D K z0 N d0 hn hD hS ((xs (i + 1).toNat).toInt) (x32 _))) my_L_result ms_L_219 (by decide) rfl rfl ⟨by omega, by omega⟩ hC (by simp) hl.1 dL_law_1661 (fun cm fs2 wD2 go2 H locs hc0 hcg hS2 hD2 G => ?_)
  refine lv_istore (lv' := (6, .int (iI ((an_result S ((xs (i + 1).toNat).toInt)) cm).1)) :: LV b d0 m0 o1 o2 i) F.1 F.2.1 dL_law_1664 hl (by decide) rfl (fun ls hl => ?_)
  refine lv_aload_n F.1 F.2.1 dL_law_1666 rfl (lv_at hl 4 rfl) ?_
  refine la_x F G B (lv_at hl 6 rfl) (lv_at hl 1 rfl) (k := 1) ⟨by omega, by omega, by omega⟩ dL_law_1667 dL_law_1668 dL_law_1670 dL_law_1671 dL_law_1672 ?_
  refine la_m (As := [.int (iI ((xs (i + 1).toNat).toInt))]) (mkv := fun z => .int (iI z)) (a := (an_result S ((xs (i + 1).toNat).toInt))) F G (md_result l D K z0 M MH ME MS m0 hM hS ((xs (i + 1).toNat).toInt) (x32 _)) my_X11_result mv_L_221 rfl rfl rfl ⟨by omega, by omega⟩ ⟨by omega, by omega⟩ (Nat.le_of_ble_eq_true rfl) hl.1 dL_law_1673 (fun z fm2 wM2 H locs hq G => ?_)
  refine lv_istore (lv' := (7, .int (iI z)) :: (6, .int (iI ((an_result S ((xs (i + 1).toNat).toInt)) cm).1)) :: LV b d0 m0 o1 o2 i) F.1 F.2.1 dL_law_1676 hl (by decide) rfl (fun ls hl => ?_)
  obtain ⟨hq1, hq2⟩ := hq cm
  refine la_t (tgt := 1706) F G hq2 hc0 ⟨by omega, by omega⟩ ⟨by omega, by omega⟩ hl.1 (lv_at hl 5 rfl) (lv_at hl 1 rfl) dL_law_1678 dL_law_1679 dL_law_1682 dL_law_1684 dL_law_1689 dL_law_1691 (by decide) (fun H locs _ G => ?_) (fun H locs hk G => ?_)
  · skip
    refine lv_goto (tgt := 2225) F.1 F.2.1 dL_law_1706 (by decide) ?_
    exact kk _ _ _ _ _ _ _ _ _ _ _ hD2 hq2 hS2 G (lv_sub hl [2, 3, 4, 5, 6, 7] rfl)
  · have hg := hcg hk
    rw [hq1 hk] at hg
    refine la_i (tgt := 1706) F G hg (lv_at hl 4 rfl) (lv_at hl 0 rfl) dL_law_1694 dL_law_1695 dL_law_1696 dL_law_1697 dL_law_1699 dL_law_1700 dL_law_1701 (by decide) ?_
    refine lv_goto (tgt := 2225) F.1 F.2.1 dL_law_1706 (by decide) ?_
    exact kk _ _ _ _ _ _ _ _ _ _ _ hD2 hq2 hS2 G (lv_sub hl [2, 3, 4, 5, 6, 7] rfl)
theorem my_L_firstLost : ad_myH yL_firstLost cL_firstLost 3 (some .int) hL_firstLost 2 := ⟨(ad_mt (List.mem_of_getElem? (i := 1098) (by decide +kernel)) (by decide +kernel)), ⟨by decide, by decide, by decide +kernel⟩, (ad_mt (List.mem_of_getElem? (i := 0) (by decide +kernel)) (by decide +kernel))⟩
set_option maxRecDepth 20000 in
theorem lc_firstLost {p : Program} {l : Launch} {e : Env} {R : Room} {s : State} {m : MethodId} {args : Array Value} {below : List Frame} {meth : Method} {c : Code} {H : Heap} {locs : List Loc} {cells slots : Nat} {Q : State → Prop} {ret : Option FieldType} {D : va_G} {K : Nat → ClassId} {z0 : Nat} {A : Nat → Prop} {ls : Array Slot} {b d0 m0 o1 o2 L n : Nat} {xs : Nat → Int32} {fs fm : List Value} {go : Nat → Int64} {gd : Nat → UInt64} {wD wM : va_W} {N M MH ME MS : Nat → Nat} {S : Sx} {xth i : Int} {nm : String} (hl0 : l.stackTraces = false) (F : ad_F p s m args meth c RL nm cL_law 9 ret D K z0 A) (B : LB s A b L xs) (hn : n < 512) (hD : DkI K N n S fs wD) (hM : MoI K M MH ME MS xth S fm wM) (hS : SxI n S) (hi : 0 ≤ i ∧ i + 4 ≤ L ∧ L ≤ 2048) (hR : 20 ≤ R.frames ∧ 1000 ≤ R.locals) (hC : cells + 4 ≤ R.cells ∧ slots + 1214 ≤ R.slots) (G : ad_G D A s.heap H locs (WL K d0 m0 o1 o2 fs fm go gd wD wM)) (hl : lv_has ls 9 (LV b d0 m0 o1 o2 i)) (kk : LK p l e R s m args below meth c cells slots Q D A K b d0 m0 o1 o2 n N M MH ME MS i) : W p l e R s m args below meth c H locs cells slots Q (F0 m 1709 ls []) := by
  refine lv_aload_n F.1 F.2.1 dL_law_1709 rfl (lv_at hl 4 rfl) ?_
  refine lv_aload_n F.1 F.2.1 dL_law_1710 rfl (lv_at hl 2 rfl) ?_
  refine la_c (As := [.ref d0, .ref o1]) (a := (an_firstLost S)) F G (w_firstLost l D K z0 d0 o1 fs wD go  (PRg K N n (an_firstLost S)) (PXg K N n (an_firstLost S)) (dk_firstLost l hl0 D K z0 N d0 hn hD hS  )) my_L_firstLost ms_L_222 (by decide) rfl rfl ⟨by omega, by omega⟩ hC (by simp) hl.1 dL_law_1711 (fun cm fs2 wD2 go2 H locs hc0 hcg hS2 hD2 G => ?_)
  refine lv_istore (lv' := (6, .int (iI ((an_firstLost S) cm).1)) :: LV b d0 m0 o1 o2 i) F.1 F.2.1 dL_law_1714 hl (by decide) rfl (fun ls hl => ?_)
  refine lv_aload_n F.1 F.2.1 dL_law_1716 rfl (lv_at hl 4 rfl) ?_
  refine la_m (As := []) (mkv := fun z => .int (iI z)) (a := (an_firstLost S)) F G (md_firstLost l D K z0 M MH ME MS m0 hM hS  ) my_X11_firstLost mv_L_224 rfl rfl rfl ⟨by omega, by omega⟩ ⟨by omega, by omega⟩ (Nat.le_of_ble_eq_true rfl) hl.1 dL_law_1717 (fun z fm2 wM2 H locs hq G => ?_)
  refine lv_istore (lv' := (7, .int (iI z)) :: (6, .int (iI ((an_firstLost S) cm).1)) :: LV b d0 m0 o1 o2 i) F.1 F.2.1 dL_law_1720 hl (by decide) rfl (fun ls hl => ?_)
  obtain ⟨hq1, hq2⟩ := hq cm
  refine la_t (tgt := 1750) F G hq2 hc0 ⟨by omega, by omega⟩ ⟨by omega, by omega⟩ hl.1 (lv_at hl 5 rfl) (lv_at hl 1 rfl) dL_law_1722 dL_law_1723 dL_law_1726 dL_law_1728 dL_law_1733 dL_law_1735 (by decide) (fun H locs _ G => ?_) (fun H locs hk G => ?_)
  · skip
    refine lv_goto (tgt := 2225) F.1 F.2.1 dL_law_1750 (by decide) ?_
    exact kk _ _ _ _ _ _ _ _ _ _ _ hD2 hq2 hS2 G (lv_sub hl [2, 3, 4, 5, 6, 7] rfl)
  · have hg := hcg hk
    rw [hq1 hk] at hg
    refine la_i (tgt := 1750) F G hg (lv_at hl 4 rfl) (lv_at hl 0 rfl) dL_law_1738 dL_law_1739 dL_law_1740 dL_law_1741 dL_law_1743 dL_law_1744 dL_law_1745 (by decide) ?_
    refine lv_goto (tgt := 2225) F.1 F.2.1 dL_law_1750 (by decide) ?_
    exact kk _ _ _ _ _ _ _ _ _ _ _ hD2 hq2 hS2 G (lv_sub hl [2, 3, 4, 5, 6, 7] rfl)
theorem my_L_share : ad_myH yL_share cL_share 3 (some .int) hL_share 2 := ⟨(ad_mt (List.mem_of_getElem? (i := 1110) (by decide +kernel)) (by decide +kernel)), ⟨by decide, by decide, by decide +kernel⟩, (ad_mt (List.mem_of_getElem? (i := 0) (by decide +kernel)) (by decide +kernel))⟩
set_option maxRecDepth 20000 in
theorem lc_share {p : Program} {l : Launch} {e : Env} {R : Room} {s : State} {m : MethodId} {args : Array Value} {below : List Frame} {meth : Method} {c : Code} {H : Heap} {locs : List Loc} {cells slots : Nat} {Q : State → Prop} {ret : Option FieldType} {D : va_G} {K : Nat → ClassId} {z0 : Nat} {A : Nat → Prop} {ls : Array Slot} {b d0 m0 o1 o2 L n : Nat} {xs : Nat → Int32} {fs fm : List Value} {go : Nat → Int64} {gd : Nat → UInt64} {wD wM : va_W} {N M MH ME MS : Nat → Nat} {S : Sx} {xth i : Int} {nm : String} (hl0 : l.stackTraces = false) (F : ad_F p s m args meth c RL nm cL_law 9 ret D K z0 A) (B : LB s A b L xs) (hn : n < 512) (hD : DkI K N n S fs wD) (hM : MoI K M MH ME MS xth S fm wM) (hS : SxI n S) (hi : 0 ≤ i ∧ i + 4 ≤ L ∧ L ≤ 2048) (hR : 20 ≤ R.frames ∧ 1000 ≤ R.locals) (hC : cells + 4 ≤ R.cells ∧ slots + 1214 ≤ R.slots) (G : ad_G D A s.heap H locs (WL K d0 m0 o1 o2 fs fm go gd wD wM)) (hl : lv_has ls 9 (LV b d0 m0 o1 o2 i)) (kk : LK p l e R s m args below meth c cells slots Q D A K b d0 m0 o1 o2 n N M MH ME MS i) : W p l e R s m args below meth c H locs cells slots Q (F0 m 1753 ls []) := by
  refine lv_aload_n F.1 F.2.1 dL_law_1753 rfl (lv_at hl 4 rfl) ?_
  refine lv_aload F.1 F.2.1 dL_law_1754 (lv_at hl 1 rfl) ?_
  refine la_e (As := [.ref d0, .ref o2]) (a := (an_share S)) (up := (fun z => z)) (pz := (fun _ => True)) F G (CH.wk (w_share l D K z0 d0 o2 fs wD gd  (PRg K N n (an_share S)) (PXg K N n (an_share S)) (dk_share l hl0 D K z0 N d0 hn hD hS  )) (fun v u h => h.elim (fun q => by obtain ⟨z, fs2, wD2, q1, q3⟩ := q; exact Or.inl ⟨z, fs2, wD2, q1, trivial, q3⟩) Or.inr)) my_L_share ms_L_225 (by decide) rfl rfl ⟨by omega, by omega⟩ hC (by simp) hl.1 dL_law_1756 (fun cm fs2 wD2 gd2 H locs hc0 hcg hS2 hD2 G => ?_)
  refine lv_istore (lv' := (6, .int (iI ((an_share S) cm).1)) :: LV b d0 m0 o1 o2 i) F.1 F.2.1 dL_law_1759 hl (by decide) rfl (fun ls hl => ?_)
  refine lv_aload_n F.1 F.2.1 dL_law_1761 rfl (lv_at hl 4 rfl) ?_
  refine la_m (As := []) (mkv := fun z => .double z) (a := (an_share S)) F G (md_share l D K z0 M MH ME MS m0 hM hS  ) my_X11_share mv_L_228 rfl rfl rfl ⟨by omega, by omega⟩ ⟨by omega, by omega⟩ (Nat.le_of_ble_eq_true rfl) hl.1 dL_law_1762 (fun z fm2 wM2 H locs hq G => ?_)
  refine lv_dstore (lv' := (7, .double z) :: (6, .int (iI ((an_share S) cm).1)) :: LV b d0 m0 o1 o2 i) F.1 F.2.1 dL_law_1765 hl (by decide) rfl (fun ls hl => ?_)
  obtain ⟨hq1, hq2⟩ := hq cm
  refine la_t (tgt := 1815) F G hq2 hc0 ⟨by omega, by omega⟩ ⟨by omega, by omega⟩ hl.1 (lv_at hl 5 rfl) (lv_at hl 1 rfl) dL_law_1767 dL_law_1768 dL_law_1771 dL_law_1773 dL_law_1778 dL_law_1780 (by decide) (fun H locs _ G => ?_) (fun H locs hk G => ?_)
  · skip
    refine lv_goto (tgt := 2225) F.1 F.2.1 dL_law_1815 (by decide) ?_
    exact kk _ _ _ _ _ _ _ _ _ _ _ hD2 hq2 hS2 G (lv_sub hl [2, 3, 4, 5, 6, 7] rfl)
  · have hg := hcg hk
    have hz := share_nn hS cm hk
    replace hg := hg.1
    rw [hq1 hk] at hg hz
    refine lv_aload F.1 F.2.1 dL_law_1783 (lv_at hl 3 rfl) ?_
    refine ad_iconst F dL_law_1785 ?_
    refine ad_dald F G 3 rfl (z := 0) (by decide) hg dL_law_1786 ?_
    refine lv_dload F.1 F.2.1 dL_law_1787 (lv_at hl 0 rfl) ?_
    refine lv_dcmp F.1 F.2.1 dL_law_1789 ?_
    refine lv_if_eq (tgt := 1815) F.1 F.2.1 dL_law_1790 (by decide) (fun _ => ?_) (fun h => absurd (dc_self hz) h)
    refine lv_goto (tgt := 2225) F.1 F.2.1 dL_law_1815 (by decide) ?_
    exact kk _ _ _ _ _ _ _ _ _ _ _ hD2 hq2 hS2 G (lv_sub hl [2, 3, 4, 5, 6, 7] rfl)
theorem my_L_meanPriority : ad_myH yL_meanPriority cL_meanPriority 3 (some .int) hL_meanPriority 2 := ⟨(ad_mt (List.mem_of_getElem? (i := 1117) (by decide +kernel)) (by decide +kernel)), ⟨by decide, by decide, by decide +kernel⟩, (ad_mt (List.mem_of_getElem? (i := 0) (by decide +kernel)) (by decide +kernel))⟩
set_option maxRecDepth 20000 in
theorem lc_meanPriority {p : Program} {l : Launch} {e : Env} {R : Room} {s : State} {m : MethodId} {args : Array Value} {below : List Frame} {meth : Method} {c : Code} {H : Heap} {locs : List Loc} {cells slots : Nat} {Q : State → Prop} {ret : Option FieldType} {D : va_G} {K : Nat → ClassId} {z0 : Nat} {A : Nat → Prop} {ls : Array Slot} {b d0 m0 o1 o2 L n : Nat} {xs : Nat → Int32} {fs fm : List Value} {go : Nat → Int64} {gd : Nat → UInt64} {wD wM : va_W} {N M MH ME MS : Nat → Nat} {S : Sx} {xth i : Int} {nm : String} (hl0 : l.stackTraces = false) (F : ad_F p s m args meth c RL nm cL_law 9 ret D K z0 A) (B : LB s A b L xs) (hn : n < 512) (hD : DkI K N n S fs wD) (hM : MoI K M MH ME MS xth S fm wM) (hS : SxI n S) (hi : 0 ≤ i ∧ i + 4 ≤ L ∧ L ≤ 2048) (hR : 20 ≤ R.frames ∧ 1000 ≤ R.locals) (hC : cells + 4 ≤ R.cells ∧ slots + 1214 ≤ R.slots) (G : ad_G D A s.heap H locs (WL K d0 m0 o1 o2 fs fm go gd wD wM)) (hl : lv_has ls 9 (LV b d0 m0 o1 o2 i)) (kk : LK p l e R s m args below meth c cells slots Q D A K b d0 m0 o1 o2 n N M MH ME MS i) : W p l e R s m args below meth c H locs cells slots Q (F0 m 1818 ls []) := by
  refine lv_aload_n F.1 F.2.1 dL_law_1818 rfl (lv_at hl 4 rfl) ?_
  refine lv_aload F.1 F.2.1 dL_law_1819 (lv_at hl 1 rfl) ?_
  refine la_e (As := [.ref d0, .ref o2]) (a := (an_meanPriority S)) (up := (fun z => FP.f2d z)) (pz := (fun z => vf_n64 (FP.f2d z))) F G (w_meanPriority l D K z0 d0 o2 fs wD gd  (PRg K N n (an_meanPriority S)) (PXg K N n (an_meanPriority S)) (dk_meanPriority l hl0 D K z0 N d0 hn hD hS  )) my_L_meanPriority ms_L_229 (by decide) rfl rfl ⟨by omega, by omega⟩ hC (by simp) hl.1 dL_law_1821 (fun cm fs2 wD2 gd2 H locs hc0 hcg hS2 hD2 G => ?_)
  refine lv_istore (lv' := (6, .int (iI ((an_meanPriority S) cm).1)) :: LV b d0 m0 o1 o2 i) F.1 F.2.1 dL_law_1824 hl (by decide) rfl (fun ls hl => ?_)
  refine lv_aload_n F.1 F.2.1 dL_law_1826 rfl (lv_at hl 4 rfl) ?_
  refine la_m (As := []) (mkv := fun z => .float z) (a := (an_meanPriority S)) F G (md_meanPriority l D K z0 M MH ME MS m0 hM hS  ) my_X11_meanPriority mv_L_231 rfl rfl rfl ⟨by omega, by omega⟩ ⟨by omega, by omega⟩ (Nat.le_of_ble_eq_true rfl) hl.1 dL_law_1827 (fun z fm2 wM2 H locs hq G => ?_)
  refine lv_fstore (lv' := (7, .float z) :: (6, .int (iI ((an_meanPriority S) cm).1)) :: LV b d0 m0 o1 o2 i) F.1 F.2.1 dL_law_1830 hl (by decide) rfl (fun ls hl => ?_)
  obtain ⟨hq1, hq2⟩ := hq cm
  refine la_t (tgt := 1881) F G hq2 hc0 ⟨by omega, by omega⟩ ⟨by omega, by omega⟩ hl.1 (lv_at hl 5 rfl) (lv_at hl 1 rfl) dL_law_1832 dL_law_1833 dL_law_1836 dL_law_1838 dL_law_1843 dL_law_1845 (by decide) (fun H locs _ G => ?_) (fun H locs hk G => ?_)
  · skip
    refine lv_goto (tgt := 2225) F.1 F.2.1 dL_law_1881 (by decide) ?_
    exact kk _ _ _ _ _ _ _ _ _ _ _ hD2 hq2 hS2 G (lv_sub hl [2, 3, 4, 5, 6, 7] rfl)
  · have hg := hcg hk
    have hz := hg.2
    replace hg := hg.1
    rw [hq1 hk] at hg hz
    refine lv_aload F.1 F.2.1 dL_law_1848 (lv_at hl 3 rfl) ?_
    refine ad_iconst F dL_law_1850 ?_
    refine ad_dald F G 3 rfl (z := 0) (by decide) hg dL_law_1851 ?_
    refine lv_fload F.1 F.2.1 dL_law_1852 (lv_at hl 0 rfl) ?_
    refine lv_f2d F.1 F.2.1 dL_law_1854 hz ?_
    refine lv_dcmp F.1 F.2.1 dL_law_1855 ?_
    refine lv_if_eq (tgt := 1881) F.1 F.2.1 dL_law_1856 (by decide) (fun _ => ?_) (fun h => absurd (dc_self hz) h)
    refine lv_goto (tgt := 2225) F.1 F.2.1 dL_law_1881 (by decide) ?_
    exact kk _ _ _ _ _ _ _ _ _ _ _ hD2 hq2 hS2 G (lv_sub hl [2, 3, 4, 5, 6, 7] rfl)
theorem my_L_storeLengths : ad_myH yL_storeLengths cL_storeLengths 5 (some .int) hL_storeLengths 4 := ⟨(ad_mt (List.mem_of_getElem? (i := 1143) (by decide +kernel)) (by decide +kernel)), ⟨by decide, by decide, by decide +kernel⟩, (ad_mt (List.mem_of_getElem? (i := 0) (by decide +kernel)) (by decide +kernel))⟩
set_option maxRecDepth 20000 in
theorem lc_storeLengths {p : Program} {l : Launch} {e : Env} {R : Room} {s : State} {m : MethodId} {args : Array Value} {below : List Frame} {meth : Method} {c : Code} {H : Heap} {locs : List Loc} {cells slots : Nat} {Q : State → Prop} {ret : Option FieldType} {D : va_G} {K : Nat → ClassId} {z0 : Nat} {A : Nat → Prop} {ls : Array Slot} {b d0 m0 o1 o2 L n : Nat} {xs : Nat → Int32} {fs fm : List Value} {go : Nat → Int64} {gd : Nat → UInt64} {wD wM : va_W} {N M MH ME MS : Nat → Nat} {S : Sx} {xth i : Int} {nm : String} (hl0 : l.stackTraces = false) (F : ad_F p s m args meth c RL nm cL_law 9 ret D K z0 A) (B : LB s A b L xs) (hn : n < 512) (hD : DkI K N n S fs wD) (hM : MoI K M MH ME MS xth S fm wM) (hS : SxI n S) (hi : 0 ≤ i ∧ i + 4 ≤ L ∧ L ≤ 2048) (hR : 20 ≤ R.frames ∧ 1000 ≤ R.locals) (hC : cells + 4 ≤ R.cells ∧ slots + 1214 ≤ R.slots) (G : ad_G D A s.heap H locs (WL K d0 m0 o1 o2 fs fm go gd wD wM)) (hl : lv_has ls 9 (LV b d0 m0 o1 o2 i)) (kk : LK p l e R s m args below meth c cells slots Q D A K b d0 m0 o1 o2 n N M MH ME MS i) : W p l e R s m args below meth c H locs cells slots Q (F0 m 1884 ls []) := by
  refine lv_aload_n F.1 F.2.1 dL_law_1884 rfl (lv_at hl 4 rfl) ?_
  refine la_x F G B (lv_at hl 5 rfl) (lv_at hl 0 rfl) (k := 1) ⟨by omega, by omega, by omega⟩ dL_law_1885 dL_law_1886 dL_law_1888 dL_law_1889 dL_law_1890 ?_
  refine la_x F G B (lv_at hl 5 rfl) (lv_at hl 0 rfl) (k := 2) ⟨by omega, by omega, by omega⟩ dL_law_1891 dL_law_1892 dL_law_1894 dL_law_1895 dL_law_1896 ?_
  refine la_bz (A9 := 1904) (B9 := 1905) F (x32 _) dL_law_1897 dL_law_1900 dL_law_1901 dL_law_1904 (by decide) (by decide) rfl ?_
  refine lv_aload_n F.1 F.2.1 dL_law_1905 rfl (lv_at hl 2 rfl) ?_
  refine la_c (As := [.ref d0, .int (iI ((xs (i + 1).toNat).toInt)), .int (iI (bz (xs (i + 2).toNat).toInt)), .ref o1]) (a := (an_storeLengths S ((xs (i + 1).toNat).toInt) (bz (xs (i + 2).toNat).toInt))) F G (w_storeLengths l D K z0 d0 o1 fs wD go ((xs (i + 1).toNat).toInt) (bz (xs (i + 2).toNat).toInt) (PRg K N n (an_storeLengths S ((xs (i + 1).toNat).toInt) (bz (xs (i + 2).toNat).toInt))) (PXg K N n (an_storeLengths S ((xs (i + 1).toNat).toInt) (bz (xs (i + 2).toNat).toInt))) (dk_storeLengths l hl0 D K z0 N d0 hn hD hS ((xs (i + 1).toNat).toInt) (bz (xs (i + 2).toNat).toInt) (x32 _) (bz_01 _))) my_L_storeLengths ms_L_232 (by decide) rfl rfl ⟨by omega, by omega⟩ hC (by simp) hl.1 dL_law_1906 (fun cm fs2 wD2 go2 H locs hc0 hcg hS2 hD2 G => ?_)
  refine lv_istore (lv' := (6, .int (iI ((an_storeLengths S ((xs (i + 1).toNat).toInt) (bz (xs (i + 2).toNat).toInt)) cm).1)) :: LV b d0 m0 o1 o2 i) F.1 F.2.1 dL_law_1909 hl (by decide) rfl (fun ls hl => ?_)
  refine lv_aload_n F.1 F.2.1 dL_law_1911 rfl (lv_at hl 4 rfl) ?_
  refine la_x F G B (lv_at hl 6 rfl) (lv_at hl 1 rfl) (k := 1) ⟨by omega, by omega, by omega⟩ dL_law_1912 dL_law_1913 dL_law_1915 dL_law_1916 dL_law_1917 ?_
  refine la_x F G B (lv_at hl 6 rfl) (lv_at hl 1 rfl) (k := 2) ⟨by omega, by omega, by omega⟩ dL_law_1918 dL_law_1919 dL_law_1921 dL_law_1922 dL_law_1923 ?_
  refine la_bz (A9 := 1931) (B9 := 1932) F (x32 _) dL_law_1924 dL_law_1927 dL_law_1928 dL_law_1931 (by decide) (by decide) rfl ?_
  refine la_m (As := [.int (iI ((xs (i + 1).toNat).toInt)), .int (iI (bz (xs (i + 2).toNat).toInt))]) (mkv := fun z => .int (iI z)) (a := (an_storeLengths S ((xs (i + 1).toNat).toInt) (bz (xs (i + 2).toNat).toInt))) F G (md_storeLengths l D K z0 M MH ME MS m0 hM hS ((xs (i + 1).toNat).toInt) (bz (xs (i + 2).toNat).toInt) (x32 _) (bz_01 _)) my_X11_storeLengths mv_L_234 rfl rfl rfl ⟨by omega, by omega⟩ ⟨by omega, by omega⟩ (Nat.le_of_ble_eq_true rfl) hl.1 dL_law_1932 (fun z fm2 wM2 H locs hq G => ?_)
  refine lv_istore (lv' := (7, .int (iI z)) :: (6, .int (iI ((an_storeLengths S ((xs (i + 1).toNat).toInt) (bz (xs (i + 2).toNat).toInt)) cm).1)) :: LV b d0 m0 o1 o2 i) F.1 F.2.1 dL_law_1935 hl (by decide) rfl (fun ls hl => ?_)
  obtain ⟨hq1, hq2⟩ := hq cm
  refine la_t (tgt := 1965) F G hq2 hc0 ⟨by omega, by omega⟩ ⟨by omega, by omega⟩ hl.1 (lv_at hl 5 rfl) (lv_at hl 1 rfl) dL_law_1937 dL_law_1938 dL_law_1941 dL_law_1943 dL_law_1948 dL_law_1950 (by decide) (fun H locs _ G => ?_) (fun H locs hk G => ?_)
  · skip
    refine lv_goto (tgt := 2225) F.1 F.2.1 dL_law_1965 (by decide) ?_
    exact kk _ _ _ _ _ _ _ _ _ _ _ hD2 hq2 hS2 G (lv_sub hl [2, 3, 4, 5, 6, 7] rfl)
  · have hg := hcg hk
    rw [hq1 hk] at hg
    refine la_i (tgt := 1965) F G hg (lv_at hl 4 rfl) (lv_at hl 0 rfl) dL_law_1953 dL_law_1954 dL_law_1955 dL_law_1956 dL_law_1958 dL_law_1959 dL_law_1960 (by decide) ?_
    refine lv_goto (tgt := 2225) F.1 F.2.1 dL_law_1965 (by decide) ?_
    exact kk _ _ _ _ _ _ _ _ _ _ _ hD2 hq2 hS2 G (lv_sub hl [2, 3, 4, 5, 6, 7] rfl)
theorem my_L_copyLengths : ad_myH yL_copyLengths cL_copyLengths 5 (some .int) hL_copyLengths 4 := ⟨(ad_mt (List.mem_of_getElem? (i := 1161) (by decide +kernel)) (by decide +kernel)), ⟨by decide, by decide, by decide +kernel⟩, (ad_mt (List.mem_of_getElem? (i := 0) (by decide +kernel)) (by decide +kernel))⟩
set_option maxRecDepth 20000 in
theorem lc_copyLengths {p : Program} {l : Launch} {e : Env} {R : Room} {s : State} {m : MethodId} {args : Array Value} {below : List Frame} {meth : Method} {c : Code} {H : Heap} {locs : List Loc} {cells slots : Nat} {Q : State → Prop} {ret : Option FieldType} {D : va_G} {K : Nat → ClassId} {z0 : Nat} {A : Nat → Prop} {ls : Array Slot} {b d0 m0 o1 o2 L n : Nat} {xs : Nat → Int32} {fs fm : List Value} {go : Nat → Int64} {gd : Nat → UInt64} {wD wM : va_W} {N M MH ME MS : Nat → Nat} {S : Sx} {xth i : Int} {nm : String} (hl0 : l.stackTraces = false) (F : ad_F p s m args meth c RL nm cL_law 9 ret D K z0 A) (B : LB s A b L xs) (hn : n < 512) (hD : DkI K N n S fs wD) (hM : MoI K M MH ME MS xth S fm wM) (hS : SxI n S) (hi : 0 ≤ i ∧ i + 4 ≤ L ∧ L ≤ 2048) (hR : 20 ≤ R.frames ∧ 1000 ≤ R.locals) (hC : cells + 4 ≤ R.cells ∧ slots + 1214 ≤ R.slots) (G : ad_G D A s.heap H locs (WL K d0 m0 o1 o2 fs fm go gd wD wM)) (hl : lv_has ls 9 (LV b d0 m0 o1 o2 i)) (kk : LK p l e R s m args below meth c cells slots Q D A K b d0 m0 o1 o2 n N M MH ME MS i) : W p l e R s m args below meth c H locs cells slots Q (F0 m 1968 ls []) := by
  refine lv_aload_n F.1 F.2.1 dL_law_1968 rfl (lv_at hl 4 rfl) ?_
  refine la_x F G B (lv_at hl 5 rfl) (lv_at hl 0 rfl) (k := 1) ⟨by omega, by omega, by omega⟩ dL_law_1969 dL_law_1970 dL_law_1972 dL_law_1973 dL_law_1974 ?_
  refine la_x F G B (lv_at hl 5 rfl) (lv_at hl 0 rfl) (k := 2) ⟨by omega, by omega, by omega⟩ dL_law_1975 dL_law_1976 dL_law_1978 dL_law_1979 dL_law_1980 ?_
  refine lv_aload_n F.1 F.2.1 dL_law_1981 rfl (lv_at hl 2 rfl) ?_
  refine la_c (As := [.ref d0, .int (iI ((xs (i + 1).toNat).toInt)), .int (iI ((xs (i + 2).toNat).toInt)), .ref o1]) (a := (an_copyLengths S ((xs (i + 1).toNat).toInt) ((xs (i + 2).toNat).toInt))) F G (CH.wk (w_copyLengths l D K z0 d0 o1 fs wD go ((xs (i + 1).toNat).toInt) ((xs (i + 2).toNat).toInt) (PRg K N n (an_copyLengths S ((xs (i + 1).toNat).toInt) ((xs (i + 2).toNat).toInt))) (PXg K N n (an_copyLengths S ((xs (i + 1).toNat).toInt) ((xs (i + 2).toNat).toInt))) (dk_copyLengths l hl0 D K z0 N d0 hn hD hS ((xs (i + 1).toNat).toInt) ((xs (i + 2).toNat).toInt) (x32 _) (x32 _))) (fun v u h => h.elim (fun q => by obtain ⟨z, fs2, wD2, q1, -, q3⟩ := q; exact Or.inl ⟨z, fs2, wD2, q1, q3⟩) Or.inr)) my_L_copyLengths ms_L_235 (by decide) rfl rfl ⟨by omega, by omega⟩ hC (by simp) hl.1 dL_law_1982 (fun cm fs2 wD2 go2 H locs hc0 hcg hS2 hD2 G => ?_)
  refine lv_istore (lv' := (6, .int (iI ((an_copyLengths S ((xs (i + 1).toNat).toInt) ((xs (i + 2).toNat).toInt)) cm).1)) :: LV b d0 m0 o1 o2 i) F.1 F.2.1 dL_law_1985 hl (by decide) rfl (fun ls hl => ?_)
  refine lv_aload_n F.1 F.2.1 dL_law_1987 rfl (lv_at hl 4 rfl) ?_
  refine la_x F G B (lv_at hl 6 rfl) (lv_at hl 1 rfl) (k := 1) ⟨by omega, by omega, by omega⟩ dL_law_1988 dL_law_1989 dL_law_1991 dL_law_1992 dL_law_1993 ?_
  refine la_x F G B (lv_at hl 6 rfl) (lv_at hl 1 rfl) (k := 2) ⟨by omega, by omega, by omega⟩ dL_law_1994 dL_law_1995 dL_law_1997 dL_law_1998 dL_law_1999 ?_
  refine la_m (As := [.int (iI ((xs (i + 1).toNat).toInt)), .int (iI ((xs (i + 2).toNat).toInt))]) (mkv := fun z => .int (iI z)) (a := (an_copyLengths S ((xs (i + 1).toNat).toInt) ((xs (i + 2).toNat).toInt))) F G (md_copyLengths l D K z0 M MH ME MS m0 hM hS ((xs (i + 1).toNat).toInt) ((xs (i + 2).toNat).toInt) (x32 _) (x32 _)) my_X11_copyLengths mv_L_237 rfl rfl rfl ⟨by omega, by omega⟩ ⟨by omega, by omega⟩ (Nat.le_of_ble_eq_true rfl) hl.1 dL_law_2000 (fun z fm2 wM2 H locs hq G => ?_)
  refine lv_istore (lv' := (7, .int (iI z)) :: (6, .int (iI ((an_copyLengths S ((xs (i + 1).toNat).toInt) ((xs (i + 2).toNat).toInt)) cm).1)) :: LV b d0 m0 o1 o2 i) F.1 F.2.1 dL_law_2003 hl (by decide) rfl (fun ls hl => ?_)
  obtain ⟨hq1, hq2⟩ := hq cm
  refine la_t (tgt := 2040) F G hq2 hc0 ⟨by omega, by omega⟩ ⟨by omega, by omega⟩ hl.1 (lv_at hl 5 rfl) (lv_at hl 1 rfl) dL_law_2005 dL_law_2006 dL_law_2009 dL_law_2011 dL_law_2016 dL_law_2018 (by decide) (fun H locs _ G => ?_) (fun H locs hk G => ?_)
  · skip
    refine lv_goto (tgt := 2225) F.1 F.2.1 dL_law_2040 (by decide) ?_
    exact kk _ _ _ _ _ _ _ _ _ _ _ hD2 hq2 hS2 G (lv_sub hl [2, 3, 4, 5, 6, 7] rfl)
  · have hg := hcg hk
    rw [hq1 hk] at hg
    have hz := copy_01 cm hk
    rw [hq1 hk] at hz
    refine lv_aload_n F.1 F.2.1 dL_law_2021 rfl (lv_at hl 4 rfl) ?_
    refine ad_iconst F dL_law_2022 ?_
    refine ad_lald F G 2 rfl (z := 0) (by decide) hg dL_law_2023 ?_
    refine lv_iload F.1 F.2.1 dL_law_2024 (lv_at hl 0 rfl) ?_
    rcases hz with rfl | rfl
    · refine ad_if_eq (tgt := 2033) F (by decide) dL_law_2026 (by decide) (fun _ => ?_) (fun h => absurd rfl h)
      refine lv_lconst (v := (iI 0).toInt64) F.1 F.2.1 dL_law_2033 (by decide) ?_
      refine ad_lcmp_eq (tgt := 2040) F dL_law_2034 dL_law_2035 (by decide) (fun _ => ?_) (fun h => absurd rfl h)
      refine lv_goto (tgt := 2225) F.1 F.2.1 dL_law_2040 (by decide) ?_
      exact kk _ _ _ _ _ _ _ _ _ _ _ hD2 hq2 hS2 G (lv_sub hl [2, 3, 4, 5, 6, 7] rfl)
    · refine ad_if_eq (tgt := 2033) F (by decide) dL_law_2026 (by decide) (fun h => absurd h (by decide)) (fun _ => ?_)
      refine lv_lconst (v := (iI 1).toInt64) F.1 F.2.1 dL_law_2029 (by decide) ?_
      refine lv_goto (tgt := 2034) F.1 F.2.1 dL_law_2030 (by decide) ?_
      refine ad_lcmp_eq (tgt := 2040) F dL_law_2034 dL_law_2035 (by decide) (fun _ => ?_) (fun h => absurd rfl h)
      refine lv_goto (tgt := 2225) F.1 F.2.1 dL_law_2040 (by decide) ?_
      exact kk _ _ _ _ _ _ _ _ _ _ _ hD2 hq2 hS2 G (lv_sub hl [2, 3, 4, 5, 6, 7] rfl)
theorem my_L_storedBits : ad_myH yL_storedBits cL_storedBits 5 (some .int) hL_storedBits 4 := ⟨(ad_mt (List.mem_of_getElem? (i := 1176) (by decide +kernel)) (by decide +kernel)), ⟨by decide, by decide, by decide +kernel⟩, (ad_mt (List.mem_of_getElem? (i := 0) (by decide +kernel)) (by decide +kernel))⟩
set_option maxRecDepth 20000 in
theorem lc_storedBits {p : Program} {l : Launch} {e : Env} {R : Room} {s : State} {m : MethodId} {args : Array Value} {below : List Frame} {meth : Method} {c : Code} {H : Heap} {locs : List Loc} {cells slots : Nat} {Q : State → Prop} {ret : Option FieldType} {D : va_G} {K : Nat → ClassId} {z0 : Nat} {A : Nat → Prop} {ls : Array Slot} {b d0 m0 o1 o2 L n : Nat} {xs : Nat → Int32} {fs fm : List Value} {go : Nat → Int64} {gd : Nat → UInt64} {wD wM : va_W} {N M MH ME MS : Nat → Nat} {S : Sx} {xth i : Int} {nm : String} (hl0 : l.stackTraces = false) (F : ad_F p s m args meth c RL nm cL_law 9 ret D K z0 A) (B : LB s A b L xs) (hn : n < 512) (hD : DkI K N n S fs wD) (hM : MoI K M MH ME MS xth S fm wM) (hS : SxI n S) (hi : 0 ≤ i ∧ i + 4 ≤ L ∧ L ≤ 2048) (hR : 20 ≤ R.frames ∧ 1000 ≤ R.locals) (hC : cells + 4 ≤ R.cells ∧ slots + 1214 ≤ R.slots) (G : ad_G D A s.heap H locs (WL K d0 m0 o1 o2 fs fm go gd wD wM)) (hl : lv_has ls 9 (LV b d0 m0 o1 o2 i)) (kk : LK p l e R s m args below meth c cells slots Q D A K b d0 m0 o1 o2 n N M MH ME MS i) : W p l e R s m args below meth c H locs cells slots Q (F0 m 2043 ls []) := by
  refine lv_aload_n F.1 F.2.1 dL_law_2043 rfl (lv_at hl 4 rfl) ?_
  refine la_x F G B (lv_at hl 5 rfl) (lv_at hl 0 rfl) (k := 1) ⟨by omega, by omega, by omega⟩ dL_law_2044 dL_law_2045 dL_law_2047 dL_law_2048 dL_law_2049 ?_
  refine la_x F G B (lv_at hl 5 rfl) (lv_at hl 0 rfl) (k := 2) ⟨by omega, by omega, by omega⟩ dL_law_2050 dL_law_2051 dL_law_2053 dL_law_2054 dL_law_2055 ?_
  refine lv_aload_n F.1 F.2.1 dL_law_2056 rfl (lv_at hl 2 rfl) ?_
  refine la_c (As := [.ref d0, .int (iI ((xs (i + 1).toNat).toInt)), .int (iI ((xs (i + 2).toNat).toInt)), .ref o1]) (a := (an_storedBits S ((xs (i + 1).toNat).toInt) ((xs (i + 2).toNat).toInt))) F G (w_storedBits l D K z0 d0 o1 fs wD go ((xs (i + 1).toNat).toInt) ((xs (i + 2).toNat).toInt) (PRg K N n (an_storedBits S ((xs (i + 1).toNat).toInt) ((xs (i + 2).toNat).toInt))) (PXg K N n (an_storedBits S ((xs (i + 1).toNat).toInt) ((xs (i + 2).toNat).toInt))) (dk_storedBits l hl0 D K z0 N d0 hn hD hS ((xs (i + 1).toNat).toInt) ((xs (i + 2).toNat).toInt) (x32 _) (x32 _))) my_L_storedBits ms_L_238 (by decide) rfl rfl ⟨by omega, by omega⟩ hC (by simp) hl.1 dL_law_2057 (fun cm fs2 wD2 go2 H locs hc0 hcg hS2 hD2 G => ?_)
  refine lv_istore (lv' := (6, .int (iI ((an_storedBits S ((xs (i + 1).toNat).toInt) ((xs (i + 2).toNat).toInt)) cm).1)) :: LV b d0 m0 o1 o2 i) F.1 F.2.1 dL_law_2060 hl (by decide) rfl (fun ls hl => ?_)
  refine lv_aload_n F.1 F.2.1 dL_law_2062 rfl (lv_at hl 4 rfl) ?_
  refine la_x F G B (lv_at hl 6 rfl) (lv_at hl 1 rfl) (k := 1) ⟨by omega, by omega, by omega⟩ dL_law_2063 dL_law_2064 dL_law_2066 dL_law_2067 dL_law_2068 ?_
  refine la_x F G B (lv_at hl 6 rfl) (lv_at hl 1 rfl) (k := 2) ⟨by omega, by omega, by omega⟩ dL_law_2069 dL_law_2070 dL_law_2072 dL_law_2073 dL_law_2074 ?_
  refine la_m (As := [.int (iI ((xs (i + 1).toNat).toInt)), .int (iI ((xs (i + 2).toNat).toInt))]) (mkv := fun z => .int (iI z)) (a := (an_storedBits S ((xs (i + 1).toNat).toInt) ((xs (i + 2).toNat).toInt))) F G (md_storedBits l D K z0 M MH ME MS m0 hM hS ((xs (i + 1).toNat).toInt) ((xs (i + 2).toNat).toInt) (x32 _) (x32 _)) my_X11_storedBits mv_L_240 rfl rfl rfl ⟨by omega, by omega⟩ ⟨by omega, by omega⟩ (Nat.le_of_ble_eq_true rfl) hl.1 dL_law_2075 (fun z fm2 wM2 H locs hq G => ?_)
  refine lv_istore (lv' := (7, .int (iI z)) :: (6, .int (iI ((an_storedBits S ((xs (i + 1).toNat).toInt) ((xs (i + 2).toNat).toInt)) cm).1)) :: LV b d0 m0 o1 o2 i) F.1 F.2.1 dL_law_2078 hl (by decide) rfl (fun ls hl => ?_)
  obtain ⟨hq1, hq2⟩ := hq cm
  refine la_t (tgt := 2108) F G hq2 hc0 ⟨by omega, by omega⟩ ⟨by omega, by omega⟩ hl.1 (lv_at hl 5 rfl) (lv_at hl 1 rfl) dL_law_2080 dL_law_2081 dL_law_2084 dL_law_2086 dL_law_2091 dL_law_2093 (by decide) (fun H locs _ G => ?_) (fun H locs hk G => ?_)
  · skip
    refine lv_goto (tgt := 2225) F.1 F.2.1 dL_law_2108 (by decide) ?_
    exact kk _ _ _ _ _ _ _ _ _ _ _ hD2 hq2 hS2 G (lv_sub hl [2, 3, 4, 5, 6, 7] rfl)
  · have hg := hcg hk
    rw [hq1 hk] at hg
    refine la_i (tgt := 2108) F G hg (lv_at hl 4 rfl) (lv_at hl 0 rfl) dL_law_2096 dL_law_2097 dL_law_2098 dL_law_2099 dL_law_2101 dL_law_2102 dL_law_2103 (by decide) ?_
    refine lv_goto (tgt := 2225) F.1 F.2.1 dL_law_2108 (by decide) ?_
    exact kk _ _ _ _ _ _ _ _ _ _ _ hD2 hq2 hS2 G (lv_sub hl [2, 3, 4, 5, 6, 7] rfl)
theorem my_L_undo : ad_myH yL_undo cL_undo 3 (some .int) hL_undo 2 := ⟨(ad_mt (List.mem_of_getElem? (i := 1188) (by decide +kernel)) (by decide +kernel)), ⟨by decide, by decide, by decide +kernel⟩, (ad_mt (List.mem_of_getElem? (i := 0) (by decide +kernel)) (by decide +kernel))⟩
set_option maxRecDepth 20000 in
theorem lc_undo {p : Program} {l : Launch} {e : Env} {R : Room} {s : State} {m : MethodId} {args : Array Value} {below : List Frame} {meth : Method} {c : Code} {H : Heap} {locs : List Loc} {cells slots : Nat} {Q : State → Prop} {ret : Option FieldType} {D : va_G} {K : Nat → ClassId} {z0 : Nat} {A : Nat → Prop} {ls : Array Slot} {b d0 m0 o1 o2 L n : Nat} {xs : Nat → Int32} {fs fm : List Value} {go : Nat → Int64} {gd : Nat → UInt64} {wD wM : va_W} {N M MH ME MS : Nat → Nat} {S : Sx} {xth i : Int} {nm : String} (hl0 : l.stackTraces = false) (F : ad_F p s m args meth c RL nm cL_law 9 ret D K z0 A) (B : LB s A b L xs) (hn : n < 512) (hD : DkI K N n S fs wD) (hM : MoI K M MH ME MS xth S fm wM) (hS : SxI n S) (hi : 0 ≤ i ∧ i + 4 ≤ L ∧ L ≤ 2048) (hR : 20 ≤ R.frames ∧ 1000 ≤ R.locals) (hC : cells + 4 ≤ R.cells ∧ slots + 1214 ≤ R.slots) (G : ad_G D A s.heap H locs (WL K d0 m0 o1 o2 fs fm go gd wD wM)) (hl : lv_has ls 9 (LV b d0 m0 o1 o2 i)) (kk : LK p l e R s m args below meth c cells slots Q D A K b d0 m0 o1 o2 n N M MH ME MS i) : W p l e R s m args below meth c H locs cells slots Q (F0 m 2111 ls []) := by
  refine lv_aload_n F.1 F.2.1 dL_law_2111 rfl (lv_at hl 4 rfl) ?_
  refine lv_aload_n F.1 F.2.1 dL_law_2112 rfl (lv_at hl 2 rfl) ?_
  refine la_c (As := [.ref d0, .ref o1]) (a := (an_undo S)) F G (w_undo l D K z0 d0 o1 fs wD go  (PRg K N n (an_undo S)) (PXg K N n (an_undo S)) (dk_undo l hl0 D K z0 N d0 hn hD hS  )) my_L_undo ms_L_241 (by decide) rfl rfl ⟨by omega, by omega⟩ hC (by simp) hl.1 dL_law_2113 (fun cm fs2 wD2 go2 H locs hc0 hcg hS2 hD2 G => ?_)
  refine lv_istore (lv' := (6, .int (iI ((an_undo S) cm).1)) :: LV b d0 m0 o1 o2 i) F.1 F.2.1 dL_law_2116 hl (by decide) rfl (fun ls hl => ?_)
  refine lv_aload_n F.1 F.2.1 dL_law_2118 rfl (lv_at hl 4 rfl) ?_
  refine la_m (As := []) (mkv := fun z => .int (iI z)) (a := (an_undo S)) F G (md_undo l D K z0 M MH ME MS m0 hM hS  ) my_X11_undo mv_L_243 rfl rfl rfl ⟨by omega, by omega⟩ ⟨by omega, by omega⟩ (Nat.le_of_ble_eq_true rfl) hl.1 dL_law_2119 (fun z fm2 wM2 H locs hq G => ?_)
  refine lv_istore (lv' := (7, .int (iI z)) :: (6, .int (iI ((an_undo S) cm).1)) :: LV b d0 m0 o1 o2 i) F.1 F.2.1 dL_law_2122 hl (by decide) rfl (fun ls hl => ?_)
  obtain ⟨hq1, hq2⟩ := hq cm
  refine la_t (tgt := 2152) F G hq2 hc0 ⟨by omega, by omega⟩ ⟨by omega, by omega⟩ hl.1 (lv_at hl 5 rfl) (lv_at hl 1 rfl) dL_law_2124 dL_law_2125 dL_law_2128 dL_law_2130 dL_law_2135 dL_law_2137 (by decide) (fun H locs _ G => ?_) (fun H locs hk G => ?_)
  · skip
    refine lv_goto (tgt := 2225) F.1 F.2.1 dL_law_2152 (by decide) ?_
    exact kk _ _ _ _ _ _ _ _ _ _ _ hD2 hq2 hS2 G (lv_sub hl [2, 3, 4, 5, 6, 7] rfl)
  · have hg := hcg hk
    rw [hq1 hk] at hg
    refine la_i (tgt := 2152) F G hg (lv_at hl 4 rfl) (lv_at hl 0 rfl) dL_law_2140 dL_law_2141 dL_law_2142 dL_law_2143 dL_law_2145 dL_law_2146 dL_law_2147 (by decide) ?_
    refine lv_goto (tgt := 2225) F.1 F.2.1 dL_law_2152 (by decide) ?_
    exact kk _ _ _ _ _ _ _ _ _ _ _ hD2 hq2 hS2 G (lv_sub hl [2, 3, 4, 5, 6, 7] rfl)
set_option maxRecDepth 20000 in
theorem lc_isReplayed {p : Program} {l : Launch} {e : Env} {R : Room} {s : State} {m : MethodId} {args : Array Value} {below : List Frame} {meth : Method} {c : Code} {H : Heap} {locs : List Loc} {cells slots : Nat} {Q : State → Prop} {ret : Option FieldType} {D : va_G} {K : Nat → ClassId} {z0 : Nat} {A : Nat → Prop} {ls : Array Slot} {b d0 m0 o1 o2 L n : Nat} {xs : Nat → Int32} {fs fm : List Value} {go : Nat → Int64} {gd : Nat → UInt64} {wD wM : va_W} {N M MH ME MS : Nat → Nat} {S : Sx} {xth i : Int} {nm : String} (hl0 : l.stackTraces = false) (F : ad_F p s m args meth c RL nm cL_law 9 ret D K z0 A) (B : LB s A b L xs) (hn : n < 512) (hD : DkI K N n S fs wD) (hM : MoI K M MH ME MS xth S fm wM) (hS : SxI n S) (hi : 0 ≤ i ∧ i + 4 ≤ L ∧ L ≤ 2048) (hR : 20 ≤ R.frames ∧ 1000 ≤ R.locals) (hC : cells + 4 ≤ R.cells ∧ slots + 1214 ≤ R.slots) (G : ad_G D A s.heap H locs (WL K d0 m0 o1 o2 fs fm go gd wD wM)) (hl : lv_has ls 9 (LV b d0 m0 o1 o2 i)) (kk : LK p l e R s m args below meth c cells slots Q D A K b d0 m0 o1 o2 n N M MH ME MS i) : W p l e R s m args below meth c H locs cells slots Q (F0 m 2155 ls []) := by
  refine lv_aload_n F.1 F.2.1 dL_law_2155 rfl (lv_at hl 4 rfl) ?_
  refine la_f (a := (an_isReplayed S)) F G (dk_isReplayed l hl0 D K z0 N d0 hn hD hS) my_X10_isReplayed mv_L_244 rfl ⟨by omega, by omega⟩ hC (by simp) hl.1 dL_law_2156 (fun cm fs2 wD2 H locs hc0 hS2 hD2 G => ?_)
  refine lv_aload_n F.1 F.2.1 dL_law_2159 rfl (lv_at hl 3 rfl) ?_
  refine la_m (As := []) (mkv := fun z => .int (iI z)) (a := (an_isReplayed S)) F G (md_isReplayed l D K z0 M MH ME MS m0 hM hS) my_X11_isReplayed mv_L_248 rfl rfl rfl ⟨by omega, by omega⟩ ⟨by omega, by omega⟩ (Nat.le_of_ble_eq_true rfl) hl.1 dL_law_2160 (fun z fm2 wM2 H locs hq G => ?_)
  obtain ⟨hq1, hq2⟩ := hq cm
  rw [hq1 hc0]
  refine lv_icmp_eq (tgt := 2225) F.1 F.2.1 dL_law_2163 (by decide) (fun _ => ?_) (fun h => absurd rfl h)
  exact kk _ _ _ _ _ _ _ _ _ _ _ hD2 hq2 hS2 G hl
set_option maxRecDepth 20000 in
theorem lc_snapshot {p : Program} {l : Launch} {e : Env} {R : Room} {s : State} {m : MethodId} {args : Array Value} {below : List Frame} {meth : Method} {c : Code} {H : Heap} {locs : List Loc} {cells slots : Nat} {Q : State → Prop} {ret : Option FieldType} {D : va_G} {K : Nat → ClassId} {z0 : Nat} {A : Nat → Prop} {ls : Array Slot} {b d0 m0 o1 o2 L n : Nat} {xs : Nat → Int32} {fs fm : List Value} {go : Nat → Int64} {gd : Nat → UInt64} {wD wM : va_W} {N M MH ME MS : Nat → Nat} {S : Sx} {xth i : Int} {nm : String} (hl0 : l.stackTraces = false) (F : ad_F p s m args meth c RL nm cL_law 9 ret D K z0 A) (B : LB s A b L xs) (hn : n < 512) (hD : DkI K N n S fs wD) (hM : MoI K M MH ME MS xth S fm wM) (hS : SxI n S) (hi : 0 ≤ i ∧ i + 4 ≤ L ∧ L ≤ 2048) (hR : 20 ≤ R.frames ∧ 1000 ≤ R.locals) (hC : cells + 4 ≤ R.cells ∧ slots + 1214 ≤ R.slots) (G : ad_G D A s.heap H locs (WL K d0 m0 o1 o2 fs fm go gd wD wM)) (hl : lv_has ls 9 (LV b d0 m0 o1 o2 i)) (kk : LK p l e R s m args below meth c cells slots Q D A K b d0 m0 o1 o2 n N M MH ME MS i) : W p l e R s m args below meth c H locs cells slots Q (F0 m 2168 ls []) := by
  refine lv_aload_n F.1 F.2.1 dL_law_2168 rfl (lv_at hl 4 rfl) ?_
  refine la_f (a := (an_snapshot S)) F G (dk_snapshot l hl0 D K z0 N d0 hn hD hS) my_X10_snapshot mv_L_249 rfl ⟨by omega, by omega⟩ hC (by simp) hl.1 dL_law_2169 (fun cm fs2 wD2 H locs hc0 hS2 hD2 G => ?_)
  refine lv_aload_n F.1 F.2.1 dL_law_2172 rfl (lv_at hl 3 rfl) ?_
  refine la_m (As := []) (mkv := fun z => .int (iI z)) (a := (an_snapshot S)) F G (md_snapshot l D K z0 M MH ME MS m0 hM hS) my_X11_snapshot mv_L_252 rfl rfl rfl ⟨by omega, by omega⟩ ⟨by omega, by omega⟩ (Nat.le_of_ble_eq_true rfl) hl.1 dL_law_2173 (fun z fm2 wM2 H locs hq G => ?_)
  obtain ⟨hq1, hq2⟩ := hq cm
  rw [hq1 hc0]
  refine lv_icmp_eq (tgt := 2225) F.1 F.2.1 dL_law_2176 (by decide) (fun _ => ?_) (fun h => absurd rfl h)
  exact kk _ _ _ _ _ _ _ _ _ _ _ hD2 hq2 hS2 G hl
theorem my_L_restore : ad_myH yL_restore cL_restore 3 (some .int) hL_restore 2 := ⟨(ad_mt (List.mem_of_getElem? (i := 1199) (by decide +kernel)) (by decide +kernel)), ⟨by decide, by decide, by decide +kernel⟩, (ad_mt (List.mem_of_getElem? (i := 0) (by decide +kernel)) (by decide +kernel))⟩
set_option maxRecDepth 20000 in
theorem lc_restore {p : Program} {l : Launch} {e : Env} {R : Room} {s : State} {m : MethodId} {args : Array Value} {below : List Frame} {meth : Method} {c : Code} {H : Heap} {locs : List Loc} {cells slots : Nat} {Q : State → Prop} {ret : Option FieldType} {D : va_G} {K : Nat → ClassId} {z0 : Nat} {A : Nat → Prop} {ls : Array Slot} {b d0 m0 o1 o2 L n : Nat} {xs : Nat → Int32} {fs fm : List Value} {go : Nat → Int64} {gd : Nat → UInt64} {wD wM : va_W} {N M MH ME MS : Nat → Nat} {S : Sx} {xth i : Int} {nm : String} (hl0 : l.stackTraces = false) (F : ad_F p s m args meth c RL nm cL_law 9 ret D K z0 A) (B : LB s A b L xs) (hn : n < 512) (hD : DkI K N n S fs wD) (hM : MoI K M MH ME MS xth S fm wM) (hS : SxI n S) (hi : 0 ≤ i ∧ i + 4 ≤ L ∧ L ≤ 2048) (hR : 20 ≤ R.frames ∧ 1000 ≤ R.locals) (hC : cells + 4 ≤ R.cells ∧ slots + 1214 ≤ R.slots) (G : ad_G D A s.heap H locs (WL K d0 m0 o1 o2 fs fm go gd wD wM)) (hl : lv_has ls 9 (LV b d0 m0 o1 o2 i)) (kk : LK p l e R s m args below meth c cells slots Q D A K b d0 m0 o1 o2 n N M MH ME MS i) : W p l e R s m args below meth c H locs cells slots Q (F0 m 2181 ls []) := by
  refine lv_aload_n F.1 F.2.1 dL_law_2181 rfl (lv_at hl 4 rfl) ?_
  refine lv_aload_n F.1 F.2.1 dL_law_2182 rfl (lv_at hl 2 rfl) ?_
  refine la_c (As := [.ref d0, .ref o1]) (a := (an_restore S)) F G (w_restore l D K z0 d0 o1 fs wD go  (PRg K N n (an_restore S)) (PXg K N n (an_restore S)) (dk_restore l hl0 D K z0 N d0 hn hD hS  )) my_L_restore ms_L_253 (by decide) rfl rfl ⟨by omega, by omega⟩ hC (by simp) hl.1 dL_law_2183 (fun cm fs2 wD2 go2 H locs hc0 hcg hS2 hD2 G => ?_)
  refine lv_istore (lv' := (6, .int (iI ((an_restore S) cm).1)) :: LV b d0 m0 o1 o2 i) F.1 F.2.1 dL_law_2186 hl (by decide) rfl (fun ls hl => ?_)
  refine lv_aload_n F.1 F.2.1 dL_law_2188 rfl (lv_at hl 4 rfl) ?_
  refine la_m (As := []) (mkv := fun z => .int (iI z)) (a := (an_restore S)) F G (md_restore l D K z0 M MH ME MS m0 hM hS  ) my_X11_restore mv_L_255 rfl rfl rfl ⟨by omega, by omega⟩ ⟨by omega, by omega⟩ (Nat.le_of_ble_eq_true rfl) hl.1 dL_law_2189 (fun z fm2 wM2 H locs hq G => ?_)
  refine lv_istore (lv' := (7, .int (iI z)) :: (6, .int (iI ((an_restore S) cm).1)) :: LV b d0 m0 o1 o2 i) F.1 F.2.1 dL_law_2192 hl (by decide) rfl (fun ls hl => ?_)
  obtain ⟨hq1, hq2⟩ := hq cm
  refine la_t (tgt := 2222) F G hq2 hc0 ⟨by omega, by omega⟩ ⟨by omega, by omega⟩ hl.1 (lv_at hl 5 rfl) (lv_at hl 1 rfl) dL_law_2194 dL_law_2195 dL_law_2198 dL_law_2200 dL_law_2205 dL_law_2207 (by decide) (fun H locs _ G => ?_) (fun H locs hk G => ?_)
  · skip
    refine lv_goto (tgt := 2225) F.1 F.2.1 dL_law_2222 (by decide) ?_
    exact kk _ _ _ _ _ _ _ _ _ _ _ hD2 hq2 hS2 G (lv_sub hl [2, 3, 4, 5, 6, 7] rfl)
  · have hg := hcg hk
    rw [hq1 hk] at hg
    refine la_i (tgt := 2222) F G hg (lv_at hl 4 rfl) (lv_at hl 0 rfl) dL_law_2210 dL_law_2211 dL_law_2212 dL_law_2213 dL_law_2215 dL_law_2216 dL_law_2217 (by decide) ?_
    refine lv_goto (tgt := 2225) F.1 F.2.1 dL_law_2222 (by decide) ?_
    exact kk _ _ _ _ _ _ _ _ _ _ _ hD2 hq2 hS2 G (lv_sub hl [2, 3, 4, 5, 6, 7] rfl)
