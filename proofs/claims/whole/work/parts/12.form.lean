theorem of_let {w : List Int} {s0 e0 i : Int} (hf : Fw (sl w s0 e0)) (h0 : 0 ≤ s0) (h1 : s0 ≤ i) (h2 : i < e0) (h3 : e0 ≤ w.length) : 97 ≤ lat w i ∧ lat w i ≤ 122 := by
  have hlen : ((sl w s0 e0).length : Int) = e0 - s0 := sl_len (by omega) (by omega) (by omega)
  have := lat_let hf (k := i - s0) (by omega) (by omega)
  rwa [sl_at h0 (by omega) (by omega), show s0 + (i - s0) = i by omega] at this
theorem sl_sub {w : List Int} {s0 e0 i : Int} (h0 : 0 ≤ s0) (h1 : s0 ≤ i) (h2 : i ≤ e0) (h3 : e0 ≤ w.length) {x : Int} (hx : x ∈ sl w i e0) : x ∈ sl w s0 e0 := by
  have e : sl w i e0 = (sl w s0 e0).drop (i - s0).toNat := by
    simp only [sl, List.drop_take, List.drop_drop]
    congr 1
    · omega
    · congr 1; omega
  rw [e] at hx
  exact List.mem_of_mem_drop hx
theorem of_step {w : List Int} {s0 e0 i : Int} (hf : Fw (sl w s0 e0)) (h0 : 0 ≤ s0) (h1 : s0 ≤ i) (h2 : i < e0) (h3 : e0 ≤ w.length) : (Int64.ofNat (encL (sl w (i + 1) e0)) <<< ((iI 5).toInt64 &&& 63)) ||| Int64.ofNat (lat w i - 97).toNat = Int64.ofNat (encL (sl w i e0)) := by
  have hl := of_let hf h0 h1 h2 h3
  have hlen : ((sl w s0 e0).length : Int) = e0 - s0 := sl_len (by omega) (by omega) (by omega)
  have hle : ((sl w (i + 1) e0).length : Int) = e0 - (i + 1) := sl_len (by omega) (by omega) (by omega)
  have h12 := hf.1
  have hb := encL_lt (sl w (i + 1) e0) (fun x hx => hf.2 x (sl_sub h0 (by omega) (by omega) h3 hx))
  have hp : 32 ^ (sl w (i + 1) e0).length ≤ 32 ^ 11 := Nat.pow_le_pow_right (by decide) (by omega)
  rw [sh_or (k := 5) (by decide) (by omega) (by decide) (by omega), sl_cons (by omega) h2 h3]
  congr 1
  simp only [encL]
  omega
theorem of_last {u : List Int} {s0 e0 : Int} (hf : Fw u) (hlen : (u.length : Int) = e0 - s0) (h1 : s0 ≤ e0) : (Int64.ofNat (e0 - s0).toNat <<< ((iI 60).toInt64 &&& 63)) ||| Int64.ofNat (encL u) = enc u := by
  have h12 := hf.1
  have hb := encL_60 hf
  rw [sh_or (k := 60) (by decide) (by omega) (by decide) (by omega), show (e0 - s0).toNat = u.length by omega]
  rfl
def rm_X2_of : Room := { frames := 2, cells := 0, slots := 0, locals := 33 }
set_option maxHeartbeats 4000000 in
set_option maxRecDepth 100000 in
theorem c_X2_of (l : Launch) (D : va_G) (K : Nat → ClassId) (z0 : Nat) (h0 : Nat) (a : Nat) (L : Nat) (g : Nat → Int) (w : List Int) (s0 : Int) (e0 : Int) (hT : Tx g w) (hC : Chs w) (hL : w.length ≤ L ∧ L ≤ 65536) (hs : 0 ≤ s0 ∧ s0 ≤ e0 ∧ e0 ≤ w.length) (hf : Fw (sl w s0 e0)) : CT l D K z0 yX2_of cX2_of 6 (some .long) rm_X2_of [.ref h0, .int (iI s0), .int (iI e0)] [(h0, .inr (7, [.ref a, .int (iI (w.length : Int))])), (a, aI (K 2) L g)] (fun v9 u9 => v9 = some (.long (enc (sl w s0 e0))) ∧ u9 = [(h0, .inr (7, [.ref a, .int (iI (w.length : Int))])), (a, aI (K 2) L g)]) := by
  refine CT.start RX2 "of" (by decide) rfl rfl (Nat.le_of_ble_eq_true rfl) ?_
  intro p9 e9 s9 m9 ag9 bl9 mt9 c9 A9 Q9 ls F G hR hl
  have hl : lv_has ls 6 [(0, .ref h0), (1, .int (iI s0)), (2, .int (iI e0))] := hl
  have hlen : ((sl w s0 e0).length : Int) = e0 - s0 := sl_len (by omega) (by omega) (by omega)
  have h12 := hf.1
  refine lv_lconst (v := 0) F.1 F.2.1 dX2_of_0 (by decide) ?_
  refine lv_lstore_n (lv' := [(3, .long 0), (0, .ref h0), (1, .int (iI s0)), (2, .int (iI e0))]) F.1 F.2.1 dX2_of_1 rfl hl (by decide) rfl (fun ls hl => ?_)
  refine lv_iload_n F.1 F.2.1 dX2_of_2 rfl (lv_at hl 3 rfl) ?_
  refine ad_iconst F dX2_of_3 ?_
  refine ad_isub F dX2_of_4 ?_
  refine lv_istore (lv' := [(5, .int (iI (e0 - 1))), (3, .long 0), (0, .ref h0), (1, .int (iI s0)), (2, .int (iI e0))]) F.1 F.2.1 dX2_of_5 hl (by decide) rfl (fun ls hl => ?_)
  have lp7 : ∀ (n7 : Nat) (i : Int) (x : Int64) (H : Heap) (locs : List Loc) (ls : Array Slot), (s0 - 1 ≤ i ∧ i < e0) → (x = Int64.ofNat (encL (sl w (i + 1) e0))) → (i - s0 + 2) < (n7 : Int) → ad_G D A9 s9.heap H locs [(h0, .inr (7, [.ref a, .int (iI (w.length : Int))])), (a, aI (K 2) L g)] → lv_has ls 6 [(0, .ref h0), (1, .int (iI s0)), (2, .int (iI e0)), (3, .long x), (5, .int (iI i))] → W p9 l e9 rm_X2_of s9 m9 ag9 bl9 mt9 c9 H locs 0 0 Q9 (F0 m9 7 ls []) := by
    intro n7
    induction n7 with
    | zero =>
      intro i x H locs ls hi hx hm7
      exact absurd hm7 (by omega)
    | succ n7 ih7 =>
      intro i x H locs ls hi hx hm7 G hl
      refine lv_iload F.1 F.2.1 dX2_of_7 (lv_at hl 4 rfl) ?_
      refine lv_iload_n F.1 F.2.1 dX2_of_9 rfl (lv_at hl 1 rfl) ?_
      refine ad_icmp_lt (tgt := 34) F (by omega) dX2_of_10 (by decide) (fun cc_1 => ?_) (fun cc_1 => ?_)
      · refine lv_iload_n F.1 F.2.1 dX2_of_34 rfl (lv_at hl 2 rfl) ?_
        refine lv_iload_n F.1 F.2.1 dX2_of_35 rfl (lv_at hl 1 rfl) ?_
        refine ad_isub F dX2_of_36 ?_
        refine lv_i2l (v := Int64.ofNat (e0 - s0).toNat) F.1 F.2.1 dX2_of_37 (i2l_n (by omega)) ?_
        refine ad_bipush F dX2_of_38 (by decide) ?_
        refine lv_lshl F.1 F.2.1 dX2_of_40 rfl ?_
        refine lv_lload_n F.1 F.2.1 dX2_of_41 rfl (lv_at hl 3 rfl) ?_
        refine lv_lor F.1 F.2.1 dX2_of_42 ?_
        refine ad_topl (y := enc (sl w s0 e0)) (by rw [hx, show i + 1 = s0 by omega]; exact of_last hf hlen (by omega)) ?_
        exact ad_lreturn F G hR rfl (Nat.le_of_ble_eq_true rfl) (Nat.le_of_ble_eq_true rfl) ⟨rfl, rfl⟩ dX2_of_43
      · refine lv_lload_n F.1 F.2.1 dX2_of_13 rfl (lv_at hl 3 rfl) ?_
        refine ad_iconst F dX2_of_14 ?_
        refine lv_lshl F.1 F.2.1 dX2_of_15 rfl ?_
        refine lv_aload_n F.1 F.2.1 dX2_of_16 rfl (lv_at hl 0 rfl) ?_
        refine lv_iload F.1 F.2.1 dX2_of_17 (lv_at hl 4 rfl) ?_
        refine ad_callV (As := [.int (iI i)]) (rest := [.long (x <<< ((iI 5).toInt64 &&& 63))]) F G (c_X7_at l D K z0 h0 a L g w i hT hC hL (by omega)) my_X7_at mv_X2_9 (wr := []) (isC := [0, 1]) (isR := []) ⟨rfl, rfl, rfl, rfl, by decide⟩ 7 0 rfl rfl rfl rfl ⟨Nat.le_of_ble_eq_true rfl, Nat.le_of_ble_eq_true rfl⟩ ⟨Nat.le_of_ble_eq_true rfl, Nat.le_of_ble_eq_true rfl⟩ (Nat.le_of_ble_eq_true rfl) hl.1 (cells9 := 0) (slots9 := 0) ⟨rfl, rfl⟩ dX2_of_19 (fun v u H locs hw_2 G => ?_)
        obtain ⟨rfl, rfl⟩ := hw_2
        replace G := G.perm (ws' := [(h0, .inr (7, [.ref a, .int (iI (w.length : Int))])), (a, aI (K 2) L g)]) [0, 1] rfl rfl
        refine W.eq (g2 := F0 m9 22 ls [.int (iI (lat w i)), .long (x <<< ((iI 5).toInt64 &&& 63))]) rfl ?_
        refine ad_bipush F dX2_of_22 (by decide) ?_
        refine ad_isub F dX2_of_24 ?_
        refine ad_topi (y := (lat w i - 97)) rfl ?_
        refine lv_i2l (v := Int64.ofNat (lat w i - 97).toNat) F.1 F.2.1 dX2_of_25 (i2l_n (by have := of_let (i := i) hf (by omega) (by omega) (by omega) (by omega); omega)) ?_
        refine lv_lor F.1 F.2.1 dX2_of_26 ?_
        refine ad_topl (y := Int64.ofNat (encL (sl w i e0))) (by rw [hx]; exact of_step hf (by omega) (by omega) (by omega) (by omega)) ?_
        refine lv_lstore_n (lv' := [(3, .long (Int64.ofNat (encL (sl w i e0)))), (0, .ref h0), (1, .int (iI s0)), (2, .int (iI e0)), (5, .int (iI i))]) F.1 F.2.1 dX2_of_27 rfl hl (by decide) rfl (fun ls hl => ?_)
        refine ad_iinc (lv' := [(5, .int (iI (i + (-1)))), (3, .long (Int64.ofNat (encL (sl w i e0)))), (0, .ref h0), (1, .int (iI s0)), (2, .int (iI e0))]) F dX2_of_28 hl (k := 4) rfl (by decide) rfl (fun ls hl => ?_)
        refine lv_goto (tgt := 7) F.1 F.2.1 dX2_of_31 (by decide) ?_
        exact ih7 (i + (-1)) (Int64.ofNat (encL (sl w i e0))) _ _ _ (by omega) (by rw [show i + (-1) + 1 = i by omega]) (by omega) (G.perm (ws' := [(h0, .inr (7, [.ref a, .int (iI (w.length : Int))])), (a, aI (K 2) L g)]) [0, 1] rfl rfl) (lv_sub hl [2, 3, 4, 1, 0] rfl)
  exact lp7 (((((e0 - 1) - s0 + 2 : Int)) + 1).toNat) (e0 - 1) 0 _ _ _ (by omega) (by rw [show e0 - 1 + 1 = e0 by omega, sl_self]; rfl) (by omega) (G.perm (ws' := [(h0, .inr (7, [.ref a, .int (iI (w.length : Int))])), (a, aI (K 2) L g)]) [0, 1] rfl rfl) (lv_sub hl [2, 3, 4, 1, 0] rfl)

def rm_X2_timesOf : Room := { frames := 2, cells := 0, slots := 0, locals := 34 }
set_option maxHeartbeats 4000000 in
set_option maxRecDepth 100000 in
theorem c_X2_timesOf (l : Launch) (D : va_G) (K : Nat → ClassId) (z0 : Nat) (w : List Int) (x : Int) (hw : Fw w) (hx : 0 ≤ x ∧ x < 65536) : CT l D K z0 yX2_timesOf cX2_timesOf 6 (some .int) rm_X2_timesOf [.long (enc w), .int (iI x)] [] (fun v9 u9 => v9 = some (.int (iI (cntb (fun o => decide (lat w o = x)) w.length))) ∧ u9 = []) := by
  refine CT.start RX2 "timesOf" (by decide) rfl rfl (Nat.le_of_ble_eq_true rfl) ?_
  intro p9 e9 s9 m9 ag9 bl9 mt9 c9 A9 Q9 ls F G hR hl
  have hl : lv_has ls 6 [(0, .long (enc w)), (2, .int (iI x))] := hl
  have h12 := hw.1
  refine ad_iconst F dX2_timesOf_0 ?_
  refine lv_istore_n (lv' := [(3, .int (iI 0)), (0, .long (enc w)), (2, .int (iI x))]) F.1 F.2.1 dX2_timesOf_1 rfl hl (by decide) rfl (fun ls hl => ?_)
  refine lv_lload_n F.1 F.2.1 dX2_timesOf_2 rfl (lv_at hl 1 rfl) ?_
  refine ad_callS (As := [.long (enc w)]) (rest := []) F G (c_X2_lengthOf l D K z0 w hw) my_X2_lengthOf ms_X2_17 (wr := []) (isC := []) (isR := []) ⟨rfl, rfl, rfl, rfl, by decide⟩ rfl rfl ⟨Nat.le_of_ble_eq_true rfl, Nat.le_of_ble_eq_true rfl⟩ ⟨Nat.le_of_ble_eq_true rfl, Nat.le_of_ble_eq_true rfl⟩ (Nat.le_of_ble_eq_true rfl) hl.1 (cells9 := 0) (slots9 := 0) ⟨rfl, rfl⟩ dX2_timesOf_3 (fun v u H locs hw_1 G => ?_)
  obtain ⟨rfl, rfl⟩ := hw_1
  replace G := G.perm (ws' := []) [] rfl rfl
  refine W.eq (g2 := F0 m9 6 ls [.int (iI (w.length : Int))]) rfl ?_
  refine lv_istore (lv' := [(4, .int (iI (w.length : Int))), (3, .int (iI 0)), (0, .long (enc w)), (2, .int (iI x))]) F.1 F.2.1 dX2_timesOf_6 hl (by decide) rfl (fun ls hl => ?_)
  refine ad_iconst F dX2_timesOf_8 ?_
  refine lv_istore (lv' := [(5, .int (iI 0)), (4, .int (iI (w.length : Int))), (3, .int (iI 0)), (0, .long (enc w)), (2, .int (iI x))]) F.1 F.2.1 dX2_timesOf_9 hl (by decide) rfl (fun ls hl => ?_)
  have lp11 : ∀ (n11 : Nat) (i : Int) (k : Int) (H : Heap) (locs : List Loc) (ls : Array Slot), (0 ≤ i ∧ i ≤ w.length) → (k = cntb (fun o => decide (lat w o = x)) i.toNat) → (w.length - i) < (n11 : Int) → ad_G D A9 s9.heap H locs [] → lv_has ls 6 [(0, .long (enc w)), (2, .int (iI x)), (3, .int (iI k)), (4, .int (iI (w.length : Int))), (5, .int (iI i))] → W p9 l e9 rm_X2_timesOf s9 m9 ag9 bl9 mt9 c9 H locs 0 0 Q9 (F0 m9 11 ls []) := by
    intro n11
    induction n11 with
    | zero =>
      intro i k H locs ls hi hk hm11
      exact absurd hm11 (by omega)
    | succ n11 ih11 =>
      intro i k H locs ls hi hk hm11 G hl
      refine lv_iload F.1 F.2.1 dX2_timesOf_11 (lv_at hl 4 rfl) ?_
      refine lv_iload F.1 F.2.1 dX2_timesOf_13 (lv_at hl 3 rfl) ?_
      refine ad_icmp_ge (tgt := 37) F (by omega) dX2_timesOf_15 (by decide) (fun cc_2 => ?_) (fun cc_2 => ?_)
      · refine lv_iload_n F.1 F.2.1 dX2_timesOf_37 rfl (lv_at hl 2 rfl) ?_
        exact ad_ireturn F G hR rfl (Nat.le_of_ble_eq_true rfl) (Nat.le_of_ble_eq_true rfl) ⟨(ad_eqi (by rw [hk]; congr 1; omega)), rfl⟩ dX2_timesOf_38
      · refine lv_lload_n F.1 F.2.1 dX2_timesOf_18 rfl (lv_at hl 0 rfl) ?_
        refine lv_iload F.1 F.2.1 dX2_timesOf_19 (lv_at hl 4 rfl) ?_
        refine ad_callS (As := [.long (enc w), .int (iI i)]) (rest := []) F G (c_X2_letterAt l D K z0 w i hw (by omega)) my_X2_letterAt ms_X2_21 (wr := []) (isC := []) (isR := []) ⟨rfl, rfl, rfl, rfl, by decide⟩ rfl rfl ⟨Nat.le_of_ble_eq_true rfl, Nat.le_of_ble_eq_true rfl⟩ ⟨Nat.le_of_ble_eq_true rfl, Nat.le_of_ble_eq_true rfl⟩ (Nat.le_of_ble_eq_true rfl) hl.1 (cells9 := 0) (slots9 := 0) ⟨rfl, rfl⟩ dX2_timesOf_21 (fun v u H locs hw_3 G => ?_)
        obtain ⟨rfl, rfl⟩ := hw_3
        replace G := G.perm (ws' := []) [] rfl rfl
        refine W.eq (g2 := F0 m9 24 ls [.int (iI (lat w i))]) rfl ?_
        refine lv_iload_n F.1 F.2.1 dX2_timesOf_24 rfl (lv_at hl 1 rfl) ?_
        refine ad_icmp_ne (tgt := 31) F (by have := lat_let hw (k := i) (by omega) (by omega); omega) dX2_timesOf_25 (by decide) (fun cc_4 => ?_) (fun cc_4 => ?_)
        · refine ad_iinc (lv' := [(5, .int (iI (i + 1))), (0, .long (enc w)), (2, .int (iI x)), (3, .int (iI k)), (4, .int (iI (w.length : Int)))]) F dX2_timesOf_31 hl (k := 4) rfl (by decide) rfl (fun ls hl => ?_)
          refine lv_goto (tgt := 11) F.1 F.2.1 dX2_timesOf_34 (by decide) ?_
          exact ih11 (i + 1) k _ _ _ (by omega) (by rw [cntb_s (by omega), ← hk]; simp [cc_4]) (by omega) (G.perm (ws' := []) [] rfl rfl) (lv_sub hl [1, 2, 3, 4, 0] rfl)
        · refine ad_iinc (lv' := [(3, .int (iI (k + 1))), (0, .long (enc w)), (2, .int (iI x)), (4, .int (iI (w.length : Int))), (5, .int (iI i))]) F dX2_timesOf_28 hl (k := 2) rfl (by decide) rfl (fun ls hl => ?_)
          refine ad_iinc (lv' := [(5, .int (iI (i + 1))), (3, .int (iI (k + 1))), (0, .long (enc w)), (2, .int (iI x)), (4, .int (iI (w.length : Int)))]) F dX2_timesOf_31 hl (k := 4) rfl (by decide) rfl (fun ls hl => ?_)
          refine lv_goto (tgt := 11) F.1 F.2.1 dX2_timesOf_34 (by decide) ?_
          exact ih11 (i + 1) (k + 1) _ _ _ (by omega) (by rw [cntb_s (by omega), ← hk]; simp [cc_4]) (by omega) (G.perm (ws' := []) [] rfl rfl) (lv_sub hl [2, 3, 1, 4, 0] rfl)
  exact lp11 ((((w.length - 0 : Int)) + 1).toNat) 0 0 _ _ _ (by omega) rfl (by omega) (G.perm (ws' := []) [] rfl rfl) (lv_sub hl [3, 4, 2, 1, 0] rfl)
