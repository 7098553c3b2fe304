def rm_X5_init : Room := { frames := 1, cells := 2, slots := 100, locals := 20 }
set_option maxHeartbeats 4000000 in
set_option maxRecDepth 100000 in
theorem c_X5_init (l : Launch) (D : va_G) (K : Nat → ClassId) (z0 : Nat) (h0 : Nat) : CT l D K z0 yX5_init cX5_init 1 none rm_X5_init [.ref h0] [(h0, .inr (5, [.null, .null, .int (iI 0), .int (iI 0), .int (iI 0)]))] (fun v9 u9 => ∃ (wa1 : Nat), ∃ (sa1 : Nat), v9 = none ∧ u9 = [(h0, .inr (5, [.ref wa1, .ref sa1, .int (iI 0), .int (iI 0), .int (iI 0)])), (wa1, aI (K 0) 50 (fun _ => 0)), (sa1, aF (K 3) 50 (fun _ => 0))]) := by
  refine CT.start RX5 "<init>" (by decide) rfl rfl (Nat.le_of_ble_eq_true rfl) ?_
  intro p9 e9 s9 m9 ag9 bl9 mt9 c9 A9 Q9 ls F G hR hl
  have hl : lv_has ls 1 [(0, .ref h0)] := hl
  refine lv_aload_n F.1 F.2.1 dX5_init_0 rfl (lv_at hl 0 rfl) ?_
  refine ad_obji F oi_X5_3 hl.1 (Nat.le_of_ble_eq_true rfl) (Nat.le_of_ble_eq_true rfl) dX5_init_1 ?_
  refine lv_aload_n F.1 F.2.1 dX5_init_4 rfl (lv_at hl 0 rfl) ?_
  refine ad_bipush F dX5_init_5 (by decide) ?_
  refine ad_newa F G (ty := .int) rfl ac_int (t0 := 0) (cA := K 0) rfl (fun _ h => by cases h) (n := 50) (a0 := aI0 50 (fun _ => 0)) (fun _ => rfl) (by omega) (by decide) (Nat.le_of_ble_eq_true rfl) (Nat.le_of_ble_eq_true rfl) dX5_init_7 (fun q_1 H G => ?_)
  replace G := G.eq (ws' := [(h0, .inr (5, [.null, .null, .int (iI 0), .int (iI 0), .int (iI 0)])), (q_1, aI (K 0) 50 (fun _ => 0))]) rfl
  refine ad_wid (k := 1) (n := 50) rfl rfl ?_
  refine ad_putF F G fl_X5_9 rfl 0 rfl rfl rfl (Nat.le_of_ble_eq_true rfl) (ws' := [(h0, .inr (5, [.ref q_1, .null, .int (iI 0), .int (iI 0), .int (iI 0)])), (q_1, aI (K 0) 50 (fun _ => 0))]) rfl dX5_init_9 (fun H locs G => ?_)
  refine lv_aload_n F.1 F.2.1 dX5_init_12 rfl (lv_at hl 0 rfl) ?_
  refine ad_bipush F dX5_init_13 (by decide) ?_
  refine ad_newa F G (ty := .float) rfl ac_float (t0 := 3) (cA := K 3) rfl (fun _ h => by cases h) (n := 50) (a0 := aF0 50 (fun _ => 0)) (fun _ => rfl) (by omega) (by decide) (Nat.le_of_ble_eq_true rfl) (Nat.le_of_ble_eq_true rfl) dX5_init_15 (fun q_2 H G => ?_)
  replace G := G.eq (ws' := [(h0, .inr (5, [.ref q_1, .null, .int (iI 0), .int (iI 0), .int (iI 0)])), (q_1, aI (K 0) 50 (fun _ => 0)), (q_2, aF (K 3) 50 (fun _ => 0))]) rfl
  refine ad_wid (k := 2) (n := 100) rfl rfl ?_
  refine ad_putF F G fl_X5_15 rfl 0 rfl rfl rfl (Nat.le_of_ble_eq_true rfl) (ws' := [(h0, .inr (5, [.ref q_1, .ref q_2, .int (iI 0), .int (iI 0), .int (iI 0)])), (q_1, aI (K 0) 50 (fun _ => 0)), (q_2, aF (K 3) 50 (fun _ => 0))]) rfl dX5_init_17 (fun H locs G => ?_)
  exact ad_vreturn F G hR rfl (Nat.le_of_ble_eq_true rfl) (Nat.le_of_ble_eq_true rfl) ⟨q_1, q_2, rfl, rfl⟩ dX5_init_20

def rm_X5_store : Room := { frames := 1, cells := 0, slots := 0, locals := 12 }
set_option maxHeartbeats 4000000 in
set_option maxRecDepth 100000 in
theorem c_X5_store (l : Launch) (D : va_G) (K : Nat → ClassId) (z0 : Nat) (h0 : Nat) (wa : Nat) (sa : Nat) (sz : Int) (ex : Int) (sd : Int) (gw : Nat → Int) (gs : Nat → UInt32) (h1 : Nat) (oq : Nat) (r1 : Nat) (r2 : Nat) (r3 : Nat) (r4 : Nat) (r5 : Nat) (r6 : Nat) (gd : Nat → Int) (gm : Nat → Int) (ge : Nat → Int) (gv : Nat → Int) (gn : Nat → Int) (gt : Nat → Int) (qs : List Wq) (gz : Int) (us : Int) (pr : Int) (mc : Int) (ia : Int) (it : Int) (e : Int) (hQ : QRep gd gm ge gv gn gt qs) (hq : QOk qs) (he : e = 0 ∨ e = 1) : CT l D K z0 yX5_store cX5_store 5 none rm_X5_store [.ref h0, .ref h1, .int (iI e)] [(h0, .inr (5, [.ref wa, .ref sa, .int (iI sz), .int (iI ex), .int (iI sd)])), (wa, aI (K 0) 50 gw), (sa, aF (K 3) 50 gs), (h1, .inr (4, [.ref oq, .ref r1, .ref r2, .ref r3, .ref r4, .ref r5, .ref r6, .int (iI (qs.length : Int)), .int (iI gz), .int (iI us), .int (iI pr), .int (iI mc), .int (iI ia), .int (iI it)])), (r1, aI (K 0) 50 gd), (r2, aI (K 0) 50 gm), (r3, aI (K 0) 50 ge), (r4, aI (K 0) 50 gv), (r5, aI (K 0) 50 gn), (r6, aI (K 0) 50 gt)] (fun v9 u9 => ∃ (gw2 : Nat → Int), ∃ (gs2 : Nat → UInt32), v9 = none ∧ (RRep e gw2 gs2 (rowV qs)) ∧ u9 = [(h0, .inr (5, [.ref wa, .ref sa, .int (iI (qs.length : Int)), .int (iI e), .int (iI 1)])), (wa, aI (K 0) 50 gw2), (sa, aF (K 3) 50 gs2), (h1, .inr (4, [.ref oq, .ref r1, .ref r2, .ref r3, .ref r4, .ref r5, .ref r6, .int (iI (qs.length : Int)), .int (iI gz), .int (iI us), .int (iI pr), .int (iI mc), .int (iI ia), .int (iI it)])), (r1, aI (K 0) 50 gd), (r2, aI (K 0) 50 gm), (r3, aI (K 0) 50 ge), (r4, aI (K 0) 50 gv), (r5, aI (K 0) 50 gn), (r6, aI (K 0) 50 gt)]) := by
  refine CT.start RX5 "store" (by decide) rfl rfl (Nat.le_of_ble_eq_true rfl) ?_
  intro p9 e9 s9 m9 ag9 bl9 mt9 c9 A9 Q9 ls F G hR hl
  have hl : lv_has ls 5 [(0, .ref h0), (1, .ref h1), (2, .int (iI e))] := hl
  have hq5 := hq.1
  refine lv_aload_n F.1 F.2.1 dX5_store_0 rfl (lv_at hl 0 rfl) ?_
  refine lv_aload_n F.1 F.2.1 dX5_store_1 rfl (lv_at hl 1 rfl) ?_
  refine ad_get F G fl_X5_19 3 rfl rfl dX5_store_2 ?_
  refine ad_put F G fl_X5_25 0 rfl rfl rfl (Nat.le_of_ble_eq_true rfl) (ws' := [(h0, .inr (5, [.ref wa, .ref sa, .int (iI (qs.length : Int)), .int (iI ex), .int (iI sd)])), (wa, aI (K 0) 50 gw), (sa, aF (K 3) 50 gs), (h1, .inr (4, [.ref oq, .ref r1, .ref r2, .ref r3, .ref r4, .ref r5, .ref r6, .int (iI (qs.length : Int)), .int (iI gz), .int (iI us), .int (iI pr), .int (iI mc), .int (iI ia), .int (iI it)])), (r1, aI (K 0) 50 gd), (r2, aI (K 0) 50 gm), (r3, aI (K 0) 50 ge), (r4, aI (K 0) 50 gv), (r5, aI (K 0) 50 gn), (r6, aI (K 0) 50 gt)]) rfl dX5_store_5 (fun H locs G => ?_)
  refine lv_aload_n F.1 F.2.1 dX5_store_8 rfl (lv_at hl 0 rfl) ?_
  refine lv_iload_n F.1 F.2.1 dX5_store_9 rfl (lv_at hl 2 rfl) ?_
  refine ad_put F G fl_X5_28 0 rfl (iI_boolN (by omega)).1 (iI_boolN (by omega)).2 (Nat.le_of_ble_eq_true rfl) (ws' := [(h0, .inr (5, [.ref wa, .ref sa, .int (iI (qs.length : Int)), .int (iI e), .int (iI sd)])), (wa, aI (K 0) 50 gw), (sa, aF (K 3) 50 gs), (h1, .inr (4, [.ref oq, .ref r1, .ref r2, .ref r3, .ref r4, .ref r5, .ref r6, .int (iI (qs.length : Int)), .int (iI gz), .int (iI us), .int (iI pr), .int (iI mc), .int (iI ia), .int (iI it)])), (r1, aI (K 0) 50 gd), (r2, aI (K 0) 50 gm), (r3, aI (K 0) 50 ge), (r4, aI (K 0) 50 gv), (r5, aI (K 0) 50 gn), (r6, aI (K 0) 50 gt)]) rfl dX5_store_10 (fun H locs G => ?_)
  refine lv_aload_n F.1 F.2.1 dX5_store_13 rfl (lv_at hl 0 rfl) ?_
  refine ad_iconst F dX5_store_14 ?_
  refine ad_put F G fl_X5_32 0 rfl rfl rfl (Nat.le_of_ble_eq_true rfl) (ws' := [(h0, .inr (5, [.ref wa, .ref sa, .int (iI (qs.length : Int)), .int (iI e), .int (iI 1)])), (wa, aI (K 0) 50 gw), (sa, aF (K 3) 50 gs), (h1, .inr (4, [.ref oq, .ref r1, .ref r2, .ref r3, .ref r4, .ref r5, .ref r6, .int (iI (qs.length : Int)), .int (iI gz), .int (iI us), .int (iI pr), .int (iI mc), .int (iI ia), .int (iI it)])), (r1, aI (K 0) 50 gd), (r2, aI (K 0) 50 gm), (r3, aI (K 0) 50 ge), (r4, aI (K 0) 50 gv), (r5, aI (K 0) 50 gn), (r6, aI (K 0) 50 gt)]) rfl dX5_store_15 (fun H locs G => ?_)
  refine ad_iconst F dX5_store_18 ?_
  refine lv_istore_n (lv' := [(3, .int (iI 0)), (0, .ref h0), (1, .ref h1), (2, .int (iI e))]) F.1 F.2.1 dX5_store_19 rfl hl (by decide) rfl (fun ls hl => ?_)
  have lp20 : ∀ (n20 : Nat) (i : Int) (gw1 : Nat → Int) (gs1 : Nat → UInt32) (H : Heap) (locs : List Loc) (ls : Array Slot), (0 ≤ i ∧ i ≤ qs.length) → (∀ z : Int, 0 ≤ z → z < i → (e ≠ 0 → gw1 z.toNat = (vget (rowV qs) z).1) ∧ (e = 0 → gs1 z.toNat = (vget (rowV qs) z).2)) → (qs.length - i) < (n20 : Int) → ad_G D A9 s9.heap H locs [(h0, .inr (5, [.ref wa, .ref sa, .int (iI (qs.length : Int)), .int (iI e), .int (iI 1)])), (wa, aI (K 0) 50 gw1), (sa, aF (K 3) 50 gs1), (h1, .inr (4, [.ref oq, .ref r1, .ref r2, .ref r3, .ref r4, .ref r5, .ref r6, .int (iI (qs.length : Int)), .int (iI gz), .int (iI us), .int (iI pr), .int (iI mc), .int (iI ia), .int (iI it)])), (r1, aI (K 0) 50 gd), (r2, aI (K 0) 50 gm), (r3, aI (K 0) 50 ge), (r4, aI (K 0) 50 gv), (r5, aI (K 0) 50 gn), (r6, aI (K 0) 50 gt)] → lv_has ls 5 [(0, .ref h0), (1, .ref h1), (2, .int (iI e)), (3, .int (iI i))] → W p9 l e9 rm_X5_store s9 m9 ag9 bl9 mt9 c9 H locs 0 0 Q9 (F0 m9 20 ls []) := by
    intro n20
    induction n20 with
    | zero =>
      intro i gw1 gs1 H locs ls hi hv hm20
      exact absurd hm20 (by omega)
    | succ n20 ih20 =>
      intro i gw1 gs1 H locs ls hi hv hm20 G hl
      have hqi : i < qs.length → (1 ≤ (qget qs i).2.2.2.1 ∧ (qget qs i).2.2.2.1 ≤ 24) ∧ (1 ≤ (qget qs i).2.2.2.2.1 ∧ (qget qs i).2.2.2.2.1 ≤ 46) := fun h => hq.2 i hi.1 h
      refine lv_iload_n F.1 F.2.1 dX5_store_20 rfl (lv_at hl 3 rfl) ?_
      refine lv_aload_n F.1 F.2.1 dX5_store_21 rfl (lv_at hl 0 rfl) ?_
      refine ad_get F G fl_X5_25 0 rfl rfl dX5_store_22 ?_
      refine ad_icmp_ge (tgt := 89) F (by omega) dX5_store_25 (by decide) (fun cc_1 => ?_) (fun cc_1 => ?_)
      · exact ad_vreturn F G hR rfl (Nat.le_of_ble_eq_true rfl) (Nat.le_of_ble_eq_true rfl) ⟨gw1, gs1, rfl, (fun z h1 h2 => hv z h1 (by rw [rowV_len] at h2; omega)), rfl⟩ dX5_store_89
      · refine lv_iload_n F.1 F.2.1 dX5_store_28 rfl (lv_at hl 2 rfl) ?_
        refine ad_if_eq (tgt := 47) F (by omega) dX5_store_29 (by decide) (fun cc_2 => ?_) (fun cc_2 => ?_)
        · refine lv_aload_n F.1 F.2.1 dX5_store_47 rfl (lv_at hl 1 rfl) ?_
          refine ad_get F G fl_X5_38 3 rfl rfl dX5_store_48 ?_
          refine lv_iload_n F.1 F.2.1 dX5_store_51 rfl (lv_at hl 3 rfl) ?_
          refine ad_iald F G 7 rfl (w := (qget qs i).2.2.2.1) (by omega) (QRep_at hQ hi.1 (by omega)).2.2.2.1 dX5_store_52 ?_
          refine lv_i2f F.1 F.2.1 dX5_store_53 ?_
          refine lv_fstore (lv' := [(4, .float (FP.i2f (iI ((qget qs i).2.2.2.1)))), (0, .ref h0), (1, .ref h1), (2, .int (iI e)), (3, .int (iI i))]) F.1 F.2.1 dX5_store_54 hl (by decide) rfl (fun ls hl => ?_)
          refine lv_aload_n F.1 F.2.1 dX5_store_56 rfl (lv_at hl 1 rfl) ?_
          refine ad_get F G fl_X5_15 0 rfl rfl dX5_store_57 ?_
          refine lv_iload_n F.1 F.2.1 dX5_store_60 rfl (lv_at hl 4 rfl) ?_
          refine lv_fload F.1 F.2.1 dX5_store_61 (lv_at hl 0 rfl) ?_
          refine lv_fconst0 F.1 F.2.1 dX5_store_63 ?_
          refine lv_fcmp F.1 F.2.1 dX5_store_64 ?_
          refine ad_top32 (y := 1) (cmp_pos (hqi (by omega)).1) ?_
          refine ad_if_le (tgt := 81) F (by decide) dX5_store_65 (by decide) (fun cc_3 => absurd cc_3 (by decide)) (fun _ => ?_)
          refine lv_aload_n F.1 F.2.1 dX5_store_68 rfl (lv_at hl 2 rfl) ?_
          refine ad_get F G fl_X5_35 3 rfl rfl dX5_store_69 ?_
          refine lv_iload_n F.1 F.2.1 dX5_store_72 rfl (lv_at hl 4 rfl) ?_
          refine ad_iald F G 8 rfl (w := (qget qs i).2.2.2.2.1) (by omega) (QRep_at hQ hi.1 (by omega)).2.2.2.2.1 dX5_store_73 ?_
          refine lv_i2f F.1 F.2.1 dX5_store_74 ?_
          refine lv_fload F.1 F.2.1 dX5_store_75 (lv_at hl 0 rfl) ?_
          refine lv_fdiv F.1 F.2.1 dX5_store_77 (shr_n (by have := hqi (by omega); omega) (hqi (by omega)).1) ?_
          refine lv_goto (tgt := 82) F.1 F.2.1 dX5_store_78 (by decide) ?_
          refine ad_fast F G 2 rfl (by omega) (ws' := [(h0, .inr (5, [.ref wa, .ref sa, .int (iI (qs.length : Int)), .int (iI e), .int (iI 1)])), (wa, aI (K 0) 50 gw1), (sa, aF (K 3) 50 (va_up gs1 i.toNat (FP.fdiv (FP.i2f (iI ((qget qs i).2.2.2.2.1))) (FP.i2f (iI ((qget qs i).2.2.2.1)))))), (h1, .inr (4, [.ref oq, .ref r1, .ref r2, .ref r3, .ref r4, .ref r5, .ref r6, .int (iI (qs.length : Int)), .int (iI gz), .int (iI us), .int (iI pr), .int (iI mc), .int (iI ia), .int (iI it)])), (r1, aI (K 0) 50 gd), (r2, aI (K 0) 50 gm), (r3, aI (K 0) 50 ge), (r4, aI (K 0) 50 gv), (r5, aI (K 0) 50 gn), (r6, aI (K 0) 50 gt)]) rfl dX5_store_82 (fun H locs G => ?_)
          refine ad_iinc (lv' := [(3, .int (iI (i + 1))), (4, .float (FP.i2f (iI ((qget qs i).2.2.2.1)))), (0, .ref h0), (1, .ref h1), (2, .int (iI e))]) F dX5_store_83 hl (k := 4) rfl (by decide) rfl (fun ls hl => ?_)
          refine lv_goto (tgt := 20) F.1 F.2.1 dX5_store_86 (by decide) ?_
          exact ih20 (i + 1) gw1 (va_up gs1 i.toNat (FP.fdiv (FP.i2f (iI ((qget qs i).2.2.2.2.1))) (FP.i2f (iI ((qget qs i).2.2.2.1))))) _ _ _ (by omega) (fun z h1 h2 => (show z = i ∨ z < i by omega).elim (fun h => by rw [h, rowV_get hi.1 (by omega)]; exact ⟨fun h0 => absurd (show e = 0 by omega) h0, fun _ => va_upI_s _ _ _⟩) (fun h => by rw [va_upI_o h1 hi.1 (by omega)]; exact hv z h1 h)) (by omega) (G.perm (ws' := [(h0, .inr (5, [.ref wa, .ref sa, .int (iI (qs.length : Int)), .int (iI e), .int (iI 1)])), (wa, aI (K 0) 50 gw1), (sa, aF (K 3) 50 (va_up gs1 i.toNat (FP.fdiv (FP.i2f (iI ((qget qs i).2.2.2.2.1))) (FP.i2f (iI ((qget qs i).2.2.2.1)))))), (h1, .inr (4, [.ref oq, .ref r1, .ref r2, .ref r3, .ref r4, .ref r5, .ref r6, .int (iI (qs.length : Int)), .int (iI gz), .int (iI us), .int (iI pr), .int (iI mc), .int (iI ia), .int (iI it)])), (r1, aI (K 0) 50 gd), (r2, aI (K 0) 50 gm), (r3, aI (K 0) 50 ge), (r4, aI (K 0) 50 gv), (r5, aI (K 0) 50 gn), (r6, aI (K 0) 50 gt)]) [0, 1, 2, 3, 4, 5, 6, 7, 8, 9] rfl rfl) (lv_sub hl [2, 3, 4, 0] rfl)
        · refine lv_aload_n F.1 F.2.1 dX5_store_32 rfl (lv_at hl 0 rfl) ?_
          refine ad_get F G fl_X5_9 0 rfl rfl dX5_store_33 ?_
          refine lv_iload_n F.1 F.2.1 dX5_store_36 rfl (lv_at hl 3 rfl) ?_
          refine lv_aload_n F.1 F.2.1 dX5_store_37 rfl (lv_at hl 1 rfl) ?_
          refine ad_get F G fl_X5_35 3 rfl rfl dX5_store_38 ?_
          refine lv_iload_n F.1 F.2.1 dX5_store_41 rfl (lv_at hl 3 rfl) ?_
          refine ad_iald F G 8 rfl (w := (qget qs i).2.2.2.2.1) (by omega) (QRep_at hQ hi.1 (by omega)).2.2.2.2.1 dX5_store_42 ?_
          refine ad_iast F G 1 rfl (by omega) (ws' := [(h0, .inr (5, [.ref wa, .ref sa, .int (iI (qs.length : Int)), .int (iI e), .int (iI 1)])), (wa, aI (K 0) 50 (va_up gw1 i.toNat ((qget qs i).2.2.2.2.1))), (sa, aF (K 3) 50 gs1), (h1, .inr (4, [.ref oq, .ref r1, .ref r2, .ref r3, .ref r4, .ref r5, .ref r6, .int (iI (qs.length : Int)), .int (iI gz), .int (iI us), .int (iI pr), .int (iI mc), .int (iI ia), .int (iI it)])), (r1, aI (K 0) 50 gd), (r2, aI (K 0) 50 gm), (r3, aI (K 0) 50 ge), (r4, aI (K 0) 50 gv), (r5, aI (K 0) 50 gn), (r6, aI (K 0) 50 gt)]) rfl dX5_store_43 (fun H locs G => ?_)
          refine lv_goto (tgt := 83) F.1 F.2.1 dX5_store_44 (by decide) ?_
          refine ad_iinc (lv' := [(3, .int (iI (i + 1))), (0, .ref h0), (1, .ref h1), (2, .int (iI e))]) F dX5_store_83 hl (k := 3) rfl (by decide) rfl (fun ls hl => ?_)
          refine lv_goto (tgt := 20) F.1 F.2.1 dX5_store_86 (by decide) ?_
          exact ih20 (i + 1) (va_up gw1 i.toNat ((qget qs i).2.2.2.2.1)) gs1 _ _ _ (by omega) (fun z h1 h2 => (show z = i ∨ z < i by omega).elim (fun h => by rw [h, rowV_get hi.1 (by omega)]; exact ⟨fun _ => va_upI_s _ _ _, fun h0 => absurd h0 (by omega)⟩) (fun h => by rw [va_upI_o h1 hi.1 (by omega)]; exact hv z h1 h)) (by omega) (G.perm (ws' := [(h0, .inr (5, [.ref wa, .ref sa, .int (iI (qs.length : Int)), .int (iI e), .int (iI 1)])), (wa, aI (K 0) 50 (va_up gw1 i.toNat ((qget qs i).2.2.2.2.1))), (sa, aF (K 3) 50 gs1), (h1, .inr (4, [.ref oq, .ref r1, .ref r2, .ref r3, .ref r4, .ref r5, .ref r6, .int (iI (qs.length : Int)), .int (iI gz), .int (iI us), .int (iI pr), .int (iI mc), .int (iI ia), .int (iI it)])), (r1, aI (K 0) 50 gd), (r2, aI (K 0) 50 gm), (r3, aI (K 0) 50 ge), (r4, aI (K 0) 50 gv), (r5, aI (K 0) 50 gn), (r6, aI (K 0) 50 gt)]) [0, 1, 2, 3, 4, 5, 6, 7, 8, 9] rfl rfl) (lv_sub hl [1, 2, 3, 0] rfl)
  exact lp20 ((((qs.length - 0 : Int)) + 1).toNat) 0 gw gs _ _ _ (by omega) (fun z h1 h2 => by omega) (by omega) (G.perm (ws' := [(h0, .inr (5, [.ref wa, .ref sa, .int (iI (qs.length : Int)), .int (iI e), .int (iI 1)])), (wa, aI (K 0) 50 gw), (sa, aF (K 3) 50 gs), (h1, .inr (4, [.ref oq, .ref r1, .ref r2, .ref r3, .ref r4, .ref r5, .ref r6, .int (iI (qs.length : Int)), .int (iI gz), .int (iI us), .int (iI pr), .int (iI mc), .int (iI ia), .int (iI it)])), (r1, aI (K 0) 50 gd), (r2, aI (K 0) 50 gm), (r3, aI (K 0) 50 ge), (r4, aI (K 0) 50 gv), (r5, aI (K 0) 50 gn), (r6, aI (K 0) 50 gt)]) [0, 1, 2, 3, 4, 5, 6, 7, 8, 9] rfl rfl) (lv_sub hl [1, 2, 3, 0] rfl)

def rm_X5_elementAt : Room := { frames := 1, cells := 0, slots := 0, locals := 12 }
set_option maxHeartbeats 4000000 in
set_option maxRecDepth 100000 in
theorem c_X5_elementAt (l : Launch) (D : va_G) (K : Nat → ClassId) (z0 : Nat) (h0 : Nat) (wa : Nat) (sa : Nat) (sz : Int) (ex : Int) (sd : Int) (gw : Nat → Int) (gs : Nat → UInt32) (vs : List Vw) (z : Int) (hRw : RRep ex gw gs vs) (hvl : vs.length ≤ 50) (hs : sz = vs.length) (hz : 0 ≤ z ∧ z < vs.length) (he : ex = 0 ∨ ex = 1) : CT l D K z0 yX5_elementAt cX5_elementAt 2 (some .float) rm_X5_elementAt [.ref h0, .int (iI z)] [(h0, .inr (5, [.ref wa, .ref sa, .int (iI sz), .int (iI ex), .int (iI sd)])), (wa, aI (K 0) 50 gw), (sa, aF (K 3) 50 gs)] (fun v9 u9 => v9 = some (.float (elF ex vs z)) ∧ u9 = [(h0, .inr (5, [.ref wa, .ref sa, .int (iI sz), .int (iI ex), .int (iI sd)])), (wa, aI (K 0) 50 gw), (sa, aF (K 3) 50 gs)]) := by
  refine CT.start RX5 "elementAt" (by decide) rfl rfl (Nat.le_of_ble_eq_true rfl) ?_
  intro p9 e9 s9 m9 ag9 bl9 mt9 c9 A9 Q9 ls F G hR hl
  have hl : lv_has ls 2 [(0, .ref h0), (1, .int (iI z))] := hl
  refine lv_iload_n F.1 F.2.1 dX5_elementAt_0 rfl (lv_at hl 1 rfl) ?_
  refine ad_if_lt (tgt := 12) F (by omega) dX5_elementAt_1 (by decide) (fun cc_1 => ?_) (fun cc_1 => ?_)
  · exact absurd cc_1 (by omega)
  · refine lv_iload_n F.1 F.2.1 dX5_elementAt_4 rfl (lv_at hl 1 rfl) ?_
    refine lv_aload_n F.1 F.2.1 dX5_elementAt_5 rfl (lv_at hl 0 rfl) ?_
    refine ad_get F G fl_X5_25 0 rfl rfl dX5_elementAt_6 ?_
    refine ad_icmp_lt (tgt := 14) F (by omega) dX5_elementAt_9 (by decide) (fun cc_2 => ?_) (fun cc_2 => ?_)
    · refine lv_aload_n F.1 F.2.1 dX5_elementAt_14 rfl (lv_at hl 0 rfl) ?_
      refine ad_get F G fl_X5_28 0 rfl rfl dX5_elementAt_15 ?_
      refine ad_if_eq (tgt := 31) F (by omega) dX5_elementAt_18 (by decide) (fun cc_3 => ?_) (fun cc_3 => ?_)
      · refine lv_aload_n F.1 F.2.1 dX5_elementAt_31 rfl (lv_at hl 0 rfl) ?_
        refine ad_get F G fl_X5_15 0 rfl rfl dX5_elementAt_32 ?_
        refine lv_iload_n F.1 F.2.1 dX5_elementAt_35 rfl (lv_at hl 1 rfl) ?_
        refine ad_fald F G 2 rfl (w := (vget vs z).2) (by omega) ((hRw z hz.1 hz.2).2 (by omega)) dX5_elementAt_36 ?_
        exact ad_freturn F G hR rfl (Nat.le_of_ble_eq_true rfl) (Nat.le_of_ble_eq_true rfl) ⟨(by rw [elF, if_pos cc_3]), rfl⟩ dX5_elementAt_37
      · refine lv_aload_n F.1 F.2.1 dX5_elementAt_21 rfl (lv_at hl 0 rfl) ?_
        refine ad_get F G fl_X5_9 0 rfl rfl dX5_elementAt_22 ?_
        refine lv_iload_n F.1 F.2.1 dX5_elementAt_25 rfl (lv_at hl 1 rfl) ?_
        refine ad_iald F G 1 rfl (w := (vget vs z).1) (by omega) ((hRw z hz.1 hz.2).1 (by omega)) dX5_elementAt_26 ?_
        refine lv_i2f F.1 F.2.1 dX5_elementAt_27 ?_
        refine lv_goto (tgt := 37) F.1 F.2.1 dX5_elementAt_28 (by decide) ?_
        exact ad_freturn F G hR rfl (Nat.le_of_ble_eq_true rfl) (Nat.le_of_ble_eq_true rfl) ⟨(by rw [elF, if_neg (by omega)]), rfl⟩ dX5_elementAt_37
    · exact absurd cc_2 (by omega)

def rm_X5_takeFrom : Room := { frames := 2, cells := 0, slots := 0, locals := 33 }
set_option maxHeartbeats 4000000 in
set_option maxRecDepth 100000 in
theorem c_X5_takeFrom (l : Launch) (D : va_G) (K : Nat → ClassId) (z0 : Nat) (h0 : Nat) (wa : Nat) (sa : Nat) (sz : Int) (ex : Int) (sd : Int) (gw : Nat → Int) (gs : Nat → UInt32) (vs : List Vw) (h1 : Nat) (wao : Nat) (sao : Nat) (szo : Int) (sdo : Int) (gwo : Nat → Int) (gso : Nat → UInt32) (ws : List Vw) (k : Int) (hRw : RRep ex gw gs vs) (hRo : RRep ex gwo gso ws) (hvl : vs.length ≤ 50 ∧ ws.length ≤ 50) (hk : 0 ≤ k ∧ k ≤ vs.length ∧ k ≤ ws.length) (he : ex = 0 ∨ ex = 1) (hs : sz = vs.length ∧ szo = ws.length) : CT l D K z0 yX5_takeFrom cX5_takeFrom 5 (some .boolean) rm_X5_takeFrom [.ref h0, .ref h1, .int (iI k)] [(h0, .inr (5, [.ref wa, .ref sa, .int (iI sz), .int (iI ex), .int (iI sd)])), (wa, aI (K 0) 50 gw), (sa, aF (K 3) 50 gs), (h1, .inr (5, [.ref wao, .ref sao, .int (iI szo), .int (iI ex), .int (iI sdo)])), (wao, aI (K 0) 50 gwo), (sao, aF (K 3) 50 gso)] (fun v9 u9 => ∃ (r : Int), ∃ (gw2 : Nat → Int), ∃ (gs2 : Nat → UInt32), v9 = some (.int (iI r)) ∧ (r = 1 ↔ ∃ z : Int, 0 ≤ z ∧ z < k ∧ cmpI (elF ex vs z) (elF ex ws z) ≠ 0) ∧ (r = 0 ∨ r = 1) ∧ (RRep ex gw2 gs2 (tkV vs ws k)) ∧ u9 = [(h0, .inr (5, [.ref wa, .ref sa, .int (iI sz), .int (iI ex), .int (iI sd)])), (wa, aI (K 0) 50 gw2), (sa, aF (K 3) 50 gs2), (h1, .inr (5, [.ref wao, .ref sao, .int (iI szo), .int (iI ex), .int (iI sdo)])), (wao, aI (K 0) 50 gwo), (sao, aF (K 3) 50 gso)]) := by
  refine CT.start RX5 "takeFrom" (by decide) rfl rfl (Nat.le_of_ble_eq_true rfl) ?_
  intro p9 e9 s9 m9 ag9 bl9 mt9 c9 A9 Q9 ls F G hR hl
  have hl : lv_has ls 5 [(0, .ref h0), (1, .ref h1), (2, .int (iI k))] := hl
  refine ad_iconst F dX5_takeFrom_0 ?_
  refine lv_istore_n (lv' := [(3, .int (iI 0)), (0, .ref h0), (1, .ref h1), (2, .int (iI k))]) F.1 F.2.1 dX5_takeFrom_1 rfl hl (by decide) rfl (fun ls hl => ?_)
  refine ad_iconst F dX5_takeFrom_2 ?_
  refine lv_istore (lv' := [(4, .int (iI 0)), (3, .int (iI 0)), (0, .ref h0), (1, .ref h1), (2, .int (iI k))]) F.1 F.2.1 dX5_takeFrom_3 hl (by decide) rfl (fun ls hl => ?_)
  have lp5 : ∀ (n5 : Nat) (i : Int) (ch : Int) (gw1 : Nat → Int) (gs1 : Nat → UInt32) (H : Heap) (locs : List Loc) (ls : Array Slot), (0 ≤ i ∧ i ≤ k) → (ch = 0 ∨ ch = 1) → (ch = 1 ↔ ∃ z : Int, 0 ≤ z ∧ z < i ∧ cmpI (elF ex vs z) (elF ex ws z) ≠ 0) → (RRep ex gw1 gs1 (tkV vs ws i)) → (k - i) < (n5 : Int) → ad_G D A9 s9.heap H locs [(h0, .inr (5, [.ref wa, .ref sa, .int (iI sz), .int (iI ex), .int (iI sd)])), (wa, aI (K 0) 50 gw1), (sa, aF (K 3) 50 gs1), (h1, .inr (5, [.ref wao, .ref sao, .int (iI szo), .int (iI ex), .int (iI sdo)])), (wao, aI (K 0) 50 gwo), (sao, aF (K 3) 50 gso)] → lv_has ls 5 [(0, .ref h0), (1, .ref h1), (2, .int (iI k)), (3, .int (iI ch)), (4, .int (iI i))] → W p9 l e9 rm_X5_takeFrom s9 m9 ag9 bl9 mt9 c9 H locs 0 0 Q9 (F0 m9 5 ls []) := by
    intro n5
    induction n5 with
    | zero =>
      intro i ch gw1 gs1 H locs ls hi hc hb hR1 hm5
      exact absurd hm5 (by omega)
    | succ n5 ih5 =>
      intro i ch gw1 gs1 H locs ls hi hc hb hR1 hm5 G hl
      have hlt := tkV_len (vs := vs) (ws := ws) (k := i) (by omega) (by omega) (by omega)
      refine lv_iload F.1 F.2.1 dX5_takeFrom_5 (lv_at hl 4 rfl) ?_
      refine lv_iload_n F.1 F.2.1 dX5_takeFrom_7 rfl (lv_at hl 2 rfl) ?_
      refine ad_icmp_ge (tgt := 72) F (by omega) dX5_takeFrom_8 (by decide) (fun cc_1 => ?_) (fun cc_1 => ?_)
      · refine lv_iload_n F.1 F.2.1 dX5_takeFrom_72 rfl (lv_at hl 3 rfl) ?_
        exact ad_zreturn F G hR rfl (Nat.le_of_ble_eq_true rfl) (Nat.le_of_ble_eq_true rfl) (iI_boolN (by omega)).1 ⟨ch, gw1, gs1, rfl, (by rw [hb, show i = k by omega]), hc, (by rw [← show i = k by omega]; exact hR1), rfl⟩ dX5_takeFrom_73
      · refine lv_iload F.1 F.2.1 dX5_takeFrom_11 (lv_at hl 4 rfl) ?_
        refine lv_aload_n F.1 F.2.1 dX5_takeFrom_13 rfl (lv_at hl 0 rfl) ?_
        refine ad_get F G fl_X5_25 0 rfl rfl dX5_takeFrom_14 ?_
        refine ad_icmp_ge (tgt := 72) F (by omega) dX5_takeFrom_17 (by decide) (fun cc_2 => ?_) (fun cc_2 => ?_)
        · refine lv_iload_n F.1 F.2.1 dX5_takeFrom_72 rfl (lv_at hl 3 rfl) ?_
          exact ad_zreturn F G hR rfl (Nat.le_of_ble_eq_true rfl) (Nat.le_of_ble_eq_true rfl) (iI_boolN (by omega)).1 ⟨ch, gw1, gs1, rfl, (by rw [hb, show i = k by omega]), hc, (by rw [← show i = k by omega]; exact hR1), rfl⟩ dX5_takeFrom_73
        · refine lv_aload_n F.1 F.2.1 dX5_takeFrom_20 rfl (lv_at hl 0 rfl) ?_
          refine lv_iload F.1 F.2.1 dX5_takeFrom_21 (lv_at hl 4 rfl) ?_
          refine ad_callV (As := [.int (iI i)]) (rest := []) F G (c_X5_elementAt l D K z0 h0 wa sa sz ex sd gw1 gs1 (tkV vs ws i) i hR1 (by omega) (by omega) (by omega) he) my_X5_elementAt mv_X5_41 (wr := [(h1, .inr (5, [.ref wao, .ref sao, .int (iI szo), .int (iI ex), .int (iI sdo)])), (wao, aI (K 0) 50 gwo), (sao, aF (K 3) 50 gso)]) (isC := [0, 1, 2]) (isR := [3, 4, 5]) ⟨rfl, rfl, rfl, rfl, by decide⟩ 5 0 rfl rfl rfl rfl ⟨Nat.le_of_ble_eq_true rfl, Nat.le_of_ble_eq_true rfl⟩ ⟨Nat.le_of_ble_eq_true rfl, Nat.le_of_ble_eq_true rfl⟩ (Nat.le_of_ble_eq_true rfl) hl.1 (cells9 := 0) (slots9 := 0) ⟨rfl, rfl⟩ dX5_takeFrom_23 (fun v u H locs hw_3 G => ?_)
          obtain ⟨rfl, rfl⟩ := hw_3
          replace G := G.perm (ws' := [(h0, .inr (5, [.ref wa, .ref sa, .int (iI sz), .int (iI ex), .int (iI sd)])), (wa, aI (K 0) 50 gw1), (sa, aF (K 3) 50 gs1), (h1, .inr (5, [.ref wao, .ref sao, .int (iI szo), .int (iI ex), .int (iI sdo)])), (wao, aI (K 0) 50 gwo), (sao, aF (K 3) 50 gso)]) [3, 4, 5, 0, 1, 2] rfl rfl
          refine W.eq (g2 := F0 m9 26 ls [.float (elF ex (tkV vs ws i) i)]) rfl ?_
          refine ad_topf (y := elF ex vs i) (by have hg := tkV_get (vs := vs) (ws := ws) (k := i) (by omega) (by omega) (by omega) hi.1; rw [if_neg (by omega)] at hg; simp only [elF, hg]) ?_
          refine lv_aload_n F.1 F.2.1 dX5_takeFrom_26 rfl (lv_at hl 1 rfl) ?_
          refine lv_iload F.1 F.2.1 dX5_takeFrom_27 (lv_at hl 4 rfl) ?_
          refine ad_callV (As := [.int (iI i)]) (rest := [.float (elF ex vs i)]) F G (c_X5_elementAt l D K z0 h1 wao sao szo ex sdo gwo gso ws i hRo (by omega) (by omega) (by omega) he) my_X5_elementAt mv_X5_41 (wr := [(h0, .inr (5, [.ref wa, .ref sa, .int (iI sz), .int (iI ex), .int (iI sd)])), (wa, aI (K 0) 50 gw1), (sa, aF (K 3) 50 gs1)]) (isC := [3, 4, 5]) (isR := [0, 1, 2]) ⟨rfl, rfl, rfl, rfl, by decide⟩ 5 0 rfl rfl rfl rfl ⟨Nat.le_of_ble_eq_true rfl, Nat.le_of_ble_eq_true rfl⟩ ⟨Nat.le_of_ble_eq_true rfl, Nat.le_of_ble_eq_true rfl⟩ (Nat.le_of_ble_eq_true rfl) hl.1 (cells9 := 0) (slots9 := 0) ⟨rfl, rfl⟩ dX5_takeFrom_29 (fun v u H locs hw_4 G => ?_)
          obtain ⟨rfl, rfl⟩ := hw_4
          replace G := G.perm (ws' := [(h0, .inr (5, [.ref wa, .ref sa, .int (iI sz), .int (iI ex), .int (iI sd)])), (wa, aI (K 0) 50 gw1), (sa, aF (K 3) 50 gs1), (h1, .inr (5, [.ref wao, .ref sao, .int (iI szo), .int (iI ex), .int (iI sdo)])), (wao, aI (K 0) 50 gwo), (sao, aF (K 3) 50 gso)]) [0, 1, 2, 3, 4, 5] rfl rfl
          refine W.eq (g2 := F0 m9 32 ls [.float (elF ex ws i), .float (elF ex vs i)]) rfl ?_
          refine lv_fcmp F.1 F.2.1 dX5_takeFrom_32 ?_
          refine ad_top32 (y := cmpI (elF ex vs i) (elF ex ws i)) (iI_of _) ?_
          refine ad_if_eq (tgt := 38) F (cmpI_r _ _) dX5_takeFrom_33 (by decide) (fun cc_5 => ?_) (fun cc_5 => ?_)
          · refine lv_aload_n F.1 F.2.1 dX5_takeFrom_38 rfl (lv_at hl 0 rfl) ?_
            refine ad_get F G fl_X5_9 0 rfl rfl dX5_takeFrom_39 ?_
            refine lv_iload F.1 F.2.1 dX5_takeFrom_42 (lv_at hl 4 rfl) ?_
            refine lv_aload_n F.1 F.2.1 dX5_takeFrom_44 rfl (lv_at hl 1 rfl) ?_
            refine ad_get F G fl_X5_9 3 rfl rfl dX5_takeFrom_45 ?_
            refine lv_iload F.1 F.2.1 dX5_takeFrom_48 (lv_at hl 4 rfl) ?_
            refine ad_iald F G 4 rfl (w := gwo i.toNat) (by omega) rfl dX5_takeFrom_50 ?_
            refine ad_iast F G 1 rfl (by omega) (ws' := [(h0, .inr (5, [.ref wa, .ref sa, .int (iI sz), .int (iI ex), .int (iI sd)])), (wa, aI (K 0) 50 (va_up gw1 i.toNat (gwo i.toNat))), (sa, aF (K 3) 50 gs1), (h1, .inr (5, [.ref wao, .ref sao, .int (iI szo), .int (iI ex), .int (iI sdo)])), (wao, aI (K 0) 50 gwo), (sao, aF (K 3) 50 gso)]) rfl dX5_takeFrom_51 (fun H locs G => ?_)
            refine lv_aload_n F.1 F.2.1 dX5_takeFrom_52 rfl (lv_at hl 0 rfl) ?_
            refine ad_get F G fl_X5_15 0 rfl rfl dX5_takeFrom_53 ?_
            refine lv_iload F.1 F.2.1 dX5_takeFrom_56 (lv_at hl 4 rfl) ?_
            refine lv_aload_n F.1 F.2.1 dX5_takeFrom_58 rfl (lv_at hl 1 rfl) ?_
            refine ad_get F G fl_X5_15 3 rfl rfl dX5_takeFrom_59 ?_
            refine lv_iload F.1 F.2.1 dX5_takeFrom_62 (lv_at hl 4 rfl) ?_
            refine ad_fald F G 5 rfl (w := gso i.toNat) (by omega) rfl dX5_takeFrom_64 ?_
            refine ad_fast F G 2 rfl (by omega) (ws' := [(h0, .inr (5, [.ref wa, .ref sa, .int (iI sz), .int (iI ex), .int (iI sd)])), (wa, aI (K 0) 50 (va_up gw1 i.toNat (gwo i.toNat))), (sa, aF (K 3) 50 (va_up gs1 i.toNat (gso i.toNat))), (h1, .inr (5, [.ref wao, .ref sao, .int (iI szo), .int (iI ex), .int (iI sdo)])), (wao, aI (K 0) 50 gwo), (sao, aF (K 3) 50 gso)]) rfl dX5_takeFrom_65 (fun H locs G => ?_)
            refine ad_iinc (lv' := [(4, .int (iI (i + 1))), (0, .ref h0), (1, .ref h1), (2, .int (iI k)), (3, .int (iI ch))]) F dX5_takeFrom_66 hl (k := 4) rfl (by decide) rfl (fun ls hl => ?_)
            refine lv_goto (tgt := 5) F.1 F.2.1 dX5_takeFrom_69 (by decide) ?_
            exact ih5 (i + 1) ch (va_up gw1 i.toNat (gwo i.toNat)) (va_up gs1 i.toNat (gso i.toNat)) _ _ _ (by omega) hc (by
              constructor
              · intro hh
                rcases hb.mp hh with ⟨z, a1, a2, a3⟩; exact ⟨z, a1, by omega, a3⟩
              · intro hh
                obtain ⟨z, a1, a2, a3⟩ := hh
                rcases (show z = i ∨ z < i by omega) with h | h
                · rw [h] at a3; exact absurd cc_5 a3
                · exact hb.mpr ⟨z, a1, h, a3⟩) (fun z h1 h2 => by
              rw [tkV_len (by omega) (by omega) (by omega)] at h2
              rw [tkV_get (by omega) (by omega) (by omega) h1]
              rcases (show z = i ∨ z ≠ i by omega) with h | h
              · subst h; rw [if_pos (by omega), va_upI_s, va_upI_s]; exact hRo z h1 (by omega)
              · have hz9 := hR1 z h1 (by rw [tkV_len (by omega) (by omega) (by omega)]; exact h2)
                rw [tkV_get (by omega) (by omega) (by omega) h1] at hz9
                rw [va_upI_o h1 hi.1 h, va_upI_o h1 hi.1 h]
                by_cases hzi : z < i
                · rw [if_pos hzi] at hz9; rw [if_pos (by omega)]; exact hz9
                · rw [if_neg hzi] at hz9; rw [if_neg (by omega)]; exact hz9) (by omega) (G.perm (ws' := [(h0, .inr (5, [.ref wa, .ref sa, .int (iI sz), .int (iI ex), .int (iI sd)])), (wa, aI (K 0) 50 (va_up gw1 i.toNat (gwo i.toNat))), (sa, aF (K 3) 50 (va_up gs1 i.toNat (gso i.toNat))), (h1, .inr (5, [.ref wao, .ref sao, .int (iI szo), .int (iI ex), .int (iI sdo)])), (wao, aI (K 0) 50 gwo), (sao, aF (K 3) 50 gso)]) [0, 1, 2, 3, 4, 5] rfl rfl) (lv_sub hl [1, 2, 3, 4, 0] rfl)
          · refine ad_iconst F dX5_takeFrom_36 ?_
            refine lv_istore_n (lv' := [(3, .int (iI 1)), (0, .ref h0), (1, .ref h1), (2, .int (iI k)), (4, .int (iI i))]) F.1 F.2.1 dX5_takeFrom_37 rfl hl (by decide) rfl (fun ls hl => ?_)
            refine lv_aload_n F.1 F.2.1 dX5_takeFrom_38 rfl (lv_at hl 1 rfl) ?_
            refine ad_get F G fl_X5_9 0 rfl rfl dX5_takeFrom_39 ?_
            refine lv_iload F.1 F.2.1 dX5_takeFrom_42 (lv_at hl 4 rfl) ?_
            refine lv_aload_n F.1 F.2.1 dX5_takeFrom_44 rfl (lv_at hl 2 rfl) ?_
            refine ad_get F G fl_X5_9 3 rfl rfl dX5_takeFrom_45 ?_
            refine lv_iload F.1 F.2.1 dX5_takeFrom_48 (lv_at hl 4 rfl) ?_
            refine ad_iald F G 4 rfl (w := gwo i.toNat) (by omega) rfl dX5_takeFrom_50 ?_
            refine ad_iast F G 1 rfl (by omega) (ws' := [(h0, .inr (5, [.ref wa, .ref sa, .int (iI sz), .int (iI ex), .int (iI sd)])), (wa, aI (K 0) 50 (va_up gw1 i.toNat (gwo i.toNat))), (sa, aF (K 3) 50 gs1), (h1, .inr (5, [.ref wao, .ref sao, .int (iI szo), .int (iI ex), .int (iI sdo)])), (wao, aI (K 0) 50 gwo), (sao, aF (K 3) 50 gso)]) rfl dX5_takeFrom_51 (fun H locs G => ?_)
            refine lv_aload_n F.1 F.2.1 dX5_takeFrom_52 rfl (lv_at hl 1 rfl) ?_
            refine ad_get F G fl_X5_15 0 rfl rfl dX5_takeFrom_53 ?_
            refine lv_iload F.1 F.2.1 dX5_takeFrom_56 (lv_at hl 4 rfl) ?_
            refine lv_aload_n F.1 F.2.1 dX5_takeFrom_58 rfl (lv_at hl 2 rfl) ?_
            refine ad_get F G fl_X5_15 3 rfl rfl dX5_takeFrom_59 ?_
            refine lv_iload F.1 F.2.1 dX5_takeFrom_62 (lv_at hl 4 rfl) ?_
            refine ad_fald F G 5 rfl (w := gso i.toNat) (by omega) rfl dX5_takeFrom_64 ?_
            refine ad_fast F G 2 rfl (by omega) (ws' := [(h0, .inr (5, [.ref wa, .ref sa, .int (iI sz), .int (iI ex), .int (iI sd)])), (wa, aI (K 0) 50 (va_up gw1 i.toNat (gwo i.toNat))), (sa, aF (K 3) 50 (va_up gs1 i.toNat (gso i.toNat))), (h1, .inr (5, [.ref wao, .ref sao, .int (iI szo), .int (iI ex), .int (iI sdo)])), (wao, aI (K 0) 50 gwo), (sao, aF (K 3) 50 gso)]) rfl dX5_takeFrom_65 (fun H locs G => ?_)
            refine ad_iinc (lv' := [(4, .int (iI (i + 1))), (3, .int (iI 1)), (0, .ref h0), (1, .ref h1), (2, .int (iI k))]) F dX5_takeFrom_66 hl (k := 4) rfl (by decide) rfl (fun ls hl => ?_)
            refine lv_goto (tgt := 5) F.1 F.2.1 dX5_takeFrom_69 (by decide) ?_
            exact ih5 (i + 1) 1 (va_up gw1 i.toNat (gwo i.toNat)) (va_up gs1 i.toNat (gso i.toNat)) _ _ _ (by omega) (by omega) (by
              constructor
              · intro hh
                exact ⟨i, hi.1, by omega, cc_5⟩
              · intro hh
                obtain ⟨z, a1, a2, a3⟩ := hh
                rfl) (fun z h1 h2 => by
              rw [tkV_len (by omega) (by omega) (by omega)] at h2
              rw [tkV_get (by omega) (by omega) (by omega) h1]
              rcases (show z = i ∨ z ≠ i by omega) with h | h
              · subst h; rw [if_pos (by omega), va_upI_s, va_upI_s]; exact hRo z h1 (by omega)
              · have hz9 := hR1 z h1 (by rw [tkV_len (by omega) (by omega) (by omega)]; exact h2)
                rw [tkV_get (by omega) (by omega) (by omega) h1] at hz9
                rw [va_upI_o h1 hi.1 h, va_upI_o h1 hi.1 h]
                by_cases hzi : z < i
                · rw [if_pos hzi] at hz9; rw [if_pos (by omega)]; exact hz9
                · rw [if_neg hzi] at hz9; rw [if_neg (by omega)]; exact hz9) (by omega) (G.perm (ws' := [(h0, .inr (5, [.ref wa, .ref sa, .int (iI sz), .int (iI ex), .int (iI sd)])), (wa, aI (K 0) 50 (va_up gw1 i.toNat (gwo i.toNat))), (sa, aF (K 3) 50 (va_up gs1 i.toNat (gso i.toNat))), (h1, .inr (5, [.ref wao, .ref sao, .int (iI szo), .int (iI ex), .int (iI sdo)])), (wao, aI (K 0) 50 gwo), (sao, aF (K 3) 50 gso)]) [0, 1, 2, 3, 4, 5] rfl rfl) (lv_sub hl [2, 3, 4, 1, 0] rfl)
  exact lp5 ((((k - 0 : Int)) + 1).toNat) 0 0 gw gs _ _ _ (by omega) (by omega) (by constructor <;> intro hh <;> first | omega | (obtain ⟨z, a1, a2, a3⟩ := hh; omega)) (fun z h1 h2 => by simpa [tkV] using hRw z h1 (by simpa [tkV] using h2)) (by omega) (G.perm (ws' := [(h0, .inr (5, [.ref wa, .ref sa, .int (iI sz), .int (iI ex), .int (iI sd)])), (wa, aI (K 0) 50 gw), (sa, aF (K 3) 50 gs), (h1, .inr (5, [.ref wao, .ref sao, .int (iI szo), .int (iI ex), .int (iI sdo)])), (wao, aI (K 0) 50 gwo), (sao, aF (K 3) 50 gso)]) [0, 1, 2, 3, 4, 5] rfl rfl) (lv_sub hl [2, 3, 4, 1, 0] rfl)
