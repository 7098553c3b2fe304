def rm_X5_init : Room := { frames := 1, cells := 2, slots := 100, locals := 20 }
set_option maxHeartbeats 4000000 in
set_option maxRecDepth 100000 in
theorem c_X5_init (l : Launch) (D : va_G) (K : Nat → ClassId) (z0 : Nat) (h0 : Nat) : CT l D K z0 yX5_init cX5_init 1 none rm_X5_init [.ref h0] [(h0, .inr (5, [.null, .null, .int (iI 0), .int (iI 0), .int (iI 0)]))] (fun v9 u9 => ∃ (wa1 : Nat), ∃ (sa1 : Nat), v9 = none ∧ u9 = [(h0, .inr (5, [.ref wa1, .ref sa1, .int (iI 0), .int (iI 0), .int (iI 0)])), (wa1, aI (K 0) 50 (fun _ => 0)), (sa1, aF (K 3) 50 (fun _ => 0))]) := by
  refine CT.start RX5 "<init>" (by decide) rfl rfl (Nat.le_of_ble_eq_true rfl) ?_
  intro p9 e9 s9 m9 ag9 bl9 mt9 c9 A9 Q9 ls F G hR hl
  have hl : lv_has ls 1 [(0, .ref h0)] := hl
  refine lv_aload_n F.1 F.2.1 dX5_init_0 rfl (lv_at hl 0 rfl) ?_
  refine ad_obji F oi_X5_3 hl.1 (Nat.le_of_ble_eq_true rfl) (Nat.le_of_ble_eq_true rfl) dX5_init_1 ?_
  refine lv_aload_n F.1 F.2.1 dX5_init_4 rfl (lv_at hl 0 rfl) ?_
  refine ad_bipush F dX5_init_5 (by decide) ?_
  refine ad_newa F G (ty := .int) rfl ac_int (t0 := 0) (cA := K 0) rfl (fun _ h => by cases h) (n := 50) (a0 := aI0 50 (fun _ => 0)) (fun _ => rfl) (by omega) (by decide) (Nat.le_of_ble_eq_true rfl) (Nat.le_of_ble_eq_true rfl) dX5_init_7 (fun q_1 H G => ?_)
  replace G := G.eq (ws' := [(h0, .inr (5, [.null, .null, .int (iI 0), .int (iI 0), .int (iI 0)])), (q_1, aI (K 0) 50 (fun _ => 0))]) rfl
  refine ad_wid (k := 1) (n := 50) rfl rfl ?_
  refine ad_putF F G fl_X5_9 rfl 0 rfl rfl rfl (Nat.le_of_ble_eq_true rfl) (ws' := [(h0, .inr (5, [.ref q_1, .null, .int (iI 0), .int (iI 0), .int (iI 0)])), (q_1, aI (K 0) 50 (fun _ => 0))]) rfl dX5_init_9 (fun H locs G => ?_)
  refine lv_aload_n F.1 F.2.1 dX5_init_12 rfl (lv_at hl 0 rfl) ?_
  refine ad_bipush F dX5_init_13 (by decide) ?_
  refine ad_newa F G (ty := .float) rfl ac_float (t0 := 3) (cA := K 3) rfl (fun _ h => by cases h) (n := 50) (a0 := aF0 50 (fun _ => 0)) (fun _ => rfl) (by omega) (by decide) (Nat.le_of_ble_eq_true rfl) (Nat.le_of_ble_eq_true rfl) dX5_init_15 (fun q_2 H G => ?_)
  replace G := G.eq (ws' := [(h0, .inr (5, [.ref q_1, .null, .int (iI 0), .int (iI 0), .int (iI 0)])), (q_1, aI (K 0) 50 (fun _ => 0)), (q_2, aF (K 3) 50 (fun _ => 0))]) rfl
  refine ad_wid (k := 2) (n := 100) rfl rfl ?_
  refine ad_putF F G fl_X5_15 rfl 0 rfl rfl rfl (Nat.le_of_ble_eq_true rfl) (ws' := [(h0, .inr (5, [.ref q_1, .ref q_2, .int (iI 0), .int (iI 0), .int (iI 0)])), (q_1, aI (K 0) 50 (fun _ => 0)), (q_2, aF (K 3) 50 (fun _ => 0))]) rfl dX5_init_17 (fun H locs G => ?_)
  exact ad_vreturn F G hR rfl (Nat.le_of_ble_eq_true rfl) (Nat.le_of_ble_eq_true rfl) ⟨q_1, q_2, rfl, rfl⟩ dX5_init_20

def rm_X5_store : Room := { frames := 1, cells := 0, slots := 0, locals := 12 }
set_option maxHeartbeats 4000000 in
set_option maxRecDepth 100000 in
theorem c_X5_store (l : Launch) (D : va_G) (K : Nat → ClassId) (z0 : Nat) (h0 : Nat) (wa : Nat) (sa : Nat) (sz : Int) (ex : Int) (sd : Int) (gw : Nat → Int) (gs : Nat → UInt32) (h1 : Nat) (oq : Nat) (oa : Nat) (r1 : Nat) (r2 : Nat) (r3 : Nat) (r4 : Nat) (r5 : Nat) (r6 : Nat) (gd : Nat → Int) (gm : Nat → Int) (ge : Nat → Int) (gv : Nat → Int) (gn : Nat → Int) (gt : Nat → Int) (og : Nat → Int) (ow : List Int) (qs : List Wq) (gz : Int) (us : Int) (pr : Int) (mc : Int) (ia : Int) (it : Int) (e : Int) (hQ : QRep gd gm ge gv gn gt qs) (hq : QOk qs) (he : e = 0 ∨ e = 1) : CT l D K z0 yX5_store cX5_store 5 none rm_X5_store [.ref h0, .ref h1, .int (iI e)] [(h0, .inr (5, [.ref wa, .ref sa, .int (iI sz), .int (iI ex), .int (iI sd)])), (wa, aI (K 0) 50 gw), (sa, aF (K 3) 50 gs), (h1, .inr (4, [.ref oq, .ref r1, .ref r2, .ref r3, .ref r4, .ref r5, .ref r6, .int (iI (qs.length : Int)), .int (iI gz), .int (iI us), .int (iI pr), .int (iI mc), .int (iI ia), .int (iI it)])), (r1, aI (K 0) 50 gd), (r2, aI (K 0) 50 gm), (r3, aI (K 0) 50 ge), (r4, aI (K 0) 50 gv), (r5, aI (K 0) 50 gn), (r6, aI (K 0) 50 gt)] (fun v9 u9 => ∃ (gw2 : Nat → Int), ∃ (gs2 : Nat → UInt32), v9 = none ∧ (RRep e gw2 gs2 (rowV qs)) ∧ u9 = [(h0, .inr (5, [.ref wa, .ref sa, .int (iI (qs.length : Int)), .int (iI e), .int (iI 1)])), (wa, aI (K 0) 50 gw2), (sa, aF (K 3) 50 gs2), (h1, .inr (4, [.ref oq, .ref r1, .ref r2, .ref r3, .ref r4, .ref r5, .ref r6, .int (iI (qs.length : Int)), .int (iI gz), .int (iI us), .int (iI pr), .int (iI mc), .int (iI ia), .int (iI it)])), (r1, aI (K 0) 50 gd), (r2, aI (K 0) 50 gm), (r3, aI (K 0) 50 ge), (r4, aI (K 0) 50 gv), (r5, aI (K 0) 50 gn), (r6, aI (K 0) 50 gt)]) := by
  refine CT.start RX5 "store" (by decide) rfl rfl (Nat.le_of_ble_eq_true rfl) ?_
  intro p9 e9 s9 m9 ag9 bl9 mt9 c9 A9 Q9 ls F G hR hl
  have hl : lv_has ls 5 [(0, .ref h0), (1, .ref h1), (2, .int (iI e))] := hl
  have hq5 := hq.1
  refine lv_aload_n F.1 F.2.1 dX5_store_0 rfl (lv_at hl 0 rfl) ?_
  refine lv_aload_n F.1 F.2.1 dX5_store_1 rfl (lv_at hl 1 rfl) ?_
  refine ad_get F G fl_X5_19 3 rfl rfl dX5_store_2 ?_
  refine ad_put F G fl_X5_25 0 rfl rfl rfl (Nat.le_of_ble_eq_true rfl) (ws' := [(h0, .inr (5, [.ref wa, .ref sa, .int (iI (qs.length : Int)), .int (iI ex), .int (iI sd)])), (wa, aI (K 0) 50 gw), (sa, aF (K 3) 50 gs), (h1, .inr (4, [.ref oq, .ref r1, .ref r2, .ref r3, .ref r4, .ref r5, .ref r6, .int (iI (qs.length : Int)), .int (iI gz), .int (iI us), .int (iI pr), .int (iI mc), .int (iI ia), .int (iI it)])), (r1, aI (K 0) 50 gd), (r2, aI (K 0) 50 gm), (r3, aI (K 0) 50 ge), (r4, aI (K 0) 50 gv), (r5, aI (K 0) 50 gn), (r6, aI (K 0) 50 gt)]) rfl dX5_store_5 (fun H locs G => ?_)
  refine lv_aload_n F.1 F.2.1 dX5_store_8 rfl (lv_at hl 0 rfl) ?_
  refine lv_iload_n F.1 F.2.1 dX5_store_9 rfl (lv_at hl 2 rfl) ?_
  refine ad_put F G fl_X5_28 0 rfl (iI_boolN (by omega)).1 (iI_boolN (by omega)).2 (Nat.le_of_ble_eq_true rfl) (ws' := [(h0, .inr (5, [.ref wa, .ref sa, .int (iI (qs.length : Int)), .int (iI e), .int (iI sd)])), (wa, aI (K 0) 50 gw), (sa, aF (K 3) 50 gs), (h1, .inr (4, [.ref oq, .ref r1, .ref r2, .ref r3, .ref r4, .ref r5, .ref r6, .int (iI (qs.length : Int)), .int (iI gz), .int (iI us), .int (iI pr), .int (iI mc), .int (iI ia), .int (iI it)])), (r1, aI (K 0) 50 gd), (r2, aI (K 0) 50 gm), (r3, aI (K 0) 50 ge), (r4, aI (K 0) 50 gv), (r5, aI (K 0) 50 gn), (r6, aI (K 0) 50 gt)]) rfl dX5_store_10 (fun H locs G => ?_)
  refine lv_aload_n F.1 F.2.1 dX5_store_13 rfl (lv_at hl 0 rfl) ?_
  refine ad_iconst F dX5_store_14 ?_
  refine ad_put F G fl_X5_32 0 rfl rfl rfl (Nat.le_of_ble_eq_true rfl) (ws' := [(h0, .inr (5, [.ref wa, .ref sa, .int (iI (qs.length : Int)), .int (iI e), .int (iI 1)])), (wa, aI (K 0) 50 gw), (sa, aF (K 3) 50 gs), (h1, .inr (4, [.ref oq, .ref r1, .ref r2, .ref r3, .ref r4, .ref r5, .ref r6, .int (iI (qs.length : Int)), .int (iI gz), .int (iI us), .int (iI pr), .int (iI mc), .int (iI ia), .int (iI it)])), (r1, aI (K 0) 50 gd), (r2, aI (K 0) 50 gm), (r3, aI (K 0) 50 ge), (r4, aI (K 0) 50 gv), (r5, aI (K 0) 50 gn), (r6, aI (K 0) 50 gt)]) rfl dX5_store_15 (fun H locs G => ?_)
  refine ad_iconst F dX5_store_18 ?_
  refine lv_istore_n (lv' := [(3, .int (iI 0)), (0, .ref h0), (1, .ref h1), (2, .int (iI e))]) F.1 F.2.1 dX5_store_19 rfl hl (by decide) rfl (fun ls hl => ?_)
  have lp20 : ∀ (n20 : Nat) (i : Int) (gw1 : Nat → Int) (gs1 : Nat → UInt32) (H : Heap) (locs : List Loc) (ls : Array Slot), (0 ≤ i ∧ i ≤ qs.length) → (∀ z : Int, 0 ≤ z → z < i → (e ≠ 0 → gw1 z.toNat = (vget (rowV qs) z).1) ∧ (e = 0 → gs1 z.toNat = (vget (rowV qs) z).2)) → (qs.length - i) < (n20 : Int) → ad_G D A9 s9.heap H locs [(h0, .inr (5, [.ref wa, .ref sa, .int (iI (qs.length : Int)), .int (iI e), .int (iI 1)])), (wa, aI (K 0) 50 gw1), (sa, aF (K 3) 50 gs1), (h1, .inr (4, [.ref oq, .ref r1, .ref r2, .ref r3, .ref r4, .ref r5, .ref r6, .int (iI (qs.length : Int)), .int (iI gz), .int (iI us), .int (iI pr), .int (iI mc), .int (iI ia), .int (iI it)])), (r1, aI (K 0) 50 gd), (r2, aI (K 0) 50 gm), (r3, aI (K 0) 50 ge), (r4, aI (K 0) 50 gv), (r5, aI (K 0) 50 gn), (r6, aI (K 0) 50 gt)] → lv_has ls 5 [(0, .ref h0), (1, .ref h1), (2, .int (iI e)), (3, .int (iI i))] → W p9 l e9 rm_X5_store s9 m9 ag9 bl9 mt9 c9 H locs 0 0 Q9 (F0 m9 20 ls []) := by
    intro n20
    induction n20 with
    | zero =>
      intro i gw1 gs1 H locs ls hi hv hm20
      exact absurd hm20 (by omega)
    | succ n20 ih20 =>
      intro i gw1 gs1 H locs ls hi hv hm20 G hl
      have hqi : i < qs.length → (1 ≤ (qget qs i).2.2.2.1 ∧ (qget qs i).2.2.2.1 ≤ 24) ∧ (1 ≤ (qget qs i).2.2.2.2.1 ∧ (qget qs i).2.2.2.2.1 ≤ 46) := fun h => hq.2 i hi.1 h
      refine lv_iload_n F.1 F.2.1 dX5_store_20 rfl (lv_at hl 3 rfl) ?_
      refine lv_aload_n F.1 F.2.1 dX5_store_21 rfl (lv_at hl 0 rfl) ?_
      refine ad_get F G fl_X5_25 0 rfl rfl dX5_store_22 ?_
      refine ad_icmp_ge (tgt := 89) F (by omega) dX5_store_25 (by decide) (fun cc_1 => ?_) (fun cc_1 => ?_)
      · exact ad_vreturn F G hR rfl (Nat.le_of_ble_eq_true rfl) (Nat.le_of_ble_eq_true rfl) ⟨gw1, gs1, rfl, (fun z h1 h2 => hv z h1 (by rw [rowV_len] at h2; omega)), rfl⟩ dX5_store_89
      · refine lv_iload_n F.1 F.2.1 dX5_store_28 rfl (lv_at hl 2 rfl) ?_
        refine ad_if_eq (tgt := 47) F (by omega) dX5_store_29 (by decide) (fun cc_2 => ?_) (fun cc_2 => ?_)
        · refine lv_aload_n F.1 F.2.1 dX5_store_47 rfl (lv_at hl 1 rfl) ?_
          refine ad_get F G fl_X5_38 3 rfl rfl dX5_store_48 ?_
          refine lv_iload_n F.1 F.2.1 dX5_store_51 rfl (lv_at hl 3 rfl) ?_
          refine ad_iald F G 7 rfl (w := (qget qs i).2.2.2.1) (by omega) (QRep_at hQ hi.1 (by omega)).2.2.2.1 dX5_store_52 ?_
          refine lv_i2f F.1 F.2.1 dX5_store_53 ?_
          refine lv_fstore (lv' := [(4, .float (FP.i2f (iI ((qget qs i).2.2.2.1)))), (0, .ref h0), (1, .ref h1), (2, .int (iI e)), (3, .int (iI i))]) F.1 F.2.1 dX5_store_54 hl (by decide) rfl (fun ls hl => ?_)
          refine lv_aload_n F.1 F.2.1 dX5_store_56 rfl (lv_at hl 1 rfl) ?_
          refine ad_get F G fl_X5_15 0 rfl rfl dX5_store_57 ?_
          refine lv_iload_n F.1 F.2.1 dX5_store_60 rfl (lv_at hl 4 rfl) ?_
          refine lv_fload F.1 F.2.1 dX5_store_61 (lv_at hl 0 rfl) ?_
          refine lv_fconst0 F.1 F.2.1 dX5_store_63 ?_
          refine lv_fcmp F.1 F.2.1 dX5_store_64 ?_
          refine ad_top32 (y := 1) (cmp_pos (hqi (by omega)).1) ?_
          refine ad_if_le (tgt := 81) F (by decide) dX5_store_65 (by decide) (fun cc_3 => absurd cc_3 (by decide)) (fun _ => ?_)
          refine lv_aload_n F.1 F.2.1 dX5_store_68 rfl (lv_at hl 2 rfl) ?_
          refine ad_get F G fl_X5_35 3 rfl rfl dX5_store_69 ?_
          refine lv_iload_n F.1 F.2.1 dX5_store_72 rfl (lv_at hl 4 rfl) ?_
          refine ad_iald F G 8 rfl (w := (qget qs i).2.2.2.2.1) (by omega) (QRep_at hQ hi.1 (by omega)).2.2.2.2.1 dX5_store_73 ?_
          refine lv_i2f F.1 F.2.1 dX5_store_74 ?_
          refine lv_fload F.1 F.2.1 dX5_store_75 (lv_at hl 0 rfl) ?_
          refine lv_fdiv F.1 F.2.1 dX5_store_77 (shr_n (by have := hqi (by omega); omega) (hqi (by omega)).1) ?_
          refine lv_goto (tgt := 82) F.1 F.2.1 dX5_store_78 (by decide) ?_
          refine ad_fast F G 2 rfl (by omega) (ws' := [(h0, .inr (5, [.ref wa, .ref sa, .int (iI (qs.length : Int)), .int (iI e), .int (iI 1)])), (wa, aI (K 0) 50 gw1), (sa, aF (K 3) 50 (va_up gs1 i.toNat (FP.fdiv (FP.i2f (iI ((qget qs i).2.2.2.2.1))) (FP.i2f (iI ((qget qs i).2.2.2.1)))))), (h1, .inr (4, [.ref oq, .ref r1, .ref r2, .ref r3, .ref r4, .ref r5, .ref r6, .int (iI (qs.length : Int)), .int (iI gz), .int (iI us), .int (iI pr), .int (iI mc), .int (iI ia), .int (iI it)])), (r1, aI (K 0) 50 gd), (r2, aI (K 0) 50 gm), (r3, aI (K 0) 50 ge), (r4, aI (K 0) 50 gv), (r5, aI (K 0) 50 gn), (r6, aI (K 0) 50 gt)]) rfl dX5_store_82 (fun H locs G => ?_)
          refine ad_iinc (lv' := [(3, .int (iI (i + 1))), (4, .float (FP.i2f (iI ((qget qs i).2.2.2.1)))), (0, .ref h0), (1, .ref h1), (2, .int (iI e))]) F dX5_store_83 hl (k := 4) rfl (by decide) rfl (fun ls hl => ?_)
          refine lv_goto (tgt := 20) F.1 F.2.1 dX5_store_86 (by decide) ?_
          exact ih20 (i + 1) gw1 (va_up gs1 i.toNat (FP.fdiv (FP.i2f (iI ((qget qs i).2.2.2.2.1))) (FP.i2f (iI ((qget qs i).2.2.2.1))))) _ _ _ (by omega) (fun z h1 h2 => (show z = i ∨ z < i by omega).elim (fun h => by rw [h, rowV_get hi.1 (by omega)]; exact ⟨fun h0 => absurd (show e = 0 by omega) h0, fun _ => va_upI_s _ _ _⟩) (fun h => by rw [va_upI_o h1 hi.1 (by omega)]; exact hv z h1 h)) (by omega) (G.perm (ws' := [(h0, .inr (5, [.ref wa, .ref sa, .int (iI (qs.length : Int)), .int (iI e), .int (iI 1)])), (wa, aI (K 0) 50 gw1), (sa, aF (K 3) 50 (va_up gs1 i.toNat (FP.fdiv (FP.i2f (iI ((qget qs i).2.2.2.2.1))) (FP.i2f (iI ((qget qs i).2.2.2.1)))))), (h1, .inr (4, [.ref oq, .ref r1, .ref r2, .ref r3, .ref r4, .ref r5, .ref r6, .int (iI (qs.length : Int)), .int (iI gz), .int (iI us), .int (iI pr), .int (iI mc), .int (iI ia), .int (iI it)])), (r1, aI (K 0) 50 gd), (r2, aI (K 0) 50 gm), (r3, aI (K 0) 50 ge), (r4, aI (K 0) 50 gv), (r5, aI (K 0) 50 gn), (r6, aI (K 0) 50 gt)]) [0, 1, 2, 3, 4, 5, 6, 7, 8, 9] rfl rfl) (lv_sub hl [2, 3, 4, 0] rfl)
        · refine lv_aload_n F.1 F.2.1 dX5_store_32 rfl (lv_at hl 0 rfl) ?_
          refine ad_get F G fl_X5_9 0 rfl rfl dX5_store_33 ?_
          refine lv_iload_n F.1 F.2.1 dX5_store_36 rfl (lv_at hl 3 rfl) ?_
          refine lv_aload_n F.1 F.2.1 dX5_store_37 rfl (lv_at hl 1 rfl) ?_
          refine ad_get F G fl_X5_35 3 rfl rfl dX5_store_38 ?_
          refine lv_iload_n F.1 F.2.1 dX5_store_41 rfl (lv_at hl 3 rfl) ?_
          refine ad_iald F G 8 rfl (w := (qget qs i).2.2.2.2.1) (by omega) (QRep_at hQ hi.1 (by omega)).2.2.2.2.1 dX5_store_42 ?_
          refine ad_iast F G 1 rfl (by omega) (ws' := [(h0, .inr (5, [.ref wa, .ref sa, .int (iI (qs.length : Int)), .int (iI e), .int (iI 1)])), (wa, aI (K 0) 50 (va_up gw1 i.toNat ((qget qs i).2.2.2.2.1))), (sa, aF (K 3) 50 gs1), (h1, .inr (4, [.ref oq, .ref r1, .ref r2, .ref r3, .ref r4, .ref r5, .ref r6, .int (iI (qs.length : Int)), .int (iI gz), .int (iI us), .int (iI pr), .int (iI mc), .int (iI ia), .int (iI it)])), (r1, aI (K 0) 50 gd), (r2, aI (K 0) 50 gm), (r3, aI (K 0) 50 ge), (r4, aI (K 0) 50 gv), (r5, aI (K 0) 50 gn), (r6, aI (K 0) 50 gt)]) rfl dX5_store_43 (fun H locs G => ?_)
          refine lv_goto (tgt := 83) F.1 F.2.1 dX5_store_44 (by decide) ?_
          refine ad_iinc (lv' := [(3, .int (iI (i + 1))), (0, .ref h0), (1, .ref h1), (2, .int (iI e))]) F dX5_store_83 hl (k := 3) rfl (by decide) rfl (fun ls hl => ?_)
          refine lv_goto (tgt := 20) F.1 F.2.1 dX5_store_86 (by decide) ?_
          exact ih20 (i + 1) (va_up gw1 i.toNat ((qget qs i).2.2.2.2.1)) gs1 _ _ _ (by omega) (fun z h1 h2 => (show z = i ∨ z < i by omega).elim (fun h => by rw [h, rowV_get hi.1 (by omega)]; exact ⟨fun _ => va_upI_s _ _ _, fun h0 => absurd h0 (by omega)⟩) (fun h => by rw [va_upI_o h1 hi.1 (by omega)]; exact hv z h1 h)) (by omega) (G.perm (ws' := [(h0, .inr (5, [.ref wa, .ref sa, .int (iI (qs.length : Int)), .int (iI e), .int (iI 1)])), (wa, aI (K 0) 50 (va_up gw1 i.toNat ((qget qs i).2.2.2.2.1))), (sa, aF (K 3) 50 gs1), (h1, .inr (4, [.ref oq, .ref r1, .ref r2, .ref r3, .ref r4, .ref r5, .ref r6, .int (iI (qs.length : Int)), .int (iI gz), .int (iI us), .int (iI pr), .int (iI mc), .int (iI ia), .int (iI it)])), (r1, aI (K 0) 50 gd), (r2, aI (K 0) 50 gm), (r3, aI (K 0) 50 ge), (r4, aI (K 0) 50 gv), (r5, aI (K 0) 50 gn), (r6, aI (K 0) 50 gt)]) [0, 1, 2, 3, 4, 5, 6, 7, 8, 9] rfl rfl) (lv_sub hl [1, 2, 3, 0] rfl)
  exact lp20 ((((qs.length - 0 : Int)) + 1).toNat) 0 gw gs _ _ _ (by omega) (fun z h1 h2 => by omega) (by omega) (G.perm (ws' := [(h0, .inr (5, [.ref wa, .ref sa, .int (iI (qs.length : Int)), .int (iI e), .int (iI 1)])), (wa, aI (K 0) 50 gw), (sa, aF (K 3) 50 gs), (h1, .inr (4, [.ref oq, .ref r1, .ref r2, .ref r3, .ref r4, .ref r5, .ref r6, .int (iI (qs.length : Int)), .int (iI gz), .int (iI us), .int (iI pr), .int (iI mc), .int (iI ia), .int (iI it)])), (r1, aI (K 0) 50 gd), (r2, aI (K 0) 50 gm), (r3, aI (K 0) 50 ge), (r4, aI (K 0) 50 gv), (r5, aI (K 0) 50 gn), (r6, aI (K 0) 50 gt)]) [0, 1, 2, 3, 4, 5, 6, 7, 8, 9] rfl rfl) (lv_sub hl [1, 2, 3, 0] rfl)
