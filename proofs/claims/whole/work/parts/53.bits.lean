def rm_X10_bitsOf : Room := { frames := 1, cells := 0, slots := 0, locals := 12 }
set_option maxHeartbeats 4000000 in
set_option maxRecDepth 100000 in
theorem c_X10_bitsOf (l : Launch) (D : va_G) (K : Nat → ClassId) (z0 : Nat) (x : UInt32) (hx : bitOk x = true) : CT l D K z0 yX10_bitsOf cX10_bitsOf 4 (some .int) rm_X10_bitsOf [.float x] [] (fun v9 u9 => v9 = some (.int (iI (bitV x))) ∧ u9 = []) := by
  refine CT.start RX10 "bitsOf" (by decide) rfl rfl (Nat.le_of_ble_eq_true rfl) ?_
  intro p9 e9 s9 m9 ag9 bl9 mt9 c9 A9 Q9 ls F G hR hl
  have hl : lv_has ls 4 [(0, .float x)] := hl
  have hcx := cmpG_r x 0
  have hb1 : ¬ cmpG x 0 ≤ 0 → (((simA 128 x 127).2.2 = true ∧ (simB 126 (simA 128 x 127).1 (simA 128 x 127).2.1).2.2 = true) ∧ n32b (FP.fsub (bitE x).1 0x3f800000) = true) ∧ n32b (FP.fmul (FP.fsub (bitE x).1 0x3f800000) 0x4b000000) = true := fun h => by
    unfold bitOk at hx
    rw [decide_eq_false h, Bool.false_or] at hx
    simp only [Bool.and_eq_true] at hx
    exact hx
  refine lv_fload_n F.1 F.2.1 dX10_bitsOf_0 rfl (lv_at hl 0 rfl) ?_
  refine lv_fconst0 F.1 F.2.1 dX10_bitsOf_1 ?_
  refine lv_fcmp F.1 F.2.1 dX10_bitsOf_2 ?_
  refine ad_top32 (y := cmpG x (0 : UInt32)) (iI_of _) ?_
  refine ad_if_gt (tgt := 8) F (by omega) dX10_bitsOf_3 (by decide) (fun cc_1 => ?_) (fun cc_1 => ?_)
  · refine lv_fload_n F.1 F.2.1 dX10_bitsOf_8 rfl (lv_at hl 0 rfl) ?_
    refine lv_fstore_n (lv' := [(1, .float x), (0, .float x)]) F.1 F.2.1 dX10_bitsOf_9 rfl hl (by decide) rfl (fun ls hl => ?_)
    refine ad_bipush F dX10_bitsOf_10 (by decide) ?_
    refine lv_istore_n (lv' := [(2, .int (iI 127)), (1, .float x), (0, .float x)]) F.1 F.2.1 dX10_bitsOf_12 rfl hl (by decide) rfl (fun ls hl => ?_)
    refine ad_iconst F dX10_bitsOf_13 ?_
    refine lv_istore_n (lv' := [(3, .int (iI 0)), (2, .int (iI 127)), (1, .float x), (0, .float x)]) F.1 F.2.1 dX10_bitsOf_14 rfl hl (by decide) rfl (fun ls hl => ?_)
    have lp15 : ∀ (n15 : Nat) (sc : UInt32) (e : Int) (k : Int) (H : Heap) (locs : List Loc) (ls : Array Slot), (0 ≤ k ∧ k ≤ 128) → (inA x k sc e) → (128 - k) < (n15 : Int) → ad_G D A9 s9.heap H locs [] → lv_has ls 4 [(0, .float x), (1, .float sc), (2, .int (iI e)), (3, .int (iI k))] → W p9 l e9 rm_X10_bitsOf s9 m9 ag9 bl9 mt9 c9 H locs 0 0 Q9 (F0 m9 15 ls []) := by
      intro n15
      induction n15 with
      | zero =>
        intro sc e k H locs ls hk hA hm15
        exact absurd hm15 (by omega)
      | succ n15 ih15 =>
        intro sc e k H locs ls hk hA hm15 G hl
        have hcs := cmpI_r sc (0x40000000 : UInt32)
        refine lv_iload_n F.1 F.2.1 dX10_bitsOf_15 rfl (lv_at hl 3 rfl) ?_
        refine ad_sipush F dX10_bitsOf_16 (by decide) ?_
        refine ad_icmp_ge (tgt := 41) F (by omega) dX10_bitsOf_19 (by decide) (fun cc_2 => ?_) (fun cc_2 => ?_)
        · refine ad_iconst F dX10_bitsOf_41 ?_
          refine lv_istore_n (lv' := [(3, .int (iI 0)), (0, .float x), (1, .float sc), (2, .int (iI e))]) F.1 F.2.1 dX10_bitsOf_42 rfl hl (by decide) rfl (fun ls hl => ?_)
          have lp43 : ∀ (n43 : Nat) (sd : UInt32) (e2 : Int) (k2 : Int) (H : Heap) (locs : List Loc) (ls : Array Slot), (0 ≤ k2 ∧ k2 ≤ 126) → (inB (simA 128 x 127).1 (simA 128 x 127).2.1 k2 sd e2) → (126 - k2) < (n43 : Int) → ad_G D A9 s9.heap H locs [] → lv_has ls 4 [(0, .float x), (1, .float sd), (2, .int (iI e2)), (3, .int (iI k2))] → W p9 l e9 rm_X10_bitsOf s9 m9 ag9 bl9 mt9 c9 H locs 0 0 Q9 (F0 m9 43 ls []) := by
            intro n43
            induction n43 with
            | zero =>
              intro sd e2 k2 H locs ls hk2 hB hm43
              exact absurd hm43 (by omega)
            | succ n43 ih43 =>
              intro sd e2 k2 H locs ls hk2 hB hm43 G hl
              have hcs2 := cmpG_r sd (0x3f800000 : UInt32)
              refine lv_iload_n F.1 F.2.1 dX10_bitsOf_43 rfl (lv_at hl 3 rfl) ?_
              refine ad_bipush F dX10_bitsOf_44 (by decide) ?_
              refine ad_icmp_ge (tgt := 68) F (by omega) dX10_bitsOf_46 (by decide) (fun cc_3 => ?_) (fun cc_3 => ?_)
              · refine lv_iload_n F.1 F.2.1 dX10_bitsOf_68 rfl (lv_at hl 2 rfl) ?_
                refine ad_bipush F dX10_bitsOf_69 (by decide) ?_
                refine lv_ishl F.1 F.2.1 dX10_bitsOf_71 ?_
                refine ad_top32 (y := (iI e2 <<< (iI 23 &&& 31)).toInt) (iI_of _) ?_
                refine lv_fload_n F.1 F.2.1 dX10_bitsOf_72 rfl (lv_at hl 1 rfl) ?_
                refine lv_fconst1 F.1 F.2.1 dX10_bitsOf_73 ?_
                refine lv_fsub F.1 F.2.1 dX10_bitsOf_74 (n32b_ok (by obtain ⟨q1, q2⟩ := inB_e hB (by omega); rw [q1]; exact (hb1 (by omega)).1.2)) ?_
                refine ad_ldcwf (v := 1258291200) F (ad_mt (List.mem_of_getElem? (i := 1185) (by decide +kernel)) (by decide +kernel)) dX10_bitsOf_75 ?_
                refine lv_fmul F.1 F.2.1 dX10_bitsOf_78 (n32b_ok (by obtain ⟨q1, q2⟩ := inB_e hB (by omega); rw [q1]; exact (hb1 (by omega)).2)) ?_
                refine lv_f2i F.1 F.2.1 dX10_bitsOf_79 ?_
                refine ad_top32 (y := (FP.f2i (FP.fmul (FP.fsub sd (0x3f800000 : UInt32)) (1258291200 : UInt32))).toInt) (iI_of _) ?_
                refine lv_ior F.1 F.2.1 dX10_bitsOf_80 ?_
                refine ad_top32 (y := (iI ((iI e2 <<< (iI 23 &&& 31)).toInt) ||| iI ((FP.f2i (FP.fmul (FP.fsub sd (0x3f800000 : UInt32)) (1258291200 : UInt32))).toInt)).toInt) (iI_of _) ?_
                exact ad_ireturn F G hR rfl (Nat.le_of_ble_eq_true rfl) (Nat.le_of_ble_eq_true rfl) ⟨(ad_eqi (by obtain ⟨q1, q2⟩ := inB_e hB (by omega); unfold bitV; rw [if_neg (by omega), q1, q2, ← iI_of, ← iI_of]; rfl)), rfl⟩ dX10_bitsOf_81
              · refine lv_fload_n F.1 F.2.1 dX10_bitsOf_49 rfl (lv_at hl 1 rfl) ?_
                refine lv_fconst1 F.1 F.2.1 dX10_bitsOf_50 ?_
                refine lv_fcmp F.1 F.2.1 dX10_bitsOf_51 ?_
                refine ad_top32 (y := cmpG sd (0x3f800000 : UInt32)) (iI_of _) ?_
                refine ad_if_ge (tgt := 68) F (by omega) dX10_bitsOf_52 (by decide) (fun cc_4 => ?_) (fun cc_4 => ?_)
                · refine lv_iload_n F.1 F.2.1 dX10_bitsOf_68 rfl (lv_at hl 2 rfl) ?_
                  refine ad_bipush F dX10_bitsOf_69 (by decide) ?_
                  refine lv_ishl F.1 F.2.1 dX10_bitsOf_71 ?_
                  refine ad_top32 (y := (iI e2 <<< (iI 23 &&& 31)).toInt) (iI_of _) ?_
                  refine lv_fload_n F.1 F.2.1 dX10_bitsOf_72 rfl (lv_at hl 1 rfl) ?_
                  refine lv_fconst1 F.1 F.2.1 dX10_bitsOf_73 ?_
                  refine lv_fsub F.1 F.2.1 dX10_bitsOf_74 (n32b_ok (by obtain ⟨q1, q2⟩ := inB_e hB (by omega); rw [q1]; exact (hb1 (by omega)).1.2)) ?_
                  refine ad_ldcwf (v := 1258291200) F (ad_mt (List.mem_of_getElem? (i := 1185) (by decide +kernel)) (by decide +kernel)) dX10_bitsOf_75 ?_
                  refine lv_fmul F.1 F.2.1 dX10_bitsOf_78 (n32b_ok (by obtain ⟨q1, q2⟩ := inB_e hB (by omega); rw [q1]; exact (hb1 (by omega)).2)) ?_
                  refine lv_f2i F.1 F.2.1 dX10_bitsOf_79 ?_
                  refine ad_top32 (y := (FP.f2i (FP.fmul (FP.fsub sd (0x3f800000 : UInt32)) (1258291200 : UInt32))).toInt) (iI_of _) ?_
                  refine lv_ior F.1 F.2.1 dX10_bitsOf_80 ?_
                  refine ad_top32 (y := (iI ((iI e2 <<< (iI 23 &&& 31)).toInt) ||| iI ((FP.f2i (FP.fmul (FP.fsub sd (0x3f800000 : UInt32)) (1258291200 : UInt32))).toInt)).toInt) (iI_of _) ?_
                  exact ad_ireturn F G hR rfl (Nat.le_of_ble_eq_true rfl) (Nat.le_of_ble_eq_true rfl) ⟨(ad_eqi (by obtain ⟨q1, q2⟩ := inB_e hB (by omega); unfold bitV; rw [if_neg (by omega), q1, q2, ← iI_of, ← iI_of]; rfl)), rfl⟩ dX10_bitsOf_81
                · refine lv_fload_n F.1 F.2.1 dX10_bitsOf_55 rfl (lv_at hl 1 rfl) ?_
                  refine lv_fconst2 F.1 F.2.1 dX10_bitsOf_56 ?_
                  refine lv_fmul F.1 F.2.1 dX10_bitsOf_57 (n32b_ok (inB_s hB (by omega) (by omega)).1) ?_
                  refine lv_fstore_n (lv' := [(1, .float (FP.fmul sd (0x40000000 : UInt32))), (0, .float x), (2, .int (iI e2)), (3, .int (iI k2))]) F.1 F.2.1 dX10_bitsOf_58 rfl hl (by decide) rfl (fun ls hl => ?_)
                  refine ad_iinc (lv' := [(2, .int (iI (e2 + (-1)))), (1, .float (FP.fmul sd (0x40000000 : UInt32))), (0, .float x), (3, .int (iI k2))]) F dX10_bitsOf_59 hl (k := 2) rfl (by decide) rfl (fun ls hl => ?_)
                  refine ad_iinc (lv' := [(3, .int (iI (k2 + 1))), (2, .int (iI (e2 + (-1)))), (1, .float (FP.fmul sd (0x40000000 : UInt32))), (0, .float x)]) F dX10_bitsOf_62 hl (k := 3) rfl (by decide) rfl (fun ls hl => ?_)
                  refine lv_goto (tgt := 43) F.1 F.2.1 dX10_bitsOf_65 (by decide) ?_
                  exact ih43 (FP.fmul sd (0x40000000 : UInt32)) (e2 + (-1)) (k2 + 1) _ _ _ (by omega) (by have := (inB_s hB (by omega) (by omega)).2; exact this) (by omega) (G.perm (ws' := []) [] rfl rfl) (lv_sub hl [3, 2, 1, 0] rfl)
          exact lp43 ((((126 - 0 : Int)) + 1).toNat) sc e 0 _ _ _ (by omega) (by obtain ⟨q1, q2⟩ := inA_e hA (by omega); rw [q1, q2]; exact ⟨rfl, rfl, (hb1 (by omega)).1.1.2⟩) (by omega) (G.perm (ws' := []) [] rfl rfl) (lv_sub hl [1, 2, 3, 0] rfl)
        · refine lv_fload_n F.1 F.2.1 dX10_bitsOf_22 rfl (lv_at hl 1 rfl) ?_
          refine lv_fconst2 F.1 F.2.1 dX10_bitsOf_23 ?_
          refine lv_fcmp F.1 F.2.1 dX10_bitsOf_24 ?_
          refine ad_top32 (y := cmpI sc (0x40000000 : UInt32)) (iI_of _) ?_
          refine ad_if_lt (tgt := 41) F (by omega) dX10_bitsOf_25 (by decide) (fun cc_5 => ?_) (fun cc_5 => ?_)
          · refine ad_iconst F dX10_bitsOf_41 ?_
            refine lv_istore_n (lv' := [(3, .int (iI 0)), (0, .float x), (1, .float sc), (2, .int (iI e))]) F.1 F.2.1 dX10_bitsOf_42 rfl hl (by decide) rfl (fun ls hl => ?_)
            have lp43 : ∀ (n43 : Nat) (sd : UInt32) (e2 : Int) (k2 : Int) (H : Heap) (locs : List Loc) (ls : Array Slot), (0 ≤ k2 ∧ k2 ≤ 126) → (inB (simA 128 x 127).1 (simA 128 x 127).2.1 k2 sd e2) → (126 - k2) < (n43 : Int) → ad_G D A9 s9.heap H locs [] → lv_has ls 4 [(0, .float x), (1, .float sd), (2, .int (iI e2)), (3, .int (iI k2))] → W p9 l e9 rm_X10_bitsOf s9 m9 ag9 bl9 mt9 c9 H locs 0 0 Q9 (F0 m9 43 ls []) := by
              intro n43
              induction n43 with
              | zero =>
                intro sd e2 k2 H locs ls hk2 hB hm43
                exact absurd hm43 (by omega)
              | succ n43 ih43 =>
                intro sd e2 k2 H locs ls hk2 hB hm43 G hl
                have hcs2 := cmpG_r sd (0x3f800000 : UInt32)
                refine lv_iload_n F.1 F.2.1 dX10_bitsOf_43 rfl (lv_at hl 3 rfl) ?_
                refine ad_bipush F dX10_bitsOf_44 (by decide) ?_
                refine ad_icmp_ge (tgt := 68) F (by omega) dX10_bitsOf_46 (by decide) (fun cc_6 => ?_) (fun cc_6 => ?_)
                · refine lv_iload_n F.1 F.2.1 dX10_bitsOf_68 rfl (lv_at hl 2 rfl) ?_
                  refine ad_bipush F dX10_bitsOf_69 (by decide) ?_
                  refine lv_ishl F.1 F.2.1 dX10_bitsOf_71 ?_
                  refine ad_top32 (y := (iI e2 <<< (iI 23 &&& 31)).toInt) (iI_of _) ?_
                  refine lv_fload_n F.1 F.2.1 dX10_bitsOf_72 rfl (lv_at hl 1 rfl) ?_
                  refine lv_fconst1 F.1 F.2.1 dX10_bitsOf_73 ?_
                  refine lv_fsub F.1 F.2.1 dX10_bitsOf_74 (n32b_ok (by obtain ⟨q1, q2⟩ := inB_e hB (by omega); rw [q1]; exact (hb1 (by omega)).1.2)) ?_
                  refine ad_ldcwf (v := 1258291200) F (ad_mt (List.mem_of_getElem? (i := 1185) (by decide +kernel)) (by decide +kernel)) dX10_bitsOf_75 ?_
                  refine lv_fmul F.1 F.2.1 dX10_bitsOf_78 (n32b_ok (by obtain ⟨q1, q2⟩ := inB_e hB (by omega); rw [q1]; exact (hb1 (by omega)).2)) ?_
                  refine lv_f2i F.1 F.2.1 dX10_bitsOf_79 ?_
                  refine ad_top32 (y := (FP.f2i (FP.fmul (FP.fsub sd (0x3f800000 : UInt32)) (1258291200 : UInt32))).toInt) (iI_of _) ?_
                  refine lv_ior F.1 F.2.1 dX10_bitsOf_80 ?_
                  refine ad_top32 (y := (iI ((iI e2 <<< (iI 23 &&& 31)).toInt) ||| iI ((FP.f2i (FP.fmul (FP.fsub sd (0x3f800000 : UInt32)) (1258291200 : UInt32))).toInt)).toInt) (iI_of _) ?_
                  exact ad_ireturn F G hR rfl (Nat.le_of_ble_eq_true rfl) (Nat.le_of_ble_eq_true rfl) ⟨(ad_eqi (by obtain ⟨q1, q2⟩ := inB_e hB (by omega); unfold bitV; rw [if_neg (by omega), q1, q2, ← iI_of, ← iI_of]; rfl)), rfl⟩ dX10_bitsOf_81
                · refine lv_fload_n F.1 F.2.1 dX10_bitsOf_49 rfl (lv_at hl 1 rfl) ?_
                  refine lv_fconst1 F.1 F.2.1 dX10_bitsOf_50 ?_
                  refine lv_fcmp F.1 F.2.1 dX10_bitsOf_51 ?_
                  refine ad_top32 (y := cmpG sd (0x3f800000 : UInt32)) (iI_of _) ?_
                  refine ad_if_ge (tgt := 68) F (by omega) dX10_bitsOf_52 (by decide) (fun cc_7 => ?_) (fun cc_7 => ?_)
                  · refine lv_iload_n F.1 F.2.1 dX10_bitsOf_68 rfl (lv_at hl 2 rfl) ?_
                    refine ad_bipush F dX10_bitsOf_69 (by decide) ?_
                    refine lv_ishl F.1 F.2.1 dX10_bitsOf_71 ?_
                    refine ad_top32 (y := (iI e2 <<< (iI 23 &&& 31)).toInt) (iI_of _) ?_
                    refine lv_fload_n F.1 F.2.1 dX10_bitsOf_72 rfl (lv_at hl 1 rfl) ?_
                    refine lv_fconst1 F.1 F.2.1 dX10_bitsOf_73 ?_
                    refine lv_fsub F.1 F.2.1 dX10_bitsOf_74 (n32b_ok (by obtain ⟨q1, q2⟩ := inB_e hB (by omega); rw [q1]; exact (hb1 (by omega)).1.2)) ?_
                    refine ad_ldcwf (v := 1258291200) F (ad_mt (List.mem_of_getElem? (i := 1185) (by decide +kernel)) (by decide +kernel)) dX10_bitsOf_75 ?_
                    refine lv_fmul F.1 F.2.1 dX10_bitsOf_78 (n32b_ok (by obtain ⟨q1, q2⟩ := inB_e hB (by omega); rw [q1]; exact (hb1 (by omega)).2)) ?_
                    refine lv_f2i F.1 F.2.1 dX10_bitsOf_79 ?_
                    refine ad_top32 (y := (FP.f2i (FP.fmul (FP.fsub sd (0x3f800000 : UInt32)) (1258291200 : UInt32))).toInt) (iI_of _) ?_
                    refine lv_ior F.1 F.2.1 dX10_bitsOf_80 ?_
                    refine ad_top32 (y := (iI ((iI e2 <<< (iI 23 &&& 31)).toInt) ||| iI ((FP.f2i (FP.fmul (FP.fsub sd (0x3f800000 : UInt32)) (1258291200 : UInt32))).toInt)).toInt) (iI_of _) ?_
                    exact ad_ireturn F G hR rfl (Nat.le_of_ble_eq_true rfl) (Nat.le_of_ble_eq_true rfl) ⟨(ad_eqi (by obtain ⟨q1, q2⟩ := inB_e hB (by omega); unfold bitV; rw [if_neg (by omega), q1, q2, ← iI_of, ← iI_of]; rfl)), rfl⟩ dX10_bitsOf_81
                  · refine lv_fload_n F.1 F.2.1 dX10_bitsOf_55 rfl (lv_at hl 1 rfl) ?_
                    refine lv_fconst2 F.1 F.2.1 dX10_bitsOf_56 ?_
                    refine lv_fmul F.1 F.2.1 dX10_bitsOf_57 (n32b_ok (inB_s hB (by omega) (by omega)).1) ?_
                    refine lv_fstore_n (lv' := [(1, .float (FP.fmul sd (0x40000000 : UInt32))), (0, .float x), (2, .int (iI e2)), (3, .int (iI k2))]) F.1 F.2.1 dX10_bitsOf_58 rfl hl (by decide) rfl (fun ls hl => ?_)
                    refine ad_iinc (lv' := [(2, .int (iI (e2 + (-1)))), (1, .float (FP.fmul sd (0x40000000 : UInt32))), (0, .float x), (3, .int (iI k2))]) F dX10_bitsOf_59 hl (k := 2) rfl (by decide) rfl (fun ls hl => ?_)
                    refine ad_iinc (lv' := [(3, .int (iI (k2 + 1))), (2, .int (iI (e2 + (-1)))), (1, .float (FP.fmul sd (0x40000000 : UInt32))), (0, .float x)]) F dX10_bitsOf_62 hl (k := 3) rfl (by decide) rfl (fun ls hl => ?_)
                    refine lv_goto (tgt := 43) F.1 F.2.1 dX10_bitsOf_65 (by decide) ?_
                    exact ih43 (FP.fmul sd (0x40000000 : UInt32)) (e2 + (-1)) (k2 + 1) _ _ _ (by omega) (by have := (inB_s hB (by omega) (by omega)).2; exact this) (by omega) (G.perm (ws' := []) [] rfl rfl) (lv_sub hl [3, 2, 1, 0] rfl)
            exact lp43 ((((126 - 0 : Int)) + 1).toNat) sc e 0 _ _ _ (by omega) (by obtain ⟨q1, q2⟩ := inA_e hA (by omega); rw [q1, q2]; exact ⟨rfl, rfl, (hb1 (by omega)).1.1.2⟩) (by omega) (G.perm (ws' := []) [] rfl rfl) (lv_sub hl [1, 2, 3, 0] rfl)
          · refine lv_fload_n F.1 F.2.1 dX10_bitsOf_28 rfl (lv_at hl 1 rfl) ?_
            refine lv_fconst2 F.1 F.2.1 dX10_bitsOf_29 ?_
            refine lv_fdiv F.1 F.2.1 dX10_bitsOf_30 (n32b_ok (inA_s hA (by omega) (by omega)).1) ?_
            refine lv_fstore_n (lv' := [(1, .float (FP.fdiv sc (0x40000000 : UInt32))), (0, .float x), (2, .int (iI e)), (3, .int (iI k))]) F.1 F.2.1 dX10_bitsOf_31 rfl hl (by decide) rfl (fun ls hl => ?_)
            refine ad_iinc (lv' := [(2, .int (iI (e + 1))), (1, .float (FP.fdiv sc (0x40000000 : UInt32))), (0, .float x), (3, .int (iI k))]) F dX10_bitsOf_32 hl (k := 2) rfl (by decide) rfl (fun ls hl => ?_)
            refine ad_iinc (lv' := [(3, .int (iI (k + 1))), (2, .int (iI (e + 1))), (1, .float (FP.fdiv sc (0x40000000 : UInt32))), (0, .float x)]) F dX10_bitsOf_35 hl (k := 3) rfl (by decide) rfl (fun ls hl => ?_)
            refine lv_goto (tgt := 15) F.1 F.2.1 dX10_bitsOf_38 (by decide) ?_
            exact ih15 (FP.fdiv sc (0x40000000 : UInt32)) (e + 1) (k + 1) _ _ _ (by omega) (by have := (inA_s hA (by omega) (by omega)).2; exact this) (by omega) (G.perm (ws' := []) [] rfl rfl) (lv_sub hl [3, 2, 1, 0] rfl)
    exact lp15 ((((128 - 0 : Int)) + 1).toNat) x 127 0 _ _ _ (by omega) ⟨rfl, rfl, (hb1 (by omega)).1.1.1⟩ (by omega) (G.perm (ws' := []) [] rfl rfl) (lv_sub hl [3, 2, 1, 0] rfl)
  · refine ad_iconst F dX10_bitsOf_6 ?_
    exact ad_ireturn F G hR rfl (Nat.le_of_ble_eq_true rfl) (Nat.le_of_ble_eq_true rfl) ⟨(ad_eqi (by unfold bitV; rw [if_pos (by omega)])), rfl⟩ dX10_bitsOf_7
