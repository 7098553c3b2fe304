theorem lkL_13 : Cond.classLink RL 13 "java/lang/IllegalArgumentException" ∈ BIG := (ad_mt (List.mem_of_getElem? (i := 476) (by decide +kernel)) (by decide +kernel))
theorem csL_13 : Cond.castable "java/lang/IllegalArgumentException" "java/lang/IllegalArgumentException" ∈ tables_1 ∧ ad_soft (Cond.castable "java/lang/IllegalArgumentException" "java/lang/IllegalArgumentException") = true := ⟨List.mem_of_getElem? (i := 484) (by decide +kernel), by decide +kernel⟩
theorem exL_13 : "java/lang/IllegalArgumentException" ∈ ad_exs := by simp [ad_exs]
theorem lkL_15 : Cond.classLink RL 15 "java/lang/UnsupportedOperationException" ∈ BIG := (ad_mt (List.mem_of_getElem? (i := 477) (by decide +kernel)) (by decide +kernel))
theorem csL_15 : Cond.castable "java/lang/UnsupportedOperationException" "java/lang/UnsupportedOperationException" ∈ tables_1 ∧ ad_soft (Cond.castable "java/lang/UnsupportedOperationException" "java/lang/UnsupportedOperationException") = true := ⟨List.mem_of_getElem? (i := 553) (by decide +kernel), by decide +kernel⟩
theorem exL_15 : "java/lang/UnsupportedOperationException" ∈ ad_exs := by simp [ad_exs]
theorem lkL_21 : Cond.classLink RL 21 "java/lang/IndexOutOfBoundsException" ∈ BIG := (ad_mt (List.mem_of_getElem? (i := 573) (by decide +kernel)) (by decide +kernel))
theorem csL_21 : Cond.castable "java/lang/IndexOutOfBoundsException" "java/lang/IndexOutOfBoundsException" ∈ tables_1 ∧ ad_soft (Cond.castable "java/lang/IndexOutOfBoundsException" "java/lang/IndexOutOfBoundsException") = true := ⟨List.mem_of_getElem? (i := 624) (by decide +kernel), by decide +kernel⟩
theorem exL_21 : "java/lang/IndexOutOfBoundsException" ∈ ad_exs := by simp [ad_exs]
theorem lkL_23 : Cond.classLink RL 23 "java/lang/IllegalStateException" ∈ BIG := (ad_mt (List.mem_of_getElem? (i := 606) (by decide +kernel)) (by decide +kernel))
theorem csL_23 : Cond.castable "java/lang/IllegalStateException" "java/lang/IllegalStateException" ∈ tables_1 ∧ ad_soft (Cond.castable "java/lang/IllegalStateException" "java/lang/IllegalStateException") = true := ⟨List.mem_of_getElem? (i := 666) (by decide +kernel), by decide +kernel⟩
theorem exL_23 : "java/lang/IllegalStateException" ∈ ad_exs := by simp [ad_exs]
theorem lkL_49 : Cond.classLink RL 49 "java/util/NoSuchElementException" ∈ BIG := (ad_mt (List.mem_of_getElem? (i := 793) (by decide +kernel)) (by decide +kernel))
theorem csL_49 : Cond.castable "java/util/NoSuchElementException" "java/util/NoSuchElementException" ∈ tables_1 ∧ ad_soft (Cond.castable "java/util/NoSuchElementException" "java/util/NoSuchElementException") = true := ⟨List.mem_of_getElem? (i := 801) (by decide +kernel), by decide +kernel⟩
theorem exL_49 : "java/util/NoSuchElementException" ∈ ad_exs := by simp [ad_exs]
theorem lkL_111 : Cond.classLink RL 111 "java/lang/ArithmeticException" ∈ BIG := (ad_mt (List.mem_of_getElem? (i := 1118) (by decide +kernel)) (by decide +kernel))
theorem csL_111 : Cond.castable "java/lang/ArithmeticException" "java/lang/ArithmeticException" ∈ tables_1 ∧ ad_soft (Cond.castable "java/lang/ArithmeticException" "java/lang/ArithmeticException") = true := ⟨List.mem_of_getElem? (i := 1130) (by decide +kernel), by decide +kernel⟩
theorem exL_111 : "java/lang/ArithmeticException" ∈ ad_exs := by simp [ad_exs]
def rmD : Room := { frames := 10, cells := 4, slots := 1214, locals := 200 }
def rmL : Room := { frames := 11, cells := 4, slots := 1214, locals := 240 }
section WRP2
variable {p : Program} {l : Launch} {e : Env} {R : Room} {s : State} {m : MethodId} {args : Array Value} {below : List Frame} {meth : Method} {c : Code} {H : Heap} {locs : List Loc} {cells slots : Nat} {Q : State → Prop}
variable {own nm : String} {cc : ByteArray} {nL : Nat} {ret : Option FieldType} {D : va_G} {K : Nat → ClassId} {z0 : Nat} {A : Nat → Prop} {ws : va_W} {pc : Nat} {ls : Array Slot} {rest : List Value} {a : Nat}
theorem ad_dast (F : ad_F p s m args meth c own nm cc nL ret D K z0 A) (G : ad_G D A s.heap H locs ws) (q0 : Nat) {n : Nat} {g : Nat → UInt64} (he : ws[q0]? = some (a, aD (K 9) n g)) {z : Int} {w : UInt64} (hz : 0 ≤ z ∧ z < n ∧ z < 2147483648) {ws' : va_W} (hw : ws.set q0 (a, aD (K 9) n (vf_upd g z.toNat w)) = ws') (d : decode cc pc = .ok (.dastore, 1)) (k : ∀ (H : Heap) (locs : List Loc), ad_G D A s.heap H locs ws' → W p l e R s m args below meth c H locs cells slots Q (F0 m (pc + 1) ls rest)) : W p l e R s m args below meth c H locs cells slots Q (F0 m pc ls (.double w :: .int (iI z) :: .ref a :: rest)) := by
  subst hw
  refine va_dast (D := D) F.1 F.2.1 F.2.2.2.2.2.2.2.1 G.1 G.2.1 G.2.2 q0 9 he rfl (iI_in hz) d (fun H1 l1 a1 a2 a3 => ?_)
  rw [iI_cl ⟨hz.1, hz.2.2⟩] at a1 a2
  exact k H1 l1 ⟨a1, a2, a3⟩
end WRP2
def hL_append : List (Nat × Nat × Nat × Nat) := [(0, 9, 12, 13), (0, 9, 15, 15)]
set_option maxRecDepth 100000 in
theorem w_append (l : Launch) (D : va_G) (K : Nat → ClassId) (z0 : Nat) (d0 : Nat) (o : Nat) (fs : List Value) (wD : va_W) (go : Nat → Int64) (a1 : Int) (PR : Int → List Value → va_W → Prop) (PX : Int → List Value → va_W → Prop)
    (M : CX l D K z0 yX10_append cX10_append 2 (some .int) rmD [.ref d0, .int (iI a1)] ((d0, .inr (10, fs)) :: wD) (fun v u => ∃ (z : Int) (fs2 : List Value) (wD2 : va_W), v = some (.int (iI z)) ∧ PR z fs2 wD2 ∧ u = (d0, .inr (10, fs2)) :: wD2) (fun E u => ∃ (fs2 : List Value) (wD2 : va_W), u = (d0, .inr (10, fs2)) :: wD2 ∧ ((E = "java/lang/IllegalArgumentException" ∧ PX 1 fs2 wD2) ∨ (E = "java/lang/UnsupportedOperationException" ∧ PX 2 fs2 wD2)))) :
    CH l D K z0 yL_append cL_append 4 (some .int) hL_append rmL [.ref d0, .int (iI a1), .ref o] ((d0, .inr (10, fs)) :: (o, aJ (K 1) 1 go) :: wD) (fun v u => (∃ (z : Int) (fs2 : List Value) (wD2 : va_W), v = some (.int (iI 0)) ∧ PR z fs2 wD2 ∧ u = (d0, .inr (10, fs2)) :: (o, aJ (K 1) 1 (va_up go 0 (iI z).toInt64)) :: wD2) ∨ (∃ (k : Int) (fs2 : List Value) (wD2 : va_W), v = some (.int (iI k)) ∧ (1 ≤ k ∧ k ≤ 2) ∧ PX k fs2 wD2 ∧ u = (d0, .inr (10, fs2)) :: (o, aJ (K 1) 1 go) :: wD2)) := by
  refine CH.start RL "append" (by decide) rfl rfl (Nat.le_of_ble_eq_true rfl) ?_
  intro p9 e9 s9 m9 ag9 bl9 mt9 c9 A9 Q9 ls F G hR ht hl
  have hl : lv_has ls 4 [(0, .ref d0), (1, .int (iI a1)), (2, .ref o)] := hl
  refine lv_aload_n F.1 F.2.1 dL_append_0 rfl (lv_at hl 2 rfl) ?_
  refine ad_iconst F dL_append_1 ?_
  refine lv_aload_n F.1 F.2.1 dL_append_2 rfl (lv_at hl 0 rfl) ?_
  refine lv_iload_n F.1 F.2.1 dL_append_3 rfl (lv_at hl 1 rfl) ?_
  refine ad_wcall (As := [.int (iI a1)]) (rest := [.int (iI 0), .ref o]) F G M my_X10_append mv_L_7 rfl rfl rfl ⟨Nat.le_of_ble_eq_true rfl, Nat.le_of_ble_eq_true rfl⟩ ⟨Nat.le_of_ble_eq_true rfl, Nat.le_of_ble_eq_true rfl⟩ (Nat.le_of_ble_eq_true rfl) hl.1 ⟨rfl, rfl⟩ dL_append_4 (fun E9 u9 H locs ce q hpx G hce hcv hcl => ?_) (fun v9 u9 H locs hps G => ?_)
  · obtain ⟨fs2, wD2, rfl, hpx⟩ := hpx
    replace G := G.pm (List.Perm.swap (d0, .inr (10, fs2)) (o, aJ (K 1) 1 go) wD2)
    rcases hpx with ⟨rfl, hpx⟩ | ⟨rfl, hpx⟩
    · refine ad_catch (hh := hL_append) F G ht 0 (x1 := 0) (x2 := 9) (x3 := 12) (x4 := 13) rfl exL_13 rfl (by decide) lkL_13 csL_13 (by intro z hz; cases hz) hce hcv hcl ?_
      refine lv_astore_n (lv' := [(3, .ref q), (0, .ref d0), (1, .int (iI a1)), (2, .ref o)]) F.1 F.2.1 dL_append_12 rfl hl (by decide) rfl (fun ls hl => ?_)
      refine ad_iconst F dL_append_13 ?_
      exact ad_ireturn F G hR rfl (Nat.le_of_ble_eq_true rfl) (Nat.le_of_ble_eq_true rfl) (Or.inr ⟨1, fs2, wD2, rfl, by decide, hpx, rfl⟩) dL_append_14
    · refine ad_catch (hh := hL_append) F G ht 1 (x1 := 0) (x2 := 9) (x3 := 15) (x4 := 15) rfl exL_15 rfl (by decide) lkL_15 csL_15 (by exact List.forall_mem_cons.mpr ⟨⟨by decide, "java/lang/IllegalArgumentException", exL_13, by decide, lkL_13⟩, (fun _ h => absurd h List.not_mem_nil)⟩) hce hcv hcl ?_
      refine lv_astore_n (lv' := [(3, .ref q), (0, .ref d0), (1, .int (iI a1)), (2, .ref o)]) F.1 F.2.1 dL_append_15 rfl hl (by decide) rfl (fun ls hl => ?_)
      refine ad_iconst F dL_append_16 ?_
      exact ad_ireturn F G hR rfl (Nat.le_of_ble_eq_true rfl) (Nat.le_of_ble_eq_true rfl) (Or.inr ⟨2, fs2, wD2, rfl, by decide, hpx, rfl⟩) dL_append_17
  · obtain ⟨z, fs2, wD2, rfl, hpr, rfl⟩ := hps
    refine W.eq (g2 := F0 m9 7 ls [.int (iI z), .int (iI 0), .ref o]) rfl ?_
    refine lv_i2l (v := (iI z).toInt64) F.1 F.2.1 dL_append_7 rfl ?_
    refine ad_last (ws' := (o, aJ (K 1) 1 (va_up go 0 (iI z).toInt64)) :: (d0, .inr (10, fs2)) :: wD2) F G 0 rfl (by decide) rfl dL_append_8 (fun H locs G => ?_)
    replace G := G.pm (List.Perm.swap (d0, .inr (10, fs2)) (o, aJ (K 1) 1 (va_up go 0 (iI z).toInt64)) wD2)
    refine lv_goto (tgt := 18) F.1 F.2.1 dL_append_9 (by decide) ?_
    refine ad_iconst F dL_append_18 ?_
    exact ad_ireturn F G hR rfl (Nat.le_of_ble_eq_true rfl) (Nat.le_of_ble_eq_true rfl) (Or.inl ⟨z, fs2, wD2, rfl, hpr, rfl⟩) dL_append_19
def hL_addRule : List (Nat × Nat × Nat × Nat) := [(0, 12, 15, 21), (0, 12, 19, 13), (0, 12, 23, 23)]
set_option maxRecDepth 100000 in
theorem w_addRule (l : Launch) (D : va_G) (K : Nat → ClassId) (z0 : Nat) (d0 : Nat) (o : Nat) (fs : List Value) (wD : va_W) (go : Nat → Int64) (a1 : Int) (a2 : Int) (a3 : Int) (PR : Int → List Value → va_W → Prop) (PX : Int → List Value → va_W → Prop)
    (M : CX l D K z0 yX10_addRule cX10_addRule 5 (some .int) rmD [.ref d0, .int (iI a1), .int (iI a2), .int (iI a3)] ((d0, .inr (10, fs)) :: wD) (fun v u => ∃ (z : Int) (fs2 : List Value) (wD2 : va_W), v = some (.int (iI z)) ∧ PR z fs2 wD2 ∧ u = (d0, .inr (10, fs2)) :: wD2) (fun E u => ∃ (fs2 : List Value) (wD2 : va_W), u = (d0, .inr (10, fs2)) :: wD2 ∧ ((E = "java/lang/IndexOutOfBoundsException" ∧ PX 1 fs2 wD2) ∨ (E = "java/lang/IllegalArgumentException" ∧ PX 2 fs2 wD2) ∨ (E = "java/lang/IllegalStateException" ∧ PX 3 fs2 wD2)))) :
    CH l D K z0 yL_addRule cL_addRule 6 (some .int) hL_addRule rmL [.ref d0, .int (iI a1), .int (iI a2), .int (iI a3), .ref o] ((d0, .inr (10, fs)) :: (o, aJ (K 1) 1 go) :: wD) (fun v u => (∃ (z : Int) (fs2 : List Value) (wD2 : va_W), v = some (.int (iI 0)) ∧ PR z fs2 wD2 ∧ u = (d0, .inr (10, fs2)) :: (o, aJ (K 1) 1 (va_up go 0 (iI z).toInt64)) :: wD2) ∨ (∃ (k : Int) (fs2 : List Value) (wD2 : va_W), v = some (.int (iI k)) ∧ (1 ≤ k ∧ k ≤ 3) ∧ PX k fs2 wD2 ∧ u = (d0, .inr (10, fs2)) :: (o, aJ (K 1) 1 go) :: wD2)) := by
  refine CH.start RL "addRule" (by decide) rfl rfl (Nat.le_of_ble_eq_true rfl) ?_
  intro p9 e9 s9 m9 ag9 bl9 mt9 c9 A9 Q9 ls F G hR ht hl
  have hl : lv_has ls 6 [(0, .ref d0), (1, .int (iI a1)), (2, .int (iI a2)), (3, .int (iI a3)), (4, .ref o)] := hl
  refine lv_aload F.1 F.2.1 dL_addRule_0 (lv_at hl 4 rfl) ?_
  refine ad_iconst F dL_addRule_2 ?_
  refine lv_aload_n F.1 F.2.1 dL_addRule_3 rfl (lv_at hl 0 rfl) ?_
  refine lv_iload_n F.1 F.2.1 dL_addRule_4 rfl (lv_at hl 1 rfl) ?_
  refine lv_iload_n F.1 F.2.1 dL_addRule_5 rfl (lv_at hl 2 rfl) ?_
  refine lv_iload_n F.1 F.2.1 dL_addRule_6 rfl (lv_at hl 3 rfl) ?_
  refine ad_wcall (As := [.int (iI a1), .int (iI a2), .int (iI a3)]) (rest := [.int (iI 0), .ref o]) F G M my_X10_addRule mv_L_17 rfl rfl rfl ⟨Nat.le_of_ble_eq_true rfl, Nat.le_of_ble_eq_true rfl⟩ ⟨Nat.le_of_ble_eq_true rfl, Nat.le_of_ble_eq_true rfl⟩ (Nat.le_of_ble_eq_true rfl) hl.1 ⟨rfl, rfl⟩ dL_addRule_7 (fun E9 u9 H locs ce q hpx G hce hcv hcl => ?_) (fun v9 u9 H locs hps G => ?_)
  · obtain ⟨fs2, wD2, rfl, hpx⟩ := hpx
    replace G := G.pm (List.Perm.swap (d0, .inr (10, fs2)) (o, aJ (K 1) 1 go) wD2)
    rcases hpx with ⟨rfl, hpx⟩ | ⟨rfl, hpx⟩ | ⟨rfl, hpx⟩
    · refine ad_catch (hh := hL_addRule) F G ht 0 (x1 := 0) (x2 := 12) (x3 := 15) (x4 := 21) rfl exL_21 rfl (by decide) lkL_21 csL_21 (by intro z hz; cases hz) hce hcv hcl ?_
      refine lv_astore (lv' := [(5, .ref q), (0, .ref d0), (1, .int (iI a1)), (2, .int (iI a2)), (3, .int (iI a3)), (4, .ref o)]) F.1 F.2.1 dL_addRule_15 hl (by decide) rfl (fun ls hl => ?_)
      refine ad_iconst F dL_addRule_17 ?_
      exact ad_ireturn F G hR rfl (Nat.le_of_ble_eq_true rfl) (Nat.le_of_ble_eq_true rfl) (Or.inr ⟨1, fs2, wD2, rfl, by decide, hpx, rfl⟩) dL_addRule_18
    · refine ad_catch (hh := hL_addRule) F G ht 1 (x1 := 0) (x2 := 12) (x3 := 19) (x4 := 13) rfl exL_13 rfl (by decide) lkL_13 csL_13 (by exact List.forall_mem_cons.mpr ⟨⟨by decide, "java/lang/IndexOutOfBoundsException", exL_21, by decide, lkL_21⟩, (fun _ h => absurd h List.not_mem_nil)⟩) hce hcv hcl ?_
      refine lv_astore (lv' := [(5, .ref q), (0, .ref d0), (1, .int (iI a1)), (2, .int (iI a2)), (3, .int (iI a3)), (4, .ref o)]) F.1 F.2.1 dL_addRule_19 hl (by decide) rfl (fun ls hl => ?_)
      refine ad_iconst F dL_addRule_21 ?_
      exact ad_ireturn F G hR rfl (Nat.le_of_ble_eq_true rfl) (Nat.le_of_ble_eq_true rfl) (Or.inr ⟨2, fs2, wD2, rfl, by decide, hpx, rfl⟩) dL_addRule_22
    · refine ad_catch (hh := hL_addRule) F G ht 2 (x1 := 0) (x2 := 12) (x3 := 23) (x4 := 23) rfl exL_23 rfl (by decide) lkL_23 csL_23 (by exact List.forall_mem_cons.mpr ⟨⟨by decide, "java/lang/IndexOutOfBoundsException", exL_21, by decide, lkL_21⟩, List.forall_mem_cons.mpr ⟨⟨by decide, "java/lang/IllegalArgumentException", exL_13, by decide, lkL_13⟩, (fun _ h => absurd h List.not_mem_nil)⟩⟩) hce hcv hcl ?_
      refine lv_astore (lv' := [(5, .ref q), (0, .ref d0), (1, .int (iI a1)), (2, .int (iI a2)), (3, .int (iI a3)), (4, .ref o)]) F.1 F.2.1 dL_addRule_23 hl (by decide) rfl (fun ls hl => ?_)
      refine ad_iconst F dL_addRule_25 ?_
      exact ad_ireturn F G hR rfl (Nat.le_of_ble_eq_true rfl) (Nat.le_of_ble_eq_true rfl) (Or.inr ⟨3, fs2, wD2, rfl, by decide, hpx, rfl⟩) dL_addRule_26
  · obtain ⟨z, fs2, wD2, rfl, hpr, rfl⟩ := hps
    refine W.eq (g2 := F0 m9 10 ls [.int (iI z), .int (iI 0), .ref o]) rfl ?_
    refine lv_i2l (v := (iI z).toInt64) F.1 F.2.1 dL_addRule_10 rfl ?_
    refine ad_last (ws' := (o, aJ (K 1) 1 (va_up go 0 (iI z).toInt64)) :: (d0, .inr (10, fs2)) :: wD2) F G 0 rfl (by decide) rfl dL_addRule_11 (fun H locs G => ?_)
    replace G := G.pm (List.Perm.swap (d0, .inr (10, fs2)) (o, aJ (K 1) 1 (va_up go 0 (iI z).toInt64)) wD2)
    refine lv_goto (tgt := 27) F.1 F.2.1 dL_addRule_12 (by decide) ?_
    refine ad_iconst F dL_addRule_27 ?_
    exact ad_ireturn F G hR rfl (Nat.le_of_ble_eq_true rfl) (Nat.le_of_ble_eq_true rfl) (Or.inl ⟨z, fs2, wD2, rfl, hpr, rfl⟩) dL_addRule_28
def hL_removeRule : List (Nat × Nat × Nat × Nat) := [(0, 9, 12, 21)]
set_option maxRecDepth 100000 in
theorem w_removeRule (l : Launch) (D : va_G) (K : Nat → ClassId) (z0 : Nat) (d0 : Nat) (o : Nat) (fs : List Value) (wD : va_W) (go : Nat → Int64) (a1 : Int) (PR : Int → List Value → va_W → Prop) (PX : Int → List Value → va_W → Prop)
    (M : CX l D K z0 yX10_removeRule cX10_removeRule 2 (some .int) rmD [.ref d0, .int (iI a1)] ((d0, .inr (10, fs)) :: wD) (fun v u => ∃ (z : Int) (fs2 : List Value) (wD2 : va_W), v = some (.int (iI z)) ∧ PR z fs2 wD2 ∧ u = (d0, .inr (10, fs2)) :: wD2) (fun E u => ∃ (fs2 : List Value) (wD2 : va_W), u = (d0, .inr (10, fs2)) :: wD2 ∧ ((E = "java/lang/IndexOutOfBoundsException" ∧ PX 1 fs2 wD2)))) :
    CH l D K z0 yL_removeRule cL_removeRule 4 (some .int) hL_removeRule rmL [.ref d0, .int (iI a1), .ref o] ((d0, .inr (10, fs)) :: (o, aJ (K 1) 1 go) :: wD) (fun v u => (∃ (z : Int) (fs2 : List Value) (wD2 : va_W), v = some (.int (iI 0)) ∧ PR z fs2 wD2 ∧ u = (d0, .inr (10, fs2)) :: (o, aJ (K 1) 1 (va_up go 0 (iI z).toInt64)) :: wD2) ∨ (∃ (k : Int) (fs2 : List Value) (wD2 : va_W), v = some (.int (iI k)) ∧ (1 ≤ k ∧ k ≤ 1) ∧ PX k fs2 wD2 ∧ u = (d0, .inr (10, fs2)) :: (o, aJ (K 1) 1 go) :: wD2)) := by
  refine CH.start RL "removeRule" (by decide) rfl rfl (Nat.le_of_ble_eq_true rfl) ?_
  intro p9 e9 s9 m9 ag9 bl9 mt9 c9 A9 Q9 ls F G hR ht hl
  have hl : lv_has ls 4 [(0, .ref d0), (1, .int (iI a1)), (2, .ref o)] := hl
  refine lv_aload_n F.1 F.2.1 dL_removeRule_0 rfl (lv_at hl 2 rfl) ?_
  refine ad_iconst F dL_removeRule_1 ?_
  refine lv_aload_n F.1 F.2.1 dL_removeRule_2 rfl (lv_at hl 0 rfl) ?_
  refine lv_iload_n F.1 F.2.1 dL_removeRule_3 rfl (lv_at hl 1 rfl) ?_
  refine ad_wcall (As := [.int (iI a1)]) (rest := [.int (iI 0), .ref o]) F G M my_X10_removeRule mv_L_25 rfl rfl rfl ⟨Nat.le_of_ble_eq_true rfl, Nat.le_of_ble_eq_true rfl⟩ ⟨Nat.le_of_ble_eq_true rfl, Nat.le_of_ble_eq_true rfl⟩ (Nat.le_of_ble_eq_true rfl) hl.1 ⟨rfl, rfl⟩ dL_removeRule_4 (fun E9 u9 H locs ce q hpx G hce hcv hcl => ?_) (fun v9 u9 H locs hps G => ?_)
  · obtain ⟨fs2, wD2, rfl, hpx⟩ := hpx
    replace G := G.pm (List.Perm.swap (d0, .inr (10, fs2)) (o, aJ (K 1) 1 go) wD2)
    obtain ⟨rfl, hpx⟩ := hpx
    refine ad_catch (hh := hL_removeRule) F G ht 0 (x1 := 0) (x2 := 9) (x3 := 12) (x4 := 21) rfl exL_21 rfl (by decide) lkL_21 csL_21 (by intro z hz; cases hz) hce hcv hcl ?_
    refine lv_astore_n (lv' := [(3, .ref q), (0, .ref d0), (1, .int (iI a1)), (2, .ref o)]) F.1 F.2.1 dL_removeRule_12 rfl hl (by decide) rfl (fun ls hl => ?_)
    refine ad_iconst F dL_removeRule_13 ?_
    exact ad_ireturn F G hR rfl (Nat.le_of_ble_eq_true rfl) (Nat.le_of_ble_eq_true rfl) (Or.inr ⟨1, fs2, wD2, rfl, by decide, hpx, rfl⟩) dL_removeRule_14
  · obtain ⟨z, fs2, wD2, rfl, hpr, rfl⟩ := hps
    refine W.eq (g2 := F0 m9 7 ls [.int (iI z), .int (iI 0), .ref o]) rfl ?_
    refine lv_i2l (v := (iI z).toInt64) F.1 F.2.1 dL_removeRule_7 rfl ?_
    refine ad_last (ws' := (o, aJ (K 1) 1 (va_up go 0 (iI z).toInt64)) :: (d0, .inr (10, fs2)) :: wD2) F G 0 rfl (by decide) rfl dL_removeRule_8 (fun H locs G => ?_)
    replace G := G.pm (List.Perm.swap (d0, .inr (10, fs2)) (o, aJ (K 1) 1 (va_up go 0 (iI z).toInt64)) wD2)
    refine lv_goto (tgt := 15) F.1 F.2.1 dL_removeRule_9 (by decide) ?_
    refine ad_iconst F dL_removeRule_15 ?_
    exact ad_ireturn F G hR rfl (Nat.le_of_ble_eq_true rfl) (Nat.le_of_ble_eq_true rfl) (Or.inl ⟨z, fs2, wD2, rfl, hpr, rfl⟩) dL_removeRule_16
def hL_setPriority : List (Nat × Nat × Nat × Nat) := [(0, 10, 13, 21), (0, 10, 17, 13)]
set_option maxRecDepth 100000 in
theorem w_setPriority (l : Launch) (D : va_G) (K : Nat → ClassId) (z0 : Nat) (d0 : Nat) (o : Nat) (fs : List Value) (wD : va_W) (go : Nat → Int64) (a1 : Int) (a2 : Int) (PR : Int → List Value → va_W → Prop) (PX : Int → List Value → va_W → Prop)
    (M : CX l D K z0 yX10_setPriority cX10_setPriority 4 (some .int) rmD [.ref d0, .int (iI a1), .int (iI a2)] ((d0, .inr (10, fs)) :: wD) (fun v u => ∃ (z : Int) (fs2 : List Value) (wD2 : va_W), v = some (.int (iI z)) ∧ PR z fs2 wD2 ∧ u = (d0, .inr (10, fs2)) :: wD2) (fun E u => ∃ (fs2 : List Value) (wD2 : va_W), u = (d0, .inr (10, fs2)) :: wD2 ∧ ((E = "java/lang/IndexOutOfBoundsException" ∧ PX 1 fs2 wD2) ∨ (E = "java/lang/IllegalArgumentException" ∧ PX 2 fs2 wD2)))) :
    CH l D K z0 yL_setPriority cL_setPriority 5 (some .int) hL_setPriority rmL [.ref d0, .int (iI a1), .int (iI a2), .ref o] ((d0, .inr (10, fs)) :: (o, aJ (K 1) 1 go) :: wD) (fun v u => (∃ (z : Int) (fs2 : List Value) (wD2 : va_W), v = some (.int (iI 0)) ∧ PR z fs2 wD2 ∧ u = (d0, .inr (10, fs2)) :: (o, aJ (K 1) 1 (va_up go 0 (iI z).toInt64)) :: wD2) ∨ (∃ (k : Int) (fs2 : List Value) (wD2 : va_W), v = some (.int (iI k)) ∧ (1 ≤ k ∧ k ≤ 2) ∧ PX k fs2 wD2 ∧ u = (d0, .inr (10, fs2)) :: (o, aJ (K 1) 1 go) :: wD2)) := by
  refine CH.start RL "setPriority" (by decide) rfl rfl (Nat.le_of_ble_eq_true rfl) ?_
  intro p9 e9 s9 m9 ag9 bl9 mt9 c9 A9 Q9 ls F G hR ht hl
  have hl : lv_has ls 5 [(0, .ref d0), (1, .int (iI a1)), (2, .int (iI a2)), (3, .ref o)] := hl
  refine lv_aload_n F.1 F.2.1 dL_setPriority_0 rfl (lv_at hl 3 rfl) ?_
  refine ad_iconst F dL_setPriority_1 ?_
  refine lv_aload_n F.1 F.2.1 dL_setPriority_2 rfl (lv_at hl 0 rfl) ?_
  refine lv_iload_n F.1 F.2.1 dL_setPriority_3 rfl (lv_at hl 1 rfl) ?_
  refine lv_iload_n F.1 F.2.1 dL_setPriority_4 rfl (lv_at hl 2 rfl) ?_
  refine ad_wcall (As := [.int (iI a1), .int (iI a2)]) (rest := [.int (iI 0), .ref o]) F G M my_X10_setPriority mv_L_29 rfl rfl rfl ⟨Nat.le_of_ble_eq_true rfl, Nat.le_of_ble_eq_true rfl⟩ ⟨Nat.le_of_ble_eq_true rfl, Nat.le_of_ble_eq_true rfl⟩ (Nat.le_of_ble_eq_true rfl) hl.1 ⟨rfl, rfl⟩ dL_setPriority_5 (fun E9 u9 H locs ce q hpx G hce hcv hcl => ?_) (fun v9 u9 H locs hps G => ?_)
  · obtain ⟨fs2, wD2, rfl, hpx⟩ := hpx
    replace G := G.pm (List.Perm.swap (d0, .inr (10, fs2)) (o, aJ (K 1) 1 go) wD2)
    rcases hpx with ⟨rfl, hpx⟩ | ⟨rfl, hpx⟩
    · refine ad_catch (hh := hL_setPriority) F G ht 0 (x1 := 0) (x2 := 10) (x3 := 13) (x4 := 21) rfl exL_21 rfl (by decide) lkL_21 csL_21 (by intro z hz; cases hz) hce hcv hcl ?_
      refine lv_astore (lv' := [(4, .ref q), (0, .ref d0), (1, .int (iI a1)), (2, .int (iI a2)), (3, .ref o)]) F.1 F.2.1 dL_setPriority_13 hl (by decide) rfl (fun ls hl => ?_)
      refine ad_iconst F dL_setPriority_15 ?_
      exact ad_ireturn F G hR rfl (Nat.le_of_ble_eq_true rfl) (Nat.le_of_ble_eq_true rfl) (Or.inr ⟨1, fs2, wD2, rfl, by decide, hpx, rfl⟩) dL_setPriority_16
    · refine ad_catch (hh := hL_setPriority) F G ht 1 (x1 := 0) (x2 := 10) (x3 := 17) (x4 := 13) rfl exL_13 rfl (by decide) lkL_13 csL_13 (by exact List.forall_mem_cons.mpr ⟨⟨by decide, "java/lang/IndexOutOfBoundsException", exL_21, by decide, lkL_21⟩, (fun _ h => absurd h List.not_mem_nil)⟩) hce hcv hcl ?_
      refine lv_astore (lv' := [(4, .ref q), (0, .ref d0), (1, .int (iI a1)), (2, .int (iI a2)), (3, .ref o)]) F.1 F.2.1 dL_setPriority_17 hl (by decide) rfl (fun ls hl => ?_)
      refine ad_iconst F dL_setPriority_19 ?_
      exact ad_ireturn F G hR rfl (Nat.le_of_ble_eq_true rfl) (Nat.le_of_ble_eq_true rfl) (Or.inr ⟨2, fs2, wD2, rfl, by decide, hpx, rfl⟩) dL_setPriority_20
  · obtain ⟨z, fs2, wD2, rfl, hpr, rfl⟩ := hps
    refine W.eq (g2 := F0 m9 8 ls [.int (iI z), .int (iI 0), .ref o]) rfl ?_
    refine lv_i2l (v := (iI z).toInt64) F.1 F.2.1 dL_setPriority_8 rfl ?_
    refine ad_last (ws' := (o, aJ (K 1) 1 (va_up go 0 (iI z).toInt64)) :: (d0, .inr (10, fs2)) :: wD2) F G 0 rfl (by decide) rfl dL_setPriority_9 (fun H locs G => ?_)
    replace G := G.pm (List.Perm.swap (d0, .inr (10, fs2)) (o, aJ (K 1) 1 (va_up go 0 (iI z).toInt64)) wD2)
    refine lv_goto (tgt := 21) F.1 F.2.1 dL_setPriority_10 (by decide) ?_
    refine ad_iconst F dL_setPriority_21 ?_
    exact ad_ireturn F G hR rfl (Nat.le_of_ble_eq_true rfl) (Nat.le_of_ble_eq_true rfl) (Or.inl ⟨z, fs2, wD2, rfl, hpr, rfl⟩) dL_setPriority_22
def hL_setContext : List (Nat × Nat × Nat × Nat) := [(0, 10, 13, 21), (0, 10, 17, 13)]
set_option maxRecDepth 100000 in
theorem w_setContext (l : Launch) (D : va_G) (K : Nat → ClassId) (z0 : Nat) (d0 : Nat) (o : Nat) (fs : List Value) (wD : va_W) (go : Nat → Int64) (a1 : Int) (a2 : Int) (PR : Int → List Value → va_W → Prop) (PX : Int → List Value → va_W → Prop)
    (M : CX l D K z0 yX10_setContext cX10_setContext 4 (some .int) rmD [.ref d0, .int (iI a1), .int (iI a2)] ((d0, .inr (10, fs)) :: wD) (fun v u => ∃ (z : Int) (fs2 : List Value) (wD2 : va_W), v = some (.int (iI z)) ∧ PR z fs2 wD2 ∧ u = (d0, .inr (10, fs2)) :: wD2) (fun E u => ∃ (fs2 : List Value) (wD2 : va_W), u = (d0, .inr (10, fs2)) :: wD2 ∧ ((E = "java/lang/IndexOutOfBoundsException" ∧ PX 1 fs2 wD2) ∨ (E = "java/lang/IllegalArgumentException" ∧ PX 2 fs2 wD2)))) :
    CH l D K z0 yL_setContext cL_setContext 5 (some .int) hL_setContext rmL [.ref d0, .int (iI a1), .int (iI a2), .ref o] ((d0, .inr (10, fs)) :: (o, aJ (K 1) 1 go) :: wD) (fun v u => (∃ (z : Int) (fs2 : List Value) (wD2 : va_W), v = some (.int (iI 0)) ∧ PR z fs2 wD2 ∧ u = (d0, .inr (10, fs2)) :: (o, aJ (K 1) 1 (va_up go 0 (iI z).toInt64)) :: wD2) ∨ (∃ (k : Int) (fs2 : List Value) (wD2 : va_W), v = some (.int (iI k)) ∧ (1 ≤ k ∧ k ≤ 2) ∧ PX k fs2 wD2 ∧ u = (d0, .inr (10, fs2)) :: (o, aJ (K 1) 1 go) :: wD2)) := by
  refine CH.start RL "setContext" (by decide) rfl rfl (Nat.le_of_ble_eq_true rfl) ?_
  intro p9 e9 s9 m9 ag9 bl9 mt9 c9 A9 Q9 ls F G hR ht hl
  have hl : lv_has ls 5 [(0, .ref d0), (1, .int (iI a1)), (2, .int (iI a2)), (3, .ref o)] := hl
  refine lv_aload_n F.1 F.2.1 dL_setContext_0 rfl (lv_at hl 3 rfl) ?_
  refine ad_iconst F dL_setContext_1 ?_
  refine lv_aload_n F.1 F.2.1 dL_setContext_2 rfl (lv_at hl 0 rfl) ?_
  refine lv_iload_n F.1 F.2.1 dL_setContext_3 rfl (lv_at hl 1 rfl) ?_
  refine lv_iload_n F.1 F.2.1 dL_setContext_4 rfl (lv_at hl 2 rfl) ?_
  refine ad_wcall (As := [.int (iI a1), .int (iI a2)]) (rest := [.int (iI 0), .ref o]) F G M my_X10_setContext mv_L_33 rfl rfl rfl ⟨Nat.le_of_ble_eq_true rfl, Nat.le_of_ble_eq_true rfl⟩ ⟨Nat.le_of_ble_eq_true rfl, Nat.le_of_ble_eq_true rfl⟩ (Nat.le_of_ble_eq_true rfl) hl.1 ⟨rfl, rfl⟩ dL_setContext_5 (fun E9 u9 H locs ce q hpx G hce hcv hcl => ?_) (fun v9 u9 H locs hps G => ?_)
  · obtain ⟨fs2, wD2, rfl, hpx⟩ := hpx
    replace G := G.pm (List.Perm.swap (d0, .inr (10, fs2)) (o, aJ (K 1) 1 go) wD2)
    rcases hpx with ⟨rfl, hpx⟩ | ⟨rfl, hpx⟩
    · refine ad_catch (hh := hL_setContext) F G ht 0 (x1 := 0) (x2 := 10) (x3 := 13) (x4 := 21) rfl exL_21 rfl (by decide) lkL_21 csL_21 (by intro z hz; cases hz) hce hcv hcl ?_
      refine lv_astore (lv' := [(4, .ref q), (0, .ref d0), (1, .int (iI a1)), (2, .int (iI a2)), (3, .ref o)]) F.1 F.2.1 dL_setContext_13 hl (by decide) rfl (fun ls hl => ?_)
      refine ad_iconst F dL_setContext_15 ?_
      exact ad_ireturn F G hR rfl (Nat.le_of_ble_eq_true rfl) (Nat.le_of_ble_eq_true rfl) (Or.inr ⟨1, fs2, wD2, rfl, by decide, hpx, rfl⟩) dL_setContext_16
    · refine ad_catch (hh := hL_setContext) F G ht 1 (x1 := 0) (x2 := 10) (x3 := 17) (x4 := 13) rfl exL_13 rfl (by decide) lkL_13 csL_13 (by exact List.forall_mem_cons.mpr ⟨⟨by decide, "java/lang/IndexOutOfBoundsException", exL_21, by decide, lkL_21⟩, (fun _ h => absurd h List.not_mem_nil)⟩) hce hcv hcl ?_
      refine lv_astore (lv' := [(4, .ref q), (0, .ref d0), (1, .int (iI a1)), (2, .int (iI a2)), (3, .ref o)]) F.1 F.2.1 dL_setContext_17 hl (by decide) rfl (fun ls hl => ?_)
      refine ad_iconst F dL_setContext_19 ?_
      exact ad_ireturn F G hR rfl (Nat.le_of_ble_eq_true rfl) (Nat.le_of_ble_eq_true rfl) (Or.inr ⟨2, fs2, wD2, rfl, by decide, hpx, rfl⟩) dL_setContext_20
  · obtain ⟨z, fs2, wD2, rfl, hpr, rfl⟩ := hps
    refine W.eq (g2 := F0 m9 8 ls [.int (iI z), .int (iI 0), .ref o]) rfl ?_
    refine lv_i2l (v := (iI z).toInt64) F.1 F.2.1 dL_setContext_8 rfl ?_
    refine ad_last (ws' := (o, aJ (K 1) 1 (va_up go 0 (iI z).toInt64)) :: (d0, .inr (10, fs2)) :: wD2) F G 0 rfl (by decide) rfl dL_setContext_9 (fun H locs G => ?_)
    replace G := G.pm (List.Perm.swap (d0, .inr (10, fs2)) (o, aJ (K 1) 1 (va_up go 0 (iI z).toInt64)) wD2)
    refine lv_goto (tgt := 21) F.1 F.2.1 dL_setContext_10 (by decide) ?_
    refine ad_iconst F dL_setContext_21 ?_
    exact ad_ireturn F G hR rfl (Nat.le_of_ble_eq_true rfl) (Nat.le_of_ble_eq_true rfl) (Or.inl ⟨z, fs2, wD2, rfl, hpr, rfl⟩) dL_setContext_22
def hL_setMode : List (Nat × Nat × Nat × Nat) := [(0, 9, 12, 13)]
set_option maxRecDepth 100000 in
theorem w_setMode (l : Launch) (D : va_G) (K : Nat → ClassId) (z0 : Nat) (d0 : Nat) (o : Nat) (fs : List Value) (wD : va_W) (go : Nat → Int64) (a1 : Int) (PR : Int → List Value → va_W → Prop) (PX : Int → List Value → va_W → Prop)
    (M : CX l D K z0 yX10_setMode cX10_setMode 3 (some .int) rmD [.ref d0, .int (iI a1)] ((d0, .inr (10, fs)) :: wD) (fun v u => ∃ (z : Int) (fs2 : List Value) (wD2 : va_W), v = some (.int (iI z)) ∧ PR z fs2 wD2 ∧ u = (d0, .inr (10, fs2)) :: wD2) (fun E u => ∃ (fs2 : List Value) (wD2 : va_W), u = (d0, .inr (10, fs2)) :: wD2 ∧ ((E = "java/lang/IllegalArgumentException" ∧ PX 1 fs2 wD2)))) :
    CH l D K z0 yL_setMode cL_setMode 4 (some .int) hL_setMode rmL [.ref d0, .int (iI a1), .ref o] ((d0, .inr (10, fs)) :: (o, aJ (K 1) 1 go) :: wD) (fun v u => (∃ (z : Int) (fs2 : List Value) (wD2 : va_W), v = some (.int (iI 0)) ∧ PR z fs2 wD2 ∧ u = (d0, .inr (10, fs2)) :: (o, aJ (K 1) 1 (va_up go 0 (iI z).toInt64)) :: wD2) ∨ (∃ (k : Int) (fs2 : List Value) (wD2 : va_W), v = some (.int (iI k)) ∧ (1 ≤ k ∧ k ≤ 1) ∧ PX k fs2 wD2 ∧ u = (d0, .inr (10, fs2)) :: (o, aJ (K 1) 1 go) :: wD2)) := by
  refine CH.start RL "setMode" (by decide) rfl rfl (Nat.le_of_ble_eq_true rfl) ?_
  intro p9 e9 s9 m9 ag9 bl9 mt9 c9 A9 Q9 ls F G hR ht hl
  have hl : lv_has ls 4 [(0, .ref d0), (1, .int (iI a1)), (2, .ref o)] := hl
  refine lv_aload_n F.1 F.2.1 dL_setMode_0 rfl (lv_at hl 2 rfl) ?_
  refine ad_iconst F dL_setMode_1 ?_
  refine lv_aload_n F.1 F.2.1 dL_setMode_2 rfl (lv_at hl 0 rfl) ?_
  refine lv_iload_n F.1 F.2.1 dL_setMode_3 rfl (lv_at hl 1 rfl) ?_
  refine ad_wcall (As := [.int (iI a1)]) (rest := [.int (iI 0), .ref o]) F G M my_X10_setMode mv_L_36 rfl rfl rfl ⟨Nat.le_of_ble_eq_true rfl, Nat.le_of_ble_eq_true rfl⟩ ⟨Nat.le_of_ble_eq_true rfl, Nat.le_of_ble_eq_true rfl⟩ (Nat.le_of_ble_eq_true rfl) hl.1 ⟨rfl, rfl⟩ dL_setMode_4 (fun E9 u9 H locs ce q hpx G hce hcv hcl => ?_) (fun v9 u9 H locs hps G => ?_)
  · obtain ⟨fs2, wD2, rfl, hpx⟩ := hpx
    replace G := G.pm (List.Perm.swap (d0, .inr (10, fs2)) (o, aJ (K 1) 1 go) wD2)
    obtain ⟨rfl, hpx⟩ := hpx
    refine ad_catch (hh := hL_setMode) F G ht 0 (x1 := 0) (x2 := 9) (x3 := 12) (x4 := 13) rfl exL_13 rfl (by decide) lkL_13 csL_13 (by intro z hz; cases hz) hce hcv hcl ?_
    refine lv_astore_n (lv' := [(3, .ref q), (0, .ref d0), (1, .int (iI a1)), (2, .ref o)]) F.1 F.2.1 dL_setMode_12 rfl hl (by decide) rfl (fun ls hl => ?_)
    refine ad_iconst F dL_setMode_13 ?_
    exact ad_ireturn F G hR rfl (Nat.le_of_ble_eq_true rfl) (Nat.le_of_ble_eq_true rfl) (Or.inr ⟨1, fs2, wD2, rfl, by decide, hpx, rfl⟩) dL_setMode_14
  · obtain ⟨z, fs2, wD2, rfl, hpr, rfl⟩ := hps
    refine W.eq (g2 := F0 m9 7 ls [.int (iI z), .int (iI 0), .ref o]) rfl ?_
    refine lv_i2l (v := (iI z).toInt64) F.1 F.2.1 dL_setMode_7 rfl ?_
    refine ad_last (ws' := (o, aJ (K 1) 1 (va_up go 0 (iI z).toInt64)) :: (d0, .inr (10, fs2)) :: wD2) F G 0 rfl (by decide) rfl dL_setMode_8 (fun H locs G => ?_)
    replace G := G.pm (List.Perm.swap (d0, .inr (10, fs2)) (o, aJ (K 1) 1 (va_up go 0 (iI z).toInt64)) wD2)
    refine lv_goto (tgt := 15) F.1 F.2.1 dL_setMode_9 (by decide) ?_
    refine ad_iconst F dL_setMode_15 ?_
    exact ad_ireturn F G hR rfl (Nat.le_of_ble_eq_true rfl) (Nat.le_of_ble_eq_true rfl) (Or.inl ⟨z, fs2, wD2, rfl, hpr, rfl⟩) dL_setMode_16
def hL_setThreshold : List (Nat × Nat × Nat × Nat) := [(0, 9, 12, 13)]
set_option maxRecDepth 100000 in
theorem w_setThreshold (l : Launch) (D : va_G) (K : Nat → ClassId) (z0 : Nat) (d0 : Nat) (o : Nat) (fs : List Value) (wD : va_W) (go : Nat → Int64) (a1 : Int) (PR : Int → List Value → va_W → Prop) (PX : Int → List Value → va_W → Prop)
    (M : CX l D K z0 yX10_setThreshold cX10_setThreshold 3 (some .int) rmD [.ref d0, .int (iI a1)] ((d0, .inr (10, fs)) :: wD) (fun v u => ∃ (z : Int) (fs2 : List Value) (wD2 : va_W), v = some (.int (iI z)) ∧ PR z fs2 wD2 ∧ u = (d0, .inr (10, fs2)) :: wD2) (fun E u => ∃ (fs2 : List Value) (wD2 : va_W), u = (d0, .inr (10, fs2)) :: wD2 ∧ ((E = "java/lang/IllegalArgumentException" ∧ PX 1 fs2 wD2)))) :
    CH l D K z0 yL_setThreshold cL_setThreshold 4 (some .int) hL_setThreshold rmL [.ref d0, .int (iI a1), .ref o] ((d0, .inr (10, fs)) :: (o, aJ (K 1) 1 go) :: wD) (fun v u => (∃ (z : Int) (fs2 : List Value) (wD2 : va_W), v = some (.int (iI 0)) ∧ PR z fs2 wD2 ∧ u = (d0, .inr (10, fs2)) :: (o, aJ (K 1) 1 (va_up go 0 (iI z).toInt64)) :: wD2) ∨ (∃ (k : Int) (fs2 : List Value) (wD2 : va_W), v = some (.int (iI k)) ∧ (1 ≤ k ∧ k ≤ 1) ∧ PX k fs2 wD2 ∧ u = (d0, .inr (10, fs2)) :: (o, aJ (K 1) 1 go) :: wD2)) := by
  refine CH.start RL "setThreshold" (by decide) rfl rfl (Nat.le_of_ble_eq_true rfl) ?_
  intro p9 e9 s9 m9 ag9 bl9 mt9 c9 A9 Q9 ls F G hR ht hl
  have hl : lv_has ls 4 [(0, .ref d0), (1, .int (iI a1)), (2, .ref o)] := hl
  refine lv_aload_n F.1 F.2.1 dL_setThreshold_0 rfl (lv_at hl 2 rfl) ?_
  refine ad_iconst F dL_setThreshold_1 ?_
  refine lv_aload_n F.1 F.2.1 dL_setThreshold_2 rfl (lv_at hl 0 rfl) ?_
  refine lv_iload_n F.1 F.2.1 dL_setThreshold_3 rfl (lv_at hl 1 rfl) ?_
  refine ad_wcall (As := [.int (iI a1)]) (rest := [.int (iI 0), .ref o]) F G M my_X10_setThreshold mv_L_39 rfl rfl rfl ⟨Nat.le_of_ble_eq_true rfl, Nat.le_of_ble_eq_true rfl⟩ ⟨Nat.le_of_ble_eq_true rfl, Nat.le_of_ble_eq_true rfl⟩ (Nat.le_of_ble_eq_true rfl) hl.1 ⟨rfl, rfl⟩ dL_setThreshold_4 (fun E9 u9 H locs ce q hpx G hce hcv hcl => ?_) (fun v9 u9 H locs hps G => ?_)
  · obtain ⟨fs2, wD2, rfl, hpx⟩ := hpx
    replace G := G.pm (List.Perm.swap (d0, .inr (10, fs2)) (o, aJ (K 1) 1 go) wD2)
    obtain ⟨rfl, hpx⟩ := hpx
    refine ad_catch (hh := hL_setThreshold) F G ht 0 (x1 := 0) (x2 := 9) (x3 := 12) (x4 := 13) rfl exL_13 rfl (by decide) lkL_13 csL_13 (by intro z hz; cases hz) hce hcv hcl ?_
    refine lv_astore_n (lv' := [(3, .ref q), (0, .ref d0), (1, .int (iI a1)), (2, .ref o)]) F.1 F.2.1 dL_setThreshold_12 rfl hl (by decide) rfl (fun ls hl => ?_)
    refine ad_iconst F dL_setThreshold_13 ?_
    exact ad_ireturn F G hR rfl (Nat.le_of_ble_eq_true rfl) (Nat.le_of_ble_eq_true rfl) (Or.inr ⟨1, fs2, wD2, rfl, by decide, hpx, rfl⟩) dL_setThreshold_14
  · obtain ⟨z, fs2, wD2, rfl, hpr, rfl⟩ := hps
    refine W.eq (g2 := F0 m9 7 ls [.int (iI z), .int (iI 0), .ref o]) rfl ?_
    refine lv_i2l (v := (iI z).toInt64) F.1 F.2.1 dL_setThreshold_7 rfl ?_
    refine ad_last (ws' := (o, aJ (K 1) 1 (va_up go 0 (iI z).toInt64)) :: (d0, .inr (10, fs2)) :: wD2) F G 0 rfl (by decide) rfl dL_setThreshold_8 (fun H locs G => ?_)
    replace G := G.pm (List.Perm.swap (d0, .inr (10, fs2)) (o, aJ (K 1) 1 (va_up go 0 (iI z).toInt64)) wD2)
    refine lv_goto (tgt := 15) F.1 F.2.1 dL_setThreshold_9 (by decide) ?_
    refine ad_iconst F dL_setThreshold_15 ?_
    exact ad_ireturn F G hR rfl (Nat.le_of_ble_eq_true rfl) (Nat.le_of_ble_eq_true rfl) (Or.inl ⟨z, fs2, wD2, rfl, hpr, rfl⟩) dL_setThreshold_16
def hL_rule : List (Nat × Nat × Nat × Nat) := [(0, 10, 13, 21), (0, 10, 17, 13)]
set_option maxRecDepth 100000 in
theorem w_rule (l : Launch) (D : va_G) (K : Nat → ClassId) (z0 : Nat) (d0 : Nat) (o : Nat) (fs : List Value) (wD : va_W) (go : Nat → Int64) (a1 : Int) (a2 : Int) (PR : Int → List Value → va_W → Prop) (PX : Int → List Value → va_W → Prop)
    (M : CX l D K z0 yX10_rule cX10_rule 3 (some .int) rmD [.ref d0, .int (iI a1), .int (iI a2)] ((d0, .inr (10, fs)) :: wD) (fun v u => ∃ (z : Int) (fs2 : List Value) (wD2 : va_W), v = some (.int (iI z)) ∧ PR z fs2 wD2 ∧ u = (d0, .inr (10, fs2)) :: wD2) (fun E u => ∃ (fs2 : List Value) (wD2 : va_W), u = (d0, .inr (10, fs2)) :: wD2 ∧ ((E = "java/lang/IndexOutOfBoundsException" ∧ PX 1 fs2 wD2) ∨ (E = "java/lang/IllegalArgumentException" ∧ PX 2 fs2 wD2)))) :
    CH l D K z0 yL_rule cL_rule 5 (some .int) hL_rule rmL [.ref d0, .int (iI a1), .int (iI a2), .ref o] ((d0, .inr (10, fs)) :: (o, aJ (K 1) 1 go) :: wD) (fun v u => (∃ (z : Int) (fs2 : List Value) (wD2 : va_W), v = some (.int (iI 0)) ∧ PR z fs2 wD2 ∧ u = (d0, .inr (10, fs2)) :: (o, aJ (K 1) 1 (va_up go 0 (iI z).toInt64)) :: wD2) ∨ (∃ (k : Int) (fs2 : List Value) (wD2 : va_W), v = some (.int (iI k)) ∧ (1 ≤ k ∧ k ≤ 2) ∧ PX k fs2 wD2 ∧ u = (d0, .inr (10, fs2)) :: (o, aJ (K 1) 1 go) :: wD2)) := by
  refine CH.start RL "rule" (by decide) rfl rfl (Nat.le_of_ble_eq_true rfl) ?_
  intro p9 e9 s9 m9 ag9 bl9 mt9 c9 A9 Q9 ls F G hR ht hl
  have hl : lv_has ls 5 [(0, .ref d0), (1, .int (iI a1)), (2, .int (iI a2)), (3, .ref o)] := hl
  refine lv_aload_n F.1 F.2.1 dL_rule_0 rfl (lv_at hl 3 rfl) ?_
  refine ad_iconst F dL_rule_1 ?_
  refine lv_aload_n F.1 F.2.1 dL_rule_2 rfl (lv_at hl 0 rfl) ?_
  refine lv_iload_n F.1 F.2.1 dL_rule_3 rfl (lv_at hl 1 rfl) ?_
  refine lv_iload_n F.1 F.2.1 dL_rule_4 rfl (lv_at hl 2 rfl) ?_
  refine ad_wcall (As := [.int (iI a1), .int (iI a2)]) (rest := [.int (iI 0), .ref o]) F G M my_X10_rule mv_L_42 rfl rfl rfl ⟨Nat.le_of_ble_eq_true rfl, Nat.le_of_ble_eq_true rfl⟩ ⟨Nat.le_of_ble_eq_true rfl, Nat.le_of_ble_eq_true rfl⟩ (Nat.le_of_ble_eq_true rfl) hl.1 ⟨rfl, rfl⟩ dL_rule_5 (fun E9 u9 H locs ce q hpx G hce hcv hcl => ?_) (fun v9 u9 H locs hps G => ?_)
  · obtain ⟨fs2, wD2, rfl, hpx⟩ := hpx
    replace G := G.pm (List.Perm.swap (d0, .inr (10, fs2)) (o, aJ (K 1) 1 go) wD2)
    rcases hpx with ⟨rfl, hpx⟩ | ⟨rfl, hpx⟩
    · refine ad_catch (hh := hL_rule) F G ht 0 (x1 := 0) (x2 := 10) (x3 := 13) (x4 := 21) rfl exL_21 rfl (by decide) lkL_21 csL_21 (by intro z hz; cases hz) hce hcv hcl ?_
      refine lv_astore (lv' := [(4, .ref q), (0, .ref d0), (1, .int (iI a1)), (2, .int (iI a2)), (3, .ref o)]) F.1 F.2.1 dL_rule_13 hl (by decide) rfl (fun ls hl => ?_)
      refine ad_iconst F dL_rule_15 ?_
      exact ad_ireturn F G hR rfl (Nat.le_of_ble_eq_true rfl) (Nat.le_of_ble_eq_true rfl) (Or.inr ⟨1, fs2, wD2, rfl, by decide, hpx, rfl⟩) dL_rule_16
    · refine ad_catch (hh := hL_rule) F G ht 1 (x1 := 0) (x2 := 10) (x3 := 17) (x4 := 13) rfl exL_13 rfl (by decide) lkL_13 csL_13 (by exact List.forall_mem_cons.mpr ⟨⟨by decide, "java/lang/IndexOutOfBoundsException", exL_21, by decide, lkL_21⟩, (fun _ h => absurd h List.not_mem_nil)⟩) hce hcv hcl ?_
      refine lv_astore (lv' := [(4, .ref q), (0, .ref d0), (1, .int (iI a1)), (2, .int (iI a2)), (3, .ref o)]) F.1 F.2.1 dL_rule_17 hl (by decide) rfl (fun ls hl => ?_)
      refine ad_iconst F dL_rule_19 ?_
      exact ad_ireturn F G hR rfl (Nat.le_of_ble_eq_true rfl) (Nat.le_of_ble_eq_true rfl) (Or.inr ⟨2, fs2, wD2, rfl, by decide, hpx, rfl⟩) dL_rule_20
  · obtain ⟨z, fs2, wD2, rfl, hpr, rfl⟩ := hps
    refine W.eq (g2 := F0 m9 8 ls [.int (iI z), .int (iI 0), .ref o]) rfl ?_
    refine lv_i2l (v := (iI z).toInt64) F.1 F.2.1 dL_rule_8 rfl ?_
    refine ad_last (ws' := (o, aJ (K 1) 1 (va_up go 0 (iI z).toInt64)) :: (d0, .inr (10, fs2)) :: wD2) F G 0 rfl (by decide) rfl dL_rule_9 (fun H locs G => ?_)
    replace G := G.pm (List.Perm.swap (d0, .inr (10, fs2)) (o, aJ (K 1) 1 (va_up go 0 (iI z).toInt64)) wD2)
    refine lv_goto (tgt := 21) F.1 F.2.1 dL_rule_10 (by decide) ?_
    refine ad_iconst F dL_rule_21 ?_
    exact ad_ireturn F G hR rfl (Nat.le_of_ble_eq_true rfl) (Nat.le_of_ble_eq_true rfl) (Or.inl ⟨z, fs2, wD2, rfl, hpr, rfl⟩) dL_rule_22
def hL_letter : List (Nat × Nat × Nat × Nat) := [(0, 12, 15, 21), (0, 12, 19, 49)]
set_option maxRecDepth 100000 in
theorem w_letter (l : Launch) (D : va_G) (K : Nat → ClassId) (z0 : Nat) (d0 : Nat) (o : Nat) (fs : List Value) (wD : va_W) (go : Nat → Int64) (a1 : Int) (a2 : Int) (a3 : Int) (PR : Int → List Value → va_W → Prop) (PX : Int → List Value → va_W → Prop)
    (M : CX l D K z0 yX10_letter cX10_letter 6 (some .char) rmD [.ref d0, .int (iI a1), .int (iI a2), .int (iI a3)] ((d0, .inr (10, fs)) :: wD) (fun v u => ∃ (z : Int) (fs2 : List Value) (wD2 : va_W), v = some (.int (iI z)) ∧ PR z fs2 wD2 ∧ u = (d0, .inr (10, fs2)) :: wD2) (fun E u => ∃ (fs2 : List Value) (wD2 : va_W), u = (d0, .inr (10, fs2)) :: wD2 ∧ ((E = "java/lang/IndexOutOfBoundsException" ∧ PX 1 fs2 wD2) ∨ (E = "java/util/NoSuchElementException" ∧ PX 2 fs2 wD2)))) :
    CH l D K z0 yL_letter cL_letter 6 (some .int) hL_letter rmL [.ref d0, .int (iI a1), .int (iI a2), .int (iI a3), .ref o] ((d0, .inr (10, fs)) :: (o, aJ (K 1) 1 go) :: wD) (fun v u => (∃ (z : Int) (fs2 : List Value) (wD2 : va_W), v = some (.int (iI 0)) ∧ PR z fs2 wD2 ∧ u = (d0, .inr (10, fs2)) :: (o, aJ (K 1) 1 (va_up go 0 (iI z).toInt64)) :: wD2) ∨ (∃ (k : Int) (fs2 : List Value) (wD2 : va_W), v = some (.int (iI k)) ∧ (1 ≤ k ∧ k ≤ 2) ∧ PX k fs2 wD2 ∧ u = (d0, .inr (10, fs2)) :: (o, aJ (K 1) 1 go) :: wD2)) := by
  refine CH.start RL "letter" (by decide) rfl rfl (Nat.le_of_ble_eq_true rfl) ?_
  intro p9 e9 s9 m9 ag9 bl9 mt9 c9 A9 Q9 ls F G hR ht hl
  have hl : lv_has ls 6 [(0, .ref d0), (1, .int (iI a1)), (2, .int (iI a2)), (3, .int (iI a3)), (4, .ref o)] := hl
  refine lv_aload F.1 F.2.1 dL_letter_0 (lv_at hl 4 rfl) ?_
  refine ad_iconst F dL_letter_2 ?_
  refine lv_aload_n F.1 F.2.1 dL_letter_3 rfl (lv_at hl 0 rfl) ?_
  refine lv_iload_n F.1 F.2.1 dL_letter_4 rfl (lv_at hl 1 rfl) ?_
  refine lv_iload_n F.1 F.2.1 dL_letter_5 rfl (lv_at hl 2 rfl) ?_
  refine lv_iload_n F.1 F.2.1 dL_letter_6 rfl (lv_at hl 3 rfl) ?_
  refine ad_wcall (As := [.int (iI a1), .int (iI a2), .int (iI a3)]) (rest := [.int (iI 0), .ref o]) F G M my_X10_letter mv_L_45 rfl rfl rfl ⟨Nat.le_of_ble_eq_true rfl, Nat.le_of_ble_eq_true rfl⟩ ⟨Nat.le_of_ble_eq_true rfl, Nat.le_of_ble_eq_true rfl⟩ (Nat.le_of_ble_eq_true rfl) hl.1 ⟨rfl, rfl⟩ dL_letter_7 (fun E9 u9 H locs ce q hpx G hce hcv hcl => ?_) (fun v9 u9 H locs hps G => ?_)
  · obtain ⟨fs2, wD2, rfl, hpx⟩ := hpx
    replace G := G.pm (List.Perm.swap (d0, .inr (10, fs2)) (o, aJ (K 1) 1 go) wD2)
    rcases hpx with ⟨rfl, hpx⟩ | ⟨rfl, hpx⟩
    · refine ad_catch (hh := hL_letter) F G ht 0 (x1 := 0) (x2 := 12) (x3 := 15) (x4 := 21) rfl exL_21 rfl (by decide) lkL_21 csL_21 (by intro z hz; cases hz) hce hcv hcl ?_
      refine lv_astore (lv' := [(5, .ref q), (0, .ref d0), (1, .int (iI a1)), (2, .int (iI a2)), (3, .int (iI a3)), (4, .ref o)]) F.1 F.2.1 dL_letter_15 hl (by decide) rfl (fun ls hl => ?_)
      refine ad_iconst F dL_letter_17 ?_
      exact ad_ireturn F G hR rfl (Nat.le_of_ble_eq_true rfl) (Nat.le_of_ble_eq_true rfl) (Or.inr ⟨1, fs2, wD2, rfl, by decide, hpx, rfl⟩) dL_letter_18
    · refine ad_catch (hh := hL_letter) F G ht 1 (x1 := 0) (x2 := 12) (x3 := 19) (x4 := 49) rfl exL_49 rfl (by decide) lkL_49 csL_49 (by exact List.forall_mem_cons.mpr ⟨⟨by decide, "java/lang/IndexOutOfBoundsException", exL_21, by decide, lkL_21⟩, (fun _ h => absurd h List.not_mem_nil)⟩) hce hcv hcl ?_
      refine lv_astore (lv' := [(5, .ref q), (0, .ref d0), (1, .int (iI a1)), (2, .int (iI a2)), (3, .int (iI a3)), (4, .ref o)]) F.1 F.2.1 dL_letter_19 hl (by decide) rfl (fun ls hl => ?_)
      refine ad_iconst F dL_letter_21 ?_
      exact ad_ireturn F G hR rfl (Nat.le_of_ble_eq_true rfl) (Nat.le_of_ble_eq_true rfl) (Or.inr ⟨2, fs2, wD2, rfl, by decide, hpx, rfl⟩) dL_letter_22
  · obtain ⟨z, fs2, wD2, rfl, hpr, rfl⟩ := hps
    refine W.eq (g2 := F0 m9 10 ls [.int (iI z), .int (iI 0), .ref o]) rfl ?_
    refine lv_i2l (v := (iI z).toInt64) F.1 F.2.1 dL_letter_10 rfl ?_
    refine ad_last (ws' := (o, aJ (K 1) 1 (va_up go 0 (iI z).toInt64)) :: (d0, .inr (10, fs2)) :: wD2) F G 0 rfl (by decide) rfl dL_letter_11 (fun H locs G => ?_)
    replace G := G.pm (List.Perm.swap (d0, .inr (10, fs2)) (o, aJ (K 1) 1 (va_up go 0 (iI z).toInt64)) wD2)
    refine lv_goto (tgt := 23) F.1 F.2.1 dL_letter_12 (by decide) ?_
    refine ad_iconst F dL_letter_23 ?_
    exact ad_ireturn F G hR rfl (Nat.le_of_ble_eq_true rfl) (Nat.le_of_ble_eq_true rfl) (Or.inl ⟨z, fs2, wD2, rfl, hpr, rfl⟩) dL_letter_24
def hL_count : List (Nat × Nat × Nat × Nat) := [(0, 9, 12, 13)]
set_option maxRecDepth 100000 in
theorem w_count (l : Launch) (D : va_G) (K : Nat → ClassId) (z0 : Nat) (d0 : Nat) (o : Nat) (fs : List Value) (wD : va_W) (go : Nat → Int64) (a1 : Int) (PR : Int → List Value → va_W → Prop) (PX : Int → List Value → va_W → Prop)
    (M : CX l D K z0 yX10_count cX10_count 2 (some .int) rmD [.ref d0, .int (iI a1)] ((d0, .inr (10, fs)) :: wD) (fun v u => ∃ (z : Int) (fs2 : List Value) (wD2 : va_W), v = some (.int (iI z)) ∧ PR z fs2 wD2 ∧ u = (d0, .inr (10, fs2)) :: wD2) (fun E u => ∃ (fs2 : List Value) (wD2 : va_W), u = (d0, .inr (10, fs2)) :: wD2 ∧ ((E = "java/lang/IllegalArgumentException" ∧ PX 1 fs2 wD2)))) :
    CH l D K z0 yL_count cL_count 4 (some .int) hL_count rmL [.ref d0, .int (iI a1), .ref o] ((d0, .inr (10, fs)) :: (o, aJ (K 1) 1 go) :: wD) (fun v u => (∃ (z : Int) (fs2 : List Value) (wD2 : va_W), v = some (.int (iI 0)) ∧ PR z fs2 wD2 ∧ u = (d0, .inr (10, fs2)) :: (o, aJ (K 1) 1 (va_up go 0 (iI z).toInt64)) :: wD2) ∨ (∃ (k : Int) (fs2 : List Value) (wD2 : va_W), v = some (.int (iI k)) ∧ (1 ≤ k ∧ k ≤ 1) ∧ PX k fs2 wD2 ∧ u = (d0, .inr (10, fs2)) :: (o, aJ (K 1) 1 go) :: wD2)) := by
  refine CH.start RL "count" (by decide) rfl rfl (Nat.le_of_ble_eq_true rfl) ?_
  intro p9 e9 s9 m9 ag9 bl9 mt9 c9 A9 Q9 ls F G hR ht hl
  have hl : lv_has ls 4 [(0, .ref d0), (1, .int (iI a1)), (2, .ref o)] := hl
  refine lv_aload_n F.1 F.2.1 dL_count_0 rfl (lv_at hl 2 rfl) ?_
  refine ad_iconst F dL_count_1 ?_
  refine lv_aload_n F.1 F.2.1 dL_count_2 rfl (lv_at hl 0 rfl) ?_
  refine lv_iload_n F.1 F.2.1 dL_count_3 rfl (lv_at hl 1 rfl) ?_
  refine ad_wcall (As := [.int (iI a1)]) (rest := [.int (iI 0), .ref o]) F G M my_X10_count mv_L_51 rfl rfl rfl ⟨Nat.le_of_ble_eq_true rfl, Nat.le_of_ble_eq_true rfl⟩ ⟨Nat.le_of_ble_eq_true rfl, Nat.le_of_ble_eq_true rfl⟩ (Nat.le_of_ble_eq_true rfl) hl.1 ⟨rfl, rfl⟩ dL_count_4 (fun E9 u9 H locs ce q hpx G hce hcv hcl => ?_) (fun v9 u9 H locs hps G => ?_)
  · obtain ⟨fs2, wD2, rfl, hpx⟩ := hpx
    replace G := G.pm (List.Perm.swap (d0, .inr (10, fs2)) (o, aJ (K 1) 1 go) wD2)
    obtain ⟨rfl, hpx⟩ := hpx
    refine ad_catch (hh := hL_count) F G ht 0 (x1 := 0) (x2 := 9) (x3 := 12) (x4 := 13) rfl exL_13 rfl (by decide) lkL_13 csL_13 (by intro z hz; cases hz) hce hcv hcl ?_
    refine lv_astore_n (lv' := [(3, .ref q), (0, .ref d0), (1, .int (iI a1)), (2, .ref o)]) F.1 F.2.1 dL_count_12 rfl hl (by decide) rfl (fun ls hl => ?_)
    refine ad_iconst F dL_count_13 ?_
    exact ad_ireturn F G hR rfl (Nat.le_of_ble_eq_true rfl) (Nat.le_of_ble_eq_true rfl) (Or.inr ⟨1, fs2, wD2, rfl, by decide, hpx, rfl⟩) dL_count_14
  · obtain ⟨z, fs2, wD2, rfl, hpr, rfl⟩ := hps
    refine W.eq (g2 := F0 m9 7 ls [.int (iI z), .int (iI 0), .ref o]) rfl ?_
    refine lv_i2l (v := (iI z).toInt64) F.1 F.2.1 dL_count_7 rfl ?_
    refine ad_last (ws' := (o, aJ (K 1) 1 (va_up go 0 (iI z).toInt64)) :: (d0, .inr (10, fs2)) :: wD2) F G 0 rfl (by decide) rfl dL_count_8 (fun H locs G => ?_)
    replace G := G.pm (List.Perm.swap (d0, .inr (10, fs2)) (o, aJ (K 1) 1 (va_up go 0 (iI z).toInt64)) wD2)
    refine lv_goto (tgt := 15) F.1 F.2.1 dL_count_9 (by decide) ?_
    refine ad_iconst F dL_count_15 ?_
    exact ad_ireturn F G hR rfl (Nat.le_of_ble_eq_true rfl) (Nat.le_of_ble_eq_true rfl) (Or.inl ⟨z, fs2, wD2, rfl, hpr, rfl⟩) dL_count_16
def hL_collision : List (Nat × Nat × Nat × Nat) := [(0, 10, 13, 49)]
set_option maxRecDepth 100000 in
theorem w_collision (l : Launch) (D : va_G) (K : Nat → ClassId) (z0 : Nat) (d0 : Nat) (o : Nat) (fs : List Value) (wD : va_W) (go : Nat → Int64) (a1 : Int) (a2 : Int) (PR : Int → List Value → va_W → Prop) (PX : Int → List Value → va_W → Prop)
    (M : CX l D K z0 yX10_collision cX10_collision 4 (some .int) rmD [.ref d0, .int (iI a1), .int (iI a2)] ((d0, .inr (10, fs)) :: wD) (fun v u => ∃ (z : Int) (fs2 : List Value) (wD2 : va_W), v = some (.int (iI z)) ∧ PR z fs2 wD2 ∧ u = (d0, .inr (10, fs2)) :: wD2) (fun E u => ∃ (fs2 : List Value) (wD2 : va_W), u = (d0, .inr (10, fs2)) :: wD2 ∧ ((E = "java/util/NoSuchElementException" ∧ PX 1 fs2 wD2)))) :
    CH l D K z0 yL_collision cL_collision 5 (some .int) hL_collision rmL [.ref d0, .int (iI a1), .int (iI a2), .ref o] ((d0, .inr (10, fs)) :: (o, aJ (K 1) 1 go) :: wD) (fun v u => (∃ (z : Int) (fs2 : List Value) (wD2 : va_W), v = some (.int (iI 0)) ∧ PR z fs2 wD2 ∧ u = (d0, .inr (10, fs2)) :: (o, aJ (K 1) 1 (va_up go 0 (iI z).toInt64)) :: wD2) ∨ (∃ (k : Int) (fs2 : List Value) (wD2 : va_W), v = some (.int (iI k)) ∧ (1 ≤ k ∧ k ≤ 1) ∧ PX k fs2 wD2 ∧ u = (d0, .inr (10, fs2)) :: (o, aJ (K 1) 1 go) :: wD2)) := by
  refine CH.start RL "collision" (by decide) rfl rfl (Nat.le_of_ble_eq_true rfl) ?_
  intro p9 e9 s9 m9 ag9 bl9 mt9 c9 A9 Q9 ls F G hR ht hl
  have hl : lv_has ls 5 [(0, .ref d0), (1, .int (iI a1)), (2, .int (iI a2)), (3, .ref o)] := hl
  refine lv_aload_n F.1 F.2.1 dL_collision_0 rfl (lv_at hl 3 rfl) ?_
  refine ad_iconst F dL_collision_1 ?_
  refine lv_aload_n F.1 F.2.1 dL_collision_2 rfl (lv_at hl 0 rfl) ?_
  refine lv_iload_n F.1 F.2.1 dL_collision_3 rfl (lv_at hl 1 rfl) ?_
  refine lv_iload_n F.1 F.2.1 dL_collision_4 rfl (lv_at hl 2 rfl) ?_
  refine ad_wcall (As := [.int (iI a1), .int (iI a2)]) (rest := [.int (iI 0), .ref o]) F G M my_X10_collision mv_L_54 rfl rfl rfl ⟨Nat.le_of_ble_eq_true rfl, Nat.le_of_ble_eq_true rfl⟩ ⟨Nat.le_of_ble_eq_true rfl, Nat.le_of_ble_eq_true rfl⟩ (Nat.le_of_ble_eq_true rfl) hl.1 ⟨rfl, rfl⟩ dL_collision_5 (fun E9 u9 H locs ce q hpx G hce hcv hcl => ?_) (fun v9 u9 H locs hps G => ?_)
  · obtain ⟨fs2, wD2, rfl, hpx⟩ := hpx
    replace G := G.pm (List.Perm.swap (d0, .inr (10, fs2)) (o, aJ (K 1) 1 go) wD2)
    obtain ⟨rfl, hpx⟩ := hpx
    refine ad_catch (hh := hL_collision) F G ht 0 (x1 := 0) (x2 := 10) (x3 := 13) (x4 := 49) rfl exL_49 rfl (by decide) lkL_49 csL_49 (by intro z hz; cases hz) hce hcv hcl ?_
    refine lv_astore (lv' := [(4, .ref q), (0, .ref d0), (1, .int (iI a1)), (2, .int (iI a2)), (3, .ref o)]) F.1 F.2.1 dL_collision_13 hl (by decide) rfl (fun ls hl => ?_)
    refine ad_iconst F dL_collision_15 ?_
    exact ad_ireturn F G hR rfl (Nat.le_of_ble_eq_true rfl) (Nat.le_of_ble_eq_true rfl) (Or.inr ⟨1, fs2, wD2, rfl, by decide, hpx, rfl⟩) dL_collision_16
  · obtain ⟨z, fs2, wD2, rfl, hpr, rfl⟩ := hps
    refine W.eq (g2 := F0 m9 8 ls [.int (iI z), .int (iI 0), .ref o]) rfl ?_
    refine lv_i2l (v := (iI z).toInt64) F.1 F.2.1 dL_collision_8 rfl ?_
    refine ad_last (ws' := (o, aJ (K 1) 1 (va_up go 0 (iI z).toInt64)) :: (d0, .inr (10, fs2)) :: wD2) F G 0 rfl (by decide) rfl dL_collision_9 (fun H locs G => ?_)
    replace G := G.pm (List.Perm.swap (d0, .inr (10, fs2)) (o, aJ (K 1) 1 (va_up go 0 (iI z).toInt64)) wD2)
    refine lv_goto (tgt := 17) F.1 F.2.1 dL_collision_10 (by decide) ?_
    refine ad_iconst F dL_collision_17 ?_
    exact ad_ireturn F G hR rfl (Nat.le_of_ble_eq_true rfl) (Nat.le_of_ble_eq_true rfl) (Or.inl ⟨z, fs2, wD2, rfl, hpr, rfl⟩) dL_collision_18
def hL_order : List (Nat × Nat × Nat × Nat) := [(0, 9, 12, 49)]
set_option maxRecDepth 100000 in
theorem w_order (l : Launch) (D : va_G) (K : Nat → ClassId) (z0 : Nat) (d0 : Nat) (o : Nat) (fs : List Value) (wD : va_W) (go : Nat → Int64) (a1 : Int) (PR : Int → List Value → va_W → Prop) (PX : Int → List Value → va_W → Prop)
    (M : CX l D K z0 yX10_order cX10_order 3 (some .int) rmD [.ref d0, .int (iI a1)] ((d0, .inr (10, fs)) :: wD) (fun v u => ∃ (z : Int) (fs2 : List Value) (wD2 : va_W), v = some (.int (iI z)) ∧ PR z fs2 wD2 ∧ u = (d0, .inr (10, fs2)) :: wD2) (fun E u => ∃ (fs2 : List Value) (wD2 : va_W), u = (d0, .inr (10, fs2)) :: wD2 ∧ ((E = "java/util/NoSuchElementException" ∧ PX 1 fs2 wD2)))) :
    CH l D K z0 yL_order cL_order 4 (some .int) hL_order rmL [.ref d0, .int (iI a1), .ref o] ((d0, .inr (10, fs)) :: (o, aJ (K 1) 1 go) :: wD) (fun v u => (∃ (z : Int) (fs2 : List Value) (wD2 : va_W), v = some (.int (iI 0)) ∧ PR z fs2 wD2 ∧ u = (d0, .inr (10, fs2)) :: (o, aJ (K 1) 1 (va_up go 0 (iI z).toInt64)) :: wD2) ∨ (∃ (k : Int) (fs2 : List Value) (wD2 : va_W), v = some (.int (iI k)) ∧ (1 ≤ k ∧ k ≤ 1) ∧ PX k fs2 wD2 ∧ u = (d0, .inr (10, fs2)) :: (o, aJ (K 1) 1 go) :: wD2)) := by
  refine CH.start RL "order" (by decide) rfl rfl (Nat.le_of_ble_eq_true rfl) ?_
  intro p9 e9 s9 m9 ag9 bl9 mt9 c9 A9 Q9 ls F G hR ht hl
  have hl : lv_has ls 4 [(0, .ref d0), (1, .int (iI a1)), (2, .ref o)] := hl
  refine lv_aload_n F.1 F.2.1 dL_order_0 rfl (lv_at hl 2 rfl) ?_
  refine ad_iconst F dL_order_1 ?_
  refine lv_aload_n F.1 F.2.1 dL_order_2 rfl (lv_at hl 0 rfl) ?_
  refine lv_iload_n F.1 F.2.1 dL_order_3 rfl (lv_at hl 1 rfl) ?_
  refine ad_wcall (As := [.int (iI a1)]) (rest := [.int (iI 0), .ref o]) F G M my_X10_order mv_L_58 rfl rfl rfl ⟨Nat.le_of_ble_eq_true rfl, Nat.le_of_ble_eq_true rfl⟩ ⟨Nat.le_of_ble_eq_true rfl, Nat.le_of_ble_eq_true rfl⟩ (Nat.le_of_ble_eq_true rfl) hl.1 ⟨rfl, rfl⟩ dL_order_4 (fun E9 u9 H locs ce q hpx G hce hcv hcl => ?_) (fun v9 u9 H locs hps G => ?_)
  · obtain ⟨fs2, wD2, rfl, hpx⟩ := hpx
    replace G := G.pm (List.Perm.swap (d0, .inr (10, fs2)) (o, aJ (K 1) 1 go) wD2)
    obtain ⟨rfl, hpx⟩ := hpx
    refine ad_catch (hh := hL_order) F G ht 0 (x1 := 0) (x2 := 9) (x3 := 12) (x4 := 49) rfl exL_49 rfl (by decide) lkL_49 csL_49 (by intro z hz; cases hz) hce hcv hcl ?_
    refine lv_astore_n (lv' := [(3, .ref q), (0, .ref d0), (1, .int (iI a1)), (2, .ref o)]) F.1 F.2.1 dL_order_12 rfl hl (by decide) rfl (fun ls hl => ?_)
    refine ad_iconst F dL_order_13 ?_
    exact ad_ireturn F G hR rfl (Nat.le_of_ble_eq_true rfl) (Nat.le_of_ble_eq_true rfl) (Or.inr ⟨1, fs2, wD2, rfl, by decide, hpx, rfl⟩) dL_order_14
  · obtain ⟨z, fs2, wD2, rfl, hpr, rfl⟩ := hps
    refine W.eq (g2 := F0 m9 7 ls [.int (iI z), .int (iI 0), .ref o]) rfl ?_
    refine lv_i2l (v := (iI z).toInt64) F.1 F.2.1 dL_order_7 rfl ?_
    refine ad_last (ws' := (o, aJ (K 1) 1 (va_up go 0 (iI z).toInt64)) :: (d0, .inr (10, fs2)) :: wD2) F G 0 rfl (by decide) rfl dL_order_8 (fun H locs G => ?_)
    replace G := G.pm (List.Perm.swap (d0, .inr (10, fs2)) (o, aJ (K 1) 1 (va_up go 0 (iI z).toInt64)) wD2)
    refine lv_goto (tgt := 15) F.1 F.2.1 dL_order_9 (by decide) ?_
    refine ad_iconst F dL_order_15 ?_
    exact ad_ireturn F G hR rfl (Nat.le_of_ble_eq_true rfl) (Nat.le_of_ble_eq_true rfl) (Or.inl ⟨z, fs2, wD2, rfl, hpr, rfl⟩) dL_order_16
def hL_shadow : List (Nat × Nat × Nat × Nat) := [(0, 10, 13, 21)]
set_option maxRecDepth 100000 in
theorem w_shadow (l : Launch) (D : va_G) (K : Nat → ClassId) (z0 : Nat) (d0 : Nat) (o : Nat) (fs : List Value) (wD : va_W) (go : Nat → Int64) (a1 : Int) (a2 : Int) (PR : Int → List Value → va_W → Prop) (PX : Int → List Value → va_W → Prop)
    (M : CX l D K z0 yX10_shadow cX10_shadow 5 (some .int) rmD [.ref d0, .int (iI a1), .int (iI a2)] ((d0, .inr (10, fs)) :: wD) (fun v u => ∃ (z : Int) (fs2 : List Value) (wD2 : va_W), v = some (.int (iI z)) ∧ PR z fs2 wD2 ∧ u = (d0, .inr (10, fs2)) :: wD2) (fun E u => ∃ (fs2 : List Value) (wD2 : va_W), u = (d0, .inr (10, fs2)) :: wD2 ∧ ((E = "java/lang/IndexOutOfBoundsException" ∧ PX 1 fs2 wD2)))) :
    CH l D K z0 yL_shadow cL_shadow 5 (some .int) hL_shadow rmL [.ref d0, .int (iI a1), .int (iI a2), .ref o] ((d0, .inr (10, fs)) :: (o, aJ (K 1) 1 go) :: wD) (fun v u => (∃ (z : Int) (fs2 : List Value) (wD2 : va_W), v = some (.int (iI 0)) ∧ PR z fs2 wD2 ∧ u = (d0, .inr (10, fs2)) :: (o, aJ (K 1) 1 (va_up go 0 (iI z).toInt64)) :: wD2) ∨ (∃ (k : Int) (fs2 : List Value) (wD2 : va_W), v = some (.int (iI k)) ∧ (1 ≤ k ∧ k ≤ 1) ∧ PX k fs2 wD2 ∧ u = (d0, .inr (10, fs2)) :: (o, aJ (K 1) 1 go) :: wD2)) := by
  refine CH.start RL "shadow" (by decide) rfl rfl (Nat.le_of_ble_eq_true rfl) ?_
  intro p9 e9 s9 m9 ag9 bl9 mt9 c9 A9 Q9 ls F G hR ht hl
  have hl : lv_has ls 5 [(0, .ref d0), (1, .int (iI a1)), (2, .int (iI a2)), (3, .ref o)] := hl
  refine lv_aload_n F.1 F.2.1 dL_shadow_0 rfl (lv_at hl 3 rfl) ?_
  refine ad_iconst F dL_shadow_1 ?_
  refine lv_aload_n F.1 F.2.1 dL_shadow_2 rfl (lv_at hl 0 rfl) ?_
  refine lv_iload_n F.1 F.2.1 dL_shadow_3 rfl (lv_at hl 1 rfl) ?_
  refine lv_iload_n F.1 F.2.1 dL_shadow_4 rfl (lv_at hl 2 rfl) ?_
  refine ad_wcall (As := [.int (iI a1), .int (iI a2)]) (rest := [.int (iI 0), .ref o]) F G M my_X10_shadow mv_L_61 rfl rfl rfl ⟨Nat.le_of_ble_eq_true rfl, Nat.le_of_ble_eq_true rfl⟩ ⟨Nat.le_of_ble_eq_true rfl, Nat.le_of_ble_eq_true rfl⟩ (Nat.le_of_ble_eq_true rfl) hl.1 ⟨rfl, rfl⟩ dL_shadow_5 (fun E9 u9 H locs ce q hpx G hce hcv hcl => ?_) (fun v9 u9 H locs hps G => ?_)
  · obtain ⟨fs2, wD2, rfl, hpx⟩ := hpx
    replace G := G.pm (List.Perm.swap (d0, .inr (10, fs2)) (o, aJ (K 1) 1 go) wD2)
    obtain ⟨rfl, hpx⟩ := hpx
    refine ad_catch (hh := hL_shadow) F G ht 0 (x1 := 0) (x2 := 10) (x3 := 13) (x4 := 21) rfl exL_21 rfl (by decide) lkL_21 csL_21 (by intro z hz; cases hz) hce hcv hcl ?_
    refine lv_astore (lv' := [(4, .ref q), (0, .ref d0), (1, .int (iI a1)), (2, .int (iI a2)), (3, .ref o)]) F.1 F.2.1 dL_shadow_13 hl (by decide) rfl (fun ls hl => ?_)
    refine ad_iconst F dL_shadow_15 ?_
    exact ad_ireturn F G hR rfl (Nat.le_of_ble_eq_true rfl) (Nat.le_of_ble_eq_true rfl) (Or.inr ⟨1, fs2, wD2, rfl, by decide, hpx, rfl⟩) dL_shadow_16
  · obtain ⟨z, fs2, wD2, rfl, hpr, rfl⟩ := hps
    refine W.eq (g2 := F0 m9 8 ls [.int (iI z), .int (iI 0), .ref o]) rfl ?_
    refine lv_i2l (v := (iI z).toInt64) F.1 F.2.1 dL_shadow_8 rfl ?_
    refine ad_last (ws' := (o, aJ (K 1) 1 (va_up go 0 (iI z).toInt64)) :: (d0, .inr (10, fs2)) :: wD2) F G 0 rfl (by decide) rfl dL_shadow_9 (fun H locs G => ?_)
    replace G := G.pm (List.Perm.swap (d0, .inr (10, fs2)) (o, aJ (K 1) 1 (va_up go 0 (iI z).toInt64)) wD2)
    refine lv_goto (tgt := 17) F.1 F.2.1 dL_shadow_10 (by decide) ?_
    refine ad_iconst F dL_shadow_17 ?_
    exact ad_ireturn F G hR rfl (Nat.le_of_ble_eq_true rfl) (Nat.le_of_ble_eq_true rfl) (Or.inl ⟨z, fs2, wD2, rfl, hpr, rfl⟩) dL_shadow_18
def hL_letterCount : List (Nat × Nat × Nat × Nat) := [(0, 10, 13, 13)]
set_option maxRecDepth 100000 in
theorem w_letterCount (l : Launch) (D : va_G) (K : Nat → ClassId) (z0 : Nat) (d0 : Nat) (o : Nat) (fs : List Value) (wD : va_W) (go : Nat → Int64) (a1 : Int) (a2 : Int) (PR : Int → List Value → va_W → Prop) (PX : Int → List Value → va_W → Prop)
    (M : CX l D K z0 yX10_letterCount cX10_letterCount 5 (some .int) rmD [.ref d0, .int (iI a1), .int (iI a2)] ((d0, .inr (10, fs)) :: wD) (fun v u => ∃ (z : Int) (fs2 : List Value) (wD2 : va_W), v = some (.int (iI z)) ∧ PR z fs2 wD2 ∧ u = (d0, .inr (10, fs2)) :: wD2) (fun E u => ∃ (fs2 : List Value) (wD2 : va_W), u = (d0, .inr (10, fs2)) :: wD2 ∧ ((E = "java/lang/IllegalArgumentException" ∧ PX 1 fs2 wD2)))) :
    CH l D K z0 yL_letterCount cL_letterCount 5 (some .int) hL_letterCount rmL [.ref d0, .int (iI a1), .int (iI a2), .ref o] ((d0, .inr (10, fs)) :: (o, aJ (K 1) 1 go) :: wD) (fun v u => (∃ (z : Int) (fs2 : List Value) (wD2 : va_W), v = some (.int (iI 0)) ∧ PR z fs2 wD2 ∧ u = (d0, .inr (10, fs2)) :: (o, aJ (K 1) 1 (va_up go 0 (iI z).toInt64)) :: wD2) ∨ (∃ (k : Int) (fs2 : List Value) (wD2 : va_W), v = some (.int (iI k)) ∧ (1 ≤ k ∧ k ≤ 1) ∧ PX k fs2 wD2 ∧ u = (d0, .inr (10, fs2)) :: (o, aJ (K 1) 1 go) :: wD2)) := by
  refine CH.start RL "letterCount" (by decide) rfl rfl (Nat.le_of_ble_eq_true rfl) ?_
  intro p9 e9 s9 m9 ag9 bl9 mt9 c9 A9 Q9 ls F G hR ht hl
  have hl : lv_has ls 5 [(0, .ref d0), (1, .int (iI a1)), (2, .int (iI a2)), (3, .ref o)] := hl
  refine lv_aload_n F.1 F.2.1 dL_letterCount_0 rfl (lv_at hl 3 rfl) ?_
  refine ad_iconst F dL_letterCount_1 ?_
  refine lv_aload_n F.1 F.2.1 dL_letterCount_2 rfl (lv_at hl 0 rfl) ?_
  refine lv_iload_n F.1 F.2.1 dL_letterCount_3 rfl (lv_at hl 1 rfl) ?_
  refine lv_iload_n F.1 F.2.1 dL_letterCount_4 rfl (lv_at hl 2 rfl) ?_
  refine ad_wcall (As := [.int (iI a1), .int (iI a2)]) (rest := [.int (iI 0), .ref o]) F G M my_X10_letterCount mv_L_64 rfl rfl rfl ⟨Nat.le_of_ble_eq_true rfl, Nat.le_of_ble_eq_true rfl⟩ ⟨Nat.le_of_ble_eq_true rfl, Nat.le_of_ble_eq_true rfl⟩ (Nat.le_of_ble_eq_true rfl) hl.1 ⟨rfl, rfl⟩ dL_letterCount_5 (fun E9 u9 H locs ce q hpx G hce hcv hcl => ?_) (fun v9 u9 H locs hps G => ?_)
  · obtain ⟨fs2, wD2, rfl, hpx⟩ := hpx
    replace G := G.pm (List.Perm.swap (d0, .inr (10, fs2)) (o, aJ (K 1) 1 go) wD2)
    obtain ⟨rfl, hpx⟩ := hpx
    refine ad_catch (hh := hL_letterCount) F G ht 0 (x1 := 0) (x2 := 10) (x3 := 13) (x4 := 13) rfl exL_13 rfl (by decide) lkL_13 csL_13 (by intro z hz; cases hz) hce hcv hcl ?_
    refine lv_astore (lv' := [(4, .ref q), (0, .ref d0), (1, .int (iI a1)), (2, .int (iI a2)), (3, .ref o)]) F.1 F.2.1 dL_letterCount_13 hl (by decide) rfl (fun ls hl => ?_)
    refine ad_iconst F dL_letterCount_15 ?_
    exact ad_ireturn F G hR rfl (Nat.le_of_ble_eq_true rfl) (Nat.le_of_ble_eq_true rfl) (Or.inr ⟨1, fs2, wD2, rfl, by decide, hpx, rfl⟩) dL_letterCount_16
  · obtain ⟨z, fs2, wD2, rfl, hpr, rfl⟩ := hps
    refine W.eq (g2 := F0 m9 8 ls [.int (iI z), .int (iI 0), .ref o]) rfl ?_
    refine lv_i2l (v := (iI z).toInt64) F.1 F.2.1 dL_letterCount_8 rfl ?_
    refine ad_last (ws' := (o, aJ (K 1) 1 (va_up go 0 (iI z).toInt64)) :: (d0, .inr (10, fs2)) :: wD2) F G 0 rfl (by decide) rfl dL_letterCount_9 (fun H locs G => ?_)
    replace G := G.pm (List.Perm.swap (d0, .inr (10, fs2)) (o, aJ (K 1) 1 (va_up go 0 (iI z).toInt64)) wD2)
    refine lv_goto (tgt := 17) F.1 F.2.1 dL_letterCount_10 (by decide) ?_
    refine ad_iconst F dL_letterCount_17 ?_
    exact ad_ireturn F G hR rfl (Nat.le_of_ble_eq_true rfl) (Nat.le_of_ble_eq_true rfl) (Or.inl ⟨z, fs2, wD2, rfl, hpr, rfl⟩) dL_letterCount_18
def hL_saving : List (Nat × Nat × Nat × Nat) := [(0, 9, 12, 13)]
set_option maxRecDepth 100000 in
theorem w_saving (l : Launch) (D : va_G) (K : Nat → ClassId) (z0 : Nat) (d0 : Nat) (o : Nat) (fs : List Value) (wD : va_W) (go : Nat → Int64) (a1 : Int) (PR : Int → List Value → va_W → Prop) (PX : Int → List Value → va_W → Prop)
    (M : CX l D K z0 yX10_saving cX10_saving 4 (some .int) rmD [.ref d0, .int (iI a1)] ((d0, .inr (10, fs)) :: wD) (fun v u => ∃ (z : Int) (fs2 : List Value) (wD2 : va_W), v = some (.int (iI z)) ∧ PR z fs2 wD2 ∧ u = (d0, .inr (10, fs2)) :: wD2) (fun E u => ∃ (fs2 : List Value) (wD2 : va_W), u = (d0, .inr (10, fs2)) :: wD2 ∧ ((E = "java/lang/IllegalArgumentException" ∧ PX 1 fs2 wD2)))) :
    CH l D K z0 yL_saving cL_saving 4 (some .int) hL_saving rmL [.ref d0, .int (iI a1), .ref o] ((d0, .inr (10, fs)) :: (o, aJ (K 1) 1 go) :: wD) (fun v u => (∃ (z : Int) (fs2 : List Value) (wD2 : va_W), v = some (.int (iI 0)) ∧ PR z fs2 wD2 ∧ u = (d0, .inr (10, fs2)) :: (o, aJ (K 1) 1 (va_up go 0 (iI z).toInt64)) :: wD2) ∨ (∃ (k : Int) (fs2 : List Value) (wD2 : va_W), v = some (.int (iI k)) ∧ (1 ≤ k ∧ k ≤ 1) ∧ PX k fs2 wD2 ∧ u = (d0, .inr (10, fs2)) :: (o, aJ (K 1) 1 go) :: wD2)) := by
  refine CH.start RL "saving" (by decide) rfl rfl (Nat.le_of_ble_eq_true rfl) ?_
  intro p9 e9 s9 m9 ag9 bl9 mt9 c9 A9 Q9 ls F G hR ht hl
  have hl : lv_has ls 4 [(0, .ref d0), (1, .int (iI a1)), (2, .ref o)] := hl
  refine lv_aload_n F.1 F.2.1 dL_saving_0 rfl (lv_at hl 2 rfl) ?_
  refine ad_iconst F dL_saving_1 ?_
  refine lv_aload_n F.1 F.2.1 dL_saving_2 rfl (lv_at hl 0 rfl) ?_
  refine lv_iload_n F.1 F.2.1 dL_saving_3 rfl (lv_at hl 1 rfl) ?_
  refine ad_wcall (As := [.int (iI a1)]) (rest := [.int (iI 0), .ref o]) F G M my_X10_saving mv_L_68 rfl rfl rfl ⟨Nat.le_of_ble_eq_true rfl, Nat.le_of_ble_eq_true rfl⟩ ⟨Nat.le_of_ble_eq_true rfl, Nat.le_of_ble_eq_true rfl⟩ (Nat.le_of_ble_eq_true rfl) hl.1 ⟨rfl, rfl⟩ dL_saving_4 (fun E9 u9 H locs ce q hpx G hce hcv hcl => ?_) (fun v9 u9 H locs hps G => ?_)
  · obtain ⟨fs2, wD2, rfl, hpx⟩ := hpx
    replace G := G.pm (List.Perm.swap (d0, .inr (10, fs2)) (o, aJ (K 1) 1 go) wD2)
    obtain ⟨rfl, hpx⟩ := hpx
    refine ad_catch (hh := hL_saving) F G ht 0 (x1 := 0) (x2 := 9) (x3 := 12) (x4 := 13) rfl exL_13 rfl (by decide) lkL_13 csL_13 (by intro z hz; cases hz) hce hcv hcl ?_
    refine lv_astore_n (lv' := [(3, .ref q), (0, .ref d0), (1, .int (iI a1)), (2, .ref o)]) F.1 F.2.1 dL_saving_12 rfl hl (by decide) rfl (fun ls hl => ?_)
    refine ad_iconst F dL_saving_13 ?_
    exact ad_ireturn F G hR rfl (Nat.le_of_ble_eq_true rfl) (Nat.le_of_ble_eq_true rfl) (Or.inr ⟨1, fs2, wD2, rfl, by decide, hpx, rfl⟩) dL_saving_14
  · obtain ⟨z, fs2, wD2, rfl, hpr, rfl⟩ := hps
    refine W.eq (g2 := F0 m9 7 ls [.int (iI z), .int (iI 0), .ref o]) rfl ?_
    refine lv_i2l (v := (iI z).toInt64) F.1 F.2.1 dL_saving_7 rfl ?_
    refine ad_last (ws' := (o, aJ (K 1) 1 (va_up go 0 (iI z).toInt64)) :: (d0, .inr (10, fs2)) :: wD2) F G 0 rfl (by decide) rfl dL_saving_8 (fun H locs G => ?_)
    replace G := G.pm (List.Perm.swap (d0, .inr (10, fs2)) (o, aJ (K 1) 1 (va_up go 0 (iI z).toInt64)) wD2)
    refine lv_goto (tgt := 15) F.1 F.2.1 dL_saving_9 (by decide) ?_
    refine ad_iconst F dL_saving_15 ?_
    exact ad_ireturn F G hR rfl (Nat.le_of_ble_eq_true rfl) (Nat.le_of_ble_eq_true rfl) (Or.inl ⟨z, fs2, wD2, rfl, hpr, rfl⟩) dL_saving_16
def hL_learn : List (Nat × Nat × Nat × Nat) := [(0, 8, 11, 13)]
set_option maxRecDepth 100000 in
theorem w_learn (l : Launch) (D : va_G) (K : Nat → ClassId) (z0 : Nat) (d0 : Nat) (o : Nat) (fs : List Value) (wD : va_W) (go : Nat → Int64)  (PR : Int → List Value → va_W → Prop) (PX : Int → List Value → va_W → Prop)
    (M : CX l D K z0 yX10_learn cX10_learn 3 (some .int) rmD [.ref d0] ((d0, .inr (10, fs)) :: wD) (fun v u => ∃ (z : Int) (fs2 : List Value) (wD2 : va_W), v = some (.int (iI z)) ∧ PR z fs2 wD2 ∧ u = (d0, .inr (10, fs2)) :: wD2) (fun E u => ∃ (fs2 : List Value) (wD2 : va_W), u = (d0, .inr (10, fs2)) :: wD2 ∧ ((E = "java/lang/IllegalArgumentException" ∧ PX 1 fs2 wD2)))) :
    CH l D K z0 yL_learn cL_learn 3 (some .int) hL_learn rmL [.ref d0, .ref o] ((d0, .inr (10, fs)) :: (o, aJ (K 1) 1 go) :: wD) (fun v u => (∃ (z : Int) (fs2 : List Value) (wD2 : va_W), v = some (.int (iI 0)) ∧ PR z fs2 wD2 ∧ u = (d0, .inr (10, fs2)) :: (o, aJ (K 1) 1 (va_up go 0 (iI z).toInt64)) :: wD2) ∨ (∃ (k : Int) (fs2 : List Value) (wD2 : va_W), v = some (.int (iI k)) ∧ (1 ≤ k ∧ k ≤ 1) ∧ PX k fs2 wD2 ∧ u = (d0, .inr (10, fs2)) :: (o, aJ (K 1) 1 go) :: wD2)) := by
  refine CH.start RL "learn" (by decide) rfl rfl (Nat.le_of_ble_eq_true rfl) ?_
  intro p9 e9 s9 m9 ag9 bl9 mt9 c9 A9 Q9 ls F G hR ht hl
  have hl : lv_has ls 3 [(0, .ref d0), (1, .ref o)] := hl
  refine lv_aload_n F.1 F.2.1 dL_learn_0 rfl (lv_at hl 1 rfl) ?_
  refine ad_iconst F dL_learn_1 ?_
  refine lv_aload_n F.1 F.2.1 dL_learn_2 rfl (lv_at hl 0 rfl) ?_
  refine ad_wcall (As := []) (rest := [.int (iI 0), .ref o]) F G M my_X10_learn mv_L_71 rfl rfl rfl ⟨Nat.le_of_ble_eq_true rfl, Nat.le_of_ble_eq_true rfl⟩ ⟨Nat.le_of_ble_eq_true rfl, Nat.le_of_ble_eq_true rfl⟩ (Nat.le_of_ble_eq_true rfl) hl.1 ⟨rfl, rfl⟩ dL_learn_3 (fun E9 u9 H locs ce q hpx G hce hcv hcl => ?_) (fun v9 u9 H locs hps G => ?_)
  · obtain ⟨fs2, wD2, rfl, hpx⟩ := hpx
    replace G := G.pm (List.Perm.swap (d0, .inr (10, fs2)) (o, aJ (K 1) 1 go) wD2)
    obtain ⟨rfl, hpx⟩ := hpx
    refine ad_catch (hh := hL_learn) F G ht 0 (x1 := 0) (x2 := 8) (x3 := 11) (x4 := 13) rfl exL_13 rfl (by decide) lkL_13 csL_13 (by intro z hz; cases hz) hce hcv hcl ?_
    refine lv_astore_n (lv' := [(2, .ref q), (0, .ref d0), (1, .ref o)]) F.1 F.2.1 dL_learn_11 rfl hl (by decide) rfl (fun ls hl => ?_)
    refine ad_iconst F dL_learn_12 ?_
    exact ad_ireturn F G hR rfl (Nat.le_of_ble_eq_true rfl) (Nat.le_of_ble_eq_true rfl) (Or.inr ⟨1, fs2, wD2, rfl, by decide, hpx, rfl⟩) dL_learn_13
  · obtain ⟨z, fs2, wD2, rfl, hpr, rfl⟩ := hps
    refine W.eq (g2 := F0 m9 6 ls [.int (iI z), .int (iI 0), .ref o]) rfl ?_
    refine lv_i2l (v := (iI z).toInt64) F.1 F.2.1 dL_learn_6 rfl ?_
    refine ad_last (ws' := (o, aJ (K 1) 1 (va_up go 0 (iI z).toInt64)) :: (d0, .inr (10, fs2)) :: wD2) F G 0 rfl (by decide) rfl dL_learn_7 (fun H locs G => ?_)
    replace G := G.pm (List.Perm.swap (d0, .inr (10, fs2)) (o, aJ (K 1) 1 (va_up go 0 (iI z).toInt64)) wD2)
    refine lv_goto (tgt := 14) F.1 F.2.1 dL_learn_8 (by decide) ?_
    refine ad_iconst F dL_learn_14 ?_
    exact ad_ireturn F G hR rfl (Nat.le_of_ble_eq_true rfl) (Nat.le_of_ble_eq_true rfl) (Or.inl ⟨z, fs2, wD2, rfl, hpr, rfl⟩) dL_learn_15
def hL_pair : List (Nat × Nat × Nat × Nat) := [(0, 10, 13, 21), (0, 10, 17, 13)]
set_option maxRecDepth 100000 in
theorem w_pair (l : Launch) (D : va_G) (K : Nat → ClassId) (z0 : Nat) (d0 : Nat) (o : Nat) (fs : List Value) (wD : va_W) (go : Nat → Int64) (a1 : Int) (a2 : Int) (PR : Int → List Value → va_W → Prop) (PX : Int → List Value → va_W → Prop)
    (M : CX l D K z0 yX10_pair cX10_pair 3 (some .int) rmD [.ref d0, .int (iI a1), .int (iI a2)] ((d0, .inr (10, fs)) :: wD) (fun v u => ∃ (z : Int) (fs2 : List Value) (wD2 : va_W), v = some (.int (iI z)) ∧ PR z fs2 wD2 ∧ u = (d0, .inr (10, fs2)) :: wD2) (fun E u => ∃ (fs2 : List Value) (wD2 : va_W), u = (d0, .inr (10, fs2)) :: wD2 ∧ ((E = "java/lang/IndexOutOfBoundsException" ∧ PX 1 fs2 wD2) ∨ (E = "java/lang/IllegalArgumentException" ∧ PX 2 fs2 wD2)))) :
    CH l D K z0 yL_pair cL_pair 5 (some .int) hL_pair rmL [.ref d0, .int (iI a1), .int (iI a2), .ref o] ((d0, .inr (10, fs)) :: (o, aJ (K 1) 1 go) :: wD) (fun v u => (∃ (z : Int) (fs2 : List Value) (wD2 : va_W), v = some (.int (iI 0)) ∧ PR z fs2 wD2 ∧ u = (d0, .inr (10, fs2)) :: (o, aJ (K 1) 1 (va_up go 0 (iI z).toInt64)) :: wD2) ∨ (∃ (k : Int) (fs2 : List Value) (wD2 : va_W), v = some (.int (iI k)) ∧ (1 ≤ k ∧ k ≤ 2) ∧ PX k fs2 wD2 ∧ u = (d0, .inr (10, fs2)) :: (o, aJ (K 1) 1 go) :: wD2)) := by
  refine CH.start RL "pair" (by decide) rfl rfl (Nat.le_of_ble_eq_true rfl) ?_
  intro p9 e9 s9 m9 ag9 bl9 mt9 c9 A9 Q9 ls F G hR ht hl
  have hl : lv_has ls 5 [(0, .ref d0), (1, .int (iI a1)), (2, .int (iI a2)), (3, .ref o)] := hl
  refine lv_aload_n F.1 F.2.1 dL_pair_0 rfl (lv_at hl 3 rfl) ?_
  refine ad_iconst F dL_pair_1 ?_
  refine lv_aload_n F.1 F.2.1 dL_pair_2 rfl (lv_at hl 0 rfl) ?_
  refine lv_iload_n F.1 F.2.1 dL_pair_3 rfl (lv_at hl 1 rfl) ?_
  refine lv_iload_n F.1 F.2.1 dL_pair_4 rfl (lv_at hl 2 rfl) ?_
  refine ad_wcall (As := [.int (iI a1), .int (iI a2)]) (rest := [.int (iI 0), .ref o]) F G M my_X10_pair mv_L_75 rfl rfl rfl ⟨Nat.le_of_ble_eq_true rfl, Nat.le_of_ble_eq_true rfl⟩ ⟨Nat.le_of_ble_eq_true rfl, Nat.le_of_ble_eq_true rfl⟩ (Nat.le_of_ble_eq_true rfl) hl.1 ⟨rfl, rfl⟩ dL_pair_5 (fun E9 u9 H locs ce q hpx G hce hcv hcl => ?_) (fun v9 u9 H locs hps G => ?_)
  · obtain ⟨fs2, wD2, rfl, hpx⟩ := hpx
    replace G := G.pm (List.Perm.swap (d0, .inr (10, fs2)) (o, aJ (K 1) 1 go) wD2)
    rcases hpx with ⟨rfl, hpx⟩ | ⟨rfl, hpx⟩
    · refine ad_catch (hh := hL_pair) F G ht 0 (x1 := 0) (x2 := 10) (x3 := 13) (x4 := 21) rfl exL_21 rfl (by decide) lkL_21 csL_21 (by intro z hz; cases hz) hce hcv hcl ?_
      refine lv_astore (lv' := [(4, .ref q), (0, .ref d0), (1, .int (iI a1)), (2, .int (iI a2)), (3, .ref o)]) F.1 F.2.1 dL_pair_13 hl (by decide) rfl (fun ls hl => ?_)
      refine ad_iconst F dL_pair_15 ?_
      exact ad_ireturn F G hR rfl (Nat.le_of_ble_eq_true rfl) (Nat.le_of_ble_eq_true rfl) (Or.inr ⟨1, fs2, wD2, rfl, by decide, hpx, rfl⟩) dL_pair_16
    · refine ad_catch (hh := hL_pair) F G ht 1 (x1 := 0) (x2 := 10) (x3 := 17) (x4 := 13) rfl exL_13 rfl (by decide) lkL_13 csL_13 (by exact List.forall_mem_cons.mpr ⟨⟨by decide, "java/lang/IndexOutOfBoundsException", exL_21, by decide, lkL_21⟩, (fun _ h => absurd h List.not_mem_nil)⟩) hce hcv hcl ?_
      refine lv_astore (lv' := [(4, .ref q), (0, .ref d0), (1, .int (iI a1)), (2, .int (iI a2)), (3, .ref o)]) F.1 F.2.1 dL_pair_17 hl (by decide) rfl (fun ls hl => ?_)
      refine ad_iconst F dL_pair_19 ?_
      exact ad_ireturn F G hR rfl (Nat.le_of_ble_eq_true rfl) (Nat.le_of_ble_eq_true rfl) (Or.inr ⟨2, fs2, wD2, rfl, by decide, hpx, rfl⟩) dL_pair_20
  · obtain ⟨z, fs2, wD2, rfl, hpr, rfl⟩ := hps
    refine W.eq (g2 := F0 m9 8 ls [.int (iI z), .int (iI 0), .ref o]) rfl ?_
    refine lv_i2l (v := (iI z).toInt64) F.1 F.2.1 dL_pair_8 rfl ?_
    refine ad_last (ws' := (o, aJ (K 1) 1 (va_up go 0 (iI z).toInt64)) :: (d0, .inr (10, fs2)) :: wD2) F G 0 rfl (by decide) rfl dL_pair_9 (fun H locs G => ?_)
    replace G := G.pm (List.Perm.swap (d0, .inr (10, fs2)) (o, aJ (K 1) 1 (va_up go 0 (iI z).toInt64)) wD2)
    refine lv_goto (tgt := 21) F.1 F.2.1 dL_pair_10 (by decide) ?_
    refine ad_iconst F dL_pair_21 ?_
    exact ad_ireturn F G hR rfl (Nat.le_of_ble_eq_true rfl) (Nat.le_of_ble_eq_true rfl) (Or.inl ⟨z, fs2, wD2, rfl, hpr, rfl⟩) dL_pair_22
def hL_abbreviate : List (Nat × Nat × Nat × Nat) := [(0, 8, 11, 13)]
set_option maxRecDepth 100000 in
theorem w_abbreviate (l : Launch) (D : va_G) (K : Nat → ClassId) (z0 : Nat) (d0 : Nat) (o : Nat) (fs : List Value) (wD : va_W) (go : Nat → Int64)  (PR : Int → List Value → va_W → Prop) (PX : Int → List Value → va_W → Prop)
    (M : CX l D K z0 yX10_abbreviate cX10_abbreviate 1 (some .int) rmD [.ref d0] ((d0, .inr (10, fs)) :: wD) (fun v u => ∃ (z : Int) (fs2 : List Value) (wD2 : va_W), v = some (.int (iI z)) ∧ PR z fs2 wD2 ∧ u = (d0, .inr (10, fs2)) :: wD2) (fun E u => ∃ (fs2 : List Value) (wD2 : va_W), u = (d0, .inr (10, fs2)) :: wD2 ∧ ((E = "java/lang/IllegalArgumentException" ∧ PX 1 fs2 wD2)))) :
    CH l D K z0 yL_abbreviate cL_abbreviate 3 (some .int) hL_abbreviate rmL [.ref d0, .ref o] ((d0, .inr (10, fs)) :: (o, aJ (K 1) 1 go) :: wD) (fun v u => (∃ (z : Int) (fs2 : List Value) (wD2 : va_W), v = some (.int (iI 0)) ∧ PR z fs2 wD2 ∧ u = (d0, .inr (10, fs2)) :: (o, aJ (K 1) 1 (va_up go 0 (iI z).toInt64)) :: wD2) ∨ (∃ (k : Int) (fs2 : List Value) (wD2 : va_W), v = some (.int (iI k)) ∧ (1 ≤ k ∧ k ≤ 1) ∧ PX k fs2 wD2 ∧ u = (d0, .inr (10, fs2)) :: (o, aJ (K 1) 1 go) :: wD2)) := by
  refine CH.start RL "abbreviate" (by decide) rfl rfl (Nat.le_of_ble_eq_true rfl) ?_
  intro p9 e9 s9 m9 ag9 bl9 mt9 c9 A9 Q9 ls F G hR ht hl
  have hl : lv_has ls 3 [(0, .ref d0), (1, .ref o)] := hl
  refine lv_aload_n F.1 F.2.1 dL_abbreviate_0 rfl (lv_at hl 1 rfl) ?_
  refine ad_iconst F dL_abbreviate_1 ?_
  refine lv_aload_n F.1 F.2.1 dL_abbreviate_2 rfl (lv_at hl 0 rfl) ?_
  refine ad_wcall (As := []) (rest := [.int (iI 0), .ref o]) F G M my_X10_abbreviate mv_L_78 rfl rfl rfl ⟨Nat.le_of_ble_eq_true rfl, Nat.le_of_ble_eq_true rfl⟩ ⟨Nat.le_of_ble_eq_true rfl, Nat.le_of_ble_eq_true rfl⟩ (Nat.le_of_ble_eq_true rfl) hl.1 ⟨rfl, rfl⟩ dL_abbreviate_3 (fun E9 u9 H locs ce q hpx G hce hcv hcl => ?_) (fun v9 u9 H locs hps G => ?_)
  · obtain ⟨fs2, wD2, rfl, hpx⟩ := hpx
    replace G := G.pm (List.Perm.swap (d0, .inr (10, fs2)) (o, aJ (K 1) 1 go) wD2)
    obtain ⟨rfl, hpx⟩ := hpx
    refine ad_catch (hh := hL_abbreviate) F G ht 0 (x1 := 0) (x2 := 8) (x3 := 11) (x4 := 13) rfl exL_13 rfl (by decide) lkL_13 csL_13 (by intro z hz; cases hz) hce hcv hcl ?_
    refine lv_astore_n (lv' := [(2, .ref q), (0, .ref d0), (1, .ref o)]) F.1 F.2.1 dL_abbreviate_11 rfl hl (by decide) rfl (fun ls hl => ?_)
    refine ad_iconst F dL_abbreviate_12 ?_
    exact ad_ireturn F G hR rfl (Nat.le_of_ble_eq_true rfl) (Nat.le_of_ble_eq_true rfl) (Or.inr ⟨1, fs2, wD2, rfl, by decide, hpx, rfl⟩) dL_abbreviate_13
  · obtain ⟨z, fs2, wD2, rfl, hpr, rfl⟩ := hps
    refine W.eq (g2 := F0 m9 6 ls [.int (iI z), .int (iI 0), .ref o]) rfl ?_
    refine lv_i2l (v := (iI z).toInt64) F.1 F.2.1 dL_abbreviate_6 rfl ?_
    refine ad_last (ws' := (o, aJ (K 1) 1 (va_up go 0 (iI z).toInt64)) :: (d0, .inr (10, fs2)) :: wD2) F G 0 rfl (by decide) rfl dL_abbreviate_7 (fun H locs G => ?_)
    replace G := G.pm (List.Perm.swap (d0, .inr (10, fs2)) (o, aJ (K 1) 1 (va_up go 0 (iI z).toInt64)) wD2)
    refine lv_goto (tgt := 14) F.1 F.2.1 dL_abbreviate_8 (by decide) ?_
    refine ad_iconst F dL_abbreviate_14 ?_
    exact ad_ireturn F G hR rfl (Nat.le_of_ble_eq_true rfl) (Nat.le_of_ble_eq_true rfl) (Or.inl ⟨z, fs2, wD2, rfl, hpr, rfl⟩) dL_abbreviate_15
def hL_expand : List (Nat × Nat × Nat × Nat) := [(0, 8, 11, 13)]
set_option maxRecDepth 100000 in
theorem w_expand (l : Launch) (D : va_G) (K : Nat → ClassId) (z0 : Nat) (d0 : Nat) (o : Nat) (fs : List Value) (wD : va_W) (go : Nat → Int64)  (PR : Int → List Value → va_W → Prop) (PX : Int → List Value → va_W → Prop)
    (M : CX l D K z0 yX10_expand cX10_expand 1 (some .int) rmD [.ref d0] ((d0, .inr (10, fs)) :: wD) (fun v u => ∃ (z : Int) (fs2 : List Value) (wD2 : va_W), v = some (.int (iI z)) ∧ PR z fs2 wD2 ∧ u = (d0, .inr (10, fs2)) :: wD2) (fun E u => ∃ (fs2 : List Value) (wD2 : va_W), u = (d0, .inr (10, fs2)) :: wD2 ∧ ((E = "java/lang/IllegalArgumentException" ∧ PX 1 fs2 wD2)))) :
    CH l D K z0 yL_expand cL_expand 3 (some .int) hL_expand rmL [.ref d0, .ref o] ((d0, .inr (10, fs)) :: (o, aJ (K 1) 1 go) :: wD) (fun v u => (∃ (z : Int) (fs2 : List Value) (wD2 : va_W), v = some (.int (iI 0)) ∧ PR z fs2 wD2 ∧ u = (d0, .inr (10, fs2)) :: (o, aJ (K 1) 1 (va_up go 0 (iI z).toInt64)) :: wD2) ∨ (∃ (k : Int) (fs2 : List Value) (wD2 : va_W), v = some (.int (iI k)) ∧ (1 ≤ k ∧ k ≤ 1) ∧ PX k fs2 wD2 ∧ u = (d0, .inr (10, fs2)) :: (o, aJ (K 1) 1 go) :: wD2)) := by
  refine CH.start RL "expand" (by decide) rfl rfl (Nat.le_of_ble_eq_true rfl) ?_
  intro p9 e9 s9 m9 ag9 bl9 mt9 c9 A9 Q9 ls F G hR ht hl
  have hl : lv_has ls 3 [(0, .ref d0), (1, .ref o)] := hl
  refine lv_aload_n F.1 F.2.1 dL_expand_0 rfl (lv_at hl 1 rfl) ?_
  refine ad_iconst F dL_expand_1 ?_
  refine lv_aload_n F.1 F.2.1 dL_expand_2 rfl (lv_at hl 0 rfl) ?_
  refine ad_wcall (As := []) (rest := [.int (iI 0), .ref o]) F G M my_X10_expand mv_L_81 rfl rfl rfl ⟨Nat.le_of_ble_eq_true rfl, Nat.le_of_ble_eq_true rfl⟩ ⟨Nat.le_of_ble_eq_true rfl, Nat.le_of_ble_eq_true rfl⟩ (Nat.le_of_ble_eq_true rfl) hl.1 ⟨rfl, rfl⟩ dL_expand_3 (fun E9 u9 H locs ce q hpx G hce hcv hcl => ?_) (fun v9 u9 H locs hps G => ?_)
  · obtain ⟨fs2, wD2, rfl, hpx⟩ := hpx
    replace G := G.pm (List.Perm.swap (d0, .inr (10, fs2)) (o, aJ (K 1) 1 go) wD2)
    obtain ⟨rfl, hpx⟩ := hpx
    refine ad_catch (hh := hL_expand) F G ht 0 (x1 := 0) (x2 := 8) (x3 := 11) (x4 := 13) rfl exL_13 rfl (by decide) lkL_13 csL_13 (by intro z hz; cases hz) hce hcv hcl ?_
    refine lv_astore_n (lv' := [(2, .ref q), (0, .ref d0), (1, .ref o)]) F.1 F.2.1 dL_expand_11 rfl hl (by decide) rfl (fun ls hl => ?_)
    refine ad_iconst F dL_expand_12 ?_
    exact ad_ireturn F G hR rfl (Nat.le_of_ble_eq_true rfl) (Nat.le_of_ble_eq_true rfl) (Or.inr ⟨1, fs2, wD2, rfl, by decide, hpx, rfl⟩) dL_expand_13
  · obtain ⟨z, fs2, wD2, rfl, hpr, rfl⟩ := hps
    refine W.eq (g2 := F0 m9 6 ls [.int (iI z), .int (iI 0), .ref o]) rfl ?_
    refine lv_i2l (v := (iI z).toInt64) F.1 F.2.1 dL_expand_6 rfl ?_
    refine ad_last (ws' := (o, aJ (K 1) 1 (va_up go 0 (iI z).toInt64)) :: (d0, .inr (10, fs2)) :: wD2) F G 0 rfl (by decide) rfl dL_expand_7 (fun H locs G => ?_)
    replace G := G.pm (List.Perm.swap (d0, .inr (10, fs2)) (o, aJ (K 1) 1 (va_up go 0 (iI z).toInt64)) wD2)
    refine lv_goto (tgt := 14) F.1 F.2.1 dL_expand_8 (by decide) ?_
    refine ad_iconst F dL_expand_14 ?_
    exact ad_ireturn F G hR rfl (Nat.le_of_ble_eq_true rfl) (Nat.le_of_ble_eq_true rfl) (Or.inl ⟨z, fs2, wD2, rfl, hpr, rfl⟩) dL_expand_15
def hL_errorPosition : List (Nat × Nat × Nat × Nat) := [(0, 8, 11, 49)]
set_option maxRecDepth 100000 in
theorem w_errorPosition (l : Launch) (D : va_G) (K : Nat → ClassId) (z0 : Nat) (d0 : Nat) (o : Nat) (fs : List Value) (wD : va_W) (go : Nat → Int64)  (PR : Int → List Value → va_W → Prop) (PX : Int → List Value → va_W → Prop)
    (M : CX l D K z0 yX10_errorPosition cX10_errorPosition 1 (some .int) rmD [.ref d0] ((d0, .inr (10, fs)) :: wD) (fun v u => ∃ (z : Int) (fs2 : List Value) (wD2 : va_W), v = some (.int (iI z)) ∧ PR z fs2 wD2 ∧ u = (d0, .inr (10, fs2)) :: wD2) (fun E u => ∃ (fs2 : List Value) (wD2 : va_W), u = (d0, .inr (10, fs2)) :: wD2 ∧ ((E = "java/util/NoSuchElementException" ∧ PX 1 fs2 wD2)))) :
    CH l D K z0 yL_errorPosition cL_errorPosition 3 (some .int) hL_errorPosition rmL [.ref d0, .ref o] ((d0, .inr (10, fs)) :: (o, aJ (K 1) 1 go) :: wD) (fun v u => (∃ (z : Int) (fs2 : List Value) (wD2 : va_W), v = some (.int (iI 0)) ∧ PR z fs2 wD2 ∧ u = (d0, .inr (10, fs2)) :: (o, aJ (K 1) 1 (va_up go 0 (iI z).toInt64)) :: wD2) ∨ (∃ (k : Int) (fs2 : List Value) (wD2 : va_W), v = some (.int (iI k)) ∧ (1 ≤ k ∧ k ≤ 1) ∧ PX k fs2 wD2 ∧ u = (d0, .inr (10, fs2)) :: (o, aJ (K 1) 1 go) :: wD2)) := by
  refine CH.start RL "errorPosition" (by decide) rfl rfl (Nat.le_of_ble_eq_true rfl) ?_
  intro p9 e9 s9 m9 ag9 bl9 mt9 c9 A9 Q9 ls F G hR ht hl
  have hl : lv_has ls 3 [(0, .ref d0), (1, .ref o)] := hl
  refine lv_aload_n F.1 F.2.1 dL_errorPosition_0 rfl (lv_at hl 1 rfl) ?_
  refine ad_iconst F dL_errorPosition_1 ?_
  refine lv_aload_n F.1 F.2.1 dL_errorPosition_2 rfl (lv_at hl 0 rfl) ?_
  refine ad_wcall (As := []) (rest := [.int (iI 0), .ref o]) F G M my_X10_errorPosition mv_L_84 rfl rfl rfl ⟨Nat.le_of_ble_eq_true rfl, Nat.le_of_ble_eq_true rfl⟩ ⟨Nat.le_of_ble_eq_true rfl, Nat.le_of_ble_eq_true rfl⟩ (Nat.le_of_ble_eq_true rfl) hl.1 ⟨rfl, rfl⟩ dL_errorPosition_3 (fun E9 u9 H locs ce q hpx G hce hcv hcl => ?_) (fun v9 u9 H locs hps G => ?_)
  · obtain ⟨fs2, wD2, rfl, hpx⟩ := hpx
    replace G := G.pm (List.Perm.swap (d0, .inr (10, fs2)) (o, aJ (K 1) 1 go) wD2)
    obtain ⟨rfl, hpx⟩ := hpx
    refine ad_catch (hh := hL_errorPosition) F G ht 0 (x1 := 0) (x2 := 8) (x3 := 11) (x4 := 49) rfl exL_49 rfl (by decide) lkL_49 csL_49 (by intro z hz; cases hz) hce hcv hcl ?_
    refine lv_astore_n (lv' := [(2, .ref q), (0, .ref d0), (1, .ref o)]) F.1 F.2.1 dL_errorPosition_11 rfl hl (by decide) rfl (fun ls hl => ?_)
    refine ad_iconst F dL_errorPosition_12 ?_
    exact ad_ireturn F G hR rfl (Nat.le_of_ble_eq_true rfl) (Nat.le_of_ble_eq_true rfl) (Or.inr ⟨1, fs2, wD2, rfl, by decide, hpx, rfl⟩) dL_errorPosition_13
  · obtain ⟨z, fs2, wD2, rfl, hpr, rfl⟩ := hps
    refine W.eq (g2 := F0 m9 6 ls [.int (iI z), .int (iI 0), .ref o]) rfl ?_
    refine lv_i2l (v := (iI z).toInt64) F.1 F.2.1 dL_errorPosition_6 rfl ?_
    refine ad_last (ws' := (o, aJ (K 1) 1 (va_up go 0 (iI z).toInt64)) :: (d0, .inr (10, fs2)) :: wD2) F G 0 rfl (by decide) rfl dL_errorPosition_7 (fun H locs G => ?_)
    replace G := G.pm (List.Perm.swap (d0, .inr (10, fs2)) (o, aJ (K 1) 1 (va_up go 0 (iI z).toInt64)) wD2)
    refine lv_goto (tgt := 14) F.1 F.2.1 dL_errorPosition_8 (by decide) ?_
    refine ad_iconst F dL_errorPosition_14 ?_
    exact ad_ireturn F G hR rfl (Nat.le_of_ble_eq_true rfl) (Nat.le_of_ble_eq_true rfl) (Or.inl ⟨z, fs2, wD2, rfl, hpr, rfl⟩) dL_errorPosition_15
def hL_output : List (Nat × Nat × Nat × Nat) := [(0, 9, 12, 23), (0, 9, 15, 21)]
set_option maxRecDepth 100000 in
theorem w_output (l : Launch) (D : va_G) (K : Nat → ClassId) (z0 : Nat) (d0 : Nat) (o : Nat) (fs : List Value) (wD : va_W) (go : Nat → Int64) (a1 : Int) (PR : Int → List Value → va_W → Prop) (PX : Int → List Value → va_W → Prop)
    (M : CX l D K z0 yX10_output cX10_output 2 (some .char) rmD [.ref d0, .int (iI a1)] ((d0, .inr (10, fs)) :: wD) (fun v u => ∃ (z : Int) (fs2 : List Value) (wD2 : va_W), v = some (.int (iI z)) ∧ PR z fs2 wD2 ∧ u = (d0, .inr (10, fs2)) :: wD2) (fun E u => ∃ (fs2 : List Value) (wD2 : va_W), u = (d0, .inr (10, fs2)) :: wD2 ∧ ((E = "java/lang/IllegalStateException" ∧ PX 1 fs2 wD2) ∨ (E = "java/lang/IndexOutOfBoundsException" ∧ PX 2 fs2 wD2)))) :
    CH l D K z0 yL_output cL_output 4 (some .int) hL_output rmL [.ref d0, .int (iI a1), .ref o] ((d0, .inr (10, fs)) :: (o, aJ (K 1) 1 go) :: wD) (fun v u => (∃ (z : Int) (fs2 : List Value) (wD2 : va_W), v = some (.int (iI 0)) ∧ PR z fs2 wD2 ∧ u = (d0, .inr (10, fs2)) :: (o, aJ (K 1) 1 (va_up go 0 (iI z).toInt64)) :: wD2) ∨ (∃ (k : Int) (fs2 : List Value) (wD2 : va_W), v = some (.int (iI k)) ∧ (1 ≤ k ∧ k ≤ 2) ∧ PX k fs2 wD2 ∧ u = (d0, .inr (10, fs2)) :: (o, aJ (K 1) 1 go) :: wD2)) := by
  refine CH.start RL "output" (by decide) rfl rfl (Nat.le_of_ble_eq_true rfl) ?_
  intro p9 e9 s9 m9 ag9 bl9 mt9 c9 A9 Q9 ls F G hR ht hl
  have hl : lv_has ls 4 [(0, .ref d0), (1, .int (iI a1)), (2, .ref o)] := hl
  refine lv_aload_n F.1 F.2.1 dL_output_0 rfl (lv_at hl 2 rfl) ?_
  refine ad_iconst F dL_output_1 ?_
  refine lv_aload_n F.1 F.2.1 dL_output_2 rfl (lv_at hl 0 rfl) ?_
  refine lv_iload_n F.1 F.2.1 dL_output_3 rfl (lv_at hl 1 rfl) ?_
  refine ad_wcall (As := [.int (iI a1)]) (rest := [.int (iI 0), .ref o]) F G M my_X10_output mv_L_87 rfl rfl rfl ⟨Nat.le_of_ble_eq_true rfl, Nat.le_of_ble_eq_true rfl⟩ ⟨Nat.le_of_ble_eq_true rfl, Nat.le_of_ble_eq_true rfl⟩ (Nat.le_of_ble_eq_true rfl) hl.1 ⟨rfl, rfl⟩ dL_output_4 (fun E9 u9 H locs ce q hpx G hce hcv hcl => ?_) (fun v9 u9 H locs hps G => ?_)
  · obtain ⟨fs2, wD2, rfl, hpx⟩ := hpx
    replace G := G.pm (List.Perm.swap (d0, .inr (10, fs2)) (o, aJ (K 1) 1 go) wD2)
    rcases hpx with ⟨rfl, hpx⟩ | ⟨rfl, hpx⟩
    · refine ad_catch (hh := hL_output) F G ht 0 (x1 := 0) (x2 := 9) (x3 := 12) (x4 := 23) rfl exL_23 rfl (by decide) lkL_23 csL_23 (by intro z hz; cases hz) hce hcv hcl ?_
      refine lv_astore_n (lv' := [(3, .ref q), (0, .ref d0), (1, .int (iI a1)), (2, .ref o)]) F.1 F.2.1 dL_output_12 rfl hl (by decide) rfl (fun ls hl => ?_)
      refine ad_iconst F dL_output_13 ?_
      exact ad_ireturn F G hR rfl (Nat.le_of_ble_eq_true rfl) (Nat.le_of_ble_eq_true rfl) (Or.inr ⟨1, fs2, wD2, rfl, by decide, hpx, rfl⟩) dL_output_14
    · refine ad_catch (hh := hL_output) F G ht 1 (x1 := 0) (x2 := 9) (x3 := 15) (x4 := 21) rfl exL_21 rfl (by decide) lkL_21 csL_21 (by exact List.forall_mem_cons.mpr ⟨⟨by decide, "java/lang/IllegalStateException", exL_23, by decide, lkL_23⟩, (fun _ h => absurd h List.not_mem_nil)⟩) hce hcv hcl ?_
      refine lv_astore_n (lv' := [(3, .ref q), (0, .ref d0), (1, .int (iI a1)), (2, .ref o)]) F.1 F.2.1 dL_output_15 rfl hl (by decide) rfl (fun ls hl => ?_)
      refine ad_iconst F dL_output_16 ?_
      exact ad_ireturn F G hR rfl (Nat.le_of_ble_eq_true rfl) (Nat.le_of_ble_eq_true rfl) (Or.inr ⟨2, fs2, wD2, rfl, by decide, hpx, rfl⟩) dL_output_17
  · obtain ⟨z, fs2, wD2, rfl, hpr, rfl⟩ := hps
    refine W.eq (g2 := F0 m9 7 ls [.int (iI z), .int (iI 0), .ref o]) rfl ?_
    refine lv_i2l (v := (iI z).toInt64) F.1 F.2.1 dL_output_7 rfl ?_
    refine ad_last (ws' := (o, aJ (K 1) 1 (va_up go 0 (iI z).toInt64)) :: (d0, .inr (10, fs2)) :: wD2) F G 0 rfl (by decide) rfl dL_output_8 (fun H locs G => ?_)
    replace G := G.pm (List.Perm.swap (d0, .inr (10, fs2)) (o, aJ (K 1) 1 (va_up go 0 (iI z).toInt64)) wD2)
    refine lv_goto (tgt := 18) F.1 F.2.1 dL_output_9 (by decide) ?_
    refine ad_iconst F dL_output_18 ?_
    exact ad_ireturn F G hR rfl (Nat.le_of_ble_eq_true rfl) (Nat.le_of_ble_eq_true rfl) (Or.inl ⟨z, fs2, wD2, rfl, hpr, rfl⟩) dL_output_19
def hL_takeBack : List (Nat × Nat × Nat × Nat) := [(0, 8, 11, 23), (0, 8, 14, 15)]
set_option maxRecDepth 100000 in
theorem w_takeBack (l : Launch) (D : va_G) (K : Nat → ClassId) (z0 : Nat) (d0 : Nat) (o : Nat) (fs : List Value) (wD : va_W) (go : Nat → Int64)  (PR : Int → List Value → va_W → Prop) (PX : Int → List Value → va_W → Prop)
    (M : CX l D K z0 yX10_takeBack cX10_takeBack 1 (some .int) rmD [.ref d0] ((d0, .inr (10, fs)) :: wD) (fun v u => ∃ (z : Int) (fs2 : List Value) (wD2 : va_W), v = some (.int (iI z)) ∧ PR z fs2 wD2 ∧ u = (d0, .inr (10, fs2)) :: wD2) (fun E u => ∃ (fs2 : List Value) (wD2 : va_W), u = (d0, .inr (10, fs2)) :: wD2 ∧ ((E = "java/lang/IllegalStateException" ∧ PX 1 fs2 wD2) ∨ (E = "java/lang/UnsupportedOperationException" ∧ PX 2 fs2 wD2)))) :
    CH l D K z0 yL_takeBack cL_takeBack 3 (some .int) hL_takeBack rmL [.ref d0, .ref o] ((d0, .inr (10, fs)) :: (o, aJ (K 1) 1 go) :: wD) (fun v u => (∃ (z : Int) (fs2 : List Value) (wD2 : va_W), v = some (.int (iI 0)) ∧ PR z fs2 wD2 ∧ u = (d0, .inr (10, fs2)) :: (o, aJ (K 1) 1 (va_up go 0 (iI z).toInt64)) :: wD2) ∨ (∃ (k : Int) (fs2 : List Value) (wD2 : va_W), v = some (.int (iI k)) ∧ (1 ≤ k ∧ k ≤ 2) ∧ PX k fs2 wD2 ∧ u = (d0, .inr (10, fs2)) :: (o, aJ (K 1) 1 go) :: wD2)) := by
  refine CH.start RL "takeBack" (by decide) rfl rfl (Nat.le_of_ble_eq_true rfl) ?_
  intro p9 e9 s9 m9 ag9 bl9 mt9 c9 A9 Q9 ls F G hR ht hl
  have hl : lv_has ls 3 [(0, .ref d0), (1, .ref o)] := hl
  refine lv_aload_n F.1 F.2.1 dL_takeBack_0 rfl (lv_at hl 1 rfl) ?_
  refine ad_iconst F dL_takeBack_1 ?_
  refine lv_aload_n F.1 F.2.1 dL_takeBack_2 rfl (lv_at hl 0 rfl) ?_
  refine ad_wcall (As := []) (rest := [.int (iI 0), .ref o]) F G M my_X10_takeBack mv_L_91 rfl rfl rfl ⟨Nat.le_of_ble_eq_true rfl, Nat.le_of_ble_eq_true rfl⟩ ⟨Nat.le_of_ble_eq_true rfl, Nat.le_of_ble_eq_true rfl⟩ (Nat.le_of_ble_eq_true rfl) hl.1 ⟨rfl, rfl⟩ dL_takeBack_3 (fun E9 u9 H locs ce q hpx G hce hcv hcl => ?_) (fun v9 u9 H locs hps G => ?_)
  · obtain ⟨fs2, wD2, rfl, hpx⟩ := hpx
    replace G := G.pm (List.Perm.swap (d0, .inr (10, fs2)) (o, aJ (K 1) 1 go) wD2)
    rcases hpx with ⟨rfl, hpx⟩ | ⟨rfl, hpx⟩
    · refine ad_catch (hh := hL_takeBack) F G ht 0 (x1 := 0) (x2 := 8) (x3 := 11) (x4 := 23) rfl exL_23 rfl (by decide) lkL_23 csL_23 (by intro z hz; cases hz) hce hcv hcl ?_
      refine lv_astore_n (lv' := [(2, .ref q), (0, .ref d0), (1, .ref o)]) F.1 F.2.1 dL_takeBack_11 rfl hl (by decide) rfl (fun ls hl => ?_)
      refine ad_iconst F dL_takeBack_12 ?_
      exact ad_ireturn F G hR rfl (Nat.le_of_ble_eq_true rfl) (Nat.le_of_ble_eq_true rfl) (Or.inr ⟨1, fs2, wD2, rfl, by decide, hpx, rfl⟩) dL_takeBack_13
    · refine ad_catch (hh := hL_takeBack) F G ht 1 (x1 := 0) (x2 := 8) (x3 := 14) (x4 := 15) rfl exL_15 rfl (by decide) lkL_15 csL_15 (by exact List.forall_mem_cons.mpr ⟨⟨by decide, "java/lang/IllegalStateException", exL_23, by decide, lkL_23⟩, (fun _ h => absurd h List.not_mem_nil)⟩) hce hcv hcl ?_
      refine lv_astore_n (lv' := [(2, .ref q), (0, .ref d0), (1, .ref o)]) F.1 F.2.1 dL_takeBack_14 rfl hl (by decide) rfl (fun ls hl => ?_)
      refine ad_iconst F dL_takeBack_15 ?_
      exact ad_ireturn F G hR rfl (Nat.le_of_ble_eq_true rfl) (Nat.le_of_ble_eq_true rfl) (Or.inr ⟨2, fs2, wD2, rfl, by decide, hpx, rfl⟩) dL_takeBack_16
  · obtain ⟨z, fs2, wD2, rfl, hpr, rfl⟩ := hps
    refine W.eq (g2 := F0 m9 6 ls [.int (iI z), .int (iI 0), .ref o]) rfl ?_
    refine lv_i2l (v := (iI z).toInt64) F.1 F.2.1 dL_takeBack_6 rfl ?_
    refine ad_last (ws' := (o, aJ (K 1) 1 (va_up go 0 (iI z).toInt64)) :: (d0, .inr (10, fs2)) :: wD2) F G 0 rfl (by decide) rfl dL_takeBack_7 (fun H locs G => ?_)
    replace G := G.pm (List.Perm.swap (d0, .inr (10, fs2)) (o, aJ (K 1) 1 (va_up go 0 (iI z).toInt64)) wD2)
    refine lv_goto (tgt := 17) F.1 F.2.1 dL_takeBack_8 (by decide) ?_
    refine ad_iconst F dL_takeBack_17 ?_
    exact ad_ireturn F G hR rfl (Nat.le_of_ble_eq_true rfl) (Nat.le_of_ble_eq_true rfl) (Or.inl ⟨z, fs2, wD2, rfl, hpr, rfl⟩) dL_takeBack_18
def hL_word : List (Nat × Nat × Nat × Nat) := [(0, 10, 13, 23), (0, 10, 17, 21), (0, 10, 21, 13)]
set_option maxRecDepth 100000 in
theorem w_word (l : Launch) (D : va_G) (K : Nat → ClassId) (z0 : Nat) (d0 : Nat) (o : Nat) (fs : List Value) (wD : va_W) (go : Nat → Int64) (a1 : Int) (a2 : Int) (PR : Int → List Value → va_W → Prop) (PX : Int → List Value → va_W → Prop)
    (M : CX l D K z0 yX10_word cX10_word 3 (some .int) rmD [.ref d0, .int (iI a1), .int (iI a2)] ((d0, .inr (10, fs)) :: wD) (fun v u => ∃ (z : Int) (fs2 : List Value) (wD2 : va_W), v = some (.int (iI z)) ∧ PR z fs2 wD2 ∧ u = (d0, .inr (10, fs2)) :: wD2) (fun E u => ∃ (fs2 : List Value) (wD2 : va_W), u = (d0, .inr (10, fs2)) :: wD2 ∧ ((E = "java/lang/IllegalStateException" ∧ PX 1 fs2 wD2) ∨ (E = "java/lang/IndexOutOfBoundsException" ∧ PX 2 fs2 wD2) ∨ (E = "java/lang/IllegalArgumentException" ∧ PX 3 fs2 wD2)))) :
    CH l D K z0 yL_word cL_word 5 (some .int) hL_word rmL [.ref d0, .int (iI a1), .int (iI a2), .ref o] ((d0, .inr (10, fs)) :: (o, aJ (K 1) 1 go) :: wD) (fun v u => (∃ (z : Int) (fs2 : List Value) (wD2 : va_W), v = some (.int (iI 0)) ∧ PR z fs2 wD2 ∧ u = (d0, .inr (10, fs2)) :: (o, aJ (K 1) 1 (va_up go 0 (iI z).toInt64)) :: wD2) ∨ (∃ (k : Int) (fs2 : List Value) (wD2 : va_W), v = some (.int (iI k)) ∧ (1 ≤ k ∧ k ≤ 3) ∧ PX k fs2 wD2 ∧ u = (d0, .inr (10, fs2)) :: (o, aJ (K 1) 1 go) :: wD2)) := by
  refine CH.start RL "word" (by decide) rfl rfl (Nat.le_of_ble_eq_true rfl) ?_
  intro p9 e9 s9 m9 ag9 bl9 mt9 c9 A9 Q9 ls F G hR ht hl
  have hl : lv_has ls 5 [(0, .ref d0), (1, .int (iI a1)), (2, .int (iI a2)), (3, .ref o)] := hl
  refine lv_aload_n F.1 F.2.1 dL_word_0 rfl (lv_at hl 3 rfl) ?_
  refine ad_iconst F dL_word_1 ?_
  refine lv_aload_n F.1 F.2.1 dL_word_2 rfl (lv_at hl 0 rfl) ?_
  refine lv_iload_n F.1 F.2.1 dL_word_3 rfl (lv_at hl 1 rfl) ?_
  refine lv_iload_n F.1 F.2.1 dL_word_4 rfl (lv_at hl 2 rfl) ?_
  refine ad_wcall (As := [.int (iI a1), .int (iI a2)]) (rest := [.int (iI 0), .ref o]) F G M my_X10_word mv_L_94 rfl rfl rfl ⟨Nat.le_of_ble_eq_true rfl, Nat.le_of_ble_eq_true rfl⟩ ⟨Nat.le_of_ble_eq_true rfl, Nat.le_of_ble_eq_true rfl⟩ (Nat.le_of_ble_eq_true rfl) hl.1 ⟨rfl, rfl⟩ dL_word_5 (fun E9 u9 H locs ce q hpx G hce hcv hcl => ?_) (fun v9 u9 H locs hps G => ?_)
  · obtain ⟨fs2, wD2, rfl, hpx⟩ := hpx
    replace G := G.pm (List.Perm.swap (d0, .inr (10, fs2)) (o, aJ (K 1) 1 go) wD2)
    rcases hpx with ⟨rfl, hpx⟩ | ⟨rfl, hpx⟩ | ⟨rfl, hpx⟩
    · refine ad_catch (hh := hL_word) F G ht 0 (x1 := 0) (x2 := 10) (x3 := 13) (x4 := 23) rfl exL_23 rfl (by decide) lkL_23 csL_23 (by intro z hz; cases hz) hce hcv hcl ?_
      refine lv_astore (lv' := [(4, .ref q), (0, .ref d0), (1, .int (iI a1)), (2, .int (iI a2)), (3, .ref o)]) F.1 F.2.1 dL_word_13 hl (by decide) rfl (fun ls hl => ?_)
      refine ad_iconst F dL_word_15 ?_
      exact ad_ireturn F G hR rfl (Nat.le_of_ble_eq_true rfl) (Nat.le_of_ble_eq_true rfl) (Or.inr ⟨1, fs2, wD2, rfl, by decide, hpx, rfl⟩) dL_word_16
    · refine ad_catch (hh := hL_word) F G ht 1 (x1 := 0) (x2 := 10) (x3 := 17) (x4 := 21) rfl exL_21 rfl (by decide) lkL_21 csL_21 (by exact List.forall_mem_cons.mpr ⟨⟨by decide, "java/lang/IllegalStateException", exL_23, by decide, lkL_23⟩, (fun _ h => absurd h List.not_mem_nil)⟩) hce hcv hcl ?_
      refine lv_astore (lv' := [(4, .ref q), (0, .ref d0), (1, .int (iI a1)), (2, .int (iI a2)), (3, .ref o)]) F.1 F.2.1 dL_word_17 hl (by decide) rfl (fun ls hl => ?_)
      refine ad_iconst F dL_word_19 ?_
      exact ad_ireturn F G hR rfl (Nat.le_of_ble_eq_true rfl) (Nat.le_of_ble_eq_true rfl) (Or.inr ⟨2, fs2, wD2, rfl, by decide, hpx, rfl⟩) dL_word_20
    · refine ad_catch (hh := hL_word) F G ht 2 (x1 := 0) (x2 := 10) (x3 := 21) (x4 := 13) rfl exL_13 rfl (by decide) lkL_13 csL_13 (by exact List.forall_mem_cons.mpr ⟨⟨by decide, "java/lang/IllegalStateException", exL_23, by decide, lkL_23⟩, List.forall_mem_cons.mpr ⟨⟨by decide, "java/lang/IndexOutOfBoundsException", exL_21, by decide, lkL_21⟩, (fun _ h => absurd h List.not_mem_nil)⟩⟩) hce hcv hcl ?_
      refine lv_astore (lv' := [(4, .ref q), (0, .ref d0), (1, .int (iI a1)), (2, .int (iI a2)), (3, .ref o)]) F.1 F.2.1 dL_word_21 hl (by decide) rfl (fun ls hl => ?_)
      refine ad_iconst F dL_word_23 ?_
      exact ad_ireturn F G hR rfl (Nat.le_of_ble_eq_true rfl) (Nat.le_of_ble_eq_true rfl) (Or.inr ⟨3, fs2, wD2, rfl, by decide, hpx, rfl⟩) dL_word_24
  · obtain ⟨z, fs2, wD2, rfl, hpr, rfl⟩ := hps
    refine W.eq (g2 := F0 m9 8 ls [.int (iI z), .int (iI 0), .ref o]) rfl ?_
    refine lv_i2l (v := (iI z).toInt64) F.1 F.2.1 dL_word_8 rfl ?_
    refine ad_last (ws' := (o, aJ (K 1) 1 (va_up go 0 (iI z).toInt64)) :: (d0, .inr (10, fs2)) :: wD2) F G 0 rfl (by decide) rfl dL_word_9 (fun H locs G => ?_)
    replace G := G.pm (List.Perm.swap (d0, .inr (10, fs2)) (o, aJ (K 1) 1 (va_up go 0 (iI z).toInt64)) wD2)
    refine lv_goto (tgt := 25) F.1 F.2.1 dL_word_10 (by decide) ?_
    refine ad_iconst F dL_word_25 ?_
    exact ad_ireturn F G hR rfl (Nat.le_of_ble_eq_true rfl) (Nat.le_of_ble_eq_true rfl) (Or.inl ⟨z, fs2, wD2, rfl, hpr, rfl⟩) dL_word_26
def hL_result : List (Nat × Nat × Nat × Nat) := [(0, 9, 12, 23), (0, 9, 15, 13)]
set_option maxRecDepth 100000 in
theorem w_result (l : Launch) (D : va_G) (K : Nat → ClassId) (z0 : Nat) (d0 : Nat) (o : Nat) (fs : List Value) (wD : va_W) (go : Nat → Int64) (a1 : Int) (PR : Int → List Value → va_W → Prop) (PX : Int → List Value → va_W → Prop)
    (M : CX l D K z0 yX10_result cX10_result 2 (some .int) rmD [.ref d0, .int (iI a1)] ((d0, .inr (10, fs)) :: wD) (fun v u => ∃ (z : Int) (fs2 : List Value) (wD2 : va_W), v = some (.int (iI z)) ∧ PR z fs2 wD2 ∧ u = (d0, .inr (10, fs2)) :: wD2) (fun E u => ∃ (fs2 : List Value) (wD2 : va_W), u = (d0, .inr (10, fs2)) :: wD2 ∧ ((E = "java/lang/IllegalStateException" ∧ PX 1 fs2 wD2) ∨ (E = "java/lang/IllegalArgumentException" ∧ PX 2 fs2 wD2)))) :
    CH l D K z0 yL_result cL_result 4 (some .int) hL_result rmL [.ref d0, .int (iI a1), .ref o] ((d0, .inr (10, fs)) :: (o, aJ (K 1) 1 go) :: wD) (fun v u => (∃ (z : Int) (fs2 : List Value) (wD2 : va_W), v = some (.int (iI 0)) ∧ PR z fs2 wD2 ∧ u = (d0, .inr (10, fs2)) :: (o, aJ (K 1) 1 (va_up go 0 (iI z).toInt64)) :: wD2) ∨ (∃ (k : Int) (fs2 : List Value) (wD2 : va_W), v = some (.int (iI k)) ∧ (1 ≤ k ∧ k ≤ 2) ∧ PX k fs2 wD2 ∧ u = (d0, .inr (10, fs2)) :: (o, aJ (K 1) 1 go) :: wD2)) := by
  refine CH.start RL "result" (by decide) rfl rfl (Nat.le_of_ble_eq_true rfl) ?_
  intro p9 e9 s9 m9 ag9 bl9 mt9 c9 A9 Q9 ls F G hR ht hl
  have hl : lv_has ls 4 [(0, .ref d0), (1, .int (iI a1)), (2, .ref o)] := hl
  refine lv_aload_n F.1 F.2.1 dL_result_0 rfl (lv_at hl 2 rfl) ?_
  refine ad_iconst F dL_result_1 ?_
  refine lv_aload_n F.1 F.2.1 dL_result_2 rfl (lv_at hl 0 rfl) ?_
  refine lv_iload_n F.1 F.2.1 dL_result_3 rfl (lv_at hl 1 rfl) ?_
  refine ad_wcall (As := [.int (iI a1)]) (rest := [.int (iI 0), .ref o]) F G M my_X10_result mv_L_97 rfl rfl rfl ⟨Nat.le_of_ble_eq_true rfl, Nat.le_of_ble_eq_true rfl⟩ ⟨Nat.le_of_ble_eq_true rfl, Nat.le_of_ble_eq_true rfl⟩ (Nat.le_of_ble_eq_true rfl) hl.1 ⟨rfl, rfl⟩ dL_result_4 (fun E9 u9 H locs ce q hpx G hce hcv hcl => ?_) (fun v9 u9 H locs hps G => ?_)
  · obtain ⟨fs2, wD2, rfl, hpx⟩ := hpx
    replace G := G.pm (List.Perm.swap (d0, .inr (10, fs2)) (o, aJ (K 1) 1 go) wD2)
    rcases hpx with ⟨rfl, hpx⟩ | ⟨rfl, hpx⟩
    · refine ad_catch (hh := hL_result) F G ht 0 (x1 := 0) (x2 := 9) (x3 := 12) (x4 := 23) rfl exL_23 rfl (by decide) lkL_23 csL_23 (by intro z hz; cases hz) hce hcv hcl ?_
      refine lv_astore_n (lv' := [(3, .ref q), (0, .ref d0), (1, .int (iI a1)), (2, .ref o)]) F.1 F.2.1 dL_result_12 rfl hl (by decide) rfl (fun ls hl => ?_)
      refine ad_iconst F dL_result_13 ?_
      exact ad_ireturn F G hR rfl (Nat.le_of_ble_eq_true rfl) (Nat.le_of_ble_eq_true rfl) (Or.inr ⟨1, fs2, wD2, rfl, by decide, hpx, rfl⟩) dL_result_14
    · refine ad_catch (hh := hL_result) F G ht 1 (x1 := 0) (x2 := 9) (x3 := 15) (x4 := 13) rfl exL_13 rfl (by decide) lkL_13 csL_13 (by exact List.forall_mem_cons.mpr ⟨⟨by decide, "java/lang/IllegalStateException", exL_23, by decide, lkL_23⟩, (fun _ h => absurd h List.not_mem_nil)⟩) hce hcv hcl ?_
      refine lv_astore_n (lv' := [(3, .ref q), (0, .ref d0), (1, .int (iI a1)), (2, .ref o)]) F.1 F.2.1 dL_result_15 rfl hl (by decide) rfl (fun ls hl => ?_)
      refine ad_iconst F dL_result_16 ?_
      exact ad_ireturn F G hR rfl (Nat.le_of_ble_eq_true rfl) (Nat.le_of_ble_eq_true rfl) (Or.inr ⟨2, fs2, wD2, rfl, by decide, hpx, rfl⟩) dL_result_17
  · obtain ⟨z, fs2, wD2, rfl, hpr, rfl⟩ := hps
    refine W.eq (g2 := F0 m9 7 ls [.int (iI z), .int (iI 0), .ref o]) rfl ?_
    refine lv_i2l (v := (iI z).toInt64) F.1 F.2.1 dL_result_7 rfl ?_
    refine ad_last (ws' := (o, aJ (K 1) 1 (va_up go 0 (iI z).toInt64)) :: (d0, .inr (10, fs2)) :: wD2) F G 0 rfl (by decide) rfl dL_result_8 (fun H locs G => ?_)
    replace G := G.pm (List.Perm.swap (d0, .inr (10, fs2)) (o, aJ (K 1) 1 (va_up go 0 (iI z).toInt64)) wD2)
    refine lv_goto (tgt := 18) F.1 F.2.1 dL_result_9 (by decide) ?_
    refine ad_iconst F dL_result_18 ?_
    exact ad_ireturn F G hR rfl (Nat.le_of_ble_eq_true rfl) (Nat.le_of_ble_eq_true rfl) (Or.inl ⟨z, fs2, wD2, rfl, hpr, rfl⟩) dL_result_19
def hL_firstLost : List (Nat × Nat × Nat × Nat) := [(0, 8, 11, 13)]
set_option maxRecDepth 100000 in
theorem w_firstLost (l : Launch) (D : va_G) (K : Nat → ClassId) (z0 : Nat) (d0 : Nat) (o : Nat) (fs : List Value) (wD : va_W) (go : Nat → Int64)  (PR : Int → List Value → va_W → Prop) (PX : Int → List Value → va_W → Prop)
    (M : CX l D K z0 yX10_firstLost cX10_firstLost 5 (some .int) rmD [.ref d0] ((d0, .inr (10, fs)) :: wD) (fun v u => ∃ (z : Int) (fs2 : List Value) (wD2 : va_W), v = some (.int (iI z)) ∧ PR z fs2 wD2 ∧ u = (d0, .inr (10, fs2)) :: wD2) (fun E u => ∃ (fs2 : List Value) (wD2 : va_W), u = (d0, .inr (10, fs2)) :: wD2 ∧ ((E = "java/lang/IllegalArgumentException" ∧ PX 1 fs2 wD2)))) :
    CH l D K z0 yL_firstLost cL_firstLost 3 (some .int) hL_firstLost rmL [.ref d0, .ref o] ((d0, .inr (10, fs)) :: (o, aJ (K 1) 1 go) :: wD) (fun v u => (∃ (z : Int) (fs2 : List Value) (wD2 : va_W), v = some (.int (iI 0)) ∧ PR z fs2 wD2 ∧ u = (d0, .inr (10, fs2)) :: (o, aJ (K 1) 1 (va_up go 0 (iI z).toInt64)) :: wD2) ∨ (∃ (k : Int) (fs2 : List Value) (wD2 : va_W), v = some (.int (iI k)) ∧ (1 ≤ k ∧ k ≤ 1) ∧ PX k fs2 wD2 ∧ u = (d0, .inr (10, fs2)) :: (o, aJ (K 1) 1 go) :: wD2)) := by
  refine CH.start RL "firstLost" (by decide) rfl rfl (Nat.le_of_ble_eq_true rfl) ?_
  intro p9 e9 s9 m9 ag9 bl9 mt9 c9 A9 Q9 ls F G hR ht hl
  have hl : lv_has ls 3 [(0, .ref d0), (1, .ref o)] := hl
  refine lv_aload_n F.1 F.2.1 dL_firstLost_0 rfl (lv_at hl 1 rfl) ?_
  refine ad_iconst F dL_firstLost_1 ?_
  refine lv_aload_n F.1 F.2.1 dL_firstLost_2 rfl (lv_at hl 0 rfl) ?_
  refine ad_wcall (As := []) (rest := [.int (iI 0), .ref o]) F G M my_X10_firstLost mv_L_100 rfl rfl rfl ⟨Nat.le_of_ble_eq_true rfl, Nat.le_of_ble_eq_true rfl⟩ ⟨Nat.le_of_ble_eq_true rfl, Nat.le_of_ble_eq_true rfl⟩ (Nat.le_of_ble_eq_true rfl) hl.1 ⟨rfl, rfl⟩ dL_firstLost_3 (fun E9 u9 H locs ce q hpx G hce hcv hcl => ?_) (fun v9 u9 H locs hps G => ?_)
  · obtain ⟨fs2, wD2, rfl, hpx⟩ := hpx
    replace G := G.pm (List.Perm.swap (d0, .inr (10, fs2)) (o, aJ (K 1) 1 go) wD2)
    obtain ⟨rfl, hpx⟩ := hpx
    refine ad_catch (hh := hL_firstLost) F G ht 0 (x1 := 0) (x2 := 8) (x3 := 11) (x4 := 13) rfl exL_13 rfl (by decide) lkL_13 csL_13 (by intro z hz; cases hz) hce hcv hcl ?_
    refine lv_astore_n (lv' := [(2, .ref q), (0, .ref d0), (1, .ref o)]) F.1 F.2.1 dL_firstLost_11 rfl hl (by decide) rfl (fun ls hl => ?_)
    refine ad_iconst F dL_firstLost_12 ?_
    exact ad_ireturn F G hR rfl (Nat.le_of_ble_eq_true rfl) (Nat.le_of_ble_eq_true rfl) (Or.inr ⟨1, fs2, wD2, rfl, by decide, hpx, rfl⟩) dL_firstLost_13
  · obtain ⟨z, fs2, wD2, rfl, hpr, rfl⟩ := hps
    refine W.eq (g2 := F0 m9 6 ls [.int (iI z), .int (iI 0), .ref o]) rfl ?_
    refine lv_i2l (v := (iI z).toInt64) F.1 F.2.1 dL_firstLost_6 rfl ?_
    refine ad_last (ws' := (o, aJ (K 1) 1 (va_up go 0 (iI z).toInt64)) :: (d0, .inr (10, fs2)) :: wD2) F G 0 rfl (by decide) rfl dL_firstLost_7 (fun H locs G => ?_)
    replace G := G.pm (List.Perm.swap (d0, .inr (10, fs2)) (o, aJ (K 1) 1 (va_up go 0 (iI z).toInt64)) wD2)
    refine lv_goto (tgt := 14) F.1 F.2.1 dL_firstLost_8 (by decide) ?_
    refine ad_iconst F dL_firstLost_14 ?_
    exact ad_ireturn F G hR rfl (Nat.le_of_ble_eq_true rfl) (Nat.le_of_ble_eq_true rfl) (Or.inl ⟨z, fs2, wD2, rfl, hpr, rfl⟩) dL_firstLost_15
def hL_share : List (Nat × Nat × Nat × Nat) := [(0, 7, 10, 23)]
set_option maxRecDepth 100000 in
theorem w_share (l : Launch) (D : va_G) (K : Nat → ClassId) (z0 : Nat) (d0 : Nat) (o : Nat) (fs : List Value) (wD : va_W) (go : Nat → UInt64)  (PR : UInt64 → List Value → va_W → Prop) (PX : Int → List Value → va_W → Prop)
    (M : CX l D K z0 yX10_share cX10_share 5 (some .double) rmD [.ref d0] ((d0, .inr (10, fs)) :: wD) (fun v u => ∃ (z : UInt64) (fs2 : List Value) (wD2 : va_W), v = some (.double z) ∧ PR z fs2 wD2 ∧ u = (d0, .inr (10, fs2)) :: wD2) (fun E u => ∃ (fs2 : List Value) (wD2 : va_W), u = (d0, .inr (10, fs2)) :: wD2 ∧ ((E = "java/lang/IllegalStateException" ∧ PX 1 fs2 wD2)))) :
    CH l D K z0 yL_share cL_share 3 (some .int) hL_share rmL [.ref d0, .ref o] ((d0, .inr (10, fs)) :: (o, aD (K 9) 1 go) :: wD) (fun v u => (∃ (z : UInt64) (fs2 : List Value) (wD2 : va_W), v = some (.int (iI 0)) ∧ PR z fs2 wD2 ∧ u = (d0, .inr (10, fs2)) :: (o, aD (K 9) 1 (vf_upd go 0 z)) :: wD2) ∨ (∃ (k : Int) (fs2 : List Value) (wD2 : va_W), v = some (.int (iI k)) ∧ (1 ≤ k ∧ k ≤ 1) ∧ PX k fs2 wD2 ∧ u = (d0, .inr (10, fs2)) :: (o, aD (K 9) 1 go) :: wD2)) := by
  refine CH.start RL "share" (by decide) rfl rfl (Nat.le_of_ble_eq_true rfl) ?_
  intro p9 e9 s9 m9 ag9 bl9 mt9 c9 A9 Q9 ls F G hR ht hl
  have hl : lv_has ls 3 [(0, .ref d0), (1, .ref o)] := hl
  refine lv_aload_n F.1 F.2.1 dL_share_0 rfl (lv_at hl 1 rfl) ?_
  refine ad_iconst F dL_share_1 ?_
  refine lv_aload_n F.1 F.2.1 dL_share_2 rfl (lv_at hl 0 rfl) ?_
  refine ad_wcall (As := []) (rest := [.int (iI 0), .ref o]) F G M my_X10_share mv_L_103 rfl rfl rfl ⟨Nat.le_of_ble_eq_true rfl, Nat.le_of_ble_eq_true rfl⟩ ⟨Nat.le_of_ble_eq_true rfl, Nat.le_of_ble_eq_true rfl⟩ (Nat.le_of_ble_eq_true rfl) hl.1 ⟨rfl, rfl⟩ dL_share_3 (fun E9 u9 H locs ce q hpx G hce hcv hcl => ?_) (fun v9 u9 H locs hps G => ?_)
  · obtain ⟨fs2, wD2, rfl, hpx⟩ := hpx
    replace G := G.pm (List.Perm.swap (d0, .inr (10, fs2)) (o, aD (K 9) 1 go) wD2)
    obtain ⟨rfl, hpx⟩ := hpx
    refine ad_catch (hh := hL_share) F G ht 0 (x1 := 0) (x2 := 7) (x3 := 10) (x4 := 23) rfl exL_23 rfl (by decide) lkL_23 csL_23 (by intro z hz; cases hz) hce hcv hcl ?_
    refine lv_astore_n (lv' := [(2, .ref q), (0, .ref d0), (1, .ref o)]) F.1 F.2.1 dL_share_10 rfl hl (by decide) rfl (fun ls hl => ?_)
    refine ad_iconst F dL_share_11 ?_
    exact ad_ireturn F G hR rfl (Nat.le_of_ble_eq_true rfl) (Nat.le_of_ble_eq_true rfl) (Or.inr ⟨1, fs2, wD2, rfl, by decide, hpx, rfl⟩) dL_share_12
  · obtain ⟨z, fs2, wD2, rfl, hpr, rfl⟩ := hps
    refine W.eq (g2 := F0 m9 6 ls [.double z, .int (iI 0), .ref o]) rfl ?_
    refine ad_dast (ws' := (o, aD (K 9) 1 (vf_upd go 0 z)) :: (d0, .inr (10, fs2)) :: wD2) F G 0 rfl (by decide) rfl dL_share_6 (fun H locs G => ?_)
    replace G := G.pm (List.Perm.swap (d0, .inr (10, fs2)) (o, aD (K 9) 1 (vf_upd go 0 z)) wD2)
    refine lv_goto (tgt := 13) F.1 F.2.1 dL_share_7 (by decide) ?_
    refine ad_iconst F dL_share_13 ?_
    exact ad_ireturn F G hR rfl (Nat.le_of_ble_eq_true rfl) (Nat.le_of_ble_eq_true rfl) (Or.inl ⟨z, fs2, wD2, rfl, hpr, rfl⟩) dL_share_14
def hL_meanPriority : List (Nat × Nat × Nat × Nat) := [(0, 8, 11, 23), (0, 8, 14, 111)]
set_option maxRecDepth 100000 in
theorem w_meanPriority (l : Launch) (D : va_G) (K : Nat → ClassId) (z0 : Nat) (d0 : Nat) (o : Nat) (fs : List Value) (wD : va_W) (go : Nat → UInt64)  (PR : UInt32 → List Value → va_W → Prop) (PX : Int → List Value → va_W → Prop)
    (M : CX l D K z0 yX10_meanPriority cX10_meanPriority 1 (some .float) rmD [.ref d0] ((d0, .inr (10, fs)) :: wD) (fun v u => ∃ (z : UInt32) (fs2 : List Value) (wD2 : va_W), v = some (.float z) ∧ vf_n64 (FP.f2d z) ∧ PR z fs2 wD2 ∧ u = (d0, .inr (10, fs2)) :: wD2) (fun E u => ∃ (fs2 : List Value) (wD2 : va_W), u = (d0, .inr (10, fs2)) :: wD2 ∧ ((E = "java/lang/IllegalStateException" ∧ PX 1 fs2 wD2) ∨ (E = "java/lang/ArithmeticException" ∧ PX 2 fs2 wD2)))) :
    CH l D K z0 yL_meanPriority cL_meanPriority 3 (some .int) hL_meanPriority rmL [.ref d0, .ref o] ((d0, .inr (10, fs)) :: (o, aD (K 9) 1 go) :: wD) (fun v u => (∃ (z : UInt32) (fs2 : List Value) (wD2 : va_W), v = some (.int (iI 0)) ∧ vf_n64 (FP.f2d z) ∧ PR z fs2 wD2 ∧ u = (d0, .inr (10, fs2)) :: (o, aD (K 9) 1 (vf_upd go 0 (FP.f2d z))) :: wD2) ∨ (∃ (k : Int) (fs2 : List Value) (wD2 : va_W), v = some (.int (iI k)) ∧ (1 ≤ k ∧ k ≤ 2) ∧ PX k fs2 wD2 ∧ u = (d0, .inr (10, fs2)) :: (o, aD (K 9) 1 go) :: wD2)) := by
  refine CH.start RL "meanPriority" (by decide) rfl rfl (Nat.le_of_ble_eq_true rfl) ?_
  intro p9 e9 s9 m9 ag9 bl9 mt9 c9 A9 Q9 ls F G hR ht hl
  have hl : lv_has ls 3 [(0, .ref d0), (1, .ref o)] := hl
  refine lv_aload_n F.1 F.2.1 dL_meanPriority_0 rfl (lv_at hl 1 rfl) ?_
  refine ad_iconst F dL_meanPriority_1 ?_
  refine lv_aload_n F.1 F.2.1 dL_meanPriority_2 rfl (lv_at hl 0 rfl) ?_
  refine ad_wcall (As := []) (rest := [.int (iI 0), .ref o]) F G M my_X10_meanPriority mv_L_107 rfl rfl rfl ⟨Nat.le_of_ble_eq_true rfl, Nat.le_of_ble_eq_true rfl⟩ ⟨Nat.le_of_ble_eq_true rfl, Nat.le_of_ble_eq_true rfl⟩ (Nat.le_of_ble_eq_true rfl) hl.1 ⟨rfl, rfl⟩ dL_meanPriority_3 (fun E9 u9 H locs ce q hpx G hce hcv hcl => ?_) (fun v9 u9 H locs hps G => ?_)
  · obtain ⟨fs2, wD2, rfl, hpx⟩ := hpx
    replace G := G.pm (List.Perm.swap (d0, .inr (10, fs2)) (o, aD (K 9) 1 go) wD2)
    rcases hpx with ⟨rfl, hpx⟩ | ⟨rfl, hpx⟩
    · refine ad_catch (hh := hL_meanPriority) F G ht 0 (x1 := 0) (x2 := 8) (x3 := 11) (x4 := 23) rfl exL_23 rfl (by decide) lkL_23 csL_23 (by intro z hz; cases hz) hce hcv hcl ?_
      refine lv_astore_n (lv' := [(2, .ref q), (0, .ref d0), (1, .ref o)]) F.1 F.2.1 dL_meanPriority_11 rfl hl (by decide) rfl (fun ls hl => ?_)
      refine ad_iconst F dL_meanPriority_12 ?_
      exact ad_ireturn F G hR rfl (Nat.le_of_ble_eq_true rfl) (Nat.le_of_ble_eq_true rfl) (Or.inr ⟨1, fs2, wD2, rfl, by decide, hpx, rfl⟩) dL_meanPriority_13
    · refine ad_catch (hh := hL_meanPriority) F G ht 1 (x1 := 0) (x2 := 8) (x3 := 14) (x4 := 111) rfl exL_111 rfl (by decide) lkL_111 csL_111 (by exact List.forall_mem_cons.mpr ⟨⟨by decide, "java/lang/IllegalStateException", exL_23, by decide, lkL_23⟩, (fun _ h => absurd h List.not_mem_nil)⟩) hce hcv hcl ?_
      refine lv_astore_n (lv' := [(2, .ref q), (0, .ref d0), (1, .ref o)]) F.1 F.2.1 dL_meanPriority_14 rfl hl (by decide) rfl (fun ls hl => ?_)
      refine ad_iconst F dL_meanPriority_15 ?_
      exact ad_ireturn F G hR rfl (Nat.le_of_ble_eq_true rfl) (Nat.le_of_ble_eq_true rfl) (Or.inr ⟨2, fs2, wD2, rfl, by decide, hpx, rfl⟩) dL_meanPriority_16
  · obtain ⟨z, fs2, wD2, rfl, hzz, hpr, rfl⟩ := hps
    refine W.eq (g2 := F0 m9 6 ls [.float z, .int (iI 0), .ref o]) rfl ?_
    refine lv_f2d F.1 F.2.1 dL_meanPriority_6 hzz ?_
    refine ad_dast (ws' := (o, aD (K 9) 1 (vf_upd go 0 (FP.f2d z))) :: (d0, .inr (10, fs2)) :: wD2) F G 0 rfl (by decide) rfl dL_meanPriority_7 (fun H locs G => ?_)
    replace G := G.pm (List.Perm.swap (d0, .inr (10, fs2)) (o, aD (K 9) 1 (vf_upd go 0 (FP.f2d z))) wD2)
    refine lv_goto (tgt := 17) F.1 F.2.1 dL_meanPriority_8 (by decide) ?_
    refine ad_iconst F dL_meanPriority_17 ?_
    exact ad_ireturn F G hR rfl (Nat.le_of_ble_eq_true rfl) (Nat.le_of_ble_eq_true rfl) (Or.inl ⟨z, fs2, wD2, rfl, hzz, hpr, rfl⟩) dL_meanPriority_18
def hL_storeLengths : List (Nat × Nat × Nat × Nat) := [(0, 10, 13, 21), (0, 10, 17, 23)]
set_option maxRecDepth 100000 in
theorem w_storeLengths (l : Launch) (D : va_G) (K : Nat → ClassId) (z0 : Nat) (d0 : Nat) (o : Nat) (fs : List Value) (wD : va_W) (go : Nat → Int64) (a1 : Int) (a2 : Int) (PR : Int → List Value → va_W → Prop) (PX : Int → List Value → va_W → Prop)
    (M : CX l D K z0 yX10_storeLengths cX10_storeLengths 3 (some .int) rmD [.ref d0, .int (iI a1), .int (iI a2)] ((d0, .inr (10, fs)) :: wD) (fun v u => ∃ (z : Int) (fs2 : List Value) (wD2 : va_W), v = some (.int (iI z)) ∧ PR z fs2 wD2 ∧ u = (d0, .inr (10, fs2)) :: wD2) (fun E u => ∃ (fs2 : List Value) (wD2 : va_W), u = (d0, .inr (10, fs2)) :: wD2 ∧ ((E = "java/lang/IndexOutOfBoundsException" ∧ PX 1 fs2 wD2) ∨ (E = "java/lang/IllegalStateException" ∧ PX 2 fs2 wD2)))) :
    CH l D K z0 yL_storeLengths cL_storeLengths 5 (some .int) hL_storeLengths rmL [.ref d0, .int (iI a1), .int (iI a2), .ref o] ((d0, .inr (10, fs)) :: (o, aJ (K 1) 1 go) :: wD) (fun v u => (∃ (z : Int) (fs2 : List Value) (wD2 : va_W), v = some (.int (iI 0)) ∧ PR z fs2 wD2 ∧ u = (d0, .inr (10, fs2)) :: (o, aJ (K 1) 1 (va_up go 0 (iI z).toInt64)) :: wD2) ∨ (∃ (k : Int) (fs2 : List Value) (wD2 : va_W), v = some (.int (iI k)) ∧ (1 ≤ k ∧ k ≤ 2) ∧ PX k fs2 wD2 ∧ u = (d0, .inr (10, fs2)) :: (o, aJ (K 1) 1 go) :: wD2)) := by
  refine CH.start RL "storeLengths" (by decide) rfl rfl (Nat.le_of_ble_eq_true rfl) ?_
  intro p9 e9 s9 m9 ag9 bl9 mt9 c9 A9 Q9 ls F G hR ht hl
  have hl : lv_has ls 5 [(0, .ref d0), (1, .int (iI a1)), (2, .int (iI a2)), (3, .ref o)] := hl
  refine lv_aload_n F.1 F.2.1 dL_storeLengths_0 rfl (lv_at hl 3 rfl) ?_
  refine ad_iconst F dL_storeLengths_1 ?_
  refine lv_aload_n F.1 F.2.1 dL_storeLengths_2 rfl (lv_at hl 0 rfl) ?_
  refine lv_iload_n F.1 F.2.1 dL_storeLengths_3 rfl (lv_at hl 1 rfl) ?_
  refine lv_iload_n F.1 F.2.1 dL_storeLengths_4 rfl (lv_at hl 2 rfl) ?_
  refine ad_wcall (As := [.int (iI a1), .int (iI a2)]) (rest := [.int (iI 0), .ref o]) F G M my_X10_storeLengths mv_L_113 rfl rfl rfl ⟨Nat.le_of_ble_eq_true rfl, Nat.le_of_ble_eq_true rfl⟩ ⟨Nat.le_of_ble_eq_true rfl, Nat.le_of_ble_eq_true rfl⟩ (Nat.le_of_ble_eq_true rfl) hl.1 ⟨rfl, rfl⟩ dL_storeLengths_5 (fun E9 u9 H locs ce q hpx G hce hcv hcl => ?_) (fun v9 u9 H locs hps G => ?_)
  · obtain ⟨fs2, wD2, rfl, hpx⟩ := hpx
    replace G := G.pm (List.Perm.swap (d0, .inr (10, fs2)) (o, aJ (K 1) 1 go) wD2)
    rcases hpx with ⟨rfl, hpx⟩ | ⟨rfl, hpx⟩
    · refine ad_catch (hh := hL_storeLengths) F G ht 0 (x1 := 0) (x2 := 10) (x3 := 13) (x4 := 21) rfl exL_21 rfl (by decide) lkL_21 csL_21 (by intro z hz; cases hz) hce hcv hcl ?_
      refine lv_astore (lv' := [(4, .ref q), (0, .ref d0), (1, .int (iI a1)), (2, .int (iI a2)), (3, .ref o)]) F.1 F.2.1 dL_storeLengths_13 hl (by decide) rfl (fun ls hl => ?_)
      refine ad_iconst F dL_storeLengths_15 ?_
      exact ad_ireturn F G hR rfl (Nat.le_of_ble_eq_true rfl) (Nat.le_of_ble_eq_true rfl) (Or.inr ⟨1, fs2, wD2, rfl, by decide, hpx, rfl⟩) dL_storeLengths_16
    · refine ad_catch (hh := hL_storeLengths) F G ht 1 (x1 := 0) (x2 := 10) (x3 := 17) (x4 := 23) rfl exL_23 rfl (by decide) lkL_23 csL_23 (by exact List.forall_mem_cons.mpr ⟨⟨by decide, "java/lang/IndexOutOfBoundsException", exL_21, by decide, lkL_21⟩, (fun _ h => absurd h List.not_mem_nil)⟩) hce hcv hcl ?_
      refine lv_astore (lv' := [(4, .ref q), (0, .ref d0), (1, .int (iI a1)), (2, .int (iI a2)), (3, .ref o)]) F.1 F.2.1 dL_storeLengths_17 hl (by decide) rfl (fun ls hl => ?_)
      refine ad_iconst F dL_storeLengths_19 ?_
      exact ad_ireturn F G hR rfl (Nat.le_of_ble_eq_true rfl) (Nat.le_of_ble_eq_true rfl) (Or.inr ⟨2, fs2, wD2, rfl, by decide, hpx, rfl⟩) dL_storeLengths_20
  · obtain ⟨z, fs2, wD2, rfl, hpr, rfl⟩ := hps
    refine W.eq (g2 := F0 m9 8 ls [.int (iI z), .int (iI 0), .ref o]) rfl ?_
    refine lv_i2l (v := (iI z).toInt64) F.1 F.2.1 dL_storeLengths_8 rfl ?_
    refine ad_last (ws' := (o, aJ (K 1) 1 (va_up go 0 (iI z).toInt64)) :: (d0, .inr (10, fs2)) :: wD2) F G 0 rfl (by decide) rfl dL_storeLengths_9 (fun H locs G => ?_)
    replace G := G.pm (List.Perm.swap (d0, .inr (10, fs2)) (o, aJ (K 1) 1 (va_up go 0 (iI z).toInt64)) wD2)
    refine lv_goto (tgt := 21) F.1 F.2.1 dL_storeLengths_10 (by decide) ?_
    refine ad_iconst F dL_storeLengths_21 ?_
    exact ad_ireturn F G hR rfl (Nat.le_of_ble_eq_true rfl) (Nat.le_of_ble_eq_true rfl) (Or.inl ⟨z, fs2, wD2, rfl, hpr, rfl⟩) dL_storeLengths_22
def hL_copyLengths : List (Nat × Nat × Nat × Nat) := [(0, 17, 20, 21), (0, 17, 24, 49), (0, 17, 28, 15), (0, 17, 32, 13)]
set_option maxRecDepth 100000 in
theorem w_copyLengths (l : Launch) (D : va_G) (K : Nat → ClassId) (z0 : Nat) (d0 : Nat) (o : Nat) (fs : List Value) (wD : va_W) (go : Nat → Int64) (a1 : Int) (a2 : Int) (PR : Int → List Value → va_W → Prop) (PX : Int → List Value → va_W → Prop)
    (M : CX l D K z0 yX10_copyLengths cX10_copyLengths 5 (some .boolean) rmD [.ref d0, .int (iI a1), .int (iI a2)] ((d0, .inr (10, fs)) :: wD) (fun v u => ∃ (z : Int) (fs2 : List Value) (wD2 : va_W), v = some (.int (iI z)) ∧ (z = 0 ∨ z = 1) ∧ PR z fs2 wD2 ∧ u = (d0, .inr (10, fs2)) :: wD2) (fun E u => ∃ (fs2 : List Value) (wD2 : va_W), u = (d0, .inr (10, fs2)) :: wD2 ∧ ((E = "java/lang/IndexOutOfBoundsException" ∧ PX 1 fs2 wD2) ∨ (E = "java/util/NoSuchElementException" ∧ PX 2 fs2 wD2) ∨ (E = "java/lang/UnsupportedOperationException" ∧ PX 3 fs2 wD2) ∨ (E = "java/lang/IllegalArgumentException" ∧ PX 4 fs2 wD2)))) :
    CH l D K z0 yL_copyLengths cL_copyLengths 5 (some .int) hL_copyLengths rmL [.ref d0, .int (iI a1), .int (iI a2), .ref o] ((d0, .inr (10, fs)) :: (o, aJ (K 1) 1 go) :: wD) (fun v u => (∃ (z : Int) (fs2 : List Value) (wD2 : va_W), v = some (.int (iI 0)) ∧ (z = 0 ∨ z = 1) ∧ PR z fs2 wD2 ∧ u = (d0, .inr (10, fs2)) :: (o, aJ (K 1) 1 (va_up go 0 (iI z).toInt64)) :: wD2) ∨ (∃ (k : Int) (fs2 : List Value) (wD2 : va_W), v = some (.int (iI k)) ∧ (1 ≤ k ∧ k ≤ 4) ∧ PX k fs2 wD2 ∧ u = (d0, .inr (10, fs2)) :: (o, aJ (K 1) 1 go) :: wD2)) := by
  refine CH.start RL "copyLengths" (by decide) rfl rfl (Nat.le_of_ble_eq_true rfl) ?_
  intro p9 e9 s9 m9 ag9 bl9 mt9 c9 A9 Q9 ls F G hR ht hl
  have hl : lv_has ls 5 [(0, .ref d0), (1, .int (iI a1)), (2, .int (iI a2)), (3, .ref o)] := hl
  refine lv_aload_n F.1 F.2.1 dL_copyLengths_0 rfl (lv_at hl 3 rfl) ?_
  refine ad_iconst F dL_copyLengths_1 ?_
  refine lv_aload_n F.1 F.2.1 dL_copyLengths_2 rfl (lv_at hl 0 rfl) ?_
  refine lv_iload_n F.1 F.2.1 dL_copyLengths_3 rfl (lv_at hl 1 rfl) ?_
  refine lv_iload_n F.1 F.2.1 dL_copyLengths_4 rfl (lv_at hl 2 rfl) ?_
  refine ad_wcall (As := [.int (iI a1), .int (iI a2)]) (rest := [.int (iI 0), .ref o]) F G M my_X10_copyLengths mv_L_116 rfl rfl rfl ⟨Nat.le_of_ble_eq_true rfl, Nat.le_of_ble_eq_true rfl⟩ ⟨Nat.le_of_ble_eq_true rfl, Nat.le_of_ble_eq_true rfl⟩ (Nat.le_of_ble_eq_true rfl) hl.1 ⟨rfl, rfl⟩ dL_copyLengths_5 (fun E9 u9 H locs ce q hpx G hce hcv hcl => ?_) (fun v9 u9 H locs hps G => ?_)
  · obtain ⟨fs2, wD2, rfl, hpx⟩ := hpx
    replace G := G.pm (List.Perm.swap (d0, .inr (10, fs2)) (o, aJ (K 1) 1 go) wD2)
    rcases hpx with ⟨rfl, hpx⟩ | ⟨rfl, hpx⟩ | ⟨rfl, hpx⟩ | ⟨rfl, hpx⟩
    · refine ad_catch (hh := hL_copyLengths) F G ht 0 (x1 := 0) (x2 := 17) (x3 := 20) (x4 := 21) rfl exL_21 rfl (by decide) lkL_21 csL_21 (by intro z hz; cases hz) hce hcv hcl ?_
      refine lv_astore (lv' := [(4, .ref q), (0, .ref d0), (1, .int (iI a1)), (2, .int (iI a2)), (3, .ref o)]) F.1 F.2.1 dL_copyLengths_20 hl (by decide) rfl (fun ls hl => ?_)
      refine ad_iconst F dL_copyLengths_22 ?_
      exact ad_ireturn F G hR rfl (Nat.le_of_ble_eq_true rfl) (Nat.le_of_ble_eq_true rfl) (Or.inr ⟨1, fs2, wD2, rfl, by decide, hpx, rfl⟩) dL_copyLengths_23
    · refine ad_catch (hh := hL_copyLengths) F G ht 1 (x1 := 0) (x2 := 17) (x3 := 24) (x4 := 49) rfl exL_49 rfl (by decide) lkL_49 csL_49 (by exact List.forall_mem_cons.mpr ⟨⟨by decide, "java/lang/IndexOutOfBoundsException", exL_21, by decide, lkL_21⟩, (fun _ h => absurd h List.not_mem_nil)⟩) hce hcv hcl ?_
      refine lv_astore (lv' := [(4, .ref q), (0, .ref d0), (1, .int (iI a1)), (2, .int (iI a2)), (3, .ref o)]) F.1 F.2.1 dL_copyLengths_24 hl (by decide) rfl (fun ls hl => ?_)
      refine ad_iconst F dL_copyLengths_26 ?_
      exact ad_ireturn F G hR rfl (Nat.le_of_ble_eq_true rfl) (Nat.le_of_ble_eq_true rfl) (Or.inr ⟨2, fs2, wD2, rfl, by decide, hpx, rfl⟩) dL_copyLengths_27
    · refine ad_catch (hh := hL_copyLengths) F G ht 2 (x1 := 0) (x2 := 17) (x3 := 28) (x4 := 15) rfl exL_15 rfl (by decide) lkL_15 csL_15 (by exact List.forall_mem_cons.mpr ⟨⟨by decide, "java/lang/IndexOutOfBoundsException", exL_21, by decide, lkL_21⟩, List.forall_mem_cons.mpr ⟨⟨by decide, "java/util/NoSuchElementException", exL_49, by decide, lkL_49⟩, (fun _ h => absurd h List.not_mem_nil)⟩⟩) hce hcv hcl ?_
      refine lv_astore (lv' := [(4, .ref q), (0, .ref d0), (1, .int (iI a1)), (2, .int (iI a2)), (3, .ref o)]) F.1 F.2.1 dL_copyLengths_28 hl (by decide) rfl (fun ls hl => ?_)
      refine ad_iconst F dL_copyLengths_30 ?_
      exact ad_ireturn F G hR rfl (Nat.le_of_ble_eq_true rfl) (Nat.le_of_ble_eq_true rfl) (Or.inr ⟨3, fs2, wD2, rfl, by decide, hpx, rfl⟩) dL_copyLengths_31
    · refine ad_catch (hh := hL_copyLengths) F G ht 3 (x1 := 0) (x2 := 17) (x3 := 32) (x4 := 13) rfl exL_13 rfl (by decide) lkL_13 csL_13 (by exact List.forall_mem_cons.mpr ⟨⟨by decide, "java/lang/IndexOutOfBoundsException", exL_21, by decide, lkL_21⟩, List.forall_mem_cons.mpr ⟨⟨by decide, "java/util/NoSuchElementException", exL_49, by decide, lkL_49⟩, List.forall_mem_cons.mpr ⟨⟨by decide, "java/lang/UnsupportedOperationException", exL_15, by decide, lkL_15⟩, (fun _ h => absurd h List.not_mem_nil)⟩⟩⟩) hce hcv hcl ?_
      refine lv_astore (lv' := [(4, .ref q), (0, .ref d0), (1, .int (iI a1)), (2, .int (iI a2)), (3, .ref o)]) F.1 F.2.1 dL_copyLengths_32 hl (by decide) rfl (fun ls hl => ?_)
      refine ad_iconst F dL_copyLengths_34 ?_
      exact ad_ireturn F G hR rfl (Nat.le_of_ble_eq_true rfl) (Nat.le_of_ble_eq_true rfl) (Or.inr ⟨4, fs2, wD2, rfl, by decide, hpx, rfl⟩) dL_copyLengths_35
  · obtain ⟨z, fs2, wD2, rfl, hzz, hpr, rfl⟩ := hps
    refine W.eq (g2 := F0 m9 8 ls [.int (iI z), .int (iI 0), .ref o]) rfl ?_
    rcases hzz with rfl | rfl
    · refine ad_if_eq (tgt := 15) F (by decide) dL_copyLengths_8 (by decide) (fun _ => ?_) (fun h9 => absurd rfl h9)
      refine lv_lconst (v := (iI 0).toInt64) F.1 F.2.1 dL_copyLengths_15 (by decide) ?_
      refine ad_last (ws' := (o, aJ (K 1) 1 (va_up go 0 (iI 0).toInt64)) :: (d0, .inr (10, fs2)) :: wD2) F G 0 rfl (by decide) rfl dL_copyLengths_16 (fun H locs G => ?_)
      replace G := G.pm (List.Perm.swap (d0, .inr (10, fs2)) (o, aJ (K 1) 1 (va_up go 0 (iI 0).toInt64)) wD2)
      refine lv_goto (tgt := 36) F.1 F.2.1 dL_copyLengths_17 (by decide) ?_
      refine ad_iconst F dL_copyLengths_36 ?_
      exact ad_ireturn F G hR rfl (Nat.le_of_ble_eq_true rfl) (Nat.le_of_ble_eq_true rfl) (Or.inl ⟨0, fs2, wD2, rfl, by decide, hpr, rfl⟩) dL_copyLengths_37
    · refine ad_if_eq (tgt := 15) F (by decide) dL_copyLengths_8 (by decide) (fun h9 => absurd h9 (by decide)) (fun _ => ?_)
      refine lv_lconst (v := (iI 1).toInt64) F.1 F.2.1 dL_copyLengths_11 (by decide) ?_
      refine lv_goto (tgt := 16) F.1 F.2.1 dL_copyLengths_12 (by decide) ?_
      refine ad_last (ws' := (o, aJ (K 1) 1 (va_up go 0 (iI 1).toInt64)) :: (d0, .inr (10, fs2)) :: wD2) F G 0 rfl (by decide) rfl dL_copyLengths_16 (fun H locs G => ?_)
      replace G := G.pm (List.Perm.swap (d0, .inr (10, fs2)) (o, aJ (K 1) 1 (va_up go 0 (iI 1).toInt64)) wD2)
      refine lv_goto (tgt := 36) F.1 F.2.1 dL_copyLengths_17 (by decide) ?_
      refine ad_iconst F dL_copyLengths_36 ?_
      exact ad_ireturn F G hR rfl (Nat.le_of_ble_eq_true rfl) (Nat.le_of_ble_eq_true rfl) (Or.inl ⟨1, fs2, wD2, rfl, by decide, hpr, rfl⟩) dL_copyLengths_37
def hL_storedBits : List (Nat × Nat × Nat × Nat) := [(0, 10, 13, 21), (0, 10, 17, 49)]
set_option maxRecDepth 100000 in
theorem w_storedBits (l : Launch) (D : va_G) (K : Nat → ClassId) (z0 : Nat) (d0 : Nat) (o : Nat) (fs : List Value) (wD : va_W) (go : Nat → Int64) (a1 : Int) (a2 : Int) (PR : Int → List Value → va_W → Prop) (PX : Int → List Value → va_W → Prop)
    (M : CX l D K z0 yX10_storedBits cX10_storedBits 4 (some .int) rmD [.ref d0, .int (iI a1), .int (iI a2)] ((d0, .inr (10, fs)) :: wD) (fun v u => ∃ (z : Int) (fs2 : List Value) (wD2 : va_W), v = some (.int (iI z)) ∧ PR z fs2 wD2 ∧ u = (d0, .inr (10, fs2)) :: wD2) (fun E u => ∃ (fs2 : List Value) (wD2 : va_W), u = (d0, .inr (10, fs2)) :: wD2 ∧ ((E = "java/lang/IndexOutOfBoundsException" ∧ PX 1 fs2 wD2) ∨ (E = "java/util/NoSuchElementException" ∧ PX 2 fs2 wD2)))) :
    CH l D K z0 yL_storedBits cL_storedBits 5 (some .int) hL_storedBits rmL [.ref d0, .int (iI a1), .int (iI a2), .ref o] ((d0, .inr (10, fs)) :: (o, aJ (K 1) 1 go) :: wD) (fun v u => (∃ (z : Int) (fs2 : List Value) (wD2 : va_W), v = some (.int (iI 0)) ∧ PR z fs2 wD2 ∧ u = (d0, .inr (10, fs2)) :: (o, aJ (K 1) 1 (va_up go 0 (iI z).toInt64)) :: wD2) ∨ (∃ (k : Int) (fs2 : List Value) (wD2 : va_W), v = some (.int (iI k)) ∧ (1 ≤ k ∧ k ≤ 2) ∧ PX k fs2 wD2 ∧ u = (d0, .inr (10, fs2)) :: (o, aJ (K 1) 1 go) :: wD2)) := by
  refine CH.start RL "storedBits" (by decide) rfl rfl (Nat.le_of_ble_eq_true rfl) ?_
  intro p9 e9 s9 m9 ag9 bl9 mt9 c9 A9 Q9 ls F G hR ht hl
  have hl : lv_has ls 5 [(0, .ref d0), (1, .int (iI a1)), (2, .int (iI a2)), (3, .ref o)] := hl
  refine lv_aload_n F.1 F.2.1 dL_storedBits_0 rfl (lv_at hl 3 rfl) ?_
  refine ad_iconst F dL_storedBits_1 ?_
  refine lv_aload_n F.1 F.2.1 dL_storedBits_2 rfl (lv_at hl 0 rfl) ?_
  refine lv_iload_n F.1 F.2.1 dL_storedBits_3 rfl (lv_at hl 1 rfl) ?_
  refine lv_iload_n F.1 F.2.1 dL_storedBits_4 rfl (lv_at hl 2 rfl) ?_
  refine ad_wcall (As := [.int (iI a1), .int (iI a2)]) (rest := [.int (iI 0), .ref o]) F G M my_X10_storedBits mv_L_120 rfl rfl rfl ⟨Nat.le_of_ble_eq_true rfl, Nat.le_of_ble_eq_true rfl⟩ ⟨Nat.le_of_ble_eq_true rfl, Nat.le_of_ble_eq_true rfl⟩ (Nat.le_of_ble_eq_true rfl) hl.1 ⟨rfl, rfl⟩ dL_storedBits_5 (fun E9 u9 H locs ce q hpx G hce hcv hcl => ?_) (fun v9 u9 H locs hps G => ?_)
  · obtain ⟨fs2, wD2, rfl, hpx⟩ := hpx
    replace G := G.pm (List.Perm.swap (d0, .inr (10, fs2)) (o, aJ (K 1) 1 go) wD2)
    rcases hpx with ⟨rfl, hpx⟩ | ⟨rfl, hpx⟩
    · refine ad_catch (hh := hL_storedBits) F G ht 0 (x1 := 0) (x2 := 10) (x3 := 13) (x4 := 21) rfl exL_21 rfl (by decide) lkL_21 csL_21 (by intro z hz; cases hz) hce hcv hcl ?_
      refine lv_astore (lv' := [(4, .ref q), (0, .ref d0), (1, .int (iI a1)), (2, .int (iI a2)), (3, .ref o)]) F.1 F.2.1 dL_storedBits_13 hl (by decide) rfl (fun ls hl => ?_)
      refine ad_iconst F dL_storedBits_15 ?_
      exact ad_ireturn F G hR rfl (Nat.le_of_ble_eq_true rfl) (Nat.le_of_ble_eq_true rfl) (Or.inr ⟨1, fs2, wD2, rfl, by decide, hpx, rfl⟩) dL_storedBits_16
    · refine ad_catch (hh := hL_storedBits) F G ht 1 (x1 := 0) (x2 := 10) (x3 := 17) (x4 := 49) rfl exL_49 rfl (by decide) lkL_49 csL_49 (by exact List.forall_mem_cons.mpr ⟨⟨by decide, "java/lang/IndexOutOfBoundsException", exL_21, by decide, lkL_21⟩, (fun _ h => absurd h List.not_mem_nil)⟩) hce hcv hcl ?_
      refine lv_astore (lv' := [(4, .ref q), (0, .ref d0), (1, .int (iI a1)), (2, .int (iI a2)), (3, .ref o)]) F.1 F.2.1 dL_storedBits_17 hl (by decide) rfl (fun ls hl => ?_)
      refine ad_iconst F dL_storedBits_19 ?_
      exact ad_ireturn F G hR rfl (Nat.le_of_ble_eq_true rfl) (Nat.le_of_ble_eq_true rfl) (Or.inr ⟨2, fs2, wD2, rfl, by decide, hpx, rfl⟩) dL_storedBits_20
  · obtain ⟨z, fs2, wD2, rfl, hpr, rfl⟩ := hps
    refine W.eq (g2 := F0 m9 8 ls [.int (iI z), .int (iI 0), .ref o]) rfl ?_
    refine lv_i2l (v := (iI z).toInt64) F.1 F.2.1 dL_storedBits_8 rfl ?_
    refine ad_last (ws' := (o, aJ (K 1) 1 (va_up go 0 (iI z).toInt64)) :: (d0, .inr (10, fs2)) :: wD2) F G 0 rfl (by decide) rfl dL_storedBits_9 (fun H locs G => ?_)
    replace G := G.pm (List.Perm.swap (d0, .inr (10, fs2)) (o, aJ (K 1) 1 (va_up go 0 (iI z).toInt64)) wD2)
    refine lv_goto (tgt := 21) F.1 F.2.1 dL_storedBits_10 (by decide) ?_
    refine ad_iconst F dL_storedBits_21 ?_
    exact ad_ireturn F G hR rfl (Nat.le_of_ble_eq_true rfl) (Nat.le_of_ble_eq_true rfl) (Or.inl ⟨z, fs2, wD2, rfl, hpr, rfl⟩) dL_storedBits_22
def hL_undo : List (Nat × Nat × Nat × Nat) := [(0, 8, 11, 23)]
set_option maxRecDepth 100000 in
theorem w_undo (l : Launch) (D : va_G) (K : Nat → ClassId) (z0 : Nat) (d0 : Nat) (o : Nat) (fs : List Value) (wD : va_W) (go : Nat → Int64)  (PR : Int → List Value → va_W → Prop) (PX : Int → List Value → va_W → Prop)
    (M : CX l D K z0 yX10_undo cX10_undo 1 (some .int) rmD [.ref d0] ((d0, .inr (10, fs)) :: wD) (fun v u => ∃ (z : Int) (fs2 : List Value) (wD2 : va_W), v = some (.int (iI z)) ∧ PR z fs2 wD2 ∧ u = (d0, .inr (10, fs2)) :: wD2) (fun E u => ∃ (fs2 : List Value) (wD2 : va_W), u = (d0, .inr (10, fs2)) :: wD2 ∧ ((E = "java/lang/IllegalStateException" ∧ PX 1 fs2 wD2)))) :
    CH l D K z0 yL_undo cL_undo 3 (some .int) hL_undo rmL [.ref d0, .ref o] ((d0, .inr (10, fs)) :: (o, aJ (K 1) 1 go) :: wD) (fun v u => (∃ (z : Int) (fs2 : List Value) (wD2 : va_W), v = some (.int (iI 0)) ∧ PR z fs2 wD2 ∧ u = (d0, .inr (10, fs2)) :: (o, aJ (K 1) 1 (va_up go 0 (iI z).toInt64)) :: wD2) ∨ (∃ (k : Int) (fs2 : List Value) (wD2 : va_W), v = some (.int (iI k)) ∧ (1 ≤ k ∧ k ≤ 1) ∧ PX k fs2 wD2 ∧ u = (d0, .inr (10, fs2)) :: (o, aJ (K 1) 1 go) :: wD2)) := by
  refine CH.start RL "undo" (by decide) rfl rfl (Nat.le_of_ble_eq_true rfl) ?_
  intro p9 e9 s9 m9 ag9 bl9 mt9 c9 A9 Q9 ls F G hR ht hl
  have hl : lv_has ls 3 [(0, .ref d0), (1, .ref o)] := hl
  refine lv_aload_n F.1 F.2.1 dL_undo_0 rfl (lv_at hl 1 rfl) ?_
  refine ad_iconst F dL_undo_1 ?_
  refine lv_aload_n F.1 F.2.1 dL_undo_2 rfl (lv_at hl 0 rfl) ?_
  refine ad_wcall (As := []) (rest := [.int (iI 0), .ref o]) F G M my_X10_undo mv_L_123 rfl rfl rfl ⟨Nat.le_of_ble_eq_true rfl, Nat.le_of_ble_eq_true rfl⟩ ⟨Nat.le_of_ble_eq_true rfl, Nat.le_of_ble_eq_true rfl⟩ (Nat.le_of_ble_eq_true rfl) hl.1 ⟨rfl, rfl⟩ dL_undo_3 (fun E9 u9 H locs ce q hpx G hce hcv hcl => ?_) (fun v9 u9 H locs hps G => ?_)
  · obtain ⟨fs2, wD2, rfl, hpx⟩ := hpx
    replace G := G.pm (List.Perm.swap (d0, .inr (10, fs2)) (o, aJ (K 1) 1 go) wD2)
    obtain ⟨rfl, hpx⟩ := hpx
    refine ad_catch (hh := hL_undo) F G ht 0 (x1 := 0) (x2 := 8) (x3 := 11) (x4 := 23) rfl exL_23 rfl (by decide) lkL_23 csL_23 (by intro z hz; cases hz) hce hcv hcl ?_
    refine lv_astore_n (lv' := [(2, .ref q), (0, .ref d0), (1, .ref o)]) F.1 F.2.1 dL_undo_11 rfl hl (by decide) rfl (fun ls hl => ?_)
    refine ad_iconst F dL_undo_12 ?_
    exact ad_ireturn F G hR rfl (Nat.le_of_ble_eq_true rfl) (Nat.le_of_ble_eq_true rfl) (Or.inr ⟨1, fs2, wD2, rfl, by decide, hpx, rfl⟩) dL_undo_13
  · obtain ⟨z, fs2, wD2, rfl, hpr, rfl⟩ := hps
    refine W.eq (g2 := F0 m9 6 ls [.int (iI z), .int (iI 0), .ref o]) rfl ?_
    refine lv_i2l (v := (iI z).toInt64) F.1 F.2.1 dL_undo_6 rfl ?_
    refine ad_last (ws' := (o, aJ (K 1) 1 (va_up go 0 (iI z).toInt64)) :: (d0, .inr (10, fs2)) :: wD2) F G 0 rfl (by decide) rfl dL_undo_7 (fun H locs G => ?_)
    replace G := G.pm (List.Perm.swap (d0, .inr (10, fs2)) (o, aJ (K 1) 1 (va_up go 0 (iI z).toInt64)) wD2)
    refine lv_goto (tgt := 14) F.1 F.2.1 dL_undo_8 (by decide) ?_
    refine ad_iconst F dL_undo_14 ?_
    exact ad_ireturn F G hR rfl (Nat.le_of_ble_eq_true rfl) (Nat.le_of_ble_eq_true rfl) (Or.inl ⟨z, fs2, wD2, rfl, hpr, rfl⟩) dL_undo_15
def hL_restore : List (Nat × Nat × Nat × Nat) := [(0, 8, 11, 23)]
set_option maxRecDepth 100000 in
theorem w_restore (l : Launch) (D : va_G) (K : Nat → ClassId) (z0 : Nat) (d0 : Nat) (o : Nat) (fs : List Value) (wD : va_W) (go : Nat → Int64)  (PR : Int → List Value → va_W → Prop) (PX : Int → List Value → va_W → Prop)
    (M : CX l D K z0 yX10_restore cX10_restore 1 (some .int) rmD [.ref d0] ((d0, .inr (10, fs)) :: wD) (fun v u => ∃ (z : Int) (fs2 : List Value) (wD2 : va_W), v = some (.int (iI z)) ∧ PR z fs2 wD2 ∧ u = (d0, .inr (10, fs2)) :: wD2) (fun E u => ∃ (fs2 : List Value) (wD2 : va_W), u = (d0, .inr (10, fs2)) :: wD2 ∧ ((E = "java/lang/IllegalStateException" ∧ PX 1 fs2 wD2)))) :
    CH l D K z0 yL_restore cL_restore 3 (some .int) hL_restore rmL [.ref d0, .ref o] ((d0, .inr (10, fs)) :: (o, aJ (K 1) 1 go) :: wD) (fun v u => (∃ (z : Int) (fs2 : List Value) (wD2 : va_W), v = some (.int (iI 0)) ∧ PR z fs2 wD2 ∧ u = (d0, .inr (10, fs2)) :: (o, aJ (K 1) 1 (va_up go 0 (iI z).toInt64)) :: wD2) ∨ (∃ (k : Int) (fs2 : List Value) (wD2 : va_W), v = some (.int (iI k)) ∧ (1 ≤ k ∧ k ≤ 1) ∧ PX k fs2 wD2 ∧ u = (d0, .inr (10, fs2)) :: (o, aJ (K 1) 1 go) :: wD2)) := by
  refine CH.start RL "restore" (by decide) rfl rfl (Nat.le_of_ble_eq_true rfl) ?_
  intro p9 e9 s9 m9 ag9 bl9 mt9 c9 A9 Q9 ls F G hR ht hl
  have hl : lv_has ls 3 [(0, .ref d0), (1, .ref o)] := hl
  refine lv_aload_n F.1 F.2.1 dL_restore_0 rfl (lv_at hl 1 rfl) ?_
  refine ad_iconst F dL_restore_1 ?_
  refine lv_aload_n F.1 F.2.1 dL_restore_2 rfl (lv_at hl 0 rfl) ?_
  refine ad_wcall (As := []) (rest := [.int (iI 0), .ref o]) F G M my_X10_restore mv_L_126 rfl rfl rfl ⟨Nat.le_of_ble_eq_true rfl, Nat.le_of_ble_eq_true rfl⟩ ⟨Nat.le_of_ble_eq_true rfl, Nat.le_of_ble_eq_true rfl⟩ (Nat.le_of_ble_eq_true rfl) hl.1 ⟨rfl, rfl⟩ dL_restore_3 (fun E9 u9 H locs ce q hpx G hce hcv hcl => ?_) (fun v9 u9 H locs hps G => ?_)
  · obtain ⟨fs2, wD2, rfl, hpx⟩ := hpx
    replace G := G.pm (List.Perm.swap (d0, .inr (10, fs2)) (o, aJ (K 1) 1 go) wD2)
    obtain ⟨rfl, hpx⟩ := hpx
    refine ad_catch (hh := hL_restore) F G ht 0 (x1 := 0) (x2 := 8) (x3 := 11) (x4 := 23) rfl exL_23 rfl (by decide) lkL_23 csL_23 (by intro z hz; cases hz) hce hcv hcl ?_
    refine lv_astore_n (lv' := [(2, .ref q), (0, .ref d0), (1, .ref o)]) F.1 F.2.1 dL_restore_11 rfl hl (by decide) rfl (fun ls hl => ?_)
    refine ad_iconst F dL_restore_12 ?_
    exact ad_ireturn F G hR rfl (Nat.le_of_ble_eq_true rfl) (Nat.le_of_ble_eq_true rfl) (Or.inr ⟨1, fs2, wD2, rfl, by decide, hpx, rfl⟩) dL_restore_13
  · obtain ⟨z, fs2, wD2, rfl, hpr, rfl⟩ := hps
    refine W.eq (g2 := F0 m9 6 ls [.int (iI z), .int (iI 0), .ref o]) rfl ?_
    refine lv_i2l (v := (iI z).toInt64) F.1 F.2.1 dL_restore_6 rfl ?_
    refine ad_last (ws' := (o, aJ (K 1) 1 (va_up go 0 (iI z).toInt64)) :: (d0, .inr (10, fs2)) :: wD2) F G 0 rfl (by decide) rfl dL_restore_7 (fun H locs G => ?_)
    replace G := G.pm (List.Perm.swap (d0, .inr (10, fs2)) (o, aJ (K 1) 1 (va_up go 0 (iI z).toInt64)) wD2)
    refine lv_goto (tgt := 14) F.1 F.2.1 dL_restore_8 (by decide) ?_
    refine ad_iconst F dL_restore_14 ?_
    exact ad_ireturn F G hR rfl (Nat.le_of_ble_eq_true rfl) (Nat.le_of_ble_eq_true rfl) (Or.inl ⟨z, fs2, wD2, rfl, hpr, rfl⟩) dL_restore_15
