/-! the law, from its entry -/
theorem ad_K1 {args : Array Value} {s : State} {ci n N : Nat} {C : String} {T : u_T} {ty : Nat → FieldType} (hts : ∀ w ∈ BIG, w.before args s = true) (hc : ad_C ci C T N ty) (hi : Cond.instantiable C n ∈ BIG) : ∃ d : ClassId × (Nat → Nat), ∀ q : vw_C, classes[ci]? = some q → u_Kn s q.1 q.2.1 q.2.2 d.1 d.2 := by
  obtain ⟨h1, h2, -⟩ := hc
  obtain ⟨cC, iS, h⟩ := u_known hts h2 (hts _ hi)
  exact ⟨(cC, iS), fun q hq => by rw [h1] at hq; cases hq; exact h⟩
theorem ad_K0 {args : Array Value} {s : State} (hts : ∀ w ∈ BIG, w.before args s = true) : ∃ D : va_G, ∀ (c : Nat) (q : vw_C), classes[c]? = some q → u_Kn s q.1 q.2.1 q.2.2 (D.1 c) (D.2 c) := by
  have h : ∀ c : Nat, ∃ d : ClassId × (Nat → Nat), ∀ q : vw_C, classes[c]? = some q → u_Kn s q.1 q.2.1 q.2.2 d.1 d.2 := by
    intro c
    match c with
    | 0 => exact ad_K1 hts ad_C0 nw_X10_38.2.2.1
    | 1 => exact ad_K1 hts ad_C1 nw_X10_51.2.2.1
    | 2 => exact ad_K1 hts (⟨rfl, ad_C0.2⟩ : ad_C 2 RX0 TX0 14 tyX0) nw_X10_38.2.2.1
    | 3 => exact ad_K1 hts ad_C3 nw_X10_57.2.2.1
    | 4 => exact ad_K1 hts ad_C4 nw_X10_64.2.2.1
    | 5 => exact ad_K1 hts ad_C5 nw_X10_71.2.2.1
    | 6 => exact ad_K1 hts ad_C6 nw_X9_9.2.2.1
    | 7 => exact ad_K1 hts ad_C7 nw_X10_7.2.2.1
    | 8 => exact ad_K1 hts ad_C8 nw_X10_21.2.2.1
    | 9 => exact ad_K1 hts ad_C9 nw_X10_28.2.2.1
    | 10 => exact ad_K1 hts ad_C10 nw_L_8.2.2.1
    | 11 => exact ad_K1 hts ad_C11 nw_L_130.2.2.1
    | k + 12 =>
      refine ⟨((0 : Nat), fun _ => 0), fun q hq => ?_⟩
      have h9 : classes[k + 12]? = none := List.getElem?_eq_none (by show 12 ≤ k + 12; omega)
      rw [h9] at hq
      cases hq
  exact ⟨(fun c => (Classical.choose (h c)).1, fun c => (Classical.choose (h c)).2), fun c q hq => Classical.choose_spec (h c) q hq⟩
theorem arr_p {args : Array Value} {s : State} {ty : FieldType} (h : (Cond.arrayClass ty).before args s = true) : ∃ cA : ClassId, ArrOfT s cA ty ∧ s.vm.findClass ("[" ++ ty.toString) = some cA := by
  obtain ⟨c, k, comp, h1, h2, h3⟩ := Cond.arrayClass_spec h
  exact ⟨c, fun n z => ⟨(fun q h => by cases h), k, h2, comp, h3⟩, h1⟩
theorem arr_o {args : Array Value} {s : State} {C : String} (h : (Cond.arrayOver (.object C)).before args s = true) : ∃ cA : ClassId, ArrOfT s cA (.object C) ∧ va_RA s cA (.object C) := by
  obtain ⟨comp, c, k, h1, h2, h3, h4, h5⟩ := Cond.arrayOver_spec h
  exact ⟨c, fun n z => ⟨(fun q h => by cases h), k, h3, comp, h4⟩, k, comp, h3, h4, h1, h5⟩
theorem arr_a {args : Array Value} {s : State} {t : FieldType} (h : (Cond.arrayOver (.array t)).before args s = true) : ∃ cA : ClassId, ArrOfT s cA (.array t) ∧ s.vm.findClass ("[" ++ (FieldType.array t).toString) = some cA := by
  unfold Cond.before Cond.holds at h
  simp only [Cond.value, beq_iff_eq] at h
  obtain ⟨comp, hc, h2⟩ := Option.bind_eq_some_iff.mp h
  obtain ⟨c, hi, h3⟩ := Option.bind_eq_some_iff.mp h2
  obtain ⟨k, hk, h4⟩ := Option.map_eq_some_iff.mp h3
  obtain ⟨hlt, hp, -⟩ := Array.findIdx?_eq_some_iff_getElem.mp hi
  have hkk : s.vm.classes[c] = k := (Array.getElem?_eq_some_iff.mp hk).2
  rw [hkk] at hp
  cases hkind : k.kind with
  | array component ty =>
    rw [hkind] at h4 hp
    simp at h4 hp
    exact ⟨c, fun n z => ⟨(fun q h => by cases h), k, hk, component, (by rw [hkind, h4.1])⟩, h4.2⟩
  | _ => rw [hkind] at h4; simp at h4
theorem ad_T0 {args : Array Value} {s : State} (ht : ∀ w ∈ tables_1, w.before args s = true) : ∃ K : Nat → ClassId, ∀ (k : Nat) (q : ClassId × FieldType), (ad_TY K)[k]? = some q → ArrOfT s q.1 q.2 ∧ va_RA s q.1 q.2 := by
  obtain ⟨c0, a0, b0⟩ := arr_p (ty := .int) (ht _ (List.mem_of_getElem? (i := 200) (by decide +kernel)))
  obtain ⟨c1, a1, b1⟩ := arr_p (ty := .long) (ht _ (List.mem_of_getElem? (i := 201) (by decide +kernel)))
  obtain ⟨c2, a2, b2⟩ := arr_p (ty := .char) (ht _ (List.mem_of_getElem? (i := 49) (by decide +kernel)))
  obtain ⟨c3, a3, b3⟩ := arr_p (ty := .float) (ht _ (List.mem_of_getElem? (i := 314) (by decide +kernel)))
  obtain ⟨c4, a4, b4⟩ := arr_p (ty := .boolean) (ht _ (List.mem_of_getElem? (i := 1356) (by decide +kernel)))
  obtain ⟨c5, a5, b5⟩ := arr_o (C := RX0) (ht _ (List.mem_of_getElem? (i := 211) (by decide +kernel)))
  obtain ⟨c6, a6, b6⟩ := arr_o (C := RX1) (ht _ (List.mem_of_getElem? (i := 203) (by decide +kernel)))
  obtain ⟨c7, a7, b7⟩ := arr_a (t := .int) (ht _ (List.mem_of_getElem? (i := 1211) (by decide +kernel)))
  obtain ⟨c8, a8, b8⟩ := arr_a (t := .float) (ht _ (List.mem_of_getElem? (i := 1213) (by decide +kernel)))
  obtain ⟨c9, a9, b9⟩ := arr_p (ty := .double) (ht _ (List.mem_of_getElem? (i := 1733) (by decide +kernel)))
  refine ⟨fun i => [c0, c1, c2, c3, c4, c5, c6, c7, c8, c9].getD i c0, fun k q hq => ?_⟩
  match k with
  | 0 => obtain rfl := Option.some.inj (show some (c0, FieldType.int) = some q from hq); exact ⟨a0, b0⟩
  | 1 => obtain rfl := Option.some.inj (show some (c1, FieldType.long) = some q from hq); exact ⟨a1, b1⟩
  | 2 => obtain rfl := Option.some.inj (show some (c2, FieldType.char) = some q from hq); exact ⟨a2, b2⟩
  | 3 => obtain rfl := Option.some.inj (show some (c3, FieldType.float) = some q from hq); exact ⟨a3, b3⟩
  | 4 => obtain rfl := Option.some.inj (show some (c4, FieldType.boolean) = some q from hq); exact ⟨a4, b4⟩
  | 5 => obtain rfl := Option.some.inj (show some (c5, FieldType.object RX0) = some q from hq); exact ⟨a5, b5⟩
  | 6 => obtain rfl := Option.some.inj (show some (c6, FieldType.object RX1) = some q from hq); exact ⟨a6, b6⟩
  | 7 => obtain rfl := Option.some.inj (show some (c7, FieldType.array .int) = some q from hq); exact ⟨a7, b7⟩
  | 8 => obtain rfl := Option.some.inj (show some (c8, FieldType.array .float) = some q from hq); exact ⟨a8, b8⟩
  | 9 => obtain rfl := Option.some.inj (show some (c9, FieldType.double) = some q from hq); exact ⟨a9, b9⟩
  | k + 10 =>
    have h9 : (ad_TY (fun i => [c0, c1, c2, c3, c4, c5, c6, c7, c8, c9].getD i c0))[k + 10]? = none := List.getElem?_eq_none (by show 10 ≤ k + 10; omega)
    rw [h9] at hq
    cases hq
theorem ad_E0 {s : State} {b : Nat} (ht : ∀ w ∈ tables_1, w.before #[Value.ref b] s = true) (hgv : (Jvm.Cond.and given_1 narrow_1).before #[Value.ref b] s = true) : ad_ENV s.heap.size s := by
  have hs := flat_of_before _ hgv
  have hA : ∀ a : Nat, a < s.heap.size → ¬ (s.heap.size ≤ a) := fun a h => Nat.not_le.mpr h
  refine ⟨fun w hw hg => va_Nw.of (by cases w <;> first | rfl | (simp [ad_nest] at hg; done)) (ht w hw), fun w hw hg => ?_, ?_, ?_, ?_, ?_, ?_⟩
  · simp only [ad_soft, Bool.and_eq_true] at hg
    exact va_Nw.of hg.1 (ht w hw)
  · have hlen := va_eqt (hs (Cond.eq (.length (.static RX10 "PLACES" "[I")) (.int 5)) (by decide +kernel))
    have e0 := va_eqt (hs (Cond.eq (.elem (.static RX10 "PLACES" "[I") (.int 0)) (.int 7)) (by decide +kernel))
    have e1 := va_eqt (hs (Cond.eq (.elem (.static RX10 "PLACES" "[I") (.int 1)) (.int 1)) (by decide +kernel))
    have e2 := va_eqt (hs (Cond.eq (.elem (.static RX10 "PLACES" "[I") (.int 2)) (.int 6)) (by decide +kernel))
    have e3 := va_eqt (hs (Cond.eq (.elem (.static RX10 "PLACES" "[I") (.int 3)) (.int 2)) (by decide +kernel))
    have e4 := va_eqt (hs (Cond.eq (.elem (.static RX10 "PLACES" "[I") (.int 4)) (.int 4)) (by decide +kernel))
    obtain ⟨t, ht9, hT⟩ := va_Tof (A := fun q => s.heap.size ≤ q) (f := ad_PL) (N := 5) (by decide) (hs (Cond.arrayOf (.static RX10 "PLACES" "[I") .int) (by decide +kernel)) hlen (fun j hj => by
      rcases (show j = 0 ∨ j = 1 ∨ j = 2 ∨ j = 3 ∨ j = 4 by omega) with rfl | rfl | rfl | rfl | rfl
      · exact e0
      · exact e1
      · exact e2
      · exact e3
      · exact e4) hA
    exact ⟨t, va_Zref (ht (.laysStatic RX10 "PLACES" "[I") (List.mem_of_getElem? (i := 621) (by decide +kernel))) (ht (.initialized RX10) (List.mem_of_getElem? (i := 1) (by decide +kernel))) ht9 hA, hT⟩
  · exact vx_Zqof (ht (.laysStatic "java/lang/Throwable" "UNASSIGNED_STACK" "[Ljava/lang/StackTraceElement;") (List.mem_of_getElem? (i := 509) (by decide +kernel))) (ht (.initialized "java/lang/Throwable") (List.mem_of_getElem? (i := 11) (by decide +kernel))) (hs (.isRef (.static "java/lang/Throwable" "UNASSIGNED_STACK" "[Ljava/lang/StackTraceElement;")) (by decide +kernel)) hA
  · exact vx_Zqof (ht (.laysStatic "java/lang/Throwable" "SUPPRESSED_SENTINEL" "Ljava/util/List;") (List.mem_of_getElem? (i := 511) (by decide +kernel))) (ht (.initialized "java/lang/Throwable") (List.mem_of_getElem? (i := 11) (by decide +kernel))) (hs (.isRef (.static "java/lang/Throwable" "SUPPRESSED_SENTINEL" "Ljava/util/List;")) (by decide +kernel)) hA
  · intro a ha b9 hb9 hn
    simp only [ad_exs, List.mem_cons, List.not_mem_nil, or_false] at ha hb9
    rcases ha with rfl | rfl | rfl | rfl | rfl | rfl <;> rcases hb9 with rfl | rfl | rfl | rfl | rfl | rfl <;> first | exact absurd rfl hn | exact va_Nc.of (hs (.not (.castable _ _)) (by decide +kernel))
  · exact ⟨va_AO.of (ht _ (List.mem_of_getElem? (i := 211) (by decide +kernel))), va_AO.of (ht _ (List.mem_of_getElem? (i := 203) (by decide +kernel))), (ht (.arrayOver (.array .int)) (List.mem_of_getElem? (i := 1211) (by decide +kernel))), (ht (.arrayOver (.array .float)) (List.mem_of_getElem? (i := 1213) (by decide +kernel)))⟩
