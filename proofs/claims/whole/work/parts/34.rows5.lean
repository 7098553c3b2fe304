
theorem va_rf_s (a : Nat) : va_rf (some a) = .ref a := rfl
theorem va_rf_n : va_rf none = .null := rfl
theorem va_nd_of : ∀ {l : List Nat}, l.Nodup → va_nd l = true
  | [], _ => rfl
  | a :: l, h => by
    rw [List.nodup_cons] at h
    simp only [va_nd, Bool.and_eq_true, decide_eq_true_eq]
    exact ⟨h.1, va_nd_of h.2⟩
theorem perm_is {ws ws' : va_W} (h : ws.Perm ws') : ∃ is : List Nat, is.Perm (List.range ws.length) ∧ is.map (fun i => ws[i]?) = ws'.map some := by
  induction h with
  | nil => exact ⟨[], List.Perm.refl _, rfl⟩
  | cons x h ih =>
    rename_i l1 l2
    obtain ⟨is, h1, h2⟩ := ih
    refine ⟨0 :: is.map (· + 1), ?_, ?_⟩
    · rw [List.length_cons, List.range_succ_eq_map]
      exact (h1.map _).cons 0
    · simp only [List.map_cons, List.map_map]
      refine congr (congrArg List.cons rfl) ?_
      rw [← h2]
      exact List.map_congr_left (fun i _ => rfl)
  | swap x y l =>
    refine ⟨1 :: 0 :: (List.range l.length).map (· + 2), ?_, ?_⟩
    · rw [List.length_cons, List.length_cons, List.range_succ_eq_map, List.range_succ_eq_map, List.map_cons, List.map_map]
      exact List.Perm.swap _ _ _
    · simp only [List.map_cons, List.map_map]
      refine congr (congrArg List.cons rfl) (congr (congrArg List.cons rfl) ?_)
      refine List.ext_getElem? (fun i => ?_)
      simp only [List.getElem?_map]
      by_cases hi : i < l.length
      · simp [hi]
      · simp [hi]
  | trans h1 h2 ih1 ih2 =>
    rename_i l1 l2 l3
    obtain ⟨is, a1, a2⟩ := ih1
    obtain ⟨js, b1, b2⟩ := ih2
    have hlen : is.length = l2.length := by have := congrArg List.length a2; simpa using this
    have hr : (List.range l2.length).map (fun i => is.getD i 0) = is := by
      refine List.ext_getElem? (fun i => ?_)
      by_cases hi : i < l2.length
      · simp [hi, hlen, List.getD_eq_getElem?_getD]
      · simp [hi, hlen]
    refine ⟨js.map (fun i => is.getD i 0), ?_, ?_⟩
    · refine ((b1.map (fun i => is.getD i 0)).trans ?_)
      rw [hr]; exact a1
    · rw [List.map_map, ← b2]
      refine List.map_congr_left (fun i hi => ?_)
      have hil : i < l2.length := List.mem_range.mp (b1.mem_iff.mp hi)
      have e := congrArg (fun l => l[i]?) a2
      simp only [List.getElem?_map] at e
      have hil2 : i < is.length := by omega
      rw [List.getElem?_eq_getElem hil, List.getElem?_eq_getElem hil2] at e
      simp only [Option.map_some] at e
      show l1[is.getD i 0]? = l2[i]?
      rw [List.getD_eq_getElem?_getD, List.getElem?_eq_getElem hil2, List.getElem?_eq_getElem hil]
      exact Option.some.inj e
theorem ad_cutP {ws wc wr : va_W} (h : ws.Perm (wc ++ wr)) : ∃ isC isR : List Nat, ad_cut ws wc wr isC isR := by
  obtain ⟨is, h1, h2⟩ := perm_is h
  have hnd : is.Nodup := h1.nodup_iff.mpr List.nodup_range
  rw [← List.take_append_drop wc.length is] at hnd
  have hlen : is.length = wc.length + wr.length := by have := congrArg List.length h2; simpa using this
  rw [List.nodup_append] at hnd
  refine ⟨is.take wc.length, is.drop wc.length, ?_, ?_, va_nd_of hnd.1, va_nd_of hnd.2.1, fun i hi hj => hnd.2.2 i hj i hi rfl⟩
  · rw [List.map_take, h2, List.map_append, List.take_left' (by simp)]
  · rw [List.map_drop, h2, List.map_append, List.drop_left' (by simp)]
theorem pmB {B B' : List va_W} (is js : List Nat) (h : (is ++ js).isPerm (List.range B.length) = true) (hm : is.map (fun i => B[i]?) = B'.map some) : ∃ r : va_W, B.flatten.Perm (B'.flatten ++ r) := by
  have h1 : (is ++ js).Perm (List.range B.length) := List.isPerm_iff.mp h
  have h2 : ((is ++ js).map (fun i => B[i]?)).Perm ((List.range B.length).map (fun i => B[i]?)) := h1.map _
  have h3 : (List.range B.length).map (fun i => B[i]?) = B.map some := by
    refine List.ext_getElem? (fun i => ?_)
    by_cases hi : i < B.length
    · simp [hi]
    · simp [hi]
  rw [h3, List.map_append, hm] at h2
  have h4 := h2.filterMap id
  rw [List.filterMap_append] at h4
  have h5 : ∀ L : List va_W, (L.map some).filterMap id = L := fun L => by simp
  rw [h5, h5] at h4
  refine ⟨((js.map (fun i => B[i]?)).filterMap id).flatten, ?_⟩
  rw [← List.flatten_append]
  exact h4.symm.flatten
theorem pmF {ws ws' : va_W} {n : Nat} (B B' : List va_W) (is : List Nat) (e1 : ws = B.flatten) (hn : B.length = n) (h : is.isPerm (List.range n) = true) (hm : is.map (fun i => B[i]?) = B'.map some) (e2 : B'.flatten = ws') : ws.Perm ws' := by
  subst e1; subst e2; subst hn
  obtain ⟨r, hr⟩ := pmB is [] (by rw [List.append_nil]; exact h) hm
  have : r = [] := by
    have hl := hr.length_eq
    have h1 : is.Perm (List.range B.length) := List.isPerm_iff.mp h
    have h2 : (is.map (fun i => B[i]?)).Perm ((List.range B.length).map (fun i => B[i]?)) := h1.map _
    have h3 : (List.range B.length).map (fun i => B[i]?) = B.map some := by
      refine List.ext_getElem? (fun i => ?_)
      by_cases hi : i < B.length
      · simp [hi]
      · simp [hi]
    rw [h3, hm] at h2
    have h4 := (h2.filterMap id)
    have h5 : ∀ L : List va_W, (L.map some).filterMap id = L := fun L => by simp
    rw [h5, h5] at h4
    have h6 := h4.flatten.length_eq
    rw [List.length_append] at hl
    exact List.eq_nil_of_length_eq_zero (by omega)
  rw [this, List.append_nil] at hr
  exact hr
theorem ad_G.pm {D : va_G} {A : Nat → Prop} {H0 H : Heap} {locs : List Loc} {ws ws' : va_W} (G : ad_G D A H0 H locs ws) (h : ws.Perm ws') : ad_G D A H0 H locs ws' := by
  obtain ⟨is, h1, h2⟩ := perm_is h
  exact G.perm is (va_nd_of (h1.nodup_iff.mpr List.nodup_range)) h2
theorem ad_G.drop {D : va_G} {A : Nat → Prop} {H0 H : Heap} {locs : List Loc} {ws r : va_W} (G : ad_G D A H0 H locs (ws ++ r)) : ad_G D A H0 H locs ws := by
  obtain ⟨isC, isR, X⟩ := ad_cutP (ws := ws ++ r) (wc := ws) (wr := r) (List.Perm.refl _)
  exact G.perm isC X.2.2.1 X.1
theorem ad_G.bl {D : va_G} {A : Nat → Prop} {H0 H : Heap} {locs : List Loc} {ws ws' : va_W} (G : ad_G D A H0 H locs ws) {n : Nat} (B B' : List va_W) (is js : List Nat) (e1 : ws = B.flatten) (hn : B.length = n) (h : (is ++ js).isPerm (List.range n) = true) (hm : is.map (fun i => B[i]?) = B'.map some) (e2 : B'.flatten = ws') : ad_G D A H0 H locs ws' := by
  subst e1; subst e2; subst hn
  obtain ⟨r, hr⟩ := pmB is js h hm
  exact (G.pm hr).drop
section ADR5
variable {p : Program} {l : Launch} {e : Env} {R : Room} {s : State} {m : MethodId} {args : Array Value} {below : List Frame} {meth : Method} {c : Code} {H : Heap} {locs : List Loc} {cells slots : Nat} {Q : State → Prop}
variable {own nm : String} {cc : ByteArray} {nL : Nat} {ret : Option FieldType} {D : va_G} {K : Nat → ClassId} {z0 : Nat} {A : Nat → Prop} {ws : va_W} {pc : Nat} {ls : Array Slot} {rest : List Value} {a : Nat}

theorem ad_tabIn (F : ad_F p s m args meth c own nm cc nL ret D K z0 A) {z v dflt lo hi off : Int} {offs : Array Int} {len tgt : Nat} (d : decode cc pc = .ok (.tableswitch dflt lo hi offs, len)) (hz : z = v) (hv : (iI v).toInt = v) (h1 : ¬ v < lo) (h2 : ¬ hi < v) (ho : offs[(v - lo).toNat]? = some off) (ht : (pc : Int) + off = (tgt : Int)) (k : W p l e R s m args below meth c H locs cells slots Q (F0 m tgt ls rest)) : W p l e R s m args below meth c H locs cells slots Q (F0 m pc ls (.int (iI z) :: rest)) := by
  subst hz
  exact lv_tableIn F.1 F.2.1 d (by rw [hv]; exact h1) (by rw [hv]; exact h2) (by rw [hv]; exact ho) ht k
theorem ad_tabOut (F : ad_F p s m args meth c own nm cc nL ret D K z0 A) {z dflt lo hi : Int} {offs : Array Int} {len tgt : Nat} (d : decode cc pc = .ok (.tableswitch dflt lo hi offs, len)) (hr : -2147483648 ≤ z ∧ z < 2147483648) (h : z < lo ∨ hi < z) (ht : (pc : Int) + dflt = (tgt : Int)) (k : W p l e R s m args below meth c H locs cells slots Q (F0 m tgt ls rest)) : W p l e R s m args below meth c H locs cells slots Q (F0 m pc ls (.int (iI z) :: rest)) :=
  lv_tableOut F.1 F.2.1 d (by rw [iI_toInt hr]; exact h) ht k
theorem ad_aald (F : ad_F p s m args meth c own nm cc nL ret D K z0 A) (G : ad_G D A s.heap H locs ws) (q0 t0 : Nat) {n : Nat} {g : Nat → Option Nat} (he : ws[q0]? = some (a, aR (K t0) n g)) {C : String} (ht : (ad_TY K)[t0]? = some (K t0, .object C)) {z : Int} {w : Option Nat} (hz : 0 ≤ z ∧ z < n ∧ z < 2147483648) (hw : g z.toNat = w) (d : decode cc pc = .ok (.aaload, 1)) (k : W p l e R s m args below meth c H locs cells slots Q (F0 m (pc + 1) ls (va_rf w :: rest))) : W p l e R s m args below meth c H locs cells slots Q (F0 m pc ls (.int (iI z) :: .ref a :: rest)) := by
  subst hw
  refine va_aldq (D := D) F.1 F.2.1 F.2.2.2.2.2.2.2.1 G.1 q0 t0 he ht (iI_in hz) d ?_
  rw [iI_cl ⟨hz.1, hz.2.2⟩]
  exact k
theorem ad_aast (F : ad_F p s m args meth c own nm cc nL ret D K z0 A) (G : ad_G D A s.heap H locs ws) (q0 t0 ci : Nat) {n : Nat} {g : Nat → Option Nat} (he : ws[q0]? = some (a, aR (K t0) n g)) {r : vw_C} (ht : (ad_TY K)[t0]? = some (K t0, .object r.1)) {v : Nat} {vs : List Value} (hv : (v, (.inr (ci, vs) : va_E)) ∈ ws) (hc : classes[ci]? = some r) {z : Int} (hz : 0 ≤ z ∧ z < n ∧ z < 2147483648) {ws' : va_W} (hw : ws.set q0 (a, aR (K t0) n (va_up g z.toNat (some v))) = ws') (d : decode cc pc = .ok (.aastore, 1)) (k : ∀ (H : Heap) (locs : List Loc), ad_G D A s.heap H locs ws' → W p l e R s m args below meth c H locs cells slots Q (F0 m (pc + 1) ls rest)) : W p l e R s m args below meth c H locs cells slots Q (F0 m pc ls (.ref v :: .int (iI z) :: .ref a :: rest)) := by
  subst hw
  obtain ⟨qk, hqk⟩ := List.mem_iff_getElem?.mp hv
  refine va_astq (D := D) F.1 F.2.1 F.2.2.2.2.2.2.2.1 G.1 G.2.1 G.2.2 q0 t0 qk ci he ht hqk hc (iI_in hz) d (fun H1 l1 a1 a2 a3 => ?_)
  rw [iI_cl ⟨hz.1, hz.2.2⟩] at a1 a2
  exact k H1 l1 ⟨a1, a2, a3⟩
theorem ad_anewa (F : ad_F p s m args meth c own nm cc nL ret D K z0 A) (G : ad_G D A s.heap H locs ws) {C : String} {index t0 : Nat} (hl : Cond.classLink own index C ∈ BIG) (ho : ∀ U : State, ad_AOs U → va_AO C U) (ht : (ad_TY K)[t0]? = some (K t0, .object C)) {z : Int} {n : Nat} (hz : z = n ∧ z < 2147483648) (hb : n * 4 ≤ 536870912) (hc : cells + 1 ≤ R.cells) (hs : slots + n ≤ R.slots) (d : decode cc pc = .ok (.anewarray index, 3)) (k : ∀ (q : Nat) (H : Heap), ad_G D A s.heap H locs (ws ++ [(q, aR (K t0) n (fun _ => none))]) → W p l e R s m args below meth c H locs (cells + 1) (slots + n) Q (F0 m (pc + 3) ls (.ref q :: rest))) : W p l e R s m args below meth c H locs cells slots Q (F0 m pc ls (.int (iI z) :: rest)) := by
  have hz0 : 0 ≤ z ∧ z < 2147483648 := ⟨by omega, hz.2⟩
  refine va_newq (D := D) F.1 F.2.1 F.2.2.2.2.1 (F.in hl) (ho _ F.2.2.2.2.2.2.2.2.2.2.1.2.2.2.2.2.2) F.2.2.2.2.2.2.2.1 G.1 G.2.1 G.2.2 F.2.2.2.2.2.2.2.2.1 (iI_neg hz0) (by rw [iI_cl hz0]; omega) hb hc hs d (fun q cB H1 hK a1 a2 a3 => ?_)
  have hB : va_RA s cB (.object C) := (hK.2 (ad_TY K).length (cB, .object C) (by simp)).2
  have hA : va_RA s (K t0) (.object C) := (F.2.2.2.2.2.2.2.1.2 t0 _ ht).2
  have hE : cB = K t0 := by
    obtain ⟨-, -, -, -, -, b4⟩ := hB
    obtain ⟨-, -, -, -, -, a4⟩ := hA
    exact Option.some.inj (b4.symm.trans a4)
  subst hE
  exact k q H1 ⟨a1, a2, a3⟩

theorem ad_aloadq_n (F : ad_F p s m args meth c own nm cc nL ret D K z0 A) {k : Fin 4} {i : Nat} {o : Option Nat} (d : decode cc pc = .ok (.aload_n k, 1)) (hi : (k : Nat) = i) (hl : ls[i]? = some (.val (va_rf o))) (kk : W p l e R s m args below meth c H locs cells slots Q (F0 m (pc + 1) ls (va_rf o :: rest))) : W p l e R s m args below meth c H locs cells slots Q (F0 m pc ls rest) := by
  cases o with
  | none => exact lv_aload_nN F.1 F.2.1 d hi hl kk
  | some x => exact lv_aload_n F.1 F.2.1 d hi hl kk
theorem ad_aloadq (F : ad_F p s m args meth c own nm cc nL ret D K z0 A) {i : Nat} {o : Option Nat} (d : decode cc pc = .ok (.aload i, 2)) (hl : ls[i]? = some (.val (va_rf o))) (kk : W p l e R s m args below meth c H locs cells slots Q (F0 m (pc + 2) ls (va_rf o :: rest))) : W p l e R s m args below meth c H locs cells slots Q (F0 m pc ls rest) := by
  cases o with
  | none => exact lv_aloadN F.1 F.2.1 d hl kk
  | some x => exact lv_aload F.1 F.2.1 d hl kk
theorem ad_astoreq_n (F : ad_F p s m args meth c own nm cc nL ret D K z0 A) {k : Fin 4} {i : Nat} {o : Option Nat} {lv lv' : List (Nat × Value)} (d : decode cc pc = .ok (.astore_n k, 1)) (hi : (k : Nat) = i) (h : lv_has ls nL lv) (hn : i < nL) (hl : (i, va_rf o) :: lv.filter (fun q => !(q.1 == i) && !(q.1 + 1 == i && q.2.category == 2)) = lv') (kk : ∀ ls' : Array Slot, lv_has ls' nL lv' → W p l e R s m args below meth c H locs cells slots Q (F0 m (pc + 1) ls' rest)) : W p l e R s m args below meth c H locs cells slots Q (F0 m pc ls (va_rf o :: rest)) := by
  cases o with
  | none => exact lv_astore_nN F.1 F.2.1 d hi h hn hl kk
  | some x => exact lv_astore_n F.1 F.2.1 d hi h hn hl kk
theorem ad_top32 {x : Int32} {y : Int} (h : x = iI y) (k : W p l e R s m args below meth c H locs cells slots Q (F0 m pc ls (.int (iI y) :: rest))) : W p l e R s m args below meth c H locs cells slots Q (F0 m pc ls (.int x :: rest)) := by subst h; exact k
theorem opt_or (o : Option Nat) : o = none ∨ ∃ x, o = some x := by cases o with | none => exact Or.inl rfl | some x => exact Or.inr ⟨x, rfl⟩
end ADR5
