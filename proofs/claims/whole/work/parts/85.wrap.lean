/-! methods with handlers: the contract, the start, the catch -/
/-- THE CONTRACT of a method with an exception table that returns -/
def CH (l : Launch) (D : va_G) (K : Nat → ClassId) (z0 : Nat) (y : MethodName) (cc : ByteArray) (nL : Nat) (ret : Option FieldType) (hh : List (Nat × Nat × Nat × Nat)) (rm : Room) (avs : List Value) (ws : va_W) (Ps : Option Value → va_W → Prop) : Prop :=
  ∀ sz : Nat, Met l y (Cond.codeWith y cc nL ret hh :: BIG) rm (fun v U => v = avs.toArray ∧ ad_PRE D K z0 ws sz U) (ad_QC D (va_A ws sz) Ps) rm.cells rm.slots (va_A ws sz)
theorem ad_pre_ofH {l : Launch} {y : MethodName} {hw : Cond} {cc : ByteArray} {nL : Nat} {ret : Option FieldType} {rm : Room} {D : va_G} {K : Nat → ClassId} {z0 : Nat} {ws : va_W} {p : Program} {e : Env} {s : State} {m : MethodId} {args : Array Value} {below : List Frame} {meth : Method} {c : Code} {s₁ : State} (B : BodyLoose p l y (headSpec (hw :: BIG) rm) cc nL ret e s m args below meth c s₁) (hml : c.maxLocals = nL) {sz : Nat} (hp : ad_PRE D K z0 ws sz s) : ad_F p s m args meth c y.cls y.name cc nL ret D K z0 (va_A ws s.heap.size) ∧ ad_G D (va_A ws s.heap.size) s.heap s.heap [] ws := by
  obtain ⟨hsz, hz, hP, hK, hD, hE⟩ := hp
  have hts := atoms_spec (ws := hw :: BIG) B.pre
  refine ⟨⟨B.exec, B.bytes, B.returns, hml, findClass_of_methodNamed B.named, fun w hw => hts w (List.mem_cons_of_mem _ hw), B.notSynchronized, hK, fun q h => Or.inr h, fun q h => ?_, hE, by rw [hsz]; exact hz, (name_of_methodNamed B.named B.method).1⟩, hP, hD.self, va_S.rf⟩
  rcases h with ⟨k, e, h⟩ | h
  · exact hD.2 k _ h
  · omega
theorem CH.start {l : Launch} {D : va_G} {K : Nat → ClassId} {z0 : Nat} {y : MethodName} {cc : ByteArray} {nL : Nat} {ret : Option FieldType} {hh : List (Nat × Nat × Nat × Nat)} {rm : Room} {avs : List Value} {ws : va_W} {Ps : Option Value → va_W → Prop} (own nm : String) (hy : plainName y.cls = true) (ho : y.cls = own) (hnm : y.name = nm) (hn : (lg_sl avs).length ≤ nL)
    (body : ∀ (p : Program) (e : Env) (s : State) (m : MethodId) (args : Array Value) (below : List Frame) (meth : Method) (c : Code) (A : Nat → Prop) (Q : State → Prop) (ls : Array Slot), ad_F p s m args meth c own nm cc nL ret D K z0 A → ad_G D A s.heap s.heap [] ws → ad_R below D A args s rm.cells rm.slots Ps Q → c.exceptionTable.toList = tableOf hh → lv_has ls nL (lv_args 0 avs) →
      W p l e rm s m args below meth c s.heap [] 0 0 Q (F0 m 0 ls [])) : CH l D K z0 y cc nL ret hh rm avs ws Ps := by
  intro sz
  refine MetFree.of_bodyS (code := cc) (maxLocals := nL) (ret := ret) hy ?_ ?_
  · intro args s m h hn
    obtain ⟨m9, meth, c, hn9, h1, h2, h3, h4, -, h5, h6, -⟩ := Cond.codeWith_spec (atoms_spec (ws := Cond.codeWith y cc nL ret hh :: BIG) h _ List.mem_cons_self)
    cases hn.symm.trans hn9
    exact ⟨meth, c, h1, h2, h3, h4, h5, h6⟩
  · intro p e s m args below meth c s₁ B hml hv _
    have hh0 : s₁.heap = s.heap := by rw [B.state]; rfl
    have ht : c.exceptionTable.toList = tableOf hh := vx_table (x := y) B (atoms_spec (ws := Cond.codeWith y cc nL ret hh :: BIG) B.pre _ List.mem_cons_self)
    obtain ⟨rfl, hp⟩ := hv
    have hsz := hp.1
    subst hsz
    obtain ⟨F, G⟩ := ad_pre_ofH B hml hp
    subst ho
    subst hnm
    have key : W p l e rm s m avs.toArray below meth c s.heap [] 0 0 (MQ below (ad_QC D (va_A ws s.heap.size) Ps) avs.toArray s rm.cells rm.slots (va_A ws s.heap.size)) (entryFrame m avs.toArray nL) := by
      rw [lg_entry_eq]
      exact body p e s m avs.toArray below meth c (va_A ws s.heap.size) _ _ F G (fun t h => h) ht (lv_entry avs hn)
    obtain ⟨t, a1, o, b1, b2, b3⟩ := key s₁ hh0 (Stand.of_body B)
    exact ⟨t, o, a1, b1, b2, b3⟩
section WRP
variable {p : Program} {l : Launch} {e : Env} {R : Room} {s : State} {m : MethodId} {args : Array Value} {below : List Frame} {meth : Method} {c : Code} {H : Heap} {locs : List Loc} {cells slots : Nat} {Q : State → Prop}
variable {own nm : String} {cc : ByteArray} {nL : Nat} {ret : Option FieldType} {D : va_G} {K : Nat → ClassId} {z0 : Nat} {A : Nat → Prop} {ws : va_W} {pc : Nat} {ls : Array Slot} {rest : List Value} {a : Nat}
/-- caught by the table's row k; the rows ahead name other exceptions -/
theorem ad_catch (F : ad_F p s m args meth c own nm cc nL ret D K z0 A) (G : ad_G D A s.heap H locs ws) {hh : List (Nat × Nat × Nat × Nat)} (ht : c.exceptionTable.toList = tableOf hh) (k : Nat) {x1 x2 x3 x4 : Nat} (hx : hh[k]? = some (x1, x2, x3, x4)) {E : String} {ce : Cell} {q : Nat} (hE : E ∈ ad_exs) (hcov : covers ⟨x1, x2, x3, x4⟩ pc = true) (hx0 : x4 ≠ 0) (hlk : Cond.classLink own x4 E ∈ BIG) (hcast : Cond.castable E E ∈ tables_1 ∧ ad_soft (Cond.castable E E) = true)
    (hpass : ∀ z ∈ hh.take k, z.2.2.2 ≠ 0 ∧ ∃ n9 : String, n9 ∈ ad_exs ∧ E ≠ n9 ∧ Cond.classLink own z.2.2.2 n9 ∈ BIG) (hcell : H[q]? = some ce) (hv : ce.vm = .none) (hcl : s.vm.findClass E = some ce.cls)
    (kk : W p l e R s m args below meth c H locs cells slots Q (F0 m x3 ls [.ref q])) : vx_W p l e R s m args below meth c H locs cells slots Q (F0 m pc ls rest) q := by
  obtain ⟨hk, hxe⟩ := List.getElem?_eq_some_iff.mp hx
  have hsplit : c.exceptionTable.toList = tableOf (hh.take k) ++ (⟨x1, x2, x3, x4⟩ : ExceptionTableEntry) :: tableOf (hh.drop (k + 1)) := by
    rw [ht]
    conv => lhs; rw [← List.take_append_drop k hh, List.drop_eq_getElem_cons hk, hxe]
    unfold tableOf
    rw [List.map_append, List.map_cons]
  have hc9 : (Cond.castable E E).before args s = true := by
    have h7 := F.2.2.2.2.2.2.2.2.2.2.1.2.1 _ hcast.1 hcast.2
    have h8 := hcast.2
    simp only [ad_soft, Bool.and_eq_true] at h8
    exact va_Nw.use h8.1 h7
  refine vx_catch (own := own) F.2.2.2.2.1 (tableOf (hh.take k)) ⟨x1, x2, x3, x4⟩ (tableOf (hh.drop (k + 1))) hsplit (fun z hz => ?_) hcov hx0 (F.in hlk) hc9 hcell hv hcl kk
  unfold tableOf at hz
  obtain ⟨z9, h9, rfl⟩ := List.mem_map.mp hz
  obtain ⟨h1, n9, h2, h3, h4⟩ := hpass z9 h9
  exact Or.inr ⟨h1, n9, F.in h4, F.2.2.2.2.2.2.2.2.2.2.1.2.2.2.2.2.1 E hE n9 h2 h3⟩
/-- the call of the desk's method out of a wrapper's world -/
theorem ad_wcall (F : ad_F p s m args meth c own nm cc nL ret D K z0 A) {d0 o : Nat} {fs : List Value} {eo : va_E} {wD : va_W} (G : ad_G D A s.heap H locs ((d0, .inr (10, fs)) :: (o, eo) :: wD)) {y : MethodName} {bytes : ByteArray} {maxL n index : Nat} {ret' : Option FieldType} {rm : Room} {As st0 : List Value} {Ps : Option Value → va_W → Prop} {Px : String → va_W → Prop}
    (M : CX l D K z0 y bytes maxL ret' rm (.ref d0 :: As) ((d0, .inr (10, fs)) :: wD) Ps Px) (Y : ad_my y bytes maxL ret' n) (L : ad_mv own index y none) (hci : classes[10]?.map (fun q => q.1) = some y.cls) (hn : As.length = n) (hst : st0 = As.reverse ++ .ref d0 :: rest) (hroom : rm.frames + 1 ≤ R.frames ∧ 8 + (maxL + 11) + rm.locals ≤ R.locals) (hcells : cells + rm.cells ≤ R.cells ∧ slots + rm.slots ≤ R.slots) (hcat : (rest.map fun v => v.category).sum ≤ 8) (hlv : ls.size = nL) {cells9 slots9 : Nat} (hce : cells + rm.cells = cells9 ∧ slots + rm.slots = slots9) (d : decode cc pc = .ok (.invokevirtual index, 3))
    (kx : ∀ (E : String) (u : va_W) (H : Heap) (locs : List Loc) (ce : Cell) (q : Nat), Px E u → ad_G D A s.heap H locs ((o, eo) :: u) → H[q]? = some ce → ce.vm = .none → s.vm.findClass E = some ce.cls → vx_W p l e R s m args below meth c H locs cells9 slots9 Q (F0 m pc ls rest) q) (kk : ∀ (v : Option Value) (u : va_W) (H : Heap) (locs : List Loc), Ps v u → ad_G D A s.heap H locs ((o, eo) :: u) → W p l e R s m args below meth c H locs cells9 slots9 Q (F0 m (pc + 3) ls (v.toList ++ rest))) : W p l e R s m args below meth c H locs cells slots Q (F0 m pc ls st0) := by
  obtain ⟨isC, isR, X⟩ := ad_cutP (ws := (d0, .inr (10, fs)) :: (o, eo) :: wD) (wc := (d0, .inr (10, fs)) :: wD) (wr := [(o, eo)]) ((List.perm_append_singleton (o, eo) wD).symm.cons _)
  exact ad_callVX F G M Y L X 10 0 rfl hci hn hst hroom hcells hcat hlv hce d kx kk
end WRP
