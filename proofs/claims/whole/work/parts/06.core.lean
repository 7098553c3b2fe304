/-! ints by their values -/
def iI (z : Int) : Int32 := Int32.ofInt z
theorem iI_toInt {z : Int} (h : -2147483648 ≤ z ∧ z < 2147483648) : (iI z).toInt = z := Int32.toInt_ofInt_of_le (by omega) (by omega)
theorem iI_of (x : Int32) : x = iI x.toInt := (Int32.ofInt_toInt x).symm
theorem iI_add (a b : Int) : iI a + iI b = iI (a + b) := (Int32.ofInt_add a b).symm
theorem iI_sub (a b : Int) : iI a - iI b = iI (a - b) := (Int32.ofInt_sub a b).symm
theorem iI_mul (a b : Int) : iI a * iI b = iI (a * b) := (Int32.ofInt_mul a b).symm
theorem iI_lt {a b : Int} (h : -2147483648 ≤ a ∧ a < 2147483648 ∧ -2147483648 ≤ b ∧ b < 2147483648) : iI a < iI b ↔ a < b := by
  rw [Int32.lt_iff_toInt_lt, iI_toInt ⟨h.1, h.2.1⟩, iI_toInt h.2.2]
theorem iI_le {a b : Int} (h : -2147483648 ≤ a ∧ a < 2147483648 ∧ -2147483648 ≤ b ∧ b < 2147483648) : iI a ≤ iI b ↔ a ≤ b := by
  rw [Int32.le_iff_toInt_le, iI_toInt ⟨h.1, h.2.1⟩, iI_toInt h.2.2]
theorem iI_eq {a b : Int} (h : -2147483648 ≤ a ∧ a < 2147483648 ∧ -2147483648 ≤ b ∧ b < 2147483648) : iI a = iI b ↔ a = b := by
  rw [← Int32.toInt_inj, iI_toInt ⟨h.1, h.2.1⟩, iI_toInt h.2.2]
theorem iI_0 : (0 : Int32) = iI 0 := rfl
theorem iI_cl {z : Int} (h : 0 ≤ z ∧ z < 2147483648) : (iI z).toNatClampNeg = z.toNat := by
  rw [← Int32.toNat_toInt, iI_toInt ⟨by omega, h.2⟩]
theorem iI_in {z : Int} {n : Nat} (h : 0 ≤ z ∧ z < n ∧ z < 2147483648) : vp_in (iI z) n := by
  rw [vp_in_iff, iI_toInt ⟨by omega, h.2.2⟩]
  exact ⟨h.1, h.2.1⟩
theorem iI_nat (n : Nat) : Int32.ofNat n = iI (n : Int) := Int32.ofInt_eq_ofNat.symm
theorem iI_neg {z : Int} (h : 0 ≤ z ∧ z < 2147483648) : ¬ iI z < 0 := by
  rw [iI_0, iI_lt (by omega)]
  omega
/-! entries of a world -/
abbrev aI (cA : ClassId) (n : Nat) (g : Nat → Int) : va_E := .inl (cA, n, .inl (fun j => iI (g j)))
abbrev aJ (cA : ClassId) (n : Nat) (g : Nat → Int64) : va_E := .inl (cA, n, .inr (.inl g))
abbrev aF (cA : ClassId) (n : Nat) (g : Nat → UInt32) : va_E := .inl (cA, n, .inr (.inr (.inl g)))
abbrev aD (cA : ClassId) (n : Nat) (g : Nat → UInt64) : va_E := .inl (cA, n, .inr (.inr (.inr (.inl g))))
abbrev aR (cA : ClassId) (n : Nat) (g : Nat → Option Nat) : va_E := .inl (cA, n, .inr (.inr (.inr (.inr g))))
theorem aI_up (g : Nat → Int) (k : Nat) (w : Int) : upd (fun j => iI (g j)) k (iI w) = fun j => iI (va_up g k w j) := by
  funext j
  by_cases h : j = k <;> simp [upd, va_up, h]
def ad_TY (K : Nat → ClassId) : List (ClassId × FieldType) := [(K 0, .int), (K 1, .long), (K 2, .char), (K 3, .float), (K 4, .boolean), (K 5, .object RX0), (K 6, .object RX1), (K 7, .array .int), (K 8, .array .float), (K 9, .double)]
/-! what holds around every method -/
def ad_nest : Cond → Bool
  | .fieldLinkNest .. => true
  | .methodLinkNest .. => true
  | _ => false
def ad_soft (w : Cond) : Bool := w.onTables && w.keepsFace
def ad_exs : List String := ["java/lang/IndexOutOfBoundsException", "java/lang/IllegalArgumentException", "java/lang/IllegalStateException", "java/lang/UnsupportedOperationException", "java/util/NoSuchElementException", "java/lang/ArithmeticException"]
def ad_PL : Nat → Value := fun k => .int (iI (match k with | 0 => 7 | 1 => 1 | 2 => 6 | 3 => 2 | _ => 4))
theorem ad_fi {s U : State} (hvm : s.vm.Alike U.vm) (f : Class → Bool) (hf : ∀ vm : Vm, vm.bare.classes.findIdx? f = vm.classes.findIdx? f) : U.vm.classes.findIdx? f = s.vm.classes.findIdx? f := by
  rw [← hf U.vm, ← hf s.vm]
  first | rw [hvm.bare_eq] | rw [← hvm.bare_eq]
theorem ad_AOB {ty : FieldType} {s U : State} (hvm : s.vm.Alike U.vm) (h : (Cond.arrayOver (.array ty)).before #[] s = true) : (Cond.arrayOver (.array ty)).before #[] U = true := by
  unfold Cond.before Cond.holds at h ⊢
  simp only [Cond.value, beq_iff_eq] at h ⊢
  rw [hvm.findClass]
  obtain ⟨comp, hc, h2⟩ := Option.bind_eq_some_iff.mp h
  obtain ⟨c, hc1, h3⟩ := Option.bind_eq_some_iff.mp h2
  obtain ⟨k, hk, h4⟩ := Option.map_eq_some_iff.mp h3
  obtain ⟨k', hk', he⟩ := hvm.2.2 _ _ hk
  refine Option.bind_eq_some_iff.mpr ⟨comp, hc, Option.bind_eq_some_iff.mpr ⟨c, ?_, Option.map_eq_some_iff.mpr ⟨k', hk', ?_⟩⟩⟩
  · rw [ad_fi hvm]
    · exact hc1
    · intro vm
      simp only [Vm.bare, Array.findIdx?_map]
      rfl
  · rw [he]
    simp only [hvm.findClass]
    exact h4
def ad_AOs (U : State) : Prop := va_AO RX0 U ∧ va_AO RX1 U ∧ (Cond.arrayOver (.array .int)).before #[] U = true ∧ (Cond.arrayOver (.array .float)).before #[] U = true
theorem ad_AOs.moved {s U : State} (hvm : s.vm.Alike U.vm) (h : ad_AOs s) : ad_AOs U := ⟨h.1.moved hvm, h.2.1.moved hvm, ad_AOB hvm h.2.2.1, ad_AOB hvm h.2.2.2⟩
def ad_ENV (z0 : Nat) (U : State) : Prop :=
  (∀ w ∈ tables_1, ad_nest w = true → va_Nw w U) ∧ (∀ w ∈ tables_1, ad_soft w = true → va_Nw w U) ∧
  (∃ t : Nat, va_Z RX10 "PLACES" "[I" (.ref t) (fun q => z0 ≤ q) U U.heap ∧ va_T .int t 5 ad_PL (fun q => z0 ≤ q) U U.heap) ∧
  vx_Zq Bundle.tN "UNASSIGNED_STACK" Bundle.steD (fun q => z0 ≤ q) U U.heap ∧ vx_Zq Bundle.tN "SUPPRESSED_SENTINEL" Bundle.listD (fun q => z0 ≤ q) U U.heap ∧
  (∀ a ∈ ad_exs, ∀ b ∈ ad_exs, a ≠ b → va_Nc a b U) ∧ ad_AOs U
theorem ad_soft_to {w : Cond} {s U : State} (hg : ad_soft w = true) (hW : s.WarmedH U.vm) (h : va_Nw w s) : va_Nw w U := by
  simp only [ad_soft, Bool.and_eq_true] at hg
  exact va_tabs hg.1 (rfl : (s.setVm U.vm).vm = U.vm) (Cond.before_shiftedFace (State.Shifted.of_warmed hW) w hg.2 h)
theorem ad_nest_to {w : Cond} {s U : State} (hg : ad_nest w = true) (hW : s.WarmedH U.vm) (h : va_Nw w s) : va_Nw w U := by
  cases w <;> first | exact va_Nw.warmF hW h | exact va_Nw.warmM hW h | (simp [ad_nest] at hg; done)
theorem ad_ENV.to {z0 : Nat} {s U : State} (h : ad_ENV z0 s) (hW : s.WarmedH U.vm) (hH : ∀ q : Nat, q < s.heap.size → q < z0 → U.heap[q]? = s.heap[q]?) : ad_ENV z0 U := by
  obtain ⟨h1, h2, ⟨t, h3, h4⟩, h5, h6, h7, h8⟩ := h
  have kq : ∀ a : Nat, a < s.heap.size → ¬ (fun q => z0 ≤ q) a → U.heap[a]? = s.heap[a]? := fun a ha hn => hH a ha (Nat.not_le.mp hn)
  have hv := hW.alike
  exact ⟨fun w hw hg => ad_nest_to hg hW (h1 w hw hg), fun w hw hg => ad_soft_to hg hW (h2 w hw hg), ⟨t, (h3.moved hv).kept kq, (h4.moved hv).kept kq⟩, (h5.moved hv).kept kq, (h6.moved hv).kept kq, fun a ha b hb hn => (h7 a ha b hb hn).moved hv, h8.moved hv⟩
theorem ad_ENV.same {z0 : Nat} {s U : State} (h : ad_ENV z0 s) (hv : s.vm = U.vm) (hH : U.heap = s.heap) : ad_ENV z0 U := by
  obtain ⟨h1, h2, ⟨t, h3, h4⟩, h5, h6, h7, h8⟩ := h
  have kq : ∀ a : Nat, a < s.heap.size → ¬ (fun q => z0 ≤ q) a → U.heap[a]? = s.heap[a]? := fun a _ _ => by rw [hH]
  have hvA : s.vm.Alike U.vm := by rw [hv]; exact Vm.Alike.refl _
  refine ⟨fun w hw hg => ?_, fun w hw hg => ?_, ⟨t, (h3.moved hvA).kept kq, (h4.moved hvA).kept kq⟩, (h5.moved hvA).kept kq, (h6.moved hvA).kept kq, fun a ha b hb hn => (h7 a ha b hb hn).moved hvA, h8.moved hvA⟩
  · refine va_Nw.same ?_ hv (h1 w hw hg)
    cases w <;> first | rfl | (simp [ad_nest] at hg; done)
  · simp only [ad_soft, Bool.and_eq_true] at hg
    exact va_Nw.same hg.1 hv (h2 w hw (by simp [ad_soft, hg.1, hg.2]))
/-- a method's start: its world, the tables, the surroundings -/
def ad_PRE (D : va_G) (K : Nat → ClassId) (z0 : Nat) (ws : va_W) (sz : Nat) (U : State) : Prop :=
  U.heap.size = sz ∧ z0 ≤ sz ∧ va_P D classes ws U.heap ∧ va_K D classes (ad_TY K) U ∧ va_D (fun q => z0 ≤ q) ws ∧ ad_ENV z0 U
def ad_QC (D : va_G) (A : Nat → Prop) (Ps : Option Value → va_W → Prop) : Array Value → State → Outcome → State → Prop := fun _ st oc t =>
  (∃ (v : Option Value) (u : va_W), oc = .returned v ∧ Ps v u ∧ va_P D classes u t.heap ∧ va_D A u) ∧ va_F A st t
def ad_XC (D : va_G) (A : Nat → Prop) (Px : String → va_W → Prop) : String → State → State → Prop := fun E st t =>
  ∃ u : va_W, Px E u ∧ va_P D classes u t.heap ∧ va_D A u ∧ va_F A st t
/-- THE CONTRACT of a method that returns -/
def CT (l : Launch) (D : va_G) (K : Nat → ClassId) (z0 : Nat) (y : MethodName) (cc : ByteArray) (nL : Nat) (ret : Option FieldType) (rm : Room) (avs : List Value) (ws : va_W) (Ps : Option Value → va_W → Prop) : Prop :=
  ∀ sz : Nat, Met l y (Cond.code y cc nL ret :: BIG) rm (fun v U => v = avs.toArray ∧ ad_PRE D K z0 ws sz U) (ad_QC D (va_A ws sz) Ps) rm.cells rm.slots (va_A ws sz)
/-- THE CONTRACT of a method that may throw -/
def CX (l : Launch) (D : va_G) (K : Nat → ClassId) (z0 : Nat) (y : MethodName) (cc : ByteArray) (nL : Nat) (ret : Option FieldType) (rm : Room) (avs : List Value) (ws : va_W) (Ps : Option Value → va_W → Prop) (Px : String → va_W → Prop) : Prop :=
  ∀ sz : Nat, vx_Met l y (Cond.code y cc nL ret :: BIG) rm (fun v U => v = avs.toArray ∧ ad_PRE D K z0 ws sz U) (ad_QC D (va_A ws sz) Ps) (ad_XC D (va_A ws sz) Px) rm.cells rm.slots (va_A ws sz)
/-- what stays through a body -/
def ad_F (p : Program) (s : State) (m : MethodId) (args : Array Value) (meth : Method) (c : Code) (own : String) (nm : String) (cc : ByteArray) (nL : Nat) (ret : Option FieldType) (D : va_G) (K : Nat → ClassId) (z0 : Nat) (A : Nat → Prop) : Prop :=
  p.tables.exec = Jvm.exec ∧ c.code = cc ∧ meth.sig.returnType = ret ∧ c.maxLocals = nL ∧ s.vm.findClass own = some m.cls ∧ (∀ w ∈ BIG, w.before args s = true) ∧ meth.locks = false ∧ va_K D classes (ad_TY K) s ∧ (∀ q, s.heap.size ≤ q → A q) ∧ (∀ q, A q → z0 ≤ q) ∧ ad_ENV z0 s ∧ z0 ≤ s.heap.size ∧ meth.name = nm
/-- the world as it stands -/
def ad_G (D : va_G) (A : Nat → Prop) (H0 H : Heap) (locs : List Loc) (ws : va_W) : Prop := va_P D classes ws H ∧ va_D A ws ∧ va_S A H0 H locs
theorem ad_G.perm {D : va_G} {A : Nat → Prop} {H0 H : Heap} {locs : List Loc} {ws ws' : va_W} (G : ad_G D A H0 H locs ws) (is : List Nat) (hn : va_nd is = true) (hs : is.map (fun i => ws[i]?) = ws'.map some) : ad_G D A H0 H locs ws' := by
  refine ⟨fun k q hk => ?_, G.2.1.sub is hn hs, G.2.2⟩
  have h1 : (is.map (fun i => ws[i]?))[k]? = some (some q) := by rw [hs, List.getElem?_map, hk]; rfl
  rw [List.getElem?_map] at h1
  cases hi : is[k]? with
  | none => rw [hi] at h1; cases h1
  | some i => rw [hi] at h1; exact G.1 i q (Option.some.inj h1)
theorem ad_G.eq {D : va_G} {A : Nat → Prop} {H0 H : Heap} {locs : List Loc} {ws ws' : va_W} (G : ad_G D A H0 H locs ws) (h : ws = ws') : ad_G D A H0 H locs ws' := h ▸ G
/-- what a return owes -/
def ad_R (below : List Frame) (D : va_G) (A : Nat → Prop) (args : Array Value) (s : State) (mc ms : Nat) (Ps : Option Value → va_W → Prop) (Q : State → Prop) : Prop := ∀ t, MQ below (ad_QC D A Ps) args s mc ms A t → Q t
/-- what a throw owes -/
def ad_T (l : Launch) (below : List Frame) (c : Code) (D : va_G) (A : Nat → Prop) (args : Array Value) (s : State) (mc ms : Nat) (Px : String → va_W → Prop) (Q : State → Prop) : Prop :=
  l.stackTraces = false ∧ (∀ x ∈ c.exceptionTable.toList, False) ∧ ∃ Qc, Q = vx_MQ below Qc (ad_XC D A Px) args s mc ms A
theorem ad_F.in {p : Program} {s : State} {m : MethodId} {args : Array Value} {meth : Method} {c : Code} {own nm : String} {cc : ByteArray} {nL : Nat} {ret : Option FieldType} {D : va_G} {K : Nat → ClassId} {z0 : Nat} {A : Nat → Prop} (F : ad_F p s m args meth c own nm cc nL ret D K z0 A) {w : Cond} (h : w ∈ BIG) : w.before args s = true := F.2.2.2.2.2.1 w h
theorem ad_pre_of {l : Launch} {y : MethodName} {cc : ByteArray} {nL : Nat} {ret : Option FieldType} {rm : Room} {D : va_G} {K : Nat → ClassId} {z0 : Nat} {ws : va_W} {p : Program} {e : Env} {s : State} {m : MethodId} {args : Array Value} {below : List Frame} {meth : Method} {c : Code} {s₁ : State} (B : BodyLoose p l y (headSpec (Cond.code y cc nL ret :: BIG) rm) cc nL ret e s m args below meth c s₁) (hml : c.maxLocals = nL) {sz : Nat} (hp : ad_PRE D K z0 ws sz s) : ad_F p s m args meth c y.cls y.name cc nL ret D K z0 (va_A ws s.heap.size) ∧ ad_G D (va_A ws s.heap.size) s.heap s.heap [] ws := by
  obtain ⟨hsz, hz, hP, hK, hD, hE⟩ := hp
  have hts := atoms_spec (ws := Cond.code y cc nL ret :: BIG) B.pre
  refine ⟨⟨B.exec, B.bytes, B.returns, hml, findClass_of_methodNamed B.named, fun w hw => hts w (List.mem_cons_of_mem _ hw), B.notSynchronized, hK, fun q h => Or.inr h, fun q h => ?_, hE, by rw [hsz]; exact hz, (name_of_methodNamed B.named B.method).1⟩, hP, hD.self, va_S.rf⟩
  rcases h with ⟨k, e, h⟩ | h
  · exact hD.2 k _ h
  · omega
theorem CT.start {l : Launch} {D : va_G} {K : Nat → ClassId} {z0 : Nat} {y : MethodName} {cc : ByteArray} {nL : Nat} {ret : Option FieldType} {rm : Room} {avs : List Value} {ws : va_W} {Ps : Option Value → va_W → Prop} (own nm : String) (hy : plainName y.cls = true) (ho : y.cls = own) (hnm : y.name = nm) (hn : (lg_sl avs).length ≤ nL)
    (body : ∀ (p : Program) (e : Env) (s : State) (m : MethodId) (args : Array Value) (below : List Frame) (meth : Method) (c : Code) (A : Nat → Prop) (Q : State → Prop) (ls : Array Slot), ad_F p s m args meth c own nm cc nL ret D K z0 A → ad_G D A s.heap s.heap [] ws → ad_R below D A args s rm.cells rm.slots Ps Q → lv_has ls nL (lv_args 0 avs) →
      W p l e rm s m args below meth c s.heap [] 0 0 Q (F0 m 0 ls [])) : CT l D K z0 y cc nL ret rm avs ws Ps := by
  intro sz
  refine Met.ofW (cc := cc) (maxL := nL) (ret := ret) hy rfl ?_
  intro p e s m args below meth c s₁ B hml hv
  obtain ⟨rfl, hp⟩ := hv
  have hsz := hp.1
  subst hsz
  obtain ⟨F, G⟩ := ad_pre_of B hml hp
  subst ho
  subst hnm
  rw [lg_entry_eq]
  exact body p e s m avs.toArray below meth c (va_A ws s.heap.size) _ _ F G (fun t h => h) (lv_entry avs hn)
theorem CX.start {l : Launch} {D : va_G} {K : Nat → ClassId} {z0 : Nat} {y : MethodName} {cc : ByteArray} {nL : Nat} {ret : Option FieldType} {rm : Room} {avs : List Value} {ws : va_W} {Ps : Option Value → va_W → Prop} {Px : String → va_W → Prop} (own nm : String) (hl : l.stackTraces = false) (hy : plainName y.cls = true) (ho : y.cls = own) (hnm : y.name = nm) (hn : (lg_sl avs).length ≤ nL)
    (body : ∀ (p : Program) (e : Env) (s : State) (m : MethodId) (args : Array Value) (below : List Frame) (meth : Method) (c : Code) (A : Nat → Prop) (Q : State → Prop) (ls : Array Slot), ad_F p s m args meth c own nm cc nL ret D K z0 A → ad_G D A s.heap s.heap [] ws → ad_R below D A args s rm.cells rm.slots Ps Q → ad_T l below c D A args s rm.cells rm.slots Px Q → lv_has ls nL (lv_args 0 avs) →
      W p l e rm s m args below meth c s.heap [] 0 0 Q (F0 m 0 ls [])) : CX l D K z0 y cc nL ret rm avs ws Ps Px := by
  intro sz
  refine vx_ofW (cc := cc) (maxL := nL) (ret := ret) hy rfl ?_
  intro p e s m args below meth c s₁ B hml ht hv
  obtain ⟨rfl, hp⟩ := hv
  have hsz := hp.1
  subst hsz
  obtain ⟨F, G⟩ := ad_pre_of B hml hp
  subst ho
  subst hnm
  rw [lg_entry_eq]
  refine body p e s m avs.toArray below meth c (va_A ws s.heap.size) _ _ F G (fun t h => ?_) ⟨hl, ht, _, rfl⟩ (lv_entry avs hn)
  obtain ⟨o, b1, b2, b3, b4⟩ := h
  exact ⟨o, b1, b2, Or.inl ⟨b3, b4⟩⟩
