/-! the reference's object, and its row of numbers -/
abbrev mO (M : Nat → Nat) (xth xrm xsv xln xat xer xwr xwd xlo xhi xwl xml xkl xfi xse xdn xon xtw xol xrw xgl xus xpr xmk xab : Int) : va_E := .inr (11, [.int (iI xth), .ref (M 1), .ref (M 2), .ref (M 3), .int (iI xrm), .int (iI xsv), .ref (M 6), .int (iI xln), .int (iI xat), .int (iI xer), .int (iI xwr), .ref (M 11), .ref (M 12), .ref (M 13), .int (iI xwd), .int (iI xlo), .int (iI xhi), .ref (M 17), .ref (M 18), .ref (M 19), .int (iI xwl), .int (iI xml), .int (iI xkl), .int (iI xfi), .int (iI xse), .ref (M 25), .int (iI xdn), .int (iI xon), .int (iI xtw), .ref (M 29), .ref (M 30), .ref (M 31), .ref (M 32), .ref (M 33), .ref (M 34), .ref (M 35), .int (iI xol), .int (iI xrw), .int (iI xgl), .int (iI xus), .int (iI xpr), .int (iI xmk), .int (iI xab), .ref (M 43), .ref (M 44), .ref (M 45), .ref (M 46)])
def MForm (g : Nat → Int) (p : Int) (a b : List Int) : Prop := g (p + 3).toNat = a.length ∧ g (p + 4).toNat = b.length ∧ (∀ k : Int, 0 ≤ k → k < 6 → g (p + 5 + k).toNat = lat a k) ∧ (∀ k : Int, 0 ≤ k → k < 12 → g (p + 5 + 6 + k).toNat = lat b k)
def MRow (g : Nat → Int) (rs : List Rl) (ps : List Pr) (md th nc : Int) : Prop := (g 0 = rs.length ∧ g 1 = ps.length ∧ g 2 = md ∧ g 3 = th ∧ g 4 = nc) ∧
  (∀ z : Int, 0 ≤ z → z < rs.length → (g (5 + z * 23 + 0).toNat = (rget rs z).1 ∧ g (5 + z * 23 + 1).toNat = (rget rs z).2.1 ∧ g (5 + z * 23 + 2).toNat = (rget rs z).2.2.1) ∧ MForm g (5 + z * 23) (rget rs z).2.2.2.1 (rget rs z).2.2.2.2) ∧
  (∀ z : Int, 0 ≤ z → z < ps.length → g (557 + z * 23 + 0).toNat = (pget ps z).1 ∧ MForm g (557 + z * 23) (pget ps z).2.1 (pget ps z).2.2)
theorem MRow.let {g : Nat → Int} {rs : List Rl} {ps : List Pr} {md th nc : Int} (h : MRow g rs ps md th nc) {z b k : Int} (h0 : 0 ≤ z) (h1 : z < rs.length) (hb : b = 0 ∨ b = 1) (hk : 0 ≤ k) (hk2 : k < 6 ∨ (b = 1 ∧ k < 12)) : g (5 + z * 23 + ((if b = 1 then 11 else 5) + k)).toNat = lat (fmo (rget rs z) b) k := by
  obtain ⟨-, h2, -⟩ := h
  obtain ⟨-, -, -, a, c⟩ := h2 z h0 h1
  rcases hb with rfl | rfl
  · rw [show (5 + z * 23 + ((if (0 : Int) = 1 then 11 else 5) + k)) = 5 + z * 23 + 5 + k by simp; omega]
    exact a k hk (by omega)
  · rw [show (5 + z * 23 + ((if (1 : Int) = 1 then 11 else 5) + k)) = 5 + z * 23 + 5 + 6 + k by simp; omega]
    exact c k hk (by omega)
theorem MRow.len {g : Nat → Int} {rs : List Rl} {ps : List Pr} {md th nc : Int} (h : MRow g rs ps md th nc) {z b : Int} (h0 : 0 ≤ z) (h1 : z < rs.length) (hb : b = 0 ∨ b = 1) : g (5 + z * 23 + (if b = 1 then 4 else 3)).toNat = ((fmo (rget rs z) b).length : Int) := by
  obtain ⟨-, h2, -⟩ := h
  obtain ⟨-, a, c, -⟩ := h2 z h0 h1
  rcases hb with rfl | rfl
  · exact a
  · exact c
theorem MRow.cg {g g' : Nat → Int} {rs : List Rl} {ps : List Pr} {md th nc : Int} (h : MRow g rs ps md th nc) (h1 : rs.length ≤ 24) (h2 : ps.length ≤ 30) (e : ∀ j : Nat, j < 1247 → g' j = g j) : MRow g' rs ps md th nc := by
  obtain ⟨⟨a0, a1, a2, a3, a4⟩, b, c⟩ := h
  have f : ∀ z : Int, 0 ≤ z → z < 1247 → g' z.toNat = g z.toNat := fun z h0 h1 => e _ (by omega)
  refine ⟨⟨by rw [e 0 (by omega)]; exact a0, by rw [e 1 (by omega)]; exact a1, by rw [e 2 (by omega)]; exact a2, by rw [e 3 (by omega)]; exact a3, by rw [e 4 (by omega)]; exact a4⟩, fun z z0 z1 => ?_, fun z z0 z1 => ?_⟩
  · obtain ⟨⟨b0, b1, b2⟩, b3, b4, b5, b6⟩ := b z z0 z1
    refine ⟨⟨by rw [f _ (by omega) (by omega)]; exact b0, by rw [f _ (by omega) (by omega)]; exact b1, by rw [f _ (by omega) (by omega)]; exact b2⟩, by rw [f _ (by omega) (by omega)]; exact b3, by rw [f _ (by omega) (by omega)]; exact b4, fun k k0 k1 => ?_, fun k k0 k1 => ?_⟩
    · rw [f _ (by omega) (by omega)]; exact b5 k k0 k1
    · rw [f _ (by omega) (by omega)]; exact b6 k k0 k1
  · obtain ⟨b0, b3, b4, b5, b6⟩ := c z z0 z1
    refine ⟨by rw [f _ (by omega) (by omega)]; exact b0, by rw [f _ (by omega) (by omega)]; exact b3, by rw [f _ (by omega) (by omega)]; exact b4, fun k k0 k1 => ?_, fun k k0 k1 => ?_⟩
    · rw [f _ (by omega) (by omega)]; exact b5 k k0 k1
    · rw [f _ (by omega) (by omega)]; exact b6 k k0 k1
/-! small things -/
theorem fit_c {c pl : Int} (hc : 0 ≤ c ∧ c ≤ 4) (hp : 0 ≤ pl ∧ pl ≤ 2) : fitb c pl = true ↔ (c = 0 ∨ (c = 1 ∧ pl = 0) ∨ (c = 2 ∧ 0 < pl) ∨ (3 ≤ c ∧ pl = c - 2)) := by
  have key : ∀ (x : Fin 5) (y : Fin 3), fitb (x.1 : Int) (y.1 : Int) = true ↔ ((x.1 : Int) = 0 ∨ ((x.1 : Int) = 1 ∧ (y.1 : Int) = 0) ∨ ((x.1 : Int) = 2 ∧ 0 < (y.1 : Int)) ∨ (3 ≤ (x.1 : Int) ∧ (y.1 : Int) = (x.1 : Int) - 2)) := by decide
  obtain ⟨n, rfl⟩ := Int.eq_ofNat_of_zero_le hc.1
  obtain ⟨m, rfl⟩ := Int.eq_ofNat_of_zero_le hp.1
  exact key ⟨n, by omega⟩ ⟨m, by omega⟩
def metN (a b : Int) : Nat → Int
  | 0 => 0
  | n + 1 => if fitb a n = true ∧ fitb b n = true then 1 else metN a b n
theorem metN_s {a b i : Int} (h : 0 ≤ i) : metN a b (i + 1).toNat = if fitb a i = true ∧ fitb b i = true then 1 else metN a b i.toNat := by
  obtain ⟨n, rfl⟩ := Int.eq_ofNat_of_zero_le h
  rfl
theorem metN_b (a b : Int) : ∀ n : Nat, metN a b n = 0 ∨ metN a b n = 1
  | 0 => Or.inl rfl
  | n + 1 => by have := metN_b a b n; unfold metN; split <;> omega
theorem metN_pl {a b : Int} (ha : 0 ≤ a ∧ a ≤ 4) (hb : 0 ≤ b ∧ b ≤ 4) : metN a b 3 = 1 ↔ (plN a &&& plN b) ≠ 0 := by
  have key : ∀ x y : Fin 5, metN (x.1 : Int) (y.1 : Int) 3 = 1 ↔ (plN (x.1 : Int) &&& plN (y.1 : Int)) ≠ 0 := by decide
  obtain ⟨n, rfl⟩ := Int.eq_ofNat_of_zero_le ha.1
  obtain ⟨m, rfl⟩ := Int.eq_ofNat_of_zero_le hb.1
  exact key ⟨n, by omega⟩ ⟨m, by omega⟩
def covN (a b : Int) : Nat → Int
  | 0 => 1
  | n + 1 => if fitb a n = true ∨ ¬ fitb b n = true then covN a b n else 0
theorem covN_s {a b i : Int} (h : 0 ≤ i) : covN a b (i + 1).toNat = if fitb a i = true ∨ ¬ fitb b i = true then covN a b i.toNat else 0 := by
  obtain ⟨n, rfl⟩ := Int.eq_ofNat_of_zero_le h
  rfl
theorem covN_b (a b : Int) : ∀ n : Nat, covN a b n = 0 ∨ covN a b n = 1
  | 0 => Or.inr rfl
  | n + 1 => by have := covN_b a b n; unfold covN; split <;> omega
theorem covN_pl {a b : Int} (ha : 0 ≤ a ∧ a ≤ 4) (hb : 0 ≤ b ∧ b ≤ 4) : covN a b 3 = 1 ↔ (plN b &&& (7 - plN a)) = 0 := by
  have key : ∀ x y : Fin 5, covN (x.1 : Int) (y.1 : Int) 3 = 1 ↔ (plN (y.1 : Int) &&& (7 - plN (x.1 : Int))) = 0 := by decide
  obtain ⟨n, rfl⟩ := Int.eq_ofNat_of_zero_le ha.1
  obtain ⟨m, rfl⟩ := Int.eq_ofNat_of_zero_le hb.1
  exact key ⟨n, by omega⟩ ⟨m, by omega⟩
def plB (x : Int) : Int := if x = 97 ∨ x = 101 ∨ x = 105 ∨ x = 111 ∨ x = 117 then 1 else 2
theorem lat_eq {a b : List Int} (hl : (a.length : Int) = b.length) (h : ∀ j : Int, 0 ≤ j → j < a.length → lat a j = lat b j) : a = b := lat_ext (by omega) h
section ADR7
variable {p : Program} {l : Launch} {e : Env} {R : Room} {s : State} {m : MethodId} {args : Array Value} {below : List Frame} {meth : Method} {c : Code} {H : Heap} {locs : List Loc} {cells slots : Nat} {Q : State → Prop}
variable {own nm : String} {cc : ByteArray} {nL : Nat} {ret : Option FieldType} {D : va_G} {K : Nat → ClassId} {z0 : Nat} {A : Nat → Prop} {ws : va_W} {pc : Nat} {ls : Array Slot} {rest : List Value} {a : Nat}

theorem ad_iorn (F : ad_F p s m args meth c own nm cc nL ret D K z0 A) {x : Int} (hx : 0 ≤ x ∧ x ≤ 1) (d : decode cc pc = .ok (.ior, 1)) (k : W p l e R s m args below meth c H locs cells slots Q (F0 m (pc + 1) ls (.int (iI x) :: rest))) : W p l e R s m args below meth c H locs cells slots Q (F0 m pc ls (.int (iI 0) :: .int (iI x) :: rest)) := by
  refine lv_ior F.1 F.2.1 d ?_
  have : iI x ||| iI 0 = iI x := by rcases (show x = 0 ∨ x = 1 by omega) with rfl | rfl <;> decide
  rw [this]; exact k
theorem ad_iory (F : ad_F p s m args meth c own nm cc nL ret D K z0 A) {x : Int} (hx : 0 ≤ x ∧ x ≤ 1) (d : decode cc pc = .ok (.ior, 1)) (k : W p l e R s m args below meth c H locs cells slots Q (F0 m (pc + 1) ls (.int (iI 1) :: rest))) : W p l e R s m args below meth c H locs cells slots Q (F0 m pc ls (.int (iI 1) :: .int (iI x) :: rest)) := by
  refine lv_ior F.1 F.2.1 d ?_
  have : iI x ||| iI 1 = iI 1 := by rcases (show x = 0 ∨ x = 1 by omega) with rfl | rfl <;> decide
  rw [this]; exact k
theorem ad_iandn (F : ad_F p s m args meth c own nm cc nL ret D K z0 A) {x : Int} (hx : 0 ≤ x ∧ x ≤ 1) (d : decode cc pc = .ok (.iand, 1)) (k : W p l e R s m args below meth c H locs cells slots Q (F0 m (pc + 1) ls (.int (iI x) :: rest))) : W p l e R s m args below meth c H locs cells slots Q (F0 m pc ls (.int (iI 1) :: .int (iI x) :: rest)) := by
  refine lv_iand F.1 F.2.1 d ?_
  have : iI x &&& iI 1 = iI x := by rcases (show x = 0 ∨ x = 1 by omega) with rfl | rfl <;> decide
  rw [this]; exact k
theorem ad_iandy (F : ad_F p s m args meth c own nm cc nL ret D K z0 A) {x : Int} (hx : 0 ≤ x ∧ x ≤ 1) (d : decode cc pc = .ok (.iand, 1)) (k : W p l e R s m args below meth c H locs cells slots Q (F0 m (pc + 1) ls (.int (iI 0) :: rest))) : W p l e R s m args below meth c H locs cells slots Q (F0 m pc ls (.int (iI 0) :: .int (iI x) :: rest)) := by
  refine lv_iand F.1 F.2.1 d ?_
  have : iI x &&& iI 0 = iI 0 := by rcases (show x = 0 ∨ x = 1 by omega) with rfl | rfl <;> decide
  rw [this]; exact k
theorem ad_aaldA (F : ad_F p s m args meth c own nm cc nL ret D K z0 A) (G : ad_G D A s.heap H locs ws) (q0 t0 : Nat) {n : Nat} {g : Nat → Option Nat} (he : ws[q0]? = some (a, aR (K t0) n g)) {C : FieldType} (ht : (ad_TY K)[t0]? = some (K t0, .array C)) {z : Int} {w : Nat} (hz : 0 ≤ z ∧ z < n ∧ z < 2147483648) (hw : g z.toNat = some w) (d : decode cc pc = .ok (.aaload, 1)) (k : W p l e R s m args below meth c H locs cells slots Q (F0 m (pc + 1) ls (.ref w :: rest))) : W p l e R s m args below meth c H locs cells slots Q (F0 m pc ls (.int (iI z) :: .ref a :: rest)) := by
  have hin : vp_in (iI z) n := iI_in hz
  have hlt : (iI z).toNatClampNeg < n := Nat.not_le.mp fun q => hin (Or.inr q)
  refine W.aald (v := va_rf (g (iI z).toNatClampNeg)) (ty := .array C) F.1 F.2.1 (G.1 q0 _ he) ((F.2.2.2.2.2.2.2.1.2 t0 _ ht).1 n (fun j => va_rf (g j))) rfl (fun q => by cases q) (by show ¬ (iI z < 0 ∨ (arrV _ _ _).slots.size ≤ _); rw [arrV_size]; exact hin) (by show (arrV _ _ _).slots[_]? = _; rw [arrV_read _ _ hlt]) rfl rfl d ?_
  rw [iI_cl ⟨hz.1, hz.2.2⟩, hw]
  exact k
end ADR7
