/-! rules: kind, priority, context, short form, long form -/
abbrev Rl : Type := Int × Int × Int × List Int × List Int
def RD : Rl := (-1, 0, 5, [], [])
def rget (rs : List Rl) (z : Int) : Rl := if 0 ≤ z then rs.getD z.toNat RD else RD
def fmo (r : Rl) (b : Int) : List Int := if b = 1 then r.2.2.2.2 else r.2.2.2.1
def RO (r : Rl) : Prop := (0 ≤ r.1 ∧ r.1 ≤ 2) ∧ (0 ≤ r.2.1 ∧ r.2.1 ≤ 99) ∧ (0 ≤ r.2.2.1 ∧ r.2.2.1 ≤ 4) ∧ Fw r.2.2.2.1 ∧ Fw r.2.2.2.2 ∧ 1 ≤ r.2.2.2.1.length ∧ r.2.2.2.1.length ≤ 6 ∧ r.2.2.2.1.length < r.2.2.2.2.length
def RW (rs : List Rl) : Prop := rs.length ≤ 24 ∧ ∀ r ∈ rs, RO r
def BRep (gk gp gc : Nat → Int) (gs gl : Nat → Int64) (rs : List Rl) : Prop := ∀ z : Int, 0 ≤ z → z < rs.length → gk z.toNat = (rget rs z).1 ∧ gp z.toNat = (rget rs z).2.1 ∧ gc z.toNat = (rget rs z).2.2.1 ∧ gs z.toNat = enc (rget rs z).2.2.2.1 ∧ gl z.toNat = enc (rget rs z).2.2.2.2
theorem rget_mem {rs : List Rl} {z : Int} (h0 : 0 ≤ z) (h1 : z < rs.length) : rget rs z ∈ rs := by
  have hl : z.toNat < rs.length := by omega
  simp only [rget, h0, if_true, List.getD_eq_getElem?_getD, List.getElem?_eq_getElem hl, Option.getD_some]
  exact List.getElem_mem hl
theorem rget_out {rs : List Rl} {z : Int} (h : z < 0 ∨ (rs.length : Int) ≤ z) : rget rs z = RD := by
  unfold rget
  split
  · have : rs.length ≤ z.toNat := by omega
    simp [List.getD_eq_getElem?_getD, this]
  · rfl
theorem RW.at {rs : List Rl} (h : RW rs) {z : Int} (h0 : 0 ≤ z) (h1 : z < rs.length) : RO (rget rs z) := h.2 _ (rget_mem h0 h1)
theorem RW.bd {rs : List Rl} (h : RW rs) {z : Int} (h0 : 0 ≤ z) (h1 : z < rs.length) : 0 ≤ (rget rs z).1 ∧ (rget rs z).1 ≤ 2 ∧ 0 ≤ (rget rs z).2.1 ∧ (rget rs z).2.1 ≤ 99 ∧ 0 ≤ (rget rs z).2.2.1 ∧ (rget rs z).2.2.1 ≤ 4 ∧ 1 ≤ (rget rs z).2.2.2.1.length ∧ (rget rs z).2.2.2.1.length ≤ 6 ∧ (rget rs z).2.2.2.1.length < (rget rs z).2.2.2.2.length ∧ (rget rs z).2.2.2.2.length ≤ 12 := by
  obtain ⟨a1, a2, a3, a4, a5, a6⟩ := h.at h0 h1
  exact ⟨a1.1, a1.2, a2.1, a2.2, a3.1, a3.2, a6.1, a6.2.1, a6.2.2, a5.1⟩
theorem fmo_RD (b : Int) : enc (fmo RD b) = 0 := by unfold fmo; split <;> rfl
theorem ad_eql {x y : Int64} (h : x = y) : some (Value.long x) = some (Value.long y) := by rw [h]
theorem fmo_Fw {rs : List Rl} (h : RW rs) (z b : Int) : Fw (fmo (rget rs z) b) := by
  by_cases hz : 0 ≤ z ∧ z < rs.length
  · have := h.at hz.1 hz.2
    unfold fmo
    split
    · exact this.2.2.2.2.1
    · exact this.2.2.2.1
  · rw [rget_out (by omega)]
    unfold fmo
    split <;> exact Fw_nil
def btr (rs : List Rl) (a b : Int) : Prop :=
  (rget rs b).2.1 < (rget rs a).2.1 ∨ ((rget rs a).2.1 = (rget rs b).2.1 ∧ (((rget rs b).2.2.2.2.length : Int) < (rget rs a).2.2.2.2.length ∨ (((rget rs a).2.2.2.2.length : Int) = (rget rs b).2.2.2.2.length ∧ a < b)))
def plN (c : Int) : Nat := if c = 0 then 7 else if c = 1 then 1 else if c = 2 then 6 else if c = 3 then 2 else if c = 4 then 4 else 0
theorem plN_le (c : Int) : plN c ≤ 7 := by unfold plN; (repeat' split) <;> omega
theorem iI_and8 {a b : Nat} (ha : a ≤ 7) (hb : b ≤ 7) : iI (a : Int) &&& iI (b : Int) = iI ((a &&& b : Nat) : Int) := by
  have key : ∀ x y : Fin 8, iI (x.1 : Int) &&& iI (y.1 : Int) = iI ((x.1 &&& y.1 : Nat) : Int) := by decide
  exact key ⟨a, by omega⟩ ⟨b, by omega⟩
def btb (rs : List Rl) (a b : Int) : Bool :=
  decide ((rget rs b).2.1 < (rget rs a).2.1 ∨ ((rget rs a).2.1 = (rget rs b).2.1 ∧ (((rget rs b).2.2.2.2.length : Int) < (rget rs a).2.2.2.2.length ∨ (((rget rs a).2.2.2.2.length : Int) = (rget rs b).2.2.2.2.length ∧ a < b))))
theorem btb_iff {rs : List Rl} {a b : Int} : btb rs a b = true ↔ btr rs a b := decide_eq_true_iff
/-- how many below n -/
def cntb (f : Int → Bool) : Nat → Int
  | 0 => 0
  | n + 1 => cntb f n + (if f n = true then 1 else 0)
theorem cntb_bound (f : Int → Bool) : ∀ n : Nat, 0 ≤ cntb f n ∧ cntb f n ≤ n
  | 0 => by simp [cntb]
  | n + 1 => by
    have := cntb_bound f n
    simp only [cntb]
    split <;> omega
theorem cntb_s {f : Int → Bool} {i : Int} (h0 : 0 ≤ i) : cntb f (i + 1).toNat = cntb f i.toNat + (if f i = true then 1 else 0) := by
  obtain ⟨n, rfl⟩ := Int.eq_ofNat_of_zero_le h0
  rfl
/-! the static table of places -/
section ADS
variable {p : Program} {l : Launch} {e : Env} {R : Room} {s : State} {m : MethodId} {args : Array Value} {below : List Frame} {meth : Method} {c : Code} {H : Heap} {locs : List Loc} {cells slots : Nat} {Q : State → Prop}
variable {own nm : String} {cc : ByteArray} {nL : Nat} {ret : Option FieldType} {D : va_G} {K : Nat → ClassId} {z0 : Nat} {A : Nat → Prop} {ws : va_W} {pc : Nat} {ls : Array Slot} {rest : List Value} {a : Nat}
theorem ad_places (F : ad_F p s m args meth c own nm cc nL ret D K z0 A) (G : ad_G D A s.heap H locs ws) {index : Nat} (hl : Cond.fieldLink own index RX10 "PLACES" "[I" ∈ BIG) (d : decode cc pc = .ok (.getstatic index, 3)) (k : ∀ t : Nat, va_T .int t 5 ad_PL A s s.heap → W p l e R s m args below meth c H locs cells slots Q (F0 m (pc + 3) ls (.ref t :: rest))) : W p l e R s m args below meth c H locs cells slots Q (F0 m pc ls rest) := by
  obtain ⟨t, hZ, hT⟩ := F.2.2.2.2.2.2.2.2.2.2.1.2.2.1
  have hn : ∀ q, A q → (fun q => z0 ≤ q) q := F.2.2.2.2.2.2.2.2.2.1
  exact va_gets F.1 F.2.1 (hZ.narrow hn) G.2.2 F.2.2.2.2.1 (F.in hl) (fun x hx => hx) d (k t (hT.narrow hn))
theorem ad_placesN (F : ad_F p s m args meth c own nm cc nL ret D K z0 A) (G : ad_G D A s.heap H locs ws) {index : Nat} {host : String} (hl : Cond.fieldLinkNest own index RX10 "PLACES" "[I" host ∈ tables_1) (d : decode cc pc = .ok (.getstatic index, 3)) (k : ∀ t : Nat, va_T .int t 5 ad_PL A s s.heap → W p l e R s m args below meth c H locs cells slots Q (F0 m (pc + 3) ls (.ref t :: rest))) : W p l e R s m args below meth c H locs cells slots Q (F0 m pc ls rest) := by
  obtain ⟨t, hZ, hT⟩ := F.2.2.2.2.2.2.2.2.2.2.1.2.2.1
  have hn : ∀ q, A q → (fun q => z0 ≤ q) q := F.2.2.2.2.2.2.2.2.2.1
  exact va_getsN F.1 F.2.1 (hZ.narrow hn) G.2.2 F.2.2.2.2.1 (va_Nw.use rfl (F.2.2.2.2.2.2.2.2.2.2.1.1 _ hl rfl)) (fun x hx => hx) d (k t (hT.narrow hn))
theorem ad_tld (F : ad_F p s m args meth c own nm cc nL ret D K z0 A) (G : ad_G D A s.heap H locs ws) {t : Nat} (hT : va_T .int t 5 ad_PL A s s.heap) {z w : Int} (hz : 0 ≤ z ∧ z < 5) (hw : w = plN z) (d : decode cc pc = .ok (.iaload, 1)) (k : W p l e R s m args below meth c H locs cells slots Q (F0 m (pc + 1) ls (.int (iI w) :: rest))) : W p l e R s m args below meth c H locs cells slots Q (F0 m pc ls (.int (iI z) :: .ref t :: rest)) := by
  subst hw
  refine va_ti F.1 F.2.1 hT G.2.2 (iI_in (by omega)) ?_ d k
  rw [iI_cl (by omega)]
  have : z = 0 ∨ z = 1 ∨ z = 2 ∨ z = 3 ∨ z = 4 := by omega
  rcases this with rfl | rfl | rfl | rfl | rfl <;> rfl
theorem ad_tlen (F : ad_F p s m args meth c own nm cc nL ret D K z0 A) (G : ad_G D A s.heap H locs ws) {t : Nat} (hT : va_T .int t 5 ad_PL A s s.heap) (d : decode cc pc = .ok (.arraylength, 1)) (k : W p l e R s m args below meth c H locs cells slots Q (F0 m (pc + 1) ls (.int (iI 5) :: rest))) : W p l e R s m args below meth c H locs cells slots Q (F0 m pc ls (.ref t :: rest)) :=
  va_tlen F.1 F.2.1 hT G.2.2 rfl d k
theorem ad_iand8 (F : ad_F p s m args meth c own nm cc nL ret D K z0 A) {x y : Nat} (hx : x ≤ 7) (hy : y ≤ 7) (d : decode cc pc = .ok (.iand, 1)) (k : W p l e R s m args below meth c H locs cells slots Q (F0 m (pc + 1) ls (.int (iI ((x &&& y : Nat) : Int)) :: rest))) : W p l e R s m args below meth c H locs cells slots Q (F0 m pc ls (.int (iI (y : Int)) :: .int (iI (x : Int)) :: rest)) := by
  refine lv_iand F.1 F.2.1 d ?_
  rw [iI_and8 hx hy]
  exact k
end ADS
