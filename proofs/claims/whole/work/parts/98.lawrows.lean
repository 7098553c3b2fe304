/-! the law's rows -/
section LWR
variable {p : Program} {l : Launch} {e : Env} {R : Room} {s : State} {m : MethodId} {args : Array Value} {below : List Frame} {meth : Method} {c : Code} {H : Heap} {locs : List Loc} {cells slots : Nat} {Q : State → Prop}
variable {own nm : String} {cc : ByteArray} {nL : Nat} {ret : Option FieldType} {D : va_G} {K : Nat → ClassId} {z0 : Nat} {A : Nat → Prop} {ws wc wr : va_W} {isC isR : List Nat} {pc : Nat} {ls : Array Slot} {rest : List Value} {a b : Nat}
variable {y : MethodName} {bytes : ByteArray} {maxL n index : Nat} {ret' : Option FieldType} {rm : Room} {hh : List (Nat × Nat × Nat × Nat)} {As st0 : List Value} {Ps : Option Value → va_W → Prop}
def ad_myH (y : MethodName) (cc : ByteArray) (nL : Nat) (ret : Option FieldType) (hh : List (Nat × Nat × Nat × Nat)) (n : Nat) : Prop := Cond.codeWith y cc nL ret hh ∈ BIG ∧ (y.cls ≠ "java/lang/invoke/MethodHandle" ∧ y.cls ≠ "java/lang/invoke/VarHandle" ∧ (parseMethodDescriptor y.desc).map (fun d => d.parameters.length) = some n) ∧ Cond.initialized y.cls ∈ BIG
theorem ad_callH (F : ad_F p s m args meth c own nm cc nL ret D K z0 A) (G : ad_G D A s.heap H locs ws) (M : CH l D K z0 y bytes maxL ret' hh rm As wc Ps) (Y : ad_myH y bytes maxL ret' hh n) (L : ad_ms own index y none) (X : ad_cut ws wc wr isC isR) (hn : As.length = n) (hst : st0 = As.reverse ++ rest) (hroom : rm.frames + 1 ≤ R.frames ∧ 8 + (maxL + 11) + rm.locals ≤ R.locals) (hcells : cells + rm.cells ≤ R.cells ∧ slots + rm.slots ≤ R.slots) (hcat : (rest.map fun v => v.category).sum ≤ 8) (hlv : ls.size = nL) (d : decode cc pc = .ok (.invokestatic index, 3))
    (kk : ∀ (v : Option Value) (u : va_W) (H : Heap) (locs : List Loc), Ps v u → ad_G D A s.heap H locs (wr ++ u) → W p l e R s m args below meth c H locs (cells + rm.cells) (slots + rm.slots) Q (F0 m (pc + 3) ls (v.toList ++ rest))) : W p l e R s m args below meth c H locs cells slots Q (F0 m pc ls st0) := by
  subst hst
  have hG : GoodIn BIG (Cond.codeWith y bytes maxL ret' hh :: BIG) := fun w hw => by
    have hb : w ∈ BIG := by
      rcases List.mem_cons.mp hw with h | h
      · rw [h]; exact Y.1
      · exact h
    exact ⟨hb, good_of_word (List.mem_filter.mp hb).2⟩
  refine ad_callx F G X (vx_runSW (As := As) (rest := rest) (ad_fixc F) (M H.size) ⟨⟨rfl, rfl, hroom.1, hroom.2, pay_in F.2.2.2.2.2.1 hG, List.mem_cons_self⟩, F.in Y.1, F.in Y.2.2, ⟨Y.2.1.1, Y.2.1.2.1⟩, fun sig h => ?_, F.in L.1, F.in L.2⟩ ⟨ad_blind, fun U hU hW => ⟨rfl, ad_prec F G X hU hW⟩⟩ rfl hn hlv rfl (lv_room hcat) d hcells) kk
  have h2 := Y.2.1.2.2
  rw [h] at h2
  exact (Option.some.inj h2).symm
theorem CH.wk {avs : List Value} {Ps' : Option Value → va_W → Prop} (M : CH l D K z0 y bytes maxL ret' hh rm avs ws Ps) (h : ∀ v u, Ps v u → Ps' v u) : CH l D K z0 y bytes maxL ret' hh rm avs ws Ps' := by
  intro sz p e h1 h2 h3 s m args below h4 h5 h6 h7
  obtain ⟨n, o, a1, a2, a3, ⟨⟨v, u, b1, b2, b3, b4⟩, b5, b6⟩, L, c1, c2⟩ := M sz p e h1 h2 h3 s m args below h4 h5 h6 h7
  exact ⟨n, o, a1, a2, a3, ⟨⟨v, u, b1, h v u b2, b3, b4⟩, b5, b6⟩, L, c1, c2⟩
/-! the script -/
def LB (s : State) (A : Nat → Prop) (b L : Nat) (xs : Nat → Int32) : Prop := va_X b L xs s s.heap ∧ b < s.heap.size ∧ ¬ A b
theorem la_x (F : ad_F p s m args meth c own nm cc nL ret D K z0 A) (G : ad_G D A s.heap H locs ws) {L : Nat} {xs : Nat → Int32} (B : LB s A b L xs) {i k : Int} (h0 : ls[0]? = some (.val (.ref b))) (h5 : ls[5]? = some (.val (.int (iI i)))) (hi : 0 ≤ i + k ∧ i + k < L ∧ L ≤ 2048) (d1 : decode cc pc = .ok (.aload_n 0, 1)) (d2 : decode cc (pc + 1) = .ok (.iload 5, 2)) (d3 : decode cc (pc + 1 + 2) = .ok (.iconst k, 1)) (d4 : decode cc (pc + 1 + 2 + 1) = .ok (.iadd, 1)) (d5 : decode cc (pc + 1 + 2 + 1 + 1) = .ok (.iaload, 1))
    (kk : W p l e R s m args below meth c H locs cells slots Q (F0 m (pc + 1 + 2 + 1 + 1 + 1) ls (.int (iI (xs (i + k).toNat).toInt) :: rest))) : W p l e R s m args below meth c H locs cells slots Q (F0 m pc ls rest) := by
  refine lv_aload_n F.1 F.2.1 d1 rfl h0 ?_
  refine lv_iload F.1 F.2.1 d2 h5 ?_
  refine ad_iconst F d3 ?_
  refine ad_iadd F d4 ?_
  refine va_sld F.1 F.2.1 B.1 B.2.1 B.2.2 G.2.2 (iI_in ⟨hi.1, hi.2.1, by omega⟩) d5 ?_
  rw [iI_cl ⟨hi.1, by omega⟩]
  rw [← iI_of] at kk
  exact kk
def bz (z : Int) : Int := if z = 0 then 0 else 1
theorem bz_01 (z : Int) : bz z = 0 ∨ bz z = 1 := by unfold bz; split <;> omega
/-- x != 0, as an int -/
theorem la_bz (F : ad_F p s m args meth c own nm cc nL ret D K z0 A) {x : Int} (hx : -2147483648 ≤ x ∧ x < 2147483648) {off off2 : Int} {A9 B9 : Nat} (d1 : decode cc pc = .ok (.ifCond .eq off, 3)) (d2 : decode cc (pc + 3) = .ok (.iconst 1, 1)) (d3 : decode cc (pc + 3 + 1) = .ok (.goto off2, 3)) (d4 : decode cc A9 = .ok (.iconst 0, 1)) (t1 : (pc : Int) + off = (A9 : Int)) (t2 : ((pc + 3 + 1 : Nat) : Int) + off2 = (B9 : Int)) (t3 : A9 + 1 = B9)
    (kk : W p l e R s m args below meth c H locs cells slots Q (F0 m B9 ls (.int (iI (bz x)) :: rest))) : W p l e R s m args below meth c H locs cells slots Q (F0 m pc ls (.int (iI x) :: rest)) := by
  refine ad_if_eq F hx d1 t1 (fun h => ?_) (fun h => ?_)
  · refine ad_iconst F d4 ?_
    rw [t3]
    rw [show bz x = 0 from if_pos h] at kk
    exact kk
  · refine ad_iconst F d2 ?_
    refine lv_goto F.1 F.2.1 d3 t2 ?_
    rw [show bz x = 1 from if_neg h] at kk
    exact kk
theorem ch_eq {z : Int} (h : -2147483648 ≤ z ∧ z < 2147483648) : ((iI z).toUInt32 % 65536).toInt32 = iI (z % 65536) := by
  have e1 : (iI z).toUInt32 % 65536 = (iI (z % 65536)).toUInt32 := by
    apply UInt32.toNat_inj.mp
    rw [UInt32.toNat_mod]
    have key : ∀ w : Int, -2147483648 ≤ w ∧ w < 2147483648 → ((iI w).toUInt32.toNat : Int) = w % 4294967296 := by
      intro w hw
      have h1 := iI_toInt hw
      have h2 : (iI w).toUInt32.toNat = (iI w).toBitVec.toNat := rfl
      have h3 : (iI w).toInt = (iI w).toBitVec.toInt := rfl
      rw [h3, BitVec.toInt_eq_toNat_cond] at h1
      rw [h2]
      have h4 := (iI w).toBitVec.isLt
      split at h1 <;> omega
    have k1 := key z h
    have k2 := key (z % 65536) (by omega)
    have e3 : (65536 : UInt32).toNat = 65536 := rfl
    rw [e3]
    omega
  rw [e1]
  rfl
/-! the law's world -/
def WL (K : Nat → ClassId) (d0 m0 o1 o2 : Nat) (fs fm : List Value) (go : Nat → Int64) (gd : Nat → UInt64) (wD wM : va_W) : va_W := [[(d0, .inr (10, fs))], [(m0, .inr (11, fm))], [(o1, aJ (K 1) 1 go)], [(o2, aD (K 9) 1 gd)], wD, wM].flatten
variable {d0 m0 o1 o2 : Nat} {fs fm : List Value} {go : Nat → Int64} {gd : Nat → UInt64} {wD wM : va_W}
/-- the desk and the long array, cut out -/
theorem WL_d : (WL K d0 m0 o1 o2 fs fm go gd wD wM).Perm (((d0, .inr (10, fs)) :: (o1, aJ (K 1) 1 go) :: wD) ++ [[(m0, .inr (11, fm))], [(o2, aD (K 9) 1 gd)], wM].flatten) :=
  pmF [[(d0, .inr (10, fs))], [(m0, .inr (11, fm))], [(o1, aJ (K 1) 1 go)], [(o2, aD (K 9) 1 gd)], wD, wM] [[(d0, .inr (10, fs))], [(o1, aJ (K 1) 1 go)], wD, [(m0, .inr (11, fm))], [(o2, aD (K 9) 1 gd)], wM] [0, 2, 4, 1, 3, 5] rfl (n := 6) rfl (by decide +kernel) rfl rfl
theorem WL_d' : ([[(m0, .inr (11, fm))], [(o2, aD (K 9) 1 gd)], wM].flatten ++ ((d0, .inr (10, fs)) :: (o1, aJ (K 1) 1 go) :: wD)).Perm (WL K d0 m0 o1 o2 fs fm go gd wD wM) :=
  pmR (R := [[(m0, .inr (11, fm))], [(o2, aD (K 9) 1 gd)], wM]) (B := [[(d0, .inr (10, fs))], [(o1, aJ (K 1) 1 go)], wD]) (B' := [[(d0, .inr (10, fs))], [(m0, .inr (11, fm))], [(o1, aJ (K 1) 1 go)], [(o2, aD (K 9) 1 gd)], wD, wM]) [3, 0, 4, 1, 5, 2] rfl (n := 6) rfl (by decide +kernel) rfl rfl
/-- the desk and the double array -/
theorem WL_e : (WL K d0 m0 o1 o2 fs fm go gd wD wM).Perm (((d0, .inr (10, fs)) :: (o2, aD (K 9) 1 gd) :: wD) ++ [[(m0, .inr (11, fm))], [(o1, aJ (K 1) 1 go)], wM].flatten) :=
  pmF [[(d0, .inr (10, fs))], [(m0, .inr (11, fm))], [(o1, aJ (K 1) 1 go)], [(o2, aD (K 9) 1 gd)], wD, wM] [[(d0, .inr (10, fs))], [(o2, aD (K 9) 1 gd)], wD, [(m0, .inr (11, fm))], [(o1, aJ (K 1) 1 go)], wM] [0, 3, 4, 1, 2, 5] rfl (n := 6) rfl (by decide +kernel) rfl rfl
theorem WL_e' : ([[(m0, .inr (11, fm))], [(o1, aJ (K 1) 1 go)], wM].flatten ++ ((d0, .inr (10, fs)) :: (o2, aD (K 9) 1 gd) :: wD)).Perm (WL K d0 m0 o1 o2 fs fm go gd wD wM) :=
  pmR (R := [[(m0, .inr (11, fm))], [(o1, aJ (K 1) 1 go)], wM]) (B := [[(d0, .inr (10, fs))], [(o2, aD (K 9) 1 gd)], wD]) (B' := [[(d0, .inr (10, fs))], [(m0, .inr (11, fm))], [(o1, aJ (K 1) 1 go)], [(o2, aD (K 9) 1 gd)], wD, wM]) [3, 0, 1, 4, 5, 2] rfl (n := 6) rfl (by decide +kernel) rfl rfl
/-- the desk alone -/
theorem WL_f : (WL K d0 m0 o1 o2 fs fm go gd wD wM).Perm (((d0, .inr (10, fs)) :: wD) ++ [[(m0, .inr (11, fm))], [(o1, aJ (K 1) 1 go)], [(o2, aD (K 9) 1 gd)], wM].flatten) :=
  pmF [[(d0, .inr (10, fs))], [(m0, .inr (11, fm))], [(o1, aJ (K 1) 1 go)], [(o2, aD (K 9) 1 gd)], wD, wM] [[(d0, .inr (10, fs))], wD, [(m0, .inr (11, fm))], [(o1, aJ (K 1) 1 go)], [(o2, aD (K 9) 1 gd)], wM] [0, 4, 1, 2, 3, 5] rfl (n := 6) rfl (by decide +kernel) rfl rfl
theorem WL_f' : ([[(m0, .inr (11, fm))], [(o1, aJ (K 1) 1 go)], [(o2, aD (K 9) 1 gd)], wM].flatten ++ ((d0, .inr (10, fs)) :: wD)).Perm (WL K d0 m0 o1 o2 fs fm go gd wD wM) :=
  pmR (R := [[(m0, .inr (11, fm))], [(o1, aJ (K 1) 1 go)], [(o2, aD (K 9) 1 gd)], wM]) (B := [[(d0, .inr (10, fs))], wD]) (B' := [[(d0, .inr (10, fs))], [(m0, .inr (11, fm))], [(o1, aJ (K 1) 1 go)], [(o2, aD (K 9) 1 gd)], wD, wM]) [4, 0, 1, 2, 5, 3] rfl (n := 6) rfl (by decide +kernel) rfl rfl
/-- the reference -/
theorem WL_m : (WL K d0 m0 o1 o2 fs fm go gd wD wM).Perm (((m0, .inr (11, fm)) :: wM) ++ [[(d0, .inr (10, fs))], [(o1, aJ (K 1) 1 go)], [(o2, aD (K 9) 1 gd)], wD].flatten) :=
  pmF [[(d0, .inr (10, fs))], [(m0, .inr (11, fm))], [(o1, aJ (K 1) 1 go)], [(o2, aD (K 9) 1 gd)], wD, wM] [[(m0, .inr (11, fm))], wM, [(d0, .inr (10, fs))], [(o1, aJ (K 1) 1 go)], [(o2, aD (K 9) 1 gd)], wD] [1, 5, 0, 2, 3, 4] rfl (n := 6) rfl (by decide +kernel) rfl rfl
theorem WL_m' : ([[(d0, .inr (10, fs))], [(o1, aJ (K 1) 1 go)], [(o2, aD (K 9) 1 gd)], wD].flatten ++ ((m0, .inr (11, fm)) :: wM)).Perm (WL K d0 m0 o1 o2 fs fm go gd wD wM) :=
  pmR (R := [[(d0, .inr (10, fs))], [(o1, aJ (K 1) 1 go)], [(o2, aD (K 9) 1 gd)], wD]) (B := [[(m0, .inr (11, fm))], wM]) (B' := [[(d0, .inr (10, fs))], [(m0, .inr (11, fm))], [(o1, aJ (K 1) 1 go)], [(o2, aD (K 9) 1 gd)], wD, wM]) [0, 4, 1, 2, 3, 5] rfl (n := 6) rfl (by decide +kernel) rfl rfl
theorem WL_m1 : (WL K d0 m0 o1 o2 fs fm go gd wD wM).Perm ([(m0, .inr (11, fm))] ++ [[(d0, .inr (10, fs))], [(o1, aJ (K 1) 1 go)], [(o2, aD (K 9) 1 gd)], wD, wM].flatten) :=
  pmF [[(d0, .inr (10, fs))], [(m0, .inr (11, fm))], [(o1, aJ (K 1) 1 go)], [(o2, aD (K 9) 1 gd)], wD, wM] [[(m0, .inr (11, fm))], [(d0, .inr (10, fs))], [(o1, aJ (K 1) 1 go)], [(o2, aD (K 9) 1 gd)], wD, wM] [1, 0, 2, 3, 4, 5] rfl (n := 6) rfl (by decide +kernel) rfl rfl
theorem WL_m1' : ([[(d0, .inr (10, fs))], [(o1, aJ (K 1) 1 go)], [(o2, aD (K 9) 1 gd)], wD, wM].flatten ++ [(m0, .inr (11, fm))] : va_W).Perm (WL K d0 m0 o1 o2 fs fm go gd wD wM) :=
  pmR (R := [[(d0, .inr (10, fs))], [(o1, aJ (K 1) 1 go)], [(o2, aD (K 9) 1 gd)], wD, wM]) (B := [[(m0, .inr (11, fm))]]) (B' := [[(d0, .inr (10, fs))], [(m0, .inr (11, fm))], [(o1, aJ (K 1) 1 go)], [(o2, aD (K 9) 1 gd)], wD, wM]) [0, 5, 1, 2, 3, 4] rfl (n := 6) rfl (by decide +kernel) rfl rfl
end LWR
