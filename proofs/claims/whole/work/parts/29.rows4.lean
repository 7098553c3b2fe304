section ADR4
variable {p : Program} {l : Launch} {e : Env} {R : Room} {s : State} {m : MethodId} {args : Array Value} {below : List Frame} {meth : Method} {c : Code} {H : Heap} {locs : List Loc} {cells slots : Nat} {Q : State → Prop}
variable {own nm : String} {cc : ByteArray} {nL : Nat} {ret : Option FieldType} {D : va_G} {K : Nat → ClassId} {z0 : Nat} {A : Nat → Prop} {ws : va_W} {pc : Nat} {ls : Array Slot} {rest : List Value} {a : Nat}
variable {mc ms : Nat} {Ps : Option Value → va_W → Prop}
variable {wc wr : va_W} {isC isR : List Nat} {y : MethodName} {bytes : ByteArray} {maxL n index : Nat} {ret' : Option FieldType} {rm : Room} {As st0 : List Value} {b : Nat}
theorem ad_callIN (F : ad_F p s m args meth c own nm cc nL ret D K z0 A) (G : ad_G D A s.heap H locs ws) {host : String} (M : CT l D K z0 y bytes maxL none rm (.ref b :: As) wc Ps) (Y : ad_my y bytes maxL none n) (L : ad_mi own index y (some host)) (X : ad_cut ws wc wr isC isR) (hn : As.length = n) (hst : st0 = As.reverse ++ .ref b :: rest) (hroom : rm.frames + 1 ≤ R.frames ∧ 8 + (maxL + 11) + rm.locals ≤ R.locals) (hcells : cells + rm.cells ≤ R.cells ∧ slots + rm.slots ≤ R.slots) (hcat : (rest.map fun v => v.category).sum ≤ 8) (hlv : ls.size = nL) {cells9 slots9 : Nat} (hce : cells + rm.cells = cells9 ∧ slots + rm.slots = slots9) (d : decode cc pc = .ok (.invokespecial index, 3))
    (kk : ∀ (v : Option Value) (u : va_W) (H : Heap) (locs : List Loc), Ps v u → ad_G D A s.heap H locs (wr ++ u) → W p l e R s m args below meth c H locs cells9 slots9 Q (F0 m (pc + 3) ls (v.toList ++ rest))) : W p l e R s m args below meth c H locs cells slots Q (F0 m pc ls st0) := by
  subst hst
  obtain ⟨rfl, rfl⟩ := hce
  exact ad_callx F G X (va_runIN (As := As) (rest := rest) (ad_fixc F) (M H.size) ⟨va_cnB n F.2.2.2.2.2.1 (ad_good F Y) rfl rfl rfl (F.2.2.2.2.2.2.2.2.2.2.1.1 _ L.1 rfl) (F.in Y.2.2) ⟨Y.2.1.1, Y.2.1.2.1, Y.2.1.2.2⟩ hroom, L.2.2, F.in L.2.1⟩ ⟨ad_blind, fun U hU hW => ⟨rfl, ad_prec F G X hU hW⟩⟩ rfl hn hlv rfl (lv_room hcat) d hcells) kk
end ADR4
