/-! new T[n][m] -/
def va_AOA (ty : FieldType) (U : State) : Prop := (Cond.arrayOver (.array ty)).before #[] U = true
theorem va_AOA.use {ty : FieldType} {A : Array Value} {U : State} (h : va_AOA ty U) : (Cond.arrayOver (.array ty)).before A U = true := h
section MNA
variable {p : Program} {l : Launch} {e : Env} {R : Room} {s : State} {m : MethodId} {args : Array Value} {below : List Frame} {meth : Method} {c : Code} {H : Heap} {locs : List Loc} {cells slots : Nat} {Q : State → Prop}
variable {own nm : String} {cc : ByteArray} {nL : Nat} {ret : Option FieldType} {D : va_G} {K : Nat → ClassId} {z0 : Nat} {A : Nat → Prop} {ws : va_W} {pc : Nat} {ls : Array Slot} {rest : List Value}
theorem ad_mna (F : ad_F p s m args meth c own nm cc nL ret D K z0 A) (G : ad_G D A s.heap H locs ws) {ty : FieldType} {index t0 t1 : Nat} {z1 : vp_A} (hl : Cond.classLink own index ("[" ++ (FieldType.array ty).toString) ∈ BIG) (ho : ∀ U : State, ad_AOs U → va_AOA ty U) (ha : Cond.arrayClass ty ∈ BIG) (ht : (ad_TY K)[t0]? = some (K t0, .array ty)) (ht1 : (ad_TY K)[t1]? = some (K t1, ty)) (hra : va_RA s (K t1) ty → s.vm.findClass ("[" ++ ty.toString) = some (K t1))
    {n k : Nat} {zn zk : Int} (hzn : zn = n ∧ zn < 2147483648) (hzk : zk = k ∧ zk < 2147483648) (hb1 : n * 4 ≤ 536870912) (hb2 : k * componentBytes ty ≤ 536870912) (hb3 : k ≤ 536870912) (hdf : fits ty (defaultValue ty) = true) (hdd : (defaultValue ty).isDefault = true) (hz : ∀ cA : ClassId, vp_cell cA z1 = arrV cA k (fun _ => defaultValue ty)) (hc : cells + (1 + n) ≤ R.cells) (hs : slots + (n + n * k) ≤ R.slots) (d : decode cc pc = .ok (.multianewarray index 2, 4))
    (kk : ∀ (q : Nat) (r : Nat → Nat) (H : Heap), ad_G D A s.heap H locs ((ws ++ [(q, aR (K t0) n (fun i => if i < n then some (r i) else none))]) ++ (List.range n).map (fun i => (r i, .inl (K t1, z1)))) → W p l e R s m args below meth c H locs (cells + 1 + n) (slots + n + n * k) Q (F0 m (pc + 4) ls (.ref q :: rest))) : W p l e R s m args below meth c H locs cells slots Q (F0 m pc ls (.int (iI zk) :: .int (iI zn) :: rest)) := by
  sorry
end MNA
