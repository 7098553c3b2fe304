def ad_xw (own : String) (ik ic : Nat) (cls : String) (names : List String) : Prop := Bundle.fit cls = true ∧ (∀ n ∈ names, Bundle.fit n = true) ∧ Cond.classLink own ik cls ∈ BIG ∧ Cond.initialized cls ∈ BIG ∧ (∀ w ∈ vx_at0 own ic cls names, w ∈ BIG ∨ (w ∈ tables_1 ∧ ad_soft w = true)) ∧ (∀ w ∈ Cond.classLink own ik cls :: Cond.initialized cls :: vx_at0 own ic cls names, vx_ot w = true)
abbrev aI0 (n : Nat) (g : Nat → Int) : vp_A := (n, .inl (fun j => iI (g j)))
abbrev aJ0 (n : Nat) (g : Nat → Int64) : vp_A := (n, .inr (.inl g))
abbrev aF0 (n : Nat) (g : Nat → UInt32) : vp_A := (n, .inr (.inr (.inl g)))
abbrev aD0 (n : Nat) (g : Nat → UInt64) : vp_A := (n, .inr (.inr (.inr (.inl g))))

theorem iI_char {w : Int} (h : 0 ≤ w ∧ w < 65536) : vp_nar .char (iI w) = iI w := by
  obtain ⟨n, rfl⟩ := Int.eq_ofNat_of_zero_le h.1
  rw [← iI_nat]
  have := (pk_charN (q := n) (by omega)).1
  simp only [nI] at this
  simp [vp_nar, this]
theorem iI_charN {w : Int} (h : 0 ≤ w ∧ w < 65536) : narrow .char (.int (iI w)) = .int (iI w) ∧ fits .char (.int (iI w)) = true := by
  obtain ⟨n, rfl⟩ := Int.eq_ofNat_of_zero_le h.1
  rw [← iI_nat]
  exact pk_charN (q := n) (by omega)
theorem iI_bool {w : Int} (h : w = 0 ∨ w = 1) : vp_nar .boolean (iI w) = iI w := by
  rcases h with rfl | rfl <;> rfl
theorem iI_boolN {w : Int} (h : w = 0 ∨ w = 1) : narrow .boolean (.int (iI w)) = .int (iI w) ∧ fits .boolean (.int (iI w)) = true := by
  rcases h with rfl | rfl <;> exact ⟨rfl, rfl⟩
section ADR
variable {p : Program} {l : Launch} {e : Env} {R : Room} {s : State} {m : MethodId} {args : Array Value} {below : List Frame} {meth : Method} {c : Code} {H : Heap} {locs : List Loc} {cells slots : Nat} {Q : State → Prop}
variable {own nm : String} {cc : ByteArray} {nL : Nat} {ret : Option FieldType} {D : va_G} {K : Nat → ClassId} {z0 : Nat} {A : Nat → Prop} {ws : va_W} {pc : Nat} {ls : Array Slot} {rest : List Value} {a : Nat}
theorem ad_iconst (F : ad_F p s m args meth c own nm cc nL ret D K z0 A) {z : Int} (d : decode cc pc = .ok (.iconst z, 1)) (k : W p l e R s m args below meth c H locs cells slots Q (F0 m (pc + 1) ls (.int (iI z) :: rest))) : W p l e R s m args below meth c H locs cells slots Q (F0 m pc ls rest) := lv_iconst F.1 F.2.1 d rfl k
theorem ad_bipush (F : ad_F p s m args meth c own nm cc nL ret D K z0 A) {z : Int} (d : decode cc pc = .ok (.bipush z, 2)) (h : (Int8.ofInt z).toInt32 = iI z) (k : W p l e R s m args below meth c H locs cells slots Q (F0 m (pc + 2) ls (.int (iI z) :: rest))) : W p l e R s m args below meth c H locs cells slots Q (F0 m pc ls rest) := lv_bipush F.1 F.2.1 d h k
theorem ad_sipush (F : ad_F p s m args meth c own nm cc nL ret D K z0 A) {z : Int} (d : decode cc pc = .ok (.sipush z, 3)) (h : (Int16.ofInt z).toInt32 = iI z) (k : W p l e R s m args below meth c H locs cells slots Q (F0 m (pc + 3) ls (.int (iI z) :: rest))) : W p l e R s m args below meth c H locs cells slots Q (F0 m pc ls rest) := lv_sipush F.1 F.2.1 d h k
theorem ad_iadd (F : ad_F p s m args meth c own nm cc nL ret D K z0 A) {x y : Int} (d : decode cc pc = .ok (.iadd, 1)) (k : W p l e R s m args below meth c H locs cells slots Q (F0 m (pc + 1) ls (.int (iI (x + y)) :: rest))) : W p l e R s m args below meth c H locs cells slots Q (F0 m pc ls (.int (iI y) :: .int (iI x) :: rest)) := by
  refine lv_iadd F.1 F.2.1 d ?_
  rw [iI_add]
  exact k
theorem ad_isub (F : ad_F p s m args meth c own nm cc nL ret D K z0 A) {x y : Int} (d : decode cc pc = .ok (.isub, 1)) (k : W p l e R s m args below meth c H locs cells slots Q (F0 m (pc + 1) ls (.int (iI (x - y)) :: rest))) : W p l e R s m args below meth c H locs cells slots Q (F0 m pc ls (.int (iI y) :: .int (iI x) :: rest)) := by
  refine lv_isub F.1 F.2.1 d ?_
  rw [iI_sub]
  exact k
theorem ad_imul (F : ad_F p s m args meth c own nm cc nL ret D K z0 A) {x y : Int} (d : decode cc pc = .ok (.imul, 1)) (k : W p l e R s m args below meth c H locs cells slots Q (F0 m (pc + 1) ls (.int (iI (x * y)) :: rest))) : W p l e R s m args below meth c H locs cells slots Q (F0 m pc ls (.int (iI y) :: .int (iI x) :: rest)) := by
  refine lv_imul F.1 F.2.1 d ?_
  rw [iI_mul]
  exact k
theorem ad_iinc (F : ad_F p s m args meth c own nm cc nL ret D K z0 A) {i k : Nat} {n z : Int} {lv lv' : List (Nat × Value)} (d : decode cc pc = .ok (.iinc i n, 3)) (h : lv_has ls nL lv) (hk : lv[k]? = some (i, .int (iI z))) (hn : i < nL) (hl : (i, Value.int (iI (z + n))) :: lv.filter (fun q => !(q.1 == i) && !(q.1 + 1 == i && q.2.category == 2)) = lv') (kk : ∀ ls : Array Slot, lv_has ls nL lv' → W p l e R s m args below meth c H locs cells slots Q (F0 m (pc + 3) ls rest)) : W p l e R s m args below meth c H locs cells slots Q (F0 m pc ls rest) := lv_iinc F.1 F.2.1 d h hk (iI_add z n) hn hl kk
theorem ad_icmp_lt (F : ad_F p s m args meth c own nm cc nL ret D K z0 A) {x y : Int} {off : Int} {tgt : Nat} (hr : -2147483648 ≤ x ∧ x < 2147483648 ∧ -2147483648 ≤ y ∧ y < 2147483648) (d : decode cc pc = .ok (.if_icmp .lt off, 3)) (ht : (pc : Int) + off = (tgt : Int)) (kt : x < y → W p l e R s m args below meth c H locs cells slots Q (F0 m tgt ls rest)) (kf : y ≤ x → W p l e R s m args below meth c H locs cells slots Q (F0 m (pc + 3) ls rest)) : W p l e R s m args below meth c H locs cells slots Q (F0 m pc ls (.int (iI y) :: .int (iI x) :: rest)) :=
  lv_icmp_lt F.1 F.2.1 d ht (fun h => kt (by exact (iI_lt hr).mp h)) (fun h => kf (by exact Int.not_lt.mp (fun q => h ((iI_lt hr).mpr q))))
theorem ad_if_lt (F : ad_F p s m args meth c own nm cc nL ret D K z0 A) {x : Int} {off : Int} {tgt : Nat} (hr : -2147483648 ≤ x ∧ x < 2147483648) (d : decode cc pc = .ok (.ifCond .lt off, 3)) (ht : (pc : Int) + off = (tgt : Int)) (kt : x < 0 → W p l e R s m args below meth c H locs cells slots Q (F0 m tgt ls rest)) (kf : 0 ≤ x → W p l e R s m args below meth c H locs cells slots Q (F0 m (pc + 3) ls rest)) : W p l e R s m args below meth c H locs cells slots Q (F0 m pc ls (.int (iI x) :: rest)) :=
  lv_if_lt F.1 F.2.1 d ht (fun h => kt (by rw [iI_0] at h; exact (iI_lt ⟨hr.1, hr.2, by omega, by omega⟩).mp h)) (fun h => kf (by rw [iI_0] at h; exact Int.not_lt.mp (fun q => h ((iI_lt ⟨hr.1, hr.2, by omega, by omega⟩).mpr q))))
theorem ad_icmp_ge (F : ad_F p s m args meth c own nm cc nL ret D K z0 A) {x y : Int} {off : Int} {tgt : Nat} (hr : -2147483648 ≤ x ∧ x < 2147483648 ∧ -2147483648 ≤ y ∧ y < 2147483648) (d : decode cc pc = .ok (.if_icmp .ge off, 3)) (ht : (pc : Int) + off = (tgt : Int)) (kt : y ≤ x → W p l e R s m args below meth c H locs cells slots Q (F0 m tgt ls rest)) (kf : x < y → W p l e R s m args below meth c H locs cells slots Q (F0 m (pc + 3) ls rest)) : W p l e R s m args below meth c H locs cells slots Q (F0 m pc ls (.int (iI y) :: .int (iI x) :: rest)) :=
  lv_icmp_ge F.1 F.2.1 d ht (fun h => kt (by exact (iI_le ⟨hr.2.2.1, hr.2.2.2, hr.1, hr.2.1⟩).mp h)) (fun h => kf (by exact Int.not_le.mp (fun q => h ((iI_le ⟨hr.2.2.1, hr.2.2.2, hr.1, hr.2.1⟩).mpr q))))
theorem ad_if_ge (F : ad_F p s m args meth c own nm cc nL ret D K z0 A) {x : Int} {off : Int} {tgt : Nat} (hr : -2147483648 ≤ x ∧ x < 2147483648) (d : decode cc pc = .ok (.ifCond .ge off, 3)) (ht : (pc : Int) + off = (tgt : Int)) (kt : 0 ≤ x → W p l e R s m args below meth c H locs cells slots Q (F0 m tgt ls rest)) (kf : x < 0 → W p l e R s m args below meth c H locs cells slots Q (F0 m (pc + 3) ls rest)) : W p l e R s m args below meth c H locs cells slots Q (F0 m pc ls (.int (iI x) :: rest)) :=
  lv_if_ge F.1 F.2.1 d ht (fun h => kt (by rw [iI_0] at h; exact (iI_le ⟨by omega, by omega, hr.1, hr.2⟩).mp h)) (fun h => kf (by rw [iI_0] at h; exact Int.not_le.mp (fun q => h ((iI_le ⟨by omega, by omega, hr.1, hr.2⟩).mpr q))))
theorem ad_icmp_gt (F : ad_F p s m args meth c own nm cc nL ret D K z0 A) {x y : Int} {off : Int} {tgt : Nat} (hr : -2147483648 ≤ x ∧ x < 2147483648 ∧ -2147483648 ≤ y ∧ y < 2147483648) (d : decode cc pc = .ok (.if_icmp .gt off, 3)) (ht : (pc : Int) + off = (tgt : Int)) (kt : y < x → W p l e R s m args below meth c H locs cells slots Q (F0 m tgt ls rest)) (kf : x ≤ y → W p l e R s m args below meth c H locs cells slots Q (F0 m (pc + 3) ls rest)) : W p l e R s m args below meth c H locs cells slots Q (F0 m pc ls (.int (iI y) :: .int (iI x) :: rest)) :=
  lv_icmp_gt F.1 F.2.1 d ht (fun h => kt (by exact (iI_lt ⟨hr.2.2.1, hr.2.2.2, hr.1, hr.2.1⟩).mp h)) (fun h => kf (by exact Int.not_lt.mp (fun q => h ((iI_lt ⟨hr.2.2.1, hr.2.2.2, hr.1, hr.2.1⟩).mpr q))))
theorem ad_if_gt (F : ad_F p s m args meth c own nm cc nL ret D K z0 A) {x : Int} {off : Int} {tgt : Nat} (hr : -2147483648 ≤ x ∧ x < 2147483648) (d : decode cc pc = .ok (.ifCond .gt off, 3)) (ht : (pc : Int) + off = (tgt : Int)) (kt : 0 < x → W p l e R s m args below meth c H locs cells slots Q (F0 m tgt ls rest)) (kf : x ≤ 0 → W p l e R s m args below meth c H locs cells slots Q (F0 m (pc + 3) ls rest)) : W p l e R s m args below meth c H locs cells slots Q (F0 m pc ls (.int (iI x) :: rest)) :=
  lv_if_gt F.1 F.2.1 d ht (fun h => kt (by rw [iI_0] at h; exact (iI_lt ⟨by omega, by omega, hr.1, hr.2⟩).mp h)) (fun h => kf (by rw [iI_0] at h; exact Int.not_lt.mp (fun q => h ((iI_lt ⟨by omega, by omega, hr.1, hr.2⟩).mpr q))))
theorem ad_icmp_le (F : ad_F p s m args meth c own nm cc nL ret D K z0 A) {x y : Int} {off : Int} {tgt : Nat} (hr : -2147483648 ≤ x ∧ x < 2147483648 ∧ -2147483648 ≤ y ∧ y < 2147483648) (d : decode cc pc = .ok (.if_icmp .le off, 3)) (ht : (pc : Int) + off = (tgt : Int)) (kt : x ≤ y → W p l e R s m args below meth c H locs cells slots Q (F0 m tgt ls rest)) (kf : y < x → W p l e R s m args below meth c H locs cells slots Q (F0 m (pc + 3) ls rest)) : W p l e R s m args below meth c H locs cells slots Q (F0 m pc ls (.int (iI y) :: .int (iI x) :: rest)) :=
  lv_icmp_le F.1 F.2.1 d ht (fun h => kt (by exact (iI_le hr).mp h)) (fun h => kf (by exact Int.not_le.mp (fun q => h ((iI_le hr).mpr q))))
theorem ad_if_le (F : ad_F p s m args meth c own nm cc nL ret D K z0 A) {x : Int} {off : Int} {tgt : Nat} (hr : -2147483648 ≤ x ∧ x < 2147483648) (d : decode cc pc = .ok (.ifCond .le off, 3)) (ht : (pc : Int) + off = (tgt : Int)) (kt : x ≤ 0 → W p l e R s m args below meth c H locs cells slots Q (F0 m tgt ls rest)) (kf : 0 < x → W p l e R s m args below meth c H locs cells slots Q (F0 m (pc + 3) ls rest)) : W p l e R s m args below meth c H locs cells slots Q (F0 m pc ls (.int (iI x) :: rest)) :=
  lv_if_le F.1 F.2.1 d ht (fun h => kt (by rw [iI_0] at h; exact (iI_le ⟨hr.1, hr.2, by omega, by omega⟩).mp h)) (fun h => kf (by rw [iI_0] at h; exact Int.not_le.mp (fun q => h ((iI_le ⟨hr.1, hr.2, by omega, by omega⟩).mpr q))))
theorem ad_icmp_eq (F : ad_F p s m args meth c own nm cc nL ret D K z0 A) {x y : Int} {off : Int} {tgt : Nat} (hr : -2147483648 ≤ x ∧ x < 2147483648 ∧ -2147483648 ≤ y ∧ y < 2147483648) (d : decode cc pc = .ok (.if_icmp .eq off, 3)) (ht : (pc : Int) + off = (tgt : Int)) (kt : x = y → W p l e R s m args below meth c H locs cells slots Q (F0 m tgt ls rest)) (kf : x ≠ y → W p l e R s m args below meth c H locs cells slots Q (F0 m (pc + 3) ls rest)) : W p l e R s m args below meth c H locs cells slots Q (F0 m pc ls (.int (iI y) :: .int (iI x) :: rest)) :=
  lv_icmp_eq F.1 F.2.1 d ht (fun h => kt (by exact (iI_eq hr).mp h)) (fun h => kf (by exact fun q => h ((iI_eq hr).mpr q)))
theorem ad_if_eq (F : ad_F p s m args meth c own nm cc nL ret D K z0 A) {x : Int} {off : Int} {tgt : Nat} (hr : -2147483648 ≤ x ∧ x < 2147483648) (d : decode cc pc = .ok (.ifCond .eq off, 3)) (ht : (pc : Int) + off = (tgt : Int)) (kt : x = 0 → W p l e R s m args below meth c H locs cells slots Q (F0 m tgt ls rest)) (kf : x ≠ 0 → W p l e R s m args below meth c H locs cells slots Q (F0 m (pc + 3) ls rest)) : W p l e R s m args below meth c H locs cells slots Q (F0 m pc ls (.int (iI x) :: rest)) :=
  lv_if_eq F.1 F.2.1 d ht (fun h => kt (by rw [iI_0] at h; exact (iI_eq ⟨hr.1, hr.2, by omega, by omega⟩).mp h)) (fun h => kf (by rw [iI_0] at h; exact fun q => h ((iI_eq ⟨hr.1, hr.2, by omega, by omega⟩).mpr q)))
theorem ad_icmp_ne (F : ad_F p s m args meth c own nm cc nL ret D K z0 A) {x y : Int} {off : Int} {tgt : Nat} (hr : -2147483648 ≤ x ∧ x < 2147483648 ∧ -2147483648 ≤ y ∧ y < 2147483648) (d : decode cc pc = .ok (.if_icmp .ne off, 3)) (ht : (pc : Int) + off = (tgt : Int)) (kt : x ≠ y → W p l e R s m args below meth c H locs cells slots Q (F0 m tgt ls rest)) (kf : x = y → W p l e R s m args below meth c H locs cells slots Q (F0 m (pc + 3) ls rest)) : W p l e R s m args below meth c H locs cells slots Q (F0 m pc ls (.int (iI y) :: .int (iI x) :: rest)) :=
  lv_icmp_ne F.1 F.2.1 d ht (fun h => kt (by exact fun q => h ((iI_eq hr).mpr q))) (fun h => kf (by exact (iI_eq hr).mp h))
theorem ad_if_ne (F : ad_F p s m args meth c own nm cc nL ret D K z0 A) {x : Int} {off : Int} {tgt : Nat} (hr : -2147483648 ≤ x ∧ x < 2147483648) (d : decode cc pc = .ok (.ifCond .ne off, 3)) (ht : (pc : Int) + off = (tgt : Int)) (kt : x ≠ 0 → W p l e R s m args below meth c H locs cells slots Q (F0 m tgt ls rest)) (kf : x = 0 → W p l e R s m args below meth c H locs cells slots Q (F0 m (pc + 3) ls rest)) : W p l e R s m args below meth c H locs cells slots Q (F0 m pc ls (.int (iI x) :: rest)) :=
  lv_if_ne F.1 F.2.1 d ht (fun h => kt (by rw [iI_0] at h; exact fun q => h ((iI_eq ⟨hr.1, hr.2, by omega, by omega⟩).mpr q))) (fun h => kf (by rw [iI_0] at h; exact (iI_eq ⟨hr.1, hr.2, by omega, by omega⟩).mp h))
theorem ad_get (F : ad_F p s m args meth c own nm cc nL ret D K z0 A) (G : ad_G D A s.heap H locs ws) {index ci kf : Nat} {fin : Bool} {ty : FieldType} (L : ad_fl own index ci kf fin ty) (q0 : Nat) {fs : List Value} (he : ws[q0]? = some (a, .inr (ci, fs))) {v : Value} (hv : fs[kf]? = some v) (d : decode cc pc = .ok (.getfield index, 3)) (k : W p l e R s m args below meth c H locs cells slots Q (F0 m (pc + 3) ls (v :: rest))) : W p l e R s m args below meth c H locs cells slots Q (F0 m pc ls (.ref a :: rest)) := by
  obtain ⟨C, T, N, ty0, hC, hk, hd, -, -, hl⟩ := L
  rcases hl with hl | ⟨host, hl⟩
  · exact va_get (D := D) F.1 F.2.1 F.2.2.2.2.2.1 hC.2.1 F.2.2.2.2.1 F.2.2.2.2.2.2.2.1 G.1 q0 he hC.1 kf hk (F.in hl) (fun x hx => by rw [hd] at hx; exact hx) hv d k
  · exact va_getN (D := D) F.1 F.2.1 F.2.2.2.2.2.1 hC.2.1 F.2.2.2.2.1 F.2.2.2.2.2.2.2.1 G.1 q0 he hC.1 kf hk (va_Nw.use rfl (F.2.2.2.2.2.2.2.2.2.2.1.1 _ hl rfl)) (fun x hx => by rw [hd] at hx; exact hx) hv d k
theorem ad_put (F : ad_F p s m args meth c own nm cc nL ret D K z0 A) (G : ad_G D A s.heap H locs ws) {index ci kf : Nat} {ty : FieldType} (L : ad_fl own index ci kf false ty) (q0 : Nat) {fs : List Value} (he : ws[q0]? = some (a, .inr (ci, fs))) {v : Value} (hn : narrow ty v = v) (hf : fits ty v = true) (hkl : kf < fs.length) {ws' : va_W} (hw : ws.set q0 (a, .inr (ci, fs.set kf v)) = ws') (d : decode cc pc = .ok (.putfield index, 3)) (k : ∀ (H : Heap) (locs : List Loc), ad_G D A s.heap H locs ws' → W p l e R s m args below meth c H locs cells slots Q (F0 m (pc + 3) ls rest)) : W p l e R s m args below meth c H locs cells slots Q (F0 m pc ls (v :: .ref a :: rest)) := by
  obtain ⟨C, T, N, ty0, hC, hk, hd, hfi, hty, hl⟩ := L
  subst hw
  rcases hl with hl | ⟨host, hl⟩
  · exact va_put (D := D) F.1 F.2.1 F.2.2.2.2.2.1 hC.2.1 ty0 hC.2.2.1 hC.2.2.2 F.2.2.2.2.1 F.2.2.2.2.2.2.2.1 G.1 G.2.1 G.2.2 q0 he hC.1 kf hk (F.in hl) (fun x hx => by rw [hd] at hx; exact hx) hfi (by rw [hC.2.2.1 kf hk, hty]) hn hf hkl d (fun H1 l1 a1 a2 a3 => k H1 l1 ⟨a1, a2, a3⟩)
  · exact va_putN (D := D) F.1 F.2.1 F.2.2.2.2.2.1 hC.2.1 ty0 hC.2.2.1 hC.2.2.2 F.2.2.2.2.1 F.2.2.2.2.2.2.2.1 G.1 G.2.1 G.2.2 q0 he hC.1 kf hk (va_Nw.use rfl (F.2.2.2.2.2.2.2.2.2.2.1.1 _ hl rfl)) (fun x hx => by rw [hd] at hx; exact hx) hfi (by rw [hC.2.2.1 kf hk, hty]) hn hf hkl d (fun H1 l1 a1 a2 a3 => k H1 l1 ⟨a1, a2, a3⟩)
theorem ad_putF (F : ad_F p s m args meth c own "<init>" cc nL ret D K z0 A) (G : ad_G D A s.heap H locs ws) {index ci kf : Nat} {ty : FieldType} (L : ad_fl own index ci kf true ty) (hown : classes[ci]?.map (fun q => q.1) = some own) (q0 : Nat) {fs : List Value} (he : ws[q0]? = some (a, .inr (ci, fs))) {v : Value} (hn : narrow ty v = v) (hf : fits ty v = true) (hkl : kf < fs.length) {ws' : va_W} (hw : ws.set q0 (a, .inr (ci, fs.set kf v)) = ws') (d : decode cc pc = .ok (.putfield index, 3)) (k : ∀ (H : Heap) (locs : List Loc), ad_G D A s.heap H locs ws' → W p l e R s m args below meth c H locs cells slots Q (F0 m (pc + 3) ls rest)) : W p l e R s m args below meth c H locs cells slots Q (F0 m pc ls (v :: .ref a :: rest)) := by
  obtain ⟨C, T, N, ty0, hC, hk, hd, hfi, hty, hl⟩ := L
  subst hw
  rw [hC.1] at hown
  have ho : C = own := Option.some.inj hown
  subst ho
  rcases hl with hl | ⟨host, hl⟩
  · exact va_putF (D := D) F.1 F.2.1 F.2.2.2.2.2.1 hC.2.1 ty0 hC.2.2.1 hC.2.2.2 F.2.2.2.2.1 F.2.2.2.2.2.2.2.1 G.1 G.2.1 G.2.2 q0 he hC.1 kf hk (F.in hl) (fun x hx => by rw [hd] at hx; exact hx) hfi F.2.2.2.2.2.2.2.2.2.2.2.2 hd (by rw [hC.2.2.1 kf hk, hty]) hn hf hkl d (fun H1 l1 a1 a2 a3 => k H1 l1 ⟨a1, a2, a3⟩)
  · exact absurd hl (by
      have : ∀ w ∈ tables_1, (match w with | .fieldLinkNest o _ r _ _ _ => decide (o ≠ r) | _ => true) = true := by decide +kernel
      intro hl2
      have h2 := this _ hl2
      simp at h2)
theorem ad_iald (F : ad_F p s m args meth c own nm cc nL ret D K z0 A) (G : ad_G D A s.heap H locs ws) (q0 : Nat) {n : Nat} {g : Nat → Int} (he : ws[q0]? = some (a, aI (K 0) n g)) {z w : Int} (hz : 0 ≤ z ∧ z < n ∧ z < 2147483648) (hw : g z.toNat = w) (d : decode cc pc = .ok (.iaload, 1)) (k : W p l e R s m args below meth c H locs cells slots Q (F0 m (pc + 1) ls (.int (iI w) :: rest))) : W p l e R s m args below meth c H locs cells slots Q (F0 m pc ls (.int (iI z) :: .ref a :: rest)) := by
  subst hw
  refine va_iald (D := D) F.1 F.2.1 F.2.2.2.2.2.2.2.1 G.1 q0 0 he rfl (iI_in hz) d ?_
  rw [iI_cl ⟨hz.1, hz.2.2⟩]
  exact k
theorem ad_cald (F : ad_F p s m args meth c own nm cc nL ret D K z0 A) (G : ad_G D A s.heap H locs ws) (q0 : Nat) {n : Nat} {g : Nat → Int} (he : ws[q0]? = some (a, aI (K 2) n g)) {z w : Int} (hz : 0 ≤ z ∧ z < n ∧ z < 2147483648) (hw : g z.toNat = w) (d : decode cc pc = .ok (.caload, 1)) (k : W p l e R s m args below meth c H locs cells slots Q (F0 m (pc + 1) ls (.int (iI w) :: rest))) : W p l e R s m args below meth c H locs cells slots Q (F0 m pc ls (.int (iI z) :: .ref a :: rest)) := by
  subst hw
  refine va_cald (D := D) F.1 F.2.1 F.2.2.2.2.2.2.2.1 G.1 q0 2 he rfl (iI_in hz) d ?_
  rw [iI_cl ⟨hz.1, hz.2.2⟩]
  exact k
theorem ad_zald (F : ad_F p s m args meth c own nm cc nL ret D K z0 A) (G : ad_G D A s.heap H locs ws) (q0 : Nat) {n : Nat} {g : Nat → Int} (he : ws[q0]? = some (a, aI (K 4) n g)) {z w : Int} (hz : 0 ≤ z ∧ z < n ∧ z < 2147483648) (hw : g z.toNat = w) (d : decode cc pc = .ok (.baload, 1)) (k : W p l e R s m args below meth c H locs cells slots Q (F0 m (pc + 1) ls (.int (iI w) :: rest))) : W p l e R s m args below meth c H locs cells slots Q (F0 m pc ls (.int (iI z) :: .ref a :: rest)) := by
  subst hw
  refine va_zald (D := D) F.1 F.2.1 F.2.2.2.2.2.2.2.1 G.1 q0 4 he rfl (iI_in hz) d ?_
  rw [iI_cl ⟨hz.1, hz.2.2⟩]
  exact k
theorem ad_lald (F : ad_F p s m args meth c own nm cc nL ret D K z0 A) (G : ad_G D A s.heap H locs ws) (q0 : Nat) {n : Nat} {g : Nat → Int64} (he : ws[q0]? = some (a, aJ (K 1) n g)) {z : Int} {w : Int64} (hz : 0 ≤ z ∧ z < n ∧ z < 2147483648) (hw : g z.toNat = w) (d : decode cc pc = .ok (.laload, 1)) (k : W p l e R s m args below meth c H locs cells slots Q (F0 m (pc + 1) ls (.long w :: rest))) : W p l e R s m args below meth c H locs cells slots Q (F0 m pc ls (.int (iI z) :: .ref a :: rest)) := by
  subst hw
  refine va_lald (D := D) F.1 F.2.1 F.2.2.2.2.2.2.2.1 G.1 q0 1 he rfl (iI_in hz) d ?_
  rw [iI_cl ⟨hz.1, hz.2.2⟩]
  exact k
theorem ad_fald (F : ad_F p s m args meth c own nm cc nL ret D K z0 A) (G : ad_G D A s.heap H locs ws) (q0 : Nat) {n : Nat} {g : Nat → UInt32} (he : ws[q0]? = some (a, aF (K 3) n g)) {z : Int} {w : UInt32} (hz : 0 ≤ z ∧ z < n ∧ z < 2147483648) (hw : g z.toNat = w) (d : decode cc pc = .ok (.faload, 1)) (k : W p l e R s m args below meth c H locs cells slots Q (F0 m (pc + 1) ls (.float w :: rest))) : W p l e R s m args below meth c H locs cells slots Q (F0 m pc ls (.int (iI z) :: .ref a :: rest)) := by
  subst hw
  refine va_fald (D := D) F.1 F.2.1 F.2.2.2.2.2.2.2.1 G.1 q0 3 he rfl (iI_in hz) d ?_
  rw [iI_cl ⟨hz.1, hz.2.2⟩]
  exact k
theorem ad_iast (F : ad_F p s m args meth c own nm cc nL ret D K z0 A) (G : ad_G D A s.heap H locs ws) (q0 : Nat) {n : Nat} {g : Nat → Int} (he : ws[q0]? = some (a, aI (K 0) n g)) {z w : Int} (hz : 0 ≤ z ∧ z < n ∧ z < 2147483648) {ws' : va_W} (hw : ws.set q0 (a, aI (K 0) n (va_up g z.toNat w)) = ws') (d : decode cc pc = .ok (.iastore, 1)) (k : ∀ (H : Heap) (locs : List Loc), ad_G D A s.heap H locs ws' → W p l e R s m args below meth c H locs cells slots Q (F0 m (pc + 1) ls rest)) : W p l e R s m args below meth c H locs cells slots Q (F0 m pc ls (.int (iI w) :: .int (iI z) :: .ref a :: rest)) := by
  subst hw
  refine va_iast (D := D) F.1 F.2.1 F.2.2.2.2.2.2.2.1 G.1 G.2.1 G.2.2 q0 0 he rfl (iI_in hz) d (fun H1 l1 a1 a2 a3 => ?_)
  have hx : aI (K 0) n (va_up g z.toNat w) = (.inl (K 0, n, .inl (upd (fun j => iI (g j)) (iI z).toNatClampNeg (iI w))) : va_E) := by
    rw [iI_cl ⟨hz.1, hz.2.2⟩, aI_up]
  exact k H1 l1 ⟨by rw [hx]; exact a1, by rw [hx]; exact a2, a3⟩
theorem ad_cast (F : ad_F p s m args meth c own nm cc nL ret D K z0 A) (G : ad_G D A s.heap H locs ws) (q0 : Nat) {n : Nat} {g : Nat → Int} (he : ws[q0]? = some (a, aI (K 2) n g)) {z w : Int} (hz : 0 ≤ z ∧ z < n ∧ z < 2147483648) (hc : 0 ≤ w ∧ w < 65536) {ws' : va_W} (hw : ws.set q0 (a, aI (K 2) n (va_up g z.toNat w)) = ws') (d : decode cc pc = .ok (.castore, 1)) (k : ∀ (H : Heap) (locs : List Loc), ad_G D A s.heap H locs ws' → W p l e R s m args below meth c H locs cells slots Q (F0 m (pc + 1) ls rest)) : W p l e R s m args below meth c H locs cells slots Q (F0 m pc ls (.int (iI w) :: .int (iI z) :: .ref a :: rest)) := by
  subst hw
  refine va_cast (D := D) F.1 F.2.1 F.2.2.2.2.2.2.2.1 G.1 G.2.1 G.2.2 q0 2 he rfl (iI_in hz) d (fun H1 l1 a1 a2 a3 => ?_)
  have hx : aI (K 2) n (va_up g z.toNat w) = (.inl (K 2, n, .inl (upd (fun j => iI (g j)) (iI z).toNatClampNeg (vp_nar .char (iI w)))) : va_E) := by
    rw [iI_cl ⟨hz.1, hz.2.2⟩, iI_char hc, aI_up]
  exact k H1 l1 ⟨by rw [hx]; exact a1, by rw [hx]; exact a2, a3⟩
theorem ad_zast (F : ad_F p s m args meth c own nm cc nL ret D K z0 A) (G : ad_G D A s.heap H locs ws) (q0 : Nat) {n : Nat} {g : Nat → Int} (he : ws[q0]? = some (a, aI (K 4) n g)) {z w : Int} (hz : 0 ≤ z ∧ z < n ∧ z < 2147483648) (hc : w = 0 ∨ w = 1) {ws' : va_W} (hw : ws.set q0 (a, aI (K 4) n (va_up g z.toNat w)) = ws') (d : decode cc pc = .ok (.bastore, 1)) (k : ∀ (H : Heap) (locs : List Loc), ad_G D A s.heap H locs ws' → W p l e R s m args below meth c H locs cells slots Q (F0 m (pc + 1) ls rest)) : W p l e R s m args below meth c H locs cells slots Q (F0 m pc ls (.int (iI w) :: .int (iI z) :: .ref a :: rest)) := by
  subst hw
  refine va_zast (D := D) F.1 F.2.1 F.2.2.2.2.2.2.2.1 G.1 G.2.1 G.2.2 q0 4 he rfl (iI_in hz) d (fun H1 l1 a1 a2 a3 => ?_)
  have hx : aI (K 4) n (va_up g z.toNat w) = (.inl (K 4, n, .inl (upd (fun j => iI (g j)) (iI z).toNatClampNeg (vp_nar .boolean (iI w)))) : va_E) := by
    rw [iI_cl ⟨hz.1, hz.2.2⟩, iI_bool hc, aI_up]
  exact k H1 l1 ⟨by rw [hx]; exact a1, by rw [hx]; exact a2, a3⟩
theorem ad_last (F : ad_F p s m args meth c own nm cc nL ret D K z0 A) (G : ad_G D A s.heap H locs ws) (q0 : Nat) {n : Nat} {g : Nat → Int64} (he : ws[q0]? = some (a, aJ (K 1) n g)) {z : Int} {w : Int64} (hz : 0 ≤ z ∧ z < n ∧ z < 2147483648) {ws' : va_W} (hw : ws.set q0 (a, aJ (K 1) n (va_up g z.toNat w)) = ws') (d : decode cc pc = .ok (.lastore, 1)) (k : ∀ (H : Heap) (locs : List Loc), ad_G D A s.heap H locs ws' → W p l e R s m args below meth c H locs cells slots Q (F0 m (pc + 1) ls rest)) : W p l e R s m args below meth c H locs cells slots Q (F0 m pc ls (.long w :: .int (iI z) :: .ref a :: rest)) := by
  subst hw
  refine va_last (D := D) F.1 F.2.1 F.2.2.2.2.2.2.2.1 G.1 G.2.1 G.2.2 q0 1 he rfl (iI_in hz) d (fun H1 l1 a1 a2 a3 => ?_)
  rw [iI_cl ⟨hz.1, hz.2.2⟩] at a1 a2
  exact k H1 l1 ⟨a1, a2, a3⟩
theorem ad_fast (F : ad_F p s m args meth c own nm cc nL ret D K z0 A) (G : ad_G D A s.heap H locs ws) (q0 : Nat) {n : Nat} {g : Nat → UInt32} (he : ws[q0]? = some (a, aF (K 3) n g)) {z : Int} {w : UInt32} (hz : 0 ≤ z ∧ z < n ∧ z < 2147483648) {ws' : va_W} (hw : ws.set q0 (a, aF (K 3) n (va_up g z.toNat w)) = ws') (d : decode cc pc = .ok (.fastore, 1)) (k : ∀ (H : Heap) (locs : List Loc), ad_G D A s.heap H locs ws' → W p l e R s m args below meth c H locs cells slots Q (F0 m (pc + 1) ls rest)) : W p l e R s m args below meth c H locs cells slots Q (F0 m pc ls (.float w :: .int (iI z) :: .ref a :: rest)) := by
  subst hw
  refine va_fast (D := D) F.1 F.2.1 F.2.2.2.2.2.2.2.1 G.1 G.2.1 G.2.2 q0 3 he rfl (iI_in hz) d (fun H1 l1 a1 a2 a3 => ?_)
  rw [iI_cl ⟨hz.1, hz.2.2⟩] at a1 a2
  exact k H1 l1 ⟨a1, a2, a3⟩
theorem ad_alen (F : ad_F p s m args meth c own nm cc nL ret D K z0 A) (G : ad_G D A s.heap H locs ws) (q0 t0 : Nat) {cA : ClassId} {x : vp_A} (he : ws[q0]? = some (a, .inl (cA, x))) {ty : FieldType} (ht : (ad_TY K)[t0]? = some (cA, ty)) {n : Nat} (hn : x.1 = n) (d : decode cc pc = .ok (.arraylength, 1)) (k : W p l e R s m args below meth c H locs cells slots Q (F0 m (pc + 1) ls (.int (iI n) :: rest))) : W p l e R s m args below meth c H locs cells slots Q (F0 m pc ls (.ref a :: rest)) := by
  subst hn
  exact va_alen (D := D) F.1 F.2.1 F.2.2.2.2.2.2.2.1 G.1 q0 t0 he ht (iI_nat _) d k
theorem ad_new (F : ad_F p s m args meth c own nm cc nL ret D K z0 A) (G : ad_G D A s.heap H locs ws) {index ci : Nat} {C : String} {T : u_T} {N : Nat} {ty : Nat → FieldType} (X : ad_nw own index ci C T N ty) {fs : List Value} (hfs : ∀ j, j < N → defaultValue (ty j) = vp_V fs j) (hc : cells + 1 ≤ R.cells) (hs : slots + N ≤ R.slots) (d : decode cc pc = .ok (.new index, 3)) (k : ∀ (q : Nat) (H : Heap), ad_G D A s.heap H locs (ws ++ [(q, .inr (ci, fs))]) → W p l e R s m args below meth c H locs (cells + 1) (slots + N) Q (F0 m (pc + 3) ls (.ref q :: rest))) : W p l e R s m args below meth c H locs cells slots Q (F0 m pc ls rest) :=
  va_new (D := D) F.1 F.2.1 F.2.2.2.2.2.1 X.1.2.1 ty X.1.2.2.1 F.2.2.2.2.1 (F.in X.2.1) (F.in X.2.2.1) (F.in X.2.2.2) F.2.2.2.2.2.2.2.1 G.1 G.2.1 G.2.2 F.2.2.2.2.2.2.2.2.1 X.1.1 hfs hc hs d (fun q H1 a1 a2 a3 => k q H1 ⟨a1, a2, a3⟩)
theorem ad_newa (F : ad_F p s m args meth c own nm cc nL ret D K z0 A) (G : ad_G D A s.heap H locs ws) {atype : ArrayType} {ty : FieldType} (hty : newarray.typeOf atype = ty) (hin : Cond.arrayClass ty ∈ BIG) {t0 : Nat} {cA : ClassId} (ht : (ad_TY K)[t0]? = some (cA, ty)) (hno : ∀ C, ty ≠ .object C) {z : Int} {n : Nat} {a0 : vp_A} (ha : ∀ cB : ClassId, vp_cell cB a0 = arrV cB n (fun _ => defaultValue ty)) (hz : z = n ∧ z < 2147483648) (hb : n * componentBytes ty ≤ 536870912) (hc : cells + 1 ≤ R.cells) (hs : slots + n ≤ R.slots) (d : decode cc pc = .ok (.newarray atype, 2)) (k : ∀ (q : Nat) (H : Heap), ad_G D A s.heap H locs (ws ++ [(q, .inl (cA, a0))]) → W p l e R s m args below meth c H locs (cells + 1) (slots + n) Q (F0 m (pc + 2) ls (.ref q :: rest))) : W p l e R s m args below meth c H locs cells slots Q (F0 m pc ls (.int (iI z) :: rest)) := by
  subst hty
  have hz0 : 0 ≤ z ∧ z < 2147483648 := ⟨by omega, hz.2⟩
  refine va_newa (D := D) (atype := atype) F.1 F.2.1 (F.in hin) rfl F.2.2.2.2.2.2.2.1 G.1 G.2.1 G.2.2 F.2.2.2.2.2.2.2.2.1 ha (iI_neg hz0) (by rw [iI_cl hz0]; omega) hb hc hs d (fun q cB H1 hK a1 a2 a3 => ?_)
  have hB : va_RA s cB (newarray.typeOf atype) := (hK.2 (ad_TY K).length (cB, newarray.typeOf atype) (by simp)).2
  have hA : va_RA s cA (newarray.typeOf atype) := (F.2.2.2.2.2.2.2.1.2 t0 _ ht).2
  have hE : cB = cA := by
    generalize newarray.typeOf atype = ty9 at hA hB hno
    cases ty9 <;> first | exact Option.some.inj (hB.symm.trans hA) | exact absurd rfl (hno _)
  subst hE
  exact k q H1 ⟨a1, a2, a3⟩
theorem ad_mono {Q1 : State → Prop} {g : JFrame} (h : ∀ t, Q1 t → Q t) (k : W p l e R s m args below meth c H locs cells slots Q1 g) : W p l e R s m args below meth c H locs cells slots Q g := fun T hT X => by
  obtain ⟨t, a1, b1⟩ := k T hT X
  exact ⟨t, a1, h t b1⟩
variable {mc ms : Nat} {Ps : Option Value → va_W → Prop}
theorem ad_qc (G : ad_G D A s.heap H locs ws) {v : Option Value} (h : Ps v ws) {t : State} (ht : t.heap = H) : ad_QC D A Ps args s (.returned v) t := ⟨⟨v, ws, rfl, h, by rw [ht]; exact G.1, G.2.1⟩, G.2.2.F ht⟩
theorem ad_ireturn (F : ad_F p s m args meth c own nm cc nL ret D K z0 A) (G : ad_G D A s.heap H locs ws) (hR : ad_R below D A args s mc ms Ps Q) (hr : ret = some .int) (hc : cells ≤ mc) (hs : slots ≤ ms) {x : Int} (h : Ps (some (.int (iI x))) ws) (d : decode cc pc = .ok (.ireturn, 1)) : W p l e R s m args below meth c H locs cells slots Q (F0 m pc ls [.int (iI x)]) :=
  ad_mono hR (W.widen hc hs (W.iret F.1 F.2.1 (F.2.2.1.trans hr) (fun t ht hW => ad_qc G h ht) G.2.2.2.2 d F.2.2.2.2.2.2.1))
theorem ad_lreturn (F : ad_F p s m args meth c own nm cc nL ret D K z0 A) (G : ad_G D A s.heap H locs ws) (hR : ad_R below D A args s mc ms Ps Q) (hr : ret = some .long) (hc : cells ≤ mc) (hs : slots ≤ ms) {x : Int64} (h : Ps (some (.long x)) ws) (d : decode cc pc = .ok (.lreturn, 1)) : W p l e R s m args below meth c H locs cells slots Q (F0 m pc ls [.long x]) :=
  ad_mono hR (W.widen hc hs (W.lret F.1 F.2.1 (F.2.2.1.trans hr) (fun t ht hW => ad_qc G h ht) G.2.2.2.2 d F.2.2.2.2.2.2.1))
theorem ad_freturn (F : ad_F p s m args meth c own nm cc nL ret D K z0 A) (G : ad_G D A s.heap H locs ws) (hR : ad_R below D A args s mc ms Ps Q) (hr : ret = some .float) (hc : cells ≤ mc) (hs : slots ≤ ms) {x : UInt32} (h : Ps (some (.float x)) ws) (d : decode cc pc = .ok (.freturn, 1)) : W p l e R s m args below meth c H locs cells slots Q (F0 m pc ls [.float x]) :=
  ad_mono hR (W.widen hc hs (W.fret F.1 F.2.1 (F.2.2.1.trans hr) (fun t ht hW => ad_qc G h ht) G.2.2.2.2 d F.2.2.2.2.2.2.1))
theorem ad_dreturn (F : ad_F p s m args meth c own nm cc nL ret D K z0 A) (G : ad_G D A s.heap H locs ws) (hR : ad_R below D A args s mc ms Ps Q) (hr : ret = some .double) (hc : cells ≤ mc) (hs : slots ≤ ms) {x : UInt64} (h : Ps (some (.double x)) ws) (d : decode cc pc = .ok (.dreturn, 1)) : W p l e R s m args below meth c H locs cells slots Q (F0 m pc ls [.double x]) :=
  ad_mono hR (W.widen hc hs (W.dret F.1 F.2.1 (F.2.2.1.trans hr) (fun t ht hW => ad_qc G h ht) G.2.2.2.2 d F.2.2.2.2.2.2.1))
theorem ad_zreturn (F : ad_F p s m args meth c own nm cc nL ret D K z0 A) (G : ad_G D A s.heap H locs ws) (hR : ad_R below D A args s mc ms Ps Q) {ty : FieldType} (hr : ret = some ty) (hc : cells ≤ mc) (hs : slots ≤ ms) {x : Int} (hn : narrow ty (.int (iI x)) = .int (iI x)) (h : Ps (some (.int (iI x))) ws) (d : decode cc pc = .ok (.ireturn, 1)) : W p l e R s m args below meth c H locs cells slots Q (F0 m pc ls [.int (iI x)]) :=
  ad_mono hR (W.widen hc hs (W.zret F.1 F.2.1 (F.2.2.1.trans hr) hn (fun t ht hW => ad_qc G h ht) G.2.2.2.2 d F.2.2.2.2.2.2.1))
theorem ad_vreturn (F : ad_F p s m args meth c own nm cc nL ret D K z0 A) (G : ad_G D A s.heap H locs ws) (hR : ad_R below D A args s mc ms Ps Q) (hr : ret = none) (hc : cells ≤ mc) (hs : slots ≤ ms) (h : Ps none ws) (d : decode cc pc = .ok (.return_, 1)) : W p l e R s m args below meth c H locs cells slots Q (F0 m pc ls []) :=
  ad_mono hR (W.widen hc hs (W.vret F.1 F.2.1 (F.2.2.1.trans hr) (fun t ht hW => ad_qc G h ht) G.2.2.2.2 d F.2.2.2.2.2.2.1))
theorem ad_areturn (F : ad_F p s m args meth c own nm cc nL ret D K z0 A) (G : ad_G D A s.heap H locs ws) (hR : ad_R below D A args s mc ms Ps Q) {C : String} (hr : ret = some (.object C)) (hc : cells ≤ mc) (hs : slots ≤ ms) {x : Nat} (h : Ps (some (.ref x)) ws) (d : decode cc pc = .ok (.areturn, 1)) : W p l e R s m args below meth c H locs cells slots Q (F0 m pc ls [.ref x]) :=
  ad_mono hR (W.widen hc hs (W.aret F.1 F.2.1 (F.2.2.1.trans hr) (Or.inl ⟨C, rfl⟩) (Or.inr ⟨x, rfl⟩) (fun t ht hW => ad_qc G h ht) G.2.2.2.2 d F.2.2.2.2.2.2.1))
/-- the callee's cells out of the caller's world; the rest's places -/
def ad_cut (ws wc wr : va_W) (isC isR : List Nat) : Prop := isC.map (fun i => ws[i]?) = wc.map some ∧ isR.map (fun i => ws[i]?) = wr.map some ∧ va_nd isC = true ∧ va_nd isR = true ∧ ∀ i ∈ isR, i ∉ isC
variable {wc wr : va_W} {isC isR : List Nat} {y : MethodName} {bytes : ByteArray} {maxL n index : Nat} {ret' : Option FieldType} {rm : Room} {As st0 : List Value} {b : Nat}
theorem ad_prec (F : ad_F p s m args meth c own nm cc nL ret D K z0 A) (G : ad_G D A s.heap H locs ws) (X : ad_cut ws wc wr isC isR) {U : State} (hU : U.heap = H) (hW : s.WarmedH U.vm) : ad_PRE D K z0 wc H.size U := by
  refine ⟨by rw [hU], Nat.le_trans F.2.2.2.2.2.2.2.2.2.2.2.1 G.2.2.1, ?_, va_K.moved hW.alike F.2.2.2.2.2.2.2.1, (G.2.1.sub isC X.2.2.1 X.1).weaken (fun _ q _ h => F.2.2.2.2.2.2.2.2.2.1 _ h), F.2.2.2.2.2.2.2.2.2.2.1.to hW (fun q h1 h2 => ?_)⟩
  · rw [hU]
    exact (G.perm isC X.2.2.1 X.1).1
  · rw [hU]
    exact G.2.2.2.1 q h1 (fun h => Nat.not_le.mpr h2 (F.2.2.2.2.2.2.2.2.2.1 q h))
theorem ad_blind {avs : List Value} {sz : Nat} : FrameBlind (fun v U => v = avs.toArray ∧ ad_PRE D K z0 wc sz U) := fun a U g mk h => by
  obtain ⟨h0, h1, h2, h3, h4, h5, h6⟩ := h
  exact ⟨h0, h1, h2, h3, va_K.moved (u := U) (U := U.calling g mk a) (Vm.Alike.refl U.vm) h4, h5, ad_ENV.same (s := U) (U := U.calling g mk a) h6 rfl rfl⟩
theorem ad_good (F : ad_F p s m args meth c own nm cc nL ret D K z0 A) (Y : ad_my y bytes maxL ret' n) : GoodIn BIG (Cond.code y bytes maxL ret' :: BIG) := fun w hw => by
  have hb : w ∈ BIG := by
    rcases List.mem_cons.mp hw with h | h
    · rw [h]; exact Y.1
    · exact h
  exact ⟨hb, good_of_word (List.mem_filter.mp hb).2⟩
theorem ad_fixc (F : ad_F p s m args meth c own nm cc nL ret D K z0 A) : CallFix p m c cc nL s args BIG own := ⟨F.1, F.2.1, F.2.2.2.1, F.2.2.2.2.1, F.2.2.2.2.2.1⟩
theorem ad_joined (F : ad_F p s m args meth c own nm cc nL ret D K z0 A) (G : ad_G D A s.heap H locs ws) (X : ad_cut ws wc wr isC isR) {u : va_W} {st₀ t T' : State} {L : List Loc} (h0 : st₀.heap = H) (hL : ∀ q ∈ L, va_A wc H.size q.base) (e1 : T'.heap = t.heap) (hP : va_P D classes u t.heap) (hD : va_D (va_A wc H.size) u) (hF : va_F (va_A wc H.size) st₀ t) : ad_G D A s.heap T'.heap (locs ++ L) (wr ++ u) := by
  obtain ⟨hz, hk⟩ := hF
  rw [h0] at hz hk
  rw [← e1] at hP hz hk
  have hFc := va_free G.2.1 G.2.2 F.2.2.2.2.2.2.2.2.1 isC X.1
  obtain ⟨j1, j2⟩ := va_join G.1 G.2.1 isC isR X.1 X.2.1 X.2.2.2.1 X.2.2.2.2 hk hFc hP hD
  exact ⟨j1, j2, Nat.le_trans G.2.2.1 hz, fun q h1 h2 => (hk q (Nat.lt_of_lt_of_le h1 G.2.2.1) (fun z => h2 (hFc q z))).trans (G.2.2.2.1 q h1 h2), fun q hq => by
    rcases List.mem_append.mp hq with h | h
    · exact G.2.2.2.2 q h
    · exact hFc _ (hL q h)⟩
theorem ad_callx (F : ad_F p s m args meth c own nm cc nL ret D K z0 A) (G : ad_G D A s.heap H locs ws) (X : ad_cut ws wc wr isC isR) {av : Array Value} (hr : va_Run p l e R s m args below meth c H locs cells slots mc ms (F0 m pc ls st0) rest (ad_QC D (va_A wc H.size) Ps av) (va_A wc H.size))
    (kk : ∀ (v : Option Value) (u : va_W) (H : Heap) (locs : List Loc), Ps v u → ad_G D A s.heap H locs (wr ++ u) → W p l e R s m args below meth c H locs (cells + mc) (slots + ms) Q (F0 m (pc + 3) ls (v.toList ++ rest))) : W p l e R s m args below meth c H locs cells slots Q (F0 m pc ls st0) := by
  intro T hT X0
  obtain ⟨v, st₀, t, T', L, h0, X', hL, e1, e2, ⟨⟨v2, u, hv, hp, hP, hD⟩, hF⟩, st⟩ := hr T hT X0
  cases hv
  obtain ⟨t2, a1, b1⟩ := kk v u T'.heap (locs ++ L) hp (ad_joined F G X h0 hL e1 hP hD hF) T' rfl X'
  exact ⟨t2, st t2 a1, b1⟩
theorem ad_callxX (F : ad_F p s m args meth c own nm cc nL ret D K z0 A) (G : ad_G D A s.heap H locs ws) (X : ad_cut ws wc wr isC isR) {av : Array Value} {Px : String → va_W → Prop} (hr : vx_Run p l e R s m args below meth c H locs cells slots mc ms (F0 m pc ls st0) rest (ad_QC D (va_A wc H.size) Ps av) (ad_XC D (va_A wc H.size) Px) (va_A wc H.size))
    (kx : ∀ (E : String) (u : va_W) (H : Heap) (locs : List Loc) (ce : Cell) (q : Nat), Px E u → ad_G D A s.heap H locs (wr ++ u) → H[q]? = some ce → ce.vm = .none → s.vm.findClass E = some ce.cls → vx_W p l e R s m args below meth c H locs (cells + mc) (slots + ms) Q (F0 m pc ls rest) q)
    (kk : ∀ (v : Option Value) (u : va_W) (H : Heap) (locs : List Loc), Ps v u → ad_G D A s.heap H locs (wr ++ u) → W p l e R s m args below meth c H locs (cells + mc) (slots + ms) Q (F0 m (pc + 3) ls (v.toList ++ rest))) : W p l e R s m args below meth c H locs cells slots Q (F0 m pc ls st0) := by
  intro T hT X0
  rcases hr T hT X0 with ⟨v, st₀, t, T', L, h0, X', hL, e1, e2, ⟨⟨v2, u, hv, hp, hP, hD⟩, hF⟩, st⟩ | ⟨q, st₀, t, T', L, E, ce, h0, X', hL, e1, e2, ⟨u, hp, hP, hD, hF⟩, hce, hcv, hcl, st⟩
  · cases hv
    obtain ⟨t2, a1, b1⟩ := kk v u T'.heap (locs ++ L) hp (ad_joined F G X h0 hL e1 hP hD hF) T' rfl X'
    exact ⟨t2, st t2 a1, b1⟩
  · obtain ⟨t2, a1, b1⟩ := kx E u T'.heap (locs ++ L) ce q hp (ad_joined F G X h0 hL e1 hP hD hF) (by rw [e1]; exact hce) hcv hcl T' rfl X'
    exact ⟨t2, st.trans a1, b1⟩
theorem ad_recv (F : ad_F p s m args meth c own nm cc nL ret D K z0 A) (G : ad_G D A s.heap H locs ws) (X : ad_cut ws wc wr isC isR) {ci q0 : Nat} {fs : List Value} (he : wc[q0]? = some (b, .inr (ci, fs))) (hc : classes[ci]?.map (fun q => q.1) = some y.cls) : ∃ cell : Cell, H[b]? = some cell ∧ cell.vm.isStatics = false ∧ s.vm.findClass y.cls = some cell.cls := by
  cases h : classes[ci]? with
  | none => rw [h] at hc; cases hc
  | some q =>
    rw [h] at hc
    have := va_recv F.2.2.2.2.2.2.2.1 (G.perm isC X.2.2.1 X.1).1 h he
    rwa [show q.1 = y.cls from Option.some.inj hc] at this
theorem ad_callV (F : ad_F p s m args meth c own nm cc nL ret D K z0 A) (G : ad_G D A s.heap H locs ws) (M : CT l D K z0 y bytes maxL ret' rm (.ref b :: As) wc Ps) (Y : ad_my y bytes maxL ret' n) (L : ad_mv own index y none) (X : ad_cut ws wc wr isC isR) (ci q0 : Nat) {fs : List Value} (he : wc[q0]? = some (b, .inr (ci, fs))) (hci : classes[ci]?.map (fun q => q.1) = some y.cls) (hn : As.length = n) (hst : st0 = As.reverse ++ .ref b :: rest) (hroom : rm.frames + 1 ≤ R.frames ∧ 8 + (maxL + 11) + rm.locals ≤ R.locals) (hcells : cells + rm.cells ≤ R.cells ∧ slots + rm.slots ≤ R.slots) (hcat : (rest.map fun v => v.category).sum ≤ 8) (hlv : ls.size = nL) {cells9 slots9 : Nat} (hce : cells + rm.cells = cells9 ∧ slots + rm.slots = slots9) (d : decode cc pc = .ok (.invokevirtual index, 3))
    (kk : ∀ (v : Option Value) (u : va_W) (H : Heap) (locs : List Loc), Ps v u → ad_G D A s.heap H locs (wr ++ u) → W p l e R s m args below meth c H locs cells9 slots9 Q (F0 m (pc + 3) ls (v.toList ++ rest))) : W p l e R s m args below meth c H locs cells slots Q (F0 m pc ls st0) := by
  subst hst
  obtain ⟨rfl, rfl⟩ := hce
  exact ad_callx F G X (va_runV (As := As) (rest := rest) (ad_fixc F) (M H.size) (C := y.cls) ⟨callB_of n F.2.2.2.2.2.1 (ad_good F Y) rfl rfl rfl (F.in Y.2.2) (F.in L.1) ⟨Y.2.1.1, Y.2.1.2.1, Y.2.1.2.2⟩ hroom, F.in L.2.1, F.in L.2.2⟩ ⟨ad_blind, ad_recv F G X he hci, fun U hU hW => ⟨rfl, ad_prec F G X hU hW⟩⟩ rfl hn hlv rfl (lv_room hcat) d hcells) kk
theorem ad_callS (F : ad_F p s m args meth c own nm cc nL ret D K z0 A) (G : ad_G D A s.heap H locs ws) (M : CT l D K z0 y bytes maxL ret' rm As wc Ps) (Y : ad_my y bytes maxL ret' n) (L : ad_ms own index y none) (X : ad_cut ws wc wr isC isR) (hn : As.length = n) (hst : st0 = As.reverse ++ rest) (hroom : rm.frames + 1 ≤ R.frames ∧ 8 + (maxL + 11) + rm.locals ≤ R.locals) (hcells : cells + rm.cells ≤ R.cells ∧ slots + rm.slots ≤ R.slots) (hcat : (rest.map fun v => v.category).sum ≤ 8) (hlv : ls.size = nL) {cells9 slots9 : Nat} (hce : cells + rm.cells = cells9 ∧ slots + rm.slots = slots9) (d : decode cc pc = .ok (.invokestatic index, 3))
    (kk : ∀ (v : Option Value) (u : va_W) (H : Heap) (locs : List Loc), Ps v u → ad_G D A s.heap H locs (wr ++ u) → W p l e R s m args below meth c H locs cells9 slots9 Q (F0 m (pc + 3) ls (v.toList ++ rest))) : W p l e R s m args below meth c H locs cells slots Q (F0 m pc ls st0) := by
  subst hst
  obtain ⟨rfl, rfl⟩ := hce
  exact ad_callx F G X (va_runS (As := As) (rest := rest) (ad_fixc F) (M H.size) ⟨callB_of n F.2.2.2.2.2.1 (ad_good F Y) rfl rfl rfl (F.in Y.2.2) (F.in L.1) ⟨Y.2.1.1, Y.2.1.2.1, Y.2.1.2.2⟩ hroom, F.in L.2⟩ ⟨ad_blind, fun U hU hW => ⟨rfl, ad_prec F G X hU hW⟩⟩ rfl hn hlv rfl (lv_room hcat) d hcells) kk
theorem ad_callSN (F : ad_F p s m args meth c own nm cc nL ret D K z0 A) (G : ad_G D A s.heap H locs ws) {host : String} (M : CT l D K z0 y bytes maxL ret' rm As wc Ps) (Y : ad_my y bytes maxL ret' n) (L : ad_ms own index y (some host)) (X : ad_cut ws wc wr isC isR) (hn : As.length = n) (hst : st0 = As.reverse ++ rest) (hroom : rm.frames + 1 ≤ R.frames ∧ 8 + (maxL + 11) + rm.locals ≤ R.locals) (hcells : cells + rm.cells ≤ R.cells ∧ slots + rm.slots ≤ R.slots) (hcat : (rest.map fun v => v.category).sum ≤ 8) (hlv : ls.size = nL) {cells9 slots9 : Nat} (hce : cells + rm.cells = cells9 ∧ slots + rm.slots = slots9) (d : decode cc pc = .ok (.invokestatic index, 3))
    (kk : ∀ (v : Option Value) (u : va_W) (H : Heap) (locs : List Loc), Ps v u → ad_G D A s.heap H locs (wr ++ u) → W p l e R s m args below meth c H locs cells9 slots9 Q (F0 m (pc + 3) ls (v.toList ++ rest))) : W p l e R s m args below meth c H locs cells slots Q (F0 m pc ls st0) := by
  subst hst
  obtain ⟨rfl, rfl⟩ := hce
  exact ad_callx F G X (va_runSN (As := As) (rest := rest) (ad_fixc F) (M H.size) ⟨va_cnB n F.2.2.2.2.2.1 (ad_good F Y) rfl rfl rfl (F.2.2.2.2.2.2.2.2.2.2.1.1 _ L.1 rfl) (F.in Y.2.2) ⟨Y.2.1.1, Y.2.1.2.1, Y.2.1.2.2⟩ hroom, F.in L.2, trivial⟩ ⟨ad_blind, fun U hU hW => ⟨rfl, ad_prec F G X hU hW⟩⟩ rfl hn hlv rfl (lv_room hcat) d hcells) kk
theorem ad_callI (F : ad_F p s m args meth c own nm cc nL ret D K z0 A) (G : ad_G D A s.heap H locs ws) (M : CT l D K z0 y bytes maxL none rm (.ref b :: As) wc Ps) (Y : ad_my y bytes maxL none n) (L : ad_mi own index y none) (X : ad_cut ws wc wr isC isR) (hn : As.length = n) (hst : st0 = As.reverse ++ .ref b :: rest) (hroom : rm.frames + 1 ≤ R.frames ∧ 8 + (maxL + 11) + rm.locals ≤ R.locals) (hcells : cells + rm.cells ≤ R.cells ∧ slots + rm.slots ≤ R.slots) (hcat : (rest.map fun v => v.category).sum ≤ 8) (hlv : ls.size = nL) {cells9 slots9 : Nat} (hce : cells + rm.cells = cells9 ∧ slots + rm.slots = slots9) (d : decode cc pc = .ok (.invokespecial index, 3))
    (kk : ∀ (v : Option Value) (u : va_W) (H : Heap) (locs : List Loc), Ps v u → ad_G D A s.heap H locs (wr ++ u) → W p l e R s m args below meth c H locs cells9 slots9 Q (F0 m (pc + 3) ls (v.toList ++ rest))) : W p l e R s m args below meth c H locs cells slots Q (F0 m pc ls st0) := by
  subst hst
  obtain ⟨rfl, rfl⟩ := hce
  exact ad_callx F G X (va_runI (As := As) (rest := rest) (ad_fixc F) (M H.size) ⟨callB_of n F.2.2.2.2.2.1 (ad_good F Y) rfl rfl rfl (F.in Y.2.2) (F.in L.1) ⟨Y.2.1.1, Y.2.1.2.1, Y.2.1.2.2⟩ hroom, L.2.2, F.in L.2.1⟩ ⟨ad_blind, fun U hU hW => ⟨rfl, ad_prec F G X hU hW⟩⟩ rfl hn hlv rfl (lv_room hcat) d hcells) kk
theorem ad_callVX (F : ad_F p s m args meth c own nm cc nL ret D K z0 A) (G : ad_G D A s.heap H locs ws) {Px : String → va_W → Prop} (M : CX l D K z0 y bytes maxL ret' rm (.ref b :: As) wc Ps Px) (Y : ad_my y bytes maxL ret' n) (L : ad_mv own index y none) (X : ad_cut ws wc wr isC isR) (ci q0 : Nat) {fs : List Value} (he : wc[q0]? = some (b, .inr (ci, fs))) (hci : classes[ci]?.map (fun q => q.1) = some y.cls) (hn : As.length = n) (hst : st0 = As.reverse ++ .ref b :: rest) (hroom : rm.frames + 1 ≤ R.frames ∧ 8 + (maxL + 11) + rm.locals ≤ R.locals) (hcells : cells + rm.cells ≤ R.cells ∧ slots + rm.slots ≤ R.slots) (hcat : (rest.map fun v => v.category).sum ≤ 8) (hlv : ls.size = nL) {cells9 slots9 : Nat} (hce : cells + rm.cells = cells9 ∧ slots + rm.slots = slots9) (d : decode cc pc = .ok (.invokevirtual index, 3))
    (kx : ∀ (E : String) (u : va_W) (H : Heap) (locs : List Loc) (ce : Cell) (q : Nat), Px E u → ad_G D A s.heap H locs (wr ++ u) → H[q]? = some ce → ce.vm = .none → s.vm.findClass E = some ce.cls → vx_W p l e R s m args below meth c H locs cells9 slots9 Q (F0 m pc ls rest) q) (kk : ∀ (v : Option Value) (u : va_W) (H : Heap) (locs : List Loc), Ps v u → ad_G D A s.heap H locs (wr ++ u) → W p l e R s m args below meth c H locs cells9 slots9 Q (F0 m (pc + 3) ls (v.toList ++ rest))) : W p l e R s m args below meth c H locs cells slots Q (F0 m pc ls st0) := by
  subst hst
  obtain ⟨rfl, rfl⟩ := hce
  exact ad_callxX F G X (vx_runV (As := As) (rest := rest) (ad_fixc F) (M H.size) (C := y.cls) ⟨callB_of n F.2.2.2.2.2.1 (ad_good F Y) rfl rfl rfl (F.in Y.2.2) (F.in L.1) ⟨Y.2.1.1, Y.2.1.2.1, Y.2.1.2.2⟩ hroom, F.in L.2.1, F.in L.2.2⟩ ⟨ad_blind, ad_recv F G X he hci, fun U hU hW => ⟨rfl, ad_prec F G X hU hW⟩⟩ rfl hn hlv rfl (lv_room hcat) d hcells) kx kk
theorem ad_callSX (F : ad_F p s m args meth c own nm cc nL ret D K z0 A) (G : ad_G D A s.heap H locs ws) {Px : String → va_W → Prop} (M : CX l D K z0 y bytes maxL ret' rm As wc Ps Px) (Y : ad_my y bytes maxL ret' n) (L : ad_ms own index y none) (X : ad_cut ws wc wr isC isR) (hn : As.length = n) (hst : st0 = As.reverse ++ rest) (hroom : rm.frames + 1 ≤ R.frames ∧ 8 + (maxL + 11) + rm.locals ≤ R.locals) (hcells : cells + rm.cells ≤ R.cells ∧ slots + rm.slots ≤ R.slots) (hcat : (rest.map fun v => v.category).sum ≤ 8) (hlv : ls.size = nL) {cells9 slots9 : Nat} (hce : cells + rm.cells = cells9 ∧ slots + rm.slots = slots9) (d : decode cc pc = .ok (.invokestatic index, 3))
    (kx : ∀ (E : String) (u : va_W) (H : Heap) (locs : List Loc) (ce : Cell) (q : Nat), Px E u → ad_G D A s.heap H locs (wr ++ u) → H[q]? = some ce → ce.vm = .none → s.vm.findClass E = some ce.cls → vx_W p l e R s m args below meth c H locs cells9 slots9 Q (F0 m pc ls rest) q) (kk : ∀ (v : Option Value) (u : va_W) (H : Heap) (locs : List Loc), Ps v u → ad_G D A s.heap H locs (wr ++ u) → W p l e R s m args below meth c H locs cells9 slots9 Q (F0 m (pc + 3) ls (v.toList ++ rest))) : W p l e R s m args below meth c H locs cells slots Q (F0 m pc ls st0) := by
  subst hst
  obtain ⟨rfl, rfl⟩ := hce
  exact ad_callxX F G X (vx_runS (As := As) (rest := rest) (ad_fixc F) (M H.size) ⟨callB_of n F.2.2.2.2.2.1 (ad_good F Y) rfl rfl rfl (F.in Y.2.2) (F.in L.1) ⟨Y.2.1.1, Y.2.1.2.1, Y.2.1.2.2⟩ hroom, F.in L.2⟩ ⟨ad_blind, fun U hU hW => ⟨rfl, ad_prec F G X hU hW⟩⟩ rfl hn hlv rfl (lv_room hcat) d hcells) kx kk
theorem ad_topi {x y : Int} (h : x = y) (k : W p l e R s m args below meth c H locs cells slots Q (F0 m pc ls (.int (iI y) :: rest))) : W p l e R s m args below meth c H locs cells slots Q (F0 m pc ls (.int (iI x) :: rest)) := by subst h; exact k
theorem ad_topl {x y : Int64} (h : x = y) (k : W p l e R s m args below meth c H locs cells slots Q (F0 m pc ls (.long y :: rest))) : W p l e R s m args below meth c H locs cells slots Q (F0 m pc ls (.long x :: rest)) := by subst h; exact k
theorem ad_topf {x y : UInt32} (h : x = y) (k : W p l e R s m args below meth c H locs cells slots Q (F0 m pc ls (.float y :: rest))) : W p l e R s m args below meth c H locs cells slots Q (F0 m pc ls (.float x :: rest)) := by subst h; exact k
theorem ad_topd {x y : UInt64} (h : x = y) (k : W p l e R s m args below meth c H locs cells slots Q (F0 m pc ls (.double y :: rest))) : W p l e R s m args below meth c H locs cells slots Q (F0 m pc ls (.double x :: rest)) := by subst h; exact k
theorem ad_wid {k n : Nat} {g : JFrame} (h1 : cells = k) (h2 : slots = n) (kk : W p l e R s m args below meth c H locs k n Q (g)) : W p l e R s m args below meth c H locs cells slots Q (g) := by subst h1; subst h2; exact kk
theorem ad_eqi {x y : Int} (h : x = y) : some (Value.int (iI x)) = some (Value.int (iI y)) := by rw [h]
theorem ad_cmp0 {x y : Int64} : lg_cmp x y = 0 ↔ x = y := by
  unfold lg_cmp
  by_cases h1 : y < x
  · simp [h1]
    intro h; subst h; exact absurd h1 (by simp)
  · by_cases h2 : x = y
    · simp [h2]
    · simp [h1, h2]
theorem ad_lcmp_eq (F : ad_F p s m args meth c own nm cc nL ret D K z0 A) {x y : Int64} {off : Int} {tgt : Nat} (d : decode cc pc = .ok (.lcmp, 1)) (d2 : decode cc (pc + 1) = .ok (.ifCond .eq off, 3)) (ht : ((pc + 1 : Nat) : Int) + off = (tgt : Int)) (kt : x = y → W p l e R s m args below meth c H locs cells slots Q (F0 m tgt ls rest)) (kf : x ≠ y → W p l e R s m args below meth c H locs cells slots Q (F0 m (pc + 1 + 3) ls rest)) : W p l e R s m args below meth c H locs cells slots Q (F0 m pc ls (.long y :: .long x :: rest)) :=
  W.lcmp F.1 F.2.1 d (lv_if_eq F.1 F.2.1 d2 ht (fun h => kt (ad_cmp0.mp h)) (fun h => kf (fun q => h (ad_cmp0.mpr q))))
theorem ad_lcmp_ne (F : ad_F p s m args meth c own nm cc nL ret D K z0 A) {x y : Int64} {off : Int} {tgt : Nat} (d : decode cc pc = .ok (.lcmp, 1)) (d2 : decode cc (pc + 1) = .ok (.ifCond .ne off, 3)) (ht : ((pc + 1 : Nat) : Int) + off = (tgt : Int)) (kt : x ≠ y → W p l e R s m args below meth c H locs cells slots Q (F0 m tgt ls rest)) (kf : x = y → W p l e R s m args below meth c H locs cells slots Q (F0 m (pc + 1 + 3) ls rest)) : W p l e R s m args below meth c H locs cells slots Q (F0 m pc ls (.long y :: .long x :: rest)) :=
  W.lcmp F.1 F.2.1 d (lv_if_ne F.1 F.2.1 d2 ht (fun h => kt (fun q => h (ad_cmp0.mpr q))) (fun h => kf (ad_cmp0.mp h)))
/-- a throw that isn't caught here goes on -/
theorem ad_out (F : ad_F p s m args meth c own nm cc nL ret D K z0 A) (G : ad_G D A s.heap H locs ws) {Px : String → va_W → Prop} (X : ad_T l below c D A args s mc ms Px Q) (hc : cells ≤ mc) (hs : slots ≤ ms) {E : String} {ce : Cell} {q : Nat} (hce : H[q]? = some ce) (hcv : ce.vm = .none) (hcl : s.vm.findClass E = some ce.cls) (h : Px E ws) : vx_W p l e R s m args below meth c H locs cells slots Q (F0 m pc ls rest) q := by
  obtain ⟨-, ht, Qc, rfl⟩ := X
  exact vx_out (fun x hx => absurd (ht x hx) id) F.2.2.2.2.2.2.1 hce hcv hcl (fun t hh hv => ⟨ws, h, by rw [hh]; exact G.1, G.2.1, G.2.2.F hh⟩) G.2.2.2.2 hc hs
theorem ad_throw (F : ad_F p s m args meth c own nm cc nL ret D K z0 A) (G : ad_G D A s.heap H locs ws) {Px : String → va_W → Prop} (X : ad_T l below c D A args s mc ms Px Q) {ik ic : Nat} {cls : String} {names : List String} (Xw : ad_xw own ik ic cls names) (hlv : ls.size = nL) (hRf : names.length + 3 < R.frames) (hRl : (rest.map fun v => v.category).sum + (13 * (names.length + 1) + 42) ≤ R.locals) (hRc : cells + 1 ≤ R.cells) (hRs : slots + 6 ≤ R.slots) (hc : cells + 1 ≤ mc) (hs : slots + 6 ≤ ms) (h : Px cls ws)
    (d0 : decode cc pc = .ok (.new ik, 3)) (d3 : decode cc (pc + 3) = .ok (.dup, 1)) (d4 : decode cc (pc + 4) = .ok (.invokespecial ic, 3)) (d7 : decode cc (pc + 7) = .ok (.athrow, 1)) : W p l e R s m args below meth c H locs cells slots Q (F0 m pc ls rest) := by
  obtain ⟨hl, ht, Qc, rfl⟩ := X
  obtain ⟨x1, x2, x3, x4, x5, x6⟩ := Xw
  have hE := F.2.2.2.2.2.2.2.2.2.2.1
  have hnA : ∀ q, A q → (fun q => z0 ≤ q) q := F.2.2.2.2.2.2.2.2.2.1
  refine vx_throw0 (names := names) F.1 F.2.1 hl F.2.2.2.2.1 x1 x2 (F.in x3) (F.in x4) (fun w hw => ?_) x6 (hE.2.2.2.1.narrow hnA) (hE.2.2.2.2.1.narrow hnA) G.2.2 (hlv.trans F.2.2.2.1.symm) d0 d3 d4 d7 (fun x hx => absurd (ht x hx) id) hRf hRl hRc hRs F.2.2.2.2.2.2.1 (fun t hv hz hk => ⟨ws, h, G.1.kept (fun k q hq => hk q.1 (G.1 k q hq).lt), G.2.1, Nat.le_trans G.2.2.1 hz, fun q h1 h2 => (hk q (Nat.lt_of_lt_of_le h1 G.2.2.1)).trans (G.2.2.2.1 q h1 h2)⟩) G.2.2.2.2 hc hs
  rcases x5 w hw with h5 | ⟨h5, h6⟩
  · exact F.in h5
  · have h7 := hE.2.1 w h5 h6
    simp only [ad_soft, Bool.and_eq_true] at h6
    exact va_Nw.use h6.1 h7
end ADR
