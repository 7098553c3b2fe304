/-! the law's calls and comparisons -/
section LWC
variable {p : Program} {l : Launch} {e : Env} {R : Room} {s : State} {m : MethodId} {args : Array Value} {below : List Frame} {meth : Method} {c : Code} {H : Heap} {locs : List Loc} {cells slots : Nat} {Q : State → Prop}
variable {own nm : String} {cc : ByteArray} {nL : Nat} {ret : Option FieldType} {D : va_G} {K : Nat → ClassId} {z0 : Nat} {A : Nat → Prop} {pc : Nat} {ls : Array Slot} {rest : List Value} {b : Nat}
variable {y : MethodName} {bytes : ByteArray} {maxL na index : Nat} {ret' : Option FieldType} {hh : List (Nat × Nat × Nat × Nat)} {As st0 : List Value}
variable {d0 m0 o1 o2 : Nat} {fs fm : List Value} {go : Nat → Int64} {gd : Nat → UInt64} {wD wM : va_W} {N M MH ME MS : Nat → Nat} {n : Nat}
theorem la_c {a : An} {nh : Int} (F : ad_F p s m args meth c own nm cc nL ret D K z0 A) (G : ad_G D A s.heap H locs (WL K d0 m0 o1 o2 fs fm go gd wD wM))
    (W1 : CH l D K z0 y bytes maxL ret' hh rmL As ((d0, .inr (10, fs)) :: (o1, aJ (K 1) 1 go) :: wD) (fun v u => (∃ (z : Int) (fs2 : List Value) (wD2 : va_W), v = some (.int (iI 0)) ∧ PRg K N n a z fs2 wD2 ∧ u = (d0, .inr (10, fs2)) :: (o1, aJ (K 1) 1 (va_up go 0 (iI z).toInt64)) :: wD2) ∨ (∃ (k : Int) (fs2 : List Value) (wD2 : va_W), v = some (.int (iI k)) ∧ (1 ≤ k ∧ k ≤ nh) ∧ PXg K N n a k fs2 wD2 ∧ u = (d0, .inr (10, fs2)) :: (o1, aJ (K 1) 1 go) :: wD2)))
    (Y : ad_myH y bytes maxL ret' hh na) (L : ad_ms own index y none) (hnh : nh ≤ 10) (hn : As.length = na) (hst : st0 = As.reverse ++ rest) (hroom : 12 ≤ R.frames ∧ 8 + (maxL + 11) + 240 ≤ R.locals) (hcells : cells + 4 ≤ R.cells ∧ slots + 1214 ≤ R.slots) (hcat : (rest.map fun v => v.category).sum ≤ 8) (hlv : ls.size = nL) (d : decode cc pc = .ok (.invokestatic index, 3))
    (kk : ∀ (cm : Cm) (fs2 : List Value) (wD2 : va_W) (go2 : Nat → Int64) (H : Heap) (locs : List Loc), (0 ≤ (a cm).1 ∧ (a cm).1 ≤ 10) → ((a cm).1 = 0 → go2 0 = (iI (a cm).2.1).toInt64) → SxI (n + 1) (a cm).2.2 → DkI K N (n + 1) (a cm).2.2 fs2 wD2 → ad_G D A s.heap H locs (WL K d0 m0 o1 o2 fs2 fm go2 gd wD2 wM) → W p l e R s m args below meth c H locs (cells + 4) (slots + 1214) Q (F0 m (pc + 3) ls (.int (iI (a cm).1) :: rest))) : W p l e R s m args below meth c H locs cells slots Q (F0 m pc ls st0) := by
  obtain ⟨isC, isR, X⟩ := ad_cutP (WL_d (K := K) (d0 := d0) (m0 := m0) (o1 := o1) (o2 := o2) (fs := fs) (fm := fm) (go := go) (gd := gd) (wD := wD) (wM := wM))
  refine ad_callH F G W1 Y L X hn hst hroom hcells hcat hlv d (fun v u H locs hp G => ?_)
  rcases hp with ⟨z, fs2, wD2, rfl, ⟨cm, h1, h2, h3, h4⟩, rfl⟩ | ⟨k, fs2, wD2, rfl, hk, ⟨cm, h1, h3, h4⟩, rfl⟩
  · have h9 := kk cm fs2 wD2 (va_up go 0 (iI z).toInt64) H locs ⟨by omega, by omega⟩ (fun _ => by rw [h2]; exact up_s _ _ _) h3 h4 (G.pm WL_d')
    rw [h1] at h9; exact h9
  · have h9 := kk cm fs2 wD2 go H locs ⟨by omega, by omega⟩ (fun q => by omega) h3 h4 (G.pm WL_d')
    rw [h1] at h9; exact h9
/-- the double array's wrappers -/
theorem la_e {α : Type} {a : Cm → Int × α × Sx} {up : α → UInt64} {pz : α → Prop} {nh : Int} (F : ad_F p s m args meth c own nm cc nL ret D K z0 A) (G : ad_G D A s.heap H locs (WL K d0 m0 o1 o2 fs fm go gd wD wM))
    (W1 : CH l D K z0 y bytes maxL ret' hh rmL As ((d0, .inr (10, fs)) :: (o2, aD (K 9) 1 gd) :: wD) (fun v u => (∃ (z : α) (fs2 : List Value) (wD2 : va_W), v = some (.int (iI 0)) ∧ pz z ∧ PRg K N n a z fs2 wD2 ∧ u = (d0, .inr (10, fs2)) :: (o2, aD (K 9) 1 (vf_upd gd 0 (up z))) :: wD2) ∨ (∃ (k : Int) (fs2 : List Value) (wD2 : va_W), v = some (.int (iI k)) ∧ (1 ≤ k ∧ k ≤ nh) ∧ PXg K N n a k fs2 wD2 ∧ u = (d0, .inr (10, fs2)) :: (o2, aD (K 9) 1 gd) :: wD2)))
    (Y : ad_myH y bytes maxL ret' hh na) (L : ad_ms own index y none) (hnh : nh ≤ 10) (hn : As.length = na) (hst : st0 = As.reverse ++ rest) (hroom : 12 ≤ R.frames ∧ 8 + (maxL + 11) + 240 ≤ R.locals) (hcells : cells + 4 ≤ R.cells ∧ slots + 1214 ≤ R.slots) (hcat : (rest.map fun v => v.category).sum ≤ 8) (hlv : ls.size = nL) (d : decode cc pc = .ok (.invokestatic index, 3))
    (kk : ∀ (cm : Cm) (fs2 : List Value) (wD2 : va_W) (gd2 : Nat → UInt64) (H : Heap) (locs : List Loc), (0 ≤ (a cm).1 ∧ (a cm).1 ≤ 10) → ((a cm).1 = 0 → gd2 0 = up (a cm).2.1 ∧ pz (a cm).2.1) → SxI (n + 1) (a cm).2.2 → DkI K N (n + 1) (a cm).2.2 fs2 wD2 → ad_G D A s.heap H locs (WL K d0 m0 o1 o2 fs2 fm go gd2 wD2 wM) → W p l e R s m args below meth c H locs (cells + 4) (slots + 1214) Q (F0 m (pc + 3) ls (.int (iI (a cm).1) :: rest))) : W p l e R s m args below meth c H locs cells slots Q (F0 m pc ls st0) := by
  obtain ⟨isC, isR, X⟩ := ad_cutP (WL_e (K := K) (d0 := d0) (m0 := m0) (o1 := o1) (o2 := o2) (fs := fs) (fm := fm) (go := go) (gd := gd) (wD := wD) (wM := wM))
  refine ad_callH F G W1 Y L X hn hst hroom hcells hcat hlv d (fun v u H locs hp G => ?_)
  rcases hp with ⟨z, fs2, wD2, rfl, hz, ⟨cm, h1, h2, h3, h4⟩, rfl⟩ | ⟨k, fs2, wD2, rfl, hk, ⟨cm, h1, h3, h4⟩, rfl⟩
  · have h9 := kk cm fs2 wD2 (vf_upd gd 0 (up z)) H locs ⟨by omega, by omega⟩ (fun _ => by rw [h2]; exact ⟨by simp [vf_upd], hz⟩) h3 h4 (G.pm WL_e')
    rw [h1] at h9; exact h9
  · have h9 := kk cm fs2 wD2 gd H locs ⟨by omega, by omega⟩ (fun q => by omega) h3 h4 (G.pm WL_e')
    rw [h1] at h9; exact h9
/-- a call of the desk that never throws -/
theorem la_f {a : An} (F : ad_F p s m args meth c own nm cc nL ret D K z0 A) (G : ad_G D A s.heap H locs (WL K d0 m0 o1 o2 fs fm go gd wD wM))
    (W1 : CT l D K z0 y bytes maxL ret' rmD [.ref d0] ((d0, .inr (10, fs)) :: wD) (fun v u => ∃ (z : Int) (fs2 : List Value) (wD2 : va_W), v = some (.int (iI z)) ∧ PRg K N n a z fs2 wD2 ∧ u = (d0, .inr (10, fs2)) :: wD2))
    (Y : ad_my y bytes maxL ret' 0) (L : ad_mv own index y none) (hci : classes[10]?.map (fun q => q.1) = some y.cls) (hroom : 11 ≤ R.frames ∧ 8 + (maxL + 11) + 200 ≤ R.locals) (hcells : cells + 4 ≤ R.cells ∧ slots + 1214 ≤ R.slots) (hcat : (rest.map fun v => v.category).sum ≤ 8) (hlv : ls.size = nL) (d : decode cc pc = .ok (.invokevirtual index, 3))
    (kk : ∀ (cm : Cm) (fs2 : List Value) (wD2 : va_W) (H : Heap) (locs : List Loc), (a cm).1 = 0 → SxI (n + 1) (a cm).2.2 → DkI K N (n + 1) (a cm).2.2 fs2 wD2 → ad_G D A s.heap H locs (WL K d0 m0 o1 o2 fs2 fm go gd wD2 wM) → W p l e R s m args below meth c H locs (cells + 4) (slots + 1214) Q (F0 m (pc + 3) ls (.int (iI (a cm).2.1) :: rest))) : W p l e R s m args below meth c H locs cells slots Q (F0 m pc ls (.ref d0 :: rest)) := by
  obtain ⟨isC, isR, X⟩ := ad_cutP (WL_f (K := K) (d0 := d0) (m0 := m0) (o1 := o1) (o2 := o2) (fs := fs) (fm := fm) (go := go) (gd := gd) (wD := wD) (wM := wM))
  refine ad_callV (As := []) (rest := rest) F G W1 Y L X 10 0 rfl hci rfl rfl hroom hcells hcat hlv ⟨rfl, rfl⟩ d (fun v u H locs hp G => ?_)
  obtain ⟨z, fs2, wD2, rfl, ⟨cm, h1, h2, h3, h4⟩, rfl⟩ := hp
  have h9 := kk cm fs2 wD2 H locs h1 h3 h4 (G.pm WL_f')
  rw [h2] at h9; exact h9
/-- a call of the reference -/
theorem la_m {α : Type} {a : Cm → Int × α × Sx} {mkv : α → Value} (F : ad_F p s m args meth c own nm cc nL ret D K z0 A) (G : ad_G D A s.heap H locs (WL K d0 m0 o1 o2 fs fm go gd wD wM))
    (W1 : CT l D K z0 y bytes maxL ret' rmM (.ref m0 :: As) ((m0, .inr (11, fm)) :: wM) (fun v u => ∃ (z : α) (fm2 : List Value) (wM2 : va_W), v = some (mkv z) ∧ QRg K M MH ME MS a z fm2 wM2 ∧ u = (m0, .inr (11, fm2)) :: wM2))
    (Y : ad_my y bytes maxL ret' na) (L : ad_mv own index y none) (hci : classes[11]?.map (fun q => q.1) = some y.cls) (hn : As.length = na) (hst : st0 = As.reverse ++ .ref m0 :: rest) (hroom : 9 ≤ R.frames ∧ 8 + (maxL + 11) + 180 ≤ R.locals) (hcells : cells ≤ R.cells ∧ slots ≤ R.slots) (hcat : (rest.map fun v => v.category).sum ≤ 8) (hlv : ls.size = nL) (d : decode cc pc = .ok (.invokevirtual index, 3))
    (kk : ∀ (z : α) (fm2 : List Value) (wM2 : va_W) (H : Heap) (locs : List Loc), QRg K M MH ME MS a z fm2 wM2 → ad_G D A s.heap H locs (WL K d0 m0 o1 o2 fs fm2 go gd wD wM2) → W p l e R s m args below meth c H locs cells slots Q (F0 m (pc + 3) ls (mkv z :: rest))) : W p l e R s m args below meth c H locs cells slots Q (F0 m pc ls st0) := by
  obtain ⟨isC, isR, X⟩ := ad_cutP (WL_m (K := K) (d0 := d0) (m0 := m0) (o1 := o1) (o2 := o2) (fs := fs) (fm := fm) (go := go) (gd := gd) (wD := wD) (wM := wM))
  refine ad_callV (As := As) (rest := rest) F G W1 Y L X 11 0 rfl hci hn hst hroom hcells hcat hlv ⟨rfl, rfl⟩ d (fun v u H locs hp G => ?_)
  obtain ⟨z, fm2, wM2, rfl, hq, rfl⟩ := hp
  exact kk z fm2 wM2 H locs hq (G.pm WL_m')
theorem la_th {k : Int} {S2 : Sx} (F : ad_F p s m args meth c RL nm cc nL ret D K z0 A) (G : ad_G D A s.heap H locs (WL K d0 m0 o1 o2 fs fm go gd wD wM)) (hM : MoI K M MH ME MS k S2 fm wM) (hroom : 9 ≤ R.frames ∧ 200 ≤ R.locals) (hcells : cells ≤ R.cells ∧ slots ≤ R.slots) (hcat : (rest.map fun v => v.category).sum ≤ 8) (hlv : ls.size = nL) (d : decode cc pc = .ok (.invokevirtual 143, 3))
    (kk : ∀ (H : Heap) (locs : List Loc), ad_G D A s.heap H locs (WL K d0 m0 o1 o2 fs fm go gd wD wM) → W p l e R s m args below meth c H locs cells slots Q (F0 m (pc + 3) ls (.int (iI k) :: rest))) : W p l e R s m args below meth c H locs cells slots Q (F0 m pc ls (.ref m0 :: rest)) := by
  obtain ⟨isC, isR, X⟩ := ad_cutP (WL_m1 (K := K) (d0 := d0) (m0 := m0) (o1 := o1) (o2 := o2) (fs := fs) (fm := fm) (go := go) (gd := gd) (wD := wD) (wM := wM))
  obtain ⟨wA, wB, wV, wH, wQ, wR, wX, h1, h2, h3, h4, h5, h6, h7, ⟨xat, xwr, xwd, xlo, xhi, xwl, xml, xkl, xfi, xse, xdn, xon, xtw, xol, xrw, xgl, xus, xpr, xmk, xab, hO, he⟩, h8⟩ := hM
  have T := c_X11_thrown l D K z0 m0 M k ((sH S2).length : Int) (sN S2) ((sW S2).length : Int) xat (sE S2) xwr xwd xlo xhi xwl xml xkl xfi xse xdn xon xtw xol xrw xgl xus xpr xmk xab
  rw [← he] at T
  refine ad_callV (As := []) (rest := rest) F G T my_X11_thrown mv_L_143 X 11 0 rfl rfl rfl rfl ⟨Nat.le_trans (by decide) hroom.1, Nat.le_trans (by decide) hroom.2⟩ hcells hcat hlv ⟨rfl, rfl⟩ d (fun v u H locs hp G => ?_)
  obtain ⟨rfl, rfl⟩ := hp
  exact kk H locs (G.pm WL_m1')
/-- what both threw is compared -/
theorem la_t {k : Int} {S2 : Sx} (F : ad_F p s m args meth c RL nm cc nL ret D K z0 A) (G : ad_G D A s.heap H locs (WL K d0 m0 o1 o2 fs fm go gd wD wM)) (hM : MoI K M MH ME MS k S2 fm wM) (hk : 0 ≤ k ∧ k ≤ 10) (hroom : 9 ≤ R.frames ∧ 200 ≤ R.locals) (hcells : cells ≤ R.cells ∧ slots ≤ R.slots) (hlv : ls.size = nL) (h2 : ls[2]? = some (.val (.ref m0))) (h6 : ls[6]? = some (.val (.int (iI k)))) (d1 : decode cc pc = .ok (.aload_n 2, 1)) (d2 : decode cc (pc + 1) = .ok (.invokevirtual 143, 3)) (d3 : decode cc (pc + 1 + 3) = .ok (.iload 6, 2)) (d4 : decode cc (pc + 1 + 3 + 2) = .ok (.if_icmp .eq 5, 3)) (d5 : decode cc (pc + 1 + 3 + 2 + 5) = .ok (.iload 6, 2)) {off : Int} {tgt : Nat} (d6 : decode cc (pc + 1 + 3 + 2 + 5 + 2) = .ok (.ifCond .ne off, 3)) (t6 : ((pc + 1 + 3 + 2 + 5 + 2 : Nat) : Int) + off = (tgt : Int))
    (k1 : ∀ (H : Heap) (locs : List Loc), k ≠ 0 → ad_G D A s.heap H locs (WL K d0 m0 o1 o2 fs fm go gd wD wM) → W p l e R s m args below meth c H locs cells slots Q (F0 m tgt ls []))
    (k0 : ∀ (H : Heap) (locs : List Loc), k = 0 → ad_G D A s.heap H locs (WL K d0 m0 o1 o2 fs fm go gd wD wM) → W p l e R s m args below meth c H locs cells slots Q (F0 m (pc + 1 + 3 + 2 + 5 + 2 + 3) ls [])) : W p l e R s m args below meth c H locs cells slots Q (F0 m pc ls []) := by
  refine lv_aload_n F.1 F.2.1 d1 rfl h2 ?_
  refine la_th F G hM hroom hcells (by simp) hlv d2 (fun H locs G => ?_)
  refine lv_iload F.1 F.2.1 d3 h6 ?_
  refine ad_icmp_eq (tgt := pc + 1 + 3 + 2 + 5) F (by omega) d4 (by omega) (fun _ => ?_) (fun h => absurd rfl h)
  refine lv_iload F.1 F.2.1 d5 h6 ?_
  exact ad_if_ne F (by omega) d6 t6 (fun h => k1 H locs h G) (fun h => k0 H locs h G)
/-- the answers are compared: ints -/
theorem la_i {z : Int} (F : ad_F p s m args meth c own nm cc nL ret D K z0 A) (G : ad_G D A s.heap H locs (WL K d0 m0 o1 o2 fs fm go gd wD wM)) (hgo : go 0 = (iI z).toInt64) (h3 : ls[3]? = some (.val (.ref o1))) (h7 : ls[7]? = some (.val (.int (iI z)))) (d1 : decode cc pc = .ok (.aload_n 3, 1)) (d2 : decode cc (pc + 1) = .ok (.iconst 0, 1)) (d3 : decode cc (pc + 1 + 1) = .ok (.laload, 1)) (d4 : decode cc (pc + 1 + 1 + 1) = .ok (.iload 7, 2)) (d5 : decode cc (pc + 1 + 1 + 1 + 2) = .ok (.i2l, 1)) (d6 : decode cc (pc + 1 + 1 + 1 + 2 + 1) = .ok (.lcmp, 1)) {off : Int} {tgt : Nat} (d7 : decode cc (pc + 1 + 1 + 1 + 2 + 1 + 1) = .ok (.ifCond .eq off, 3)) (t7 : ((pc + 1 + 1 + 1 + 2 + 1 + 1 : Nat) : Int) + off = (tgt : Int))
    (kk : W p l e R s m args below meth c H locs cells slots Q (F0 m tgt ls [])) : W p l e R s m args below meth c H locs cells slots Q (F0 m pc ls []) := by
  refine lv_aload_n F.1 F.2.1 d1 rfl h3 ?_
  refine ad_iconst F d2 ?_
  refine ad_lald F G 2 rfl (z := 0) (by decide) hgo d3 ?_
  refine lv_iload F.1 F.2.1 d4 h7 ?_
  refine lv_i2l (v := (iI z).toInt64) F.1 F.2.1 d5 rfl ?_
  exact ad_lcmp_eq F d6 d7 t7 (fun _ => kk) (fun h => absurd rfl h)
/-- doubles -/
theorem dec_nn64 {x : UInt64} (h : vf_n64 x) : Jvm.FP.Core.decode Jvm.FP.Core.b64 x.toNat ≠ .nan := by
  unfold vf_n64 at h
  rw [UInt64.le_iff_toNat_le, UInt64.toNat_and] at h
  have h2 : x.toNat % 2 ^ 63 ≤ 9218868437227405312 := by
    rw [← Nat.and_two_pow_sub_one_eq_mod]; exact h
  intro hd
  unfold Jvm.FP.Core.decode at hd
  split at hd
  · split at hd
    · cases hd
    · rename_i h3 h4
      have e3 : Jvm.FP.Core.b64.tails = 4503599627370496 := by decide
      have e4 : Jvm.FP.Core.b64.exps = 2048 := by decide
      unfold Jvm.FP.Core.fieldE at h3
      unfold Jvm.FP.Core.fieldT at h4
      rw [e3, e4] at h3
      rw [e3] at h4
      omega
  · split at hd <;> cases hd
theorem cmp_same (z : Int) : compare z z = Ordering.eq := by
  simp
theorem dc_self {x : UInt64} (h : vf_n64 x) : Op.cmpValue (FP.dcmp x x) .l = 0 := by
  have hd := dec_nn64 h
  have e : FP.dcmp x x = some Ordering.eq := by
    show Jvm.FP.Core.order (Jvm.FP.Core.decode Jvm.FP.Core.b64 x.toNat) (Jvm.FP.Core.decode Jvm.FP.Core.b64 x.toNat) = some Ordering.eq
    generalize Jvm.FP.Core.decode Jvm.FP.Core.b64 x.toNat = d at hd
    cases d with
    | nan => exact absurd rfl hd
    | inf s => simp only [Jvm.FP.Core.order, cmp_same]
    | fin s c q => simp only [Jvm.FP.Core.order, cmp_same]
  rw [e]; rfl
theorem ad_dald (F : ad_F p s m args meth c own nm cc nL ret D K z0 A) {ws : va_W} {a : Nat} (G : ad_G D A s.heap H locs ws) (q0 : Nat) {n : Nat} {g : Nat → UInt64} (he : ws[q0]? = some (a, aD (K 9) n g)) {z : Int} {w : UInt64} (hz : 0 ≤ z ∧ z < n ∧ z < 2147483648) (hw : g z.toNat = w) (d : decode cc pc = .ok (.daload, 1)) (k : W p l e R s m args below meth c H locs cells slots Q (F0 m (pc + 1) ls (.double w :: rest))) : W p l e R s m args below meth c H locs cells slots Q (F0 m pc ls (.int (iI z) :: .ref a :: rest)) := by
  subst hw
  refine va_dald (D := D) F.1 F.2.1 F.2.2.2.2.2.2.2.1 G.1 q0 9 he rfl (iI_in hz) d ?_
  rw [iI_cl ⟨hz.1, hz.2.2⟩]
  exact k
end LWC
