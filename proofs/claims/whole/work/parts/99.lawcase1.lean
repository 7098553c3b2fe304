/-! the law's cases -/
theorem x32 (x : Int32) : -2147483648 ≤ x.toInt ∧ x.toInt < 2147483648 := ⟨by have := Int32.le_toInt x; omega, by have := Int32.toInt_lt x; omega⟩
theorem ch_r (z : Int) : 0 ≤ z % 65536 ∧ z % 65536 < 65536 := by omega
theorem share_nn {n : Nat} {S : Sx} (hS : SxI n S) (c : Cm) (h : (an_share S c).1 = 0) : vf_n64 (an_share S c).2.1 := by
  have q := hS.2.2.2.2.2.2.1
  have e : sT S = 1 := by
    by_cases h1 : sT S = 1
    · exact h1
    · simp only [an_share, if_neg h1] at h
      exact absurd h (by decide)
  have hg := q.2.2.2.2.2.2 e
  simp only [an_share, if_pos e]
  exact ddiv_ok (i2d_fin ⟨by omega, by have := q.2.2.1; omega⟩) (i2d_nz ⟨hg.1, hg.2⟩)
theorem cpV_01 (P : Prop) : cpV P = 0 ∨ cpV P = 1 := by
  by_cases h : P
  · exact Or.inr (cpV_eq (c := 1) ⟨fun _ => h, fun _ => rfl⟩ (Or.inr rfl))
  · exact Or.inl (cpV_eq (c := 0) ⟨fun q => absurd q (by decide), fun q => absurd q h⟩ (Or.inl rfl))
theorem copy_01 {S : Sx} {r k : Int} (c : Cm) (h : (an_copyLengths S r k c).1 = 0) : (an_copyLengths S r k c).2.1 = 0 ∨ (an_copyLengths S r k c).2.1 = 1 := by
  unfold an_copyLengths at h ⊢
  repeat' split
  all_goals first | exact cpV_01 _ | exact Or.inl rfl
/-- the law's locals -/
abbrev LV (b d0 m0 o1 o2 : Nat) (i : Int) : List (Nat × Value) := [(5, .int (iI i)), (4, .ref o2), (3, .ref o1), (2, .ref m0), (1, .ref d0), (0, .ref b)]
/-- what comes behind a call, at the loop's end -/
def LK (p : Program) (l : Launch) (e : Env) (R : Room) (s : State) (m : MethodId) (args : Array Value) (below : List Frame) (meth : Method) (c : Code) (cells slots : Nat) (Q : State → Prop) (D : va_G) (A : Nat → Prop) (K : Nat → ClassId) (b d0 m0 o1 o2 n : Nat) (N M MH ME MS : Nat → Nat) (i : Int) : Prop := ∀ (S2 : Sx) (xth2 : Int) (fs2 fm2 : List Value) (wD2 wM2 : va_W) (go2 : Nat → Int64) (gd2 : Nat → UInt64) (H : Heap) (locs : List Loc) (ls : Array Slot), DkI K N (n + 1) S2 fs2 wD2 → MoI K M MH ME MS xth2 S2 fm2 wM2 → SxI (n + 1) S2 → ad_G D A s.heap H locs (WL K d0 m0 o1 o2 fs2 fm2 go2 gd2 wD2 wM2) → lv_has ls 9 (LV b d0 m0 o1 o2 i) → W p l e R s m args below meth c H locs (cells + 4) (slots + 1214) Q (F0 m 2225 ls [])
set_option maxRecDepth 20000 in
theorem lc_clear {p : Program} {l : Launch} {e : Env} {R : Room} {s : State} {m : MethodId} {args : Array Value} {below : List Frame} {meth : Method} {c : Code} {H : Heap} {locs : List Loc} {cells slots : Nat} {Q : State → Prop} {ret : Option FieldType} {D : va_G} {K : Nat → ClassId} {z0 : Nat} {A : Nat → Prop} {ls : Array Slot} {b d0 m0 o1 o2 L n : Nat} {xs : Nat → Int32} {fs fm : List Value} {go : Nat → Int64} {gd : Nat → UInt64} {wD wM : va_W} {N M MH ME MS : Nat → Nat} {S : Sx} {xth i : Int} {nm : String} (hl0 : l.stackTraces = false) (F : ad_F p s m args meth c RL nm cL_law 9 ret D K z0 A) (B : LB s A b L xs) (hn : n < 512) (hD : DkI K N n S fs wD) (hM : MoI K M MH ME MS xth S fm wM) (hS : SxI n S) (hi : 0 ≤ i ∧ i + 4 ≤ L ∧ L ≤ 2048) (hR : 20 ≤ R.frames ∧ 1000 ≤ R.locals) (hC : cells + 4 ≤ R.cells ∧ slots + 1214 ≤ R.slots) (G : ad_G D A s.heap H locs (WL K d0 m0 o1 o2 fs fm go gd wD wM)) (hl : lv_has ls 9 (LV b d0 m0 o1 o2 i)) (kk : LK p l e R s m args below meth c cells slots Q D A K b d0 m0 o1 o2 n N M MH ME MS i) : W p l e R s m args below meth c H locs cells slots Q (F0 m 200 ls []) := by
  refine lv_aload_n F.1 F.2.1 dL_law_200 rfl (lv_at hl 4 rfl) ?_
  refine la_f (a := (an_clear S)) F G (dk_clear l hl0 D K z0 N d0 hn hD hS) my_X10_clear mv_L_133 rfl ⟨by omega, by omega⟩ hC (by simp) hl.1 dL_law_201 (fun cm fs2 wD2 H locs hc0 hS2 hD2 G => ?_)
  refine lv_aload_n F.1 F.2.1 dL_law_204 rfl (lv_at hl 3 rfl) ?_
  refine la_m (As := []) (mkv := fun z => .int (iI z)) (a := (an_clear S)) F G (md_clear l D K z0 M MH ME MS m0 hM hS) my_X11_clear mv_L_136 rfl rfl rfl ⟨by omega, by omega⟩ ⟨by omega, by omega⟩ (Nat.le_of_ble_eq_true rfl) hl.1 dL_law_205 (fun z fm2 wM2 H locs hq G => ?_)
  obtain ⟨hq1, hq2⟩ := hq cm
  rw [hq1 hc0]
  refine lv_icmp_eq (tgt := 2225) F.1 F.2.1 dL_law_208 (by decide) (fun _ => ?_) (fun h => absurd rfl h)
  exact kk _ _ _ _ _ _ _ _ _ _ _ hD2 hq2 hS2 G hl
theorem my_L_append : ad_myH yL_append cL_append 4 (some .int) hL_append 3 := ⟨(ad_mt (List.mem_of_getElem? (i := 475) (by decide +kernel)) (by decide +kernel)), ⟨by decide, by decide, by decide +kernel⟩, (ad_mt (List.mem_of_getElem? (i := 0) (by decide +kernel)) (by decide +kernel))⟩
set_option maxRecDepth 20000 in
theorem lc_append {p : Program} {l : Launch} {e : Env} {R : Room} {s : State} {m : MethodId} {args : Array Value} {below : List Frame} {meth : Method} {c : Code} {H : Heap} {locs : List Loc} {cells slots : Nat} {Q : State → Prop} {ret : Option FieldType} {D : va_G} {K : Nat → ClassId} {z0 : Nat} {A : Nat → Prop} {ls : Array Slot} {b d0 m0 o1 o2 L n : Nat} {xs : Nat → Int32} {fs fm : List Value} {go : Nat → Int64} {gd : Nat → UInt64} {wD wM : va_W} {N M MH ME MS : Nat → Nat} {S : Sx} {xth i : Int} {nm : String} (hl0 : l.stackTraces = false) (F : ad_F p s m args meth c RL nm cL_law 9 ret D K z0 A) (B : LB s A b L xs) (hn : n < 512) (hD : DkI K N n S fs wD) (hM : MoI K M MH ME MS xth S fm wM) (hS : SxI n S) (hi : 0 ≤ i ∧ i + 4 ≤ L ∧ L ≤ 2048) (hR : 20 ≤ R.frames ∧ 1000 ≤ R.locals) (hC : cells + 4 ≤ R.cells ∧ slots + 1214 ≤ R.slots) (G : ad_G D A s.heap H locs (WL K d0 m0 o1 o2 fs fm go gd wD wM)) (hl : lv_has ls 9 (LV b d0 m0 o1 o2 i)) (kk : LK p l e R s m args below meth c cells slots Q D A K b d0 m0 o1 o2 n N M MH ME MS i) : W p l e R s m args below meth c H locs cells slots Q (F0 m 213 ls []) := by
  refine lv_aload_n F.1 F.2.1 dL_law_213 rfl (lv_at hl 4 rfl) ?_
  refine la_x F G B (lv_at hl 5 rfl) (lv_at hl 0 rfl) (k := 1) ⟨by omega, by omega, by omega⟩ dL_law_214 dL_law_215 dL_law_217 dL_law_218 dL_law_219 ?_
  refine lv_i2c (v := iI ((xs (i + 1).toNat).toInt % 65536)) F.1 F.2.1 dL_law_220 (ch_eq (x32 _)) ?_
  refine lv_aload_n F.1 F.2.1 dL_law_221 rfl (lv_at hl 2 rfl) ?_
  refine la_c (As := [.ref d0, .int (iI ((xs (i + 1).toNat).toInt % 65536)), .ref o1]) (a := (an_append S ((xs (i + 1).toNat).toInt % 65536))) F G (w_append l D K z0 d0 o1 fs wD go ((xs (i + 1).toNat).toInt % 65536) (PRg K N n (an_append S ((xs (i + 1).toNat).toInt % 65536))) (PXg K N n (an_append S ((xs (i + 1).toNat).toInt % 65536))) (dk_append l hl0 D K z0 N d0 hn hD hS ((xs (i + 1).toNat).toInt % 65536) (ch_r _))) my_L_append ms_L_137 (by decide) rfl rfl ⟨by omega, by omega⟩ hC (by simp) hl.1 dL_law_222 (fun cm fs2 wD2 go2 H locs hc0 hcg hS2 hD2 G => ?_)
  refine lv_istore (lv' := (6, .int (iI ((an_append S ((xs (i + 1).toNat).toInt % 65536)) cm).1)) :: LV b d0 m0 o1 o2 i) F.1 F.2.1 dL_law_225 hl (by decide) rfl (fun ls hl => ?_)
  refine lv_aload_n F.1 F.2.1 dL_law_227 rfl (lv_at hl 4 rfl) ?_
  refine la_x F G B (lv_at hl 6 rfl) (lv_at hl 1 rfl) (k := 1) ⟨by omega, by omega, by omega⟩ dL_law_228 dL_law_229 dL_law_231 dL_law_232 dL_law_233 ?_
  refine lv_i2c (v := iI ((xs (i + 1).toNat).toInt % 65536)) F.1 F.2.1 dL_law_234 (ch_eq (x32 _)) ?_
  refine la_m (As := [.int (iI ((xs (i + 1).toNat).toInt % 65536))]) (mkv := fun z => .int (iI z)) (a := (an_append S ((xs (i + 1).toNat).toInt % 65536))) F G (md_append l D K z0 M MH ME MS m0 hM hS ((xs (i + 1).toNat).toInt % 65536) (ch_r _)) my_X11_append mv_L_142 rfl rfl rfl ⟨by omega, by omega⟩ ⟨by omega, by omega⟩ (Nat.le_of_ble_eq_true rfl) hl.1 dL_law_235 (fun z fm2 wM2 H locs hq G => ?_)
  refine lv_istore (lv' := (7, .int (iI z)) :: (6, .int (iI ((an_append S ((xs (i + 1).toNat).toInt % 65536)) cm).1)) :: LV b d0 m0 o1 o2 i) F.1 F.2.1 dL_law_238 hl (by decide) rfl (fun ls hl => ?_)
  obtain ⟨hq1, hq2⟩ := hq cm
  refine la_t (tgt := 268) F G hq2 hc0 ⟨by omega, by omega⟩ ⟨by omega, by omega⟩ hl.1 (lv_at hl 5 rfl) (lv_at hl 1 rfl) dL_law_240 dL_law_241 dL_law_244 dL_law_246 dL_law_251 dL_law_253 (by decide) (fun H locs _ G => ?_) (fun H locs hk G => ?_)
  · skip
    refine lv_goto (tgt := 2225) F.1 F.2.1 dL_law_268 (by decide) ?_
    exact kk _ _ _ _ _ _ _ _ _ _ _ hD2 hq2 hS2 G (lv_sub hl [2, 3, 4, 5, 6, 7] rfl)
  · have hg := hcg hk
    rw [hq1 hk] at hg
    refine la_i (tgt := 268) F G hg (lv_at hl 4 rfl) (lv_at hl 0 rfl) dL_law_256 dL_law_257 dL_law_258 dL_law_259 dL_law_261 dL_law_262 dL_law_263 (by decide) ?_
    refine lv_goto (tgt := 2225) F.1 F.2.1 dL_law_268 (by decide) ?_
    exact kk _ _ _ _ _ _ _ _ _ _ _ hD2 hq2 hS2 G (lv_sub hl [2, 3, 4, 5, 6, 7] rfl)
theorem my_L_addRule : ad_myH yL_addRule cL_addRule 6 (some .int) hL_addRule 5 := ⟨(ad_mt (List.mem_of_getElem? (i := 572) (by decide +kernel)) (by decide +kernel)), ⟨by decide, by decide, by decide +kernel⟩, (ad_mt (List.mem_of_getElem? (i := 0) (by decide +kernel)) (by decide +kernel))⟩
set_option maxRecDepth 20000 in
theorem lc_addRule {p : Program} {l : Launch} {e : Env} {R : Room} {s : State} {m : MethodId} {args : Array Value} {below : List Frame} {meth : Method} {c : Code} {H : Heap} {locs : List Loc} {cells slots : Nat} {Q : State → Prop} {ret : Option FieldType} {D : va_G} {K : Nat → ClassId} {z0 : Nat} {A : Nat → Prop} {ls : Array Slot} {b d0 m0 o1 o2 L n : Nat} {xs : Nat → Int32} {fs fm : List Value} {go : Nat → Int64} {gd : Nat → UInt64} {wD wM : va_W} {N M MH ME MS : Nat → Nat} {S : Sx} {xth i : Int} {nm : String} (hl0 : l.stackTraces = false) (F : ad_F p s m args meth c RL nm cL_law 9 ret D K z0 A) (B : LB s A b L xs) (hn : n < 512) (hD : DkI K N n S fs wD) (hM : MoI K M MH ME MS xth S fm wM) (hS : SxI n S) (hi : 0 ≤ i ∧ i + 4 ≤ L ∧ L ≤ 2048) (hR : 20 ≤ R.frames ∧ 1000 ≤ R.locals) (hC : cells + 4 ≤ R.cells ∧ slots + 1214 ≤ R.slots) (G : ad_G D A s.heap H locs (WL K d0 m0 o1 o2 fs fm go gd wD wM)) (hl : lv_has ls 9 (LV b d0 m0 o1 o2 i)) (kk : LK p l e R s m args below meth c cells slots Q D A K b d0 m0 o1 o2 n N M MH ME MS i) : W p l e R s m args below meth c H locs cells slots Q (F0 m 271 ls []) := by
  refine lv_aload_n F.1 F.2.1 dL_law_271 rfl (lv_at hl 4 rfl) ?_
  refine la_x F G B (lv_at hl 5 rfl) (lv_at hl 0 rfl) (k := 1) ⟨by omega, by omega, by omega⟩ dL_law_272 dL_law_273 dL_law_275 dL_law_276 dL_law_277 ?_
  refine la_x F G B (lv_at hl 5 rfl) (lv_at hl 0 rfl) (k := 2) ⟨by omega, by omega, by omega⟩ dL_law_278 dL_law_279 dL_law_281 dL_law_282 dL_law_283 ?_
  refine la_x F G B (lv_at hl 5 rfl) (lv_at hl 0 rfl) (k := 3) ⟨by omega, by omega, by omega⟩ dL_law_284 dL_law_285 dL_law_287 dL_law_288 dL_law_289 ?_
  refine lv_aload_n F.1 F.2.1 dL_law_290 rfl (lv_at hl 2 rfl) ?_
  refine la_c (As := [.ref d0, .int (iI ((xs (i + 1).toNat).toInt)), .int (iI ((xs (i + 2).toNat).toInt)), .int (iI ((xs (i + 3).toNat).toInt)), .ref o1]) (a := (an_addRule S ((xs (i + 1).toNat).toInt) ((xs (i + 2).toNat).toInt) ((xs (i + 3).toNat).toInt))) F G (w_addRule l D K z0 d0 o1 fs wD go ((xs (i + 1).toNat).toInt) ((xs (i + 2).toNat).toInt) ((xs (i + 3).toNat).toInt) (PRg K N n (an_addRule S ((xs (i + 1).toNat).toInt) ((xs (i + 2).toNat).toInt) ((xs (i + 3).toNat).toInt))) (PXg K N n (an_addRule S ((xs (i + 1).toNat).toInt) ((xs (i + 2).toNat).toInt) ((xs (i + 3).toNat).toInt))) (dk_addRule l hl0 D K z0 N d0 hn hD hS ((xs (i + 1).toNat).toInt) ((xs (i + 2).toNat).toInt) ((xs (i + 3).toNat).toInt) (x32 _) (x32 _) (x32 _))) my_L_addRule ms_L_146 (by decide) rfl rfl ⟨by omega, by omega⟩ hC (by simp) hl.1 dL_law_291 (fun cm fs2 wD2 go2 H locs hc0 hcg hS2 hD2 G => ?_)
  refine lv_istore (lv' := (6, .int (iI ((an_addRule S ((xs (i + 1).toNat).toInt) ((xs (i + 2).toNat).toInt) ((xs (i + 3).toNat).toInt)) cm).1)) :: LV b d0 m0 o1 o2 i) F.1 F.2.1 dL_law_294 hl (by decide) rfl (fun ls hl => ?_)
  refine lv_aload_n F.1 F.2.1 dL_law_296 rfl (lv_at hl 4 rfl) ?_
  refine la_x F G B (lv_at hl 6 rfl) (lv_at hl 1 rfl) (k := 1) ⟨by omega, by omega, by omega⟩ dL_law_297 dL_law_298 dL_law_300 dL_law_301 dL_law_302 ?_
  refine la_x F G B (lv_at hl 6 rfl) (lv_at hl 1 rfl) (k := 2) ⟨by omega, by omega, by omega⟩ dL_law_303 dL_law_304 dL_law_306 dL_law_307 dL_law_308 ?_
  refine la_x F G B (lv_at hl 6 rfl) (lv_at hl 1 rfl) (k := 3) ⟨by omega, by omega, by omega⟩ dL_law_309 dL_law_310 dL_law_312 dL_law_313 dL_law_314 ?_
  refine la_m (As := [.int (iI ((xs (i + 1).toNat).toInt)), .int (iI ((xs (i + 2).toNat).toInt)), .int (iI ((xs (i + 3).toNat).toInt))]) (mkv := fun z => .int (iI z)) (a := (an_addRule S ((xs (i + 1).toNat).toInt) ((xs (i + 2).toNat).toInt) ((xs (i + 3).toNat).toInt))) F G (md_addRule l D K z0 M MH ME MS m0 hM hS ((xs (i + 1).toNat).toInt) ((xs (i + 2).toNat).toInt) ((xs (i + 3).toNat).toInt) (x32 _) (x32 _) (x32 _)) my_X11_addRule mv_L_149 rfl rfl rfl ⟨by omega, by omega⟩ ⟨by omega, by omega⟩ (Nat.le_of_ble_eq_true rfl) hl.1 dL_law_315 (fun z fm2 wM2 H locs hq G => ?_)
  refine lv_istore (lv' := (7, .int (iI z)) :: (6, .int (iI ((an_addRule S ((xs (i + 1).toNat).toInt) ((xs (i + 2).toNat).toInt) ((xs (i + 3).toNat).toInt)) cm).1)) :: LV b d0 m0 o1 o2 i) F.1 F.2.1 dL_law_318 hl (by decide) rfl (fun ls hl => ?_)
  obtain ⟨hq1, hq2⟩ := hq cm
  refine la_t (tgt := 348) F G hq2 hc0 ⟨by omega, by omega⟩ ⟨by omega, by omega⟩ hl.1 (lv_at hl 5 rfl) (lv_at hl 1 rfl) dL_law_320 dL_law_321 dL_law_324 dL_law_326 dL_law_331 dL_law_333 (by decide) (fun H locs _ G => ?_) (fun H locs hk G => ?_)
  · skip
    refine lv_goto (tgt := 2225) F.1 F.2.1 dL_law_348 (by decide) ?_
    exact kk _ _ _ _ _ _ _ _ _ _ _ hD2 hq2 hS2 G (lv_sub hl [2, 3, 4, 5, 6, 7] rfl)
  · have hg := hcg hk
    rw [hq1 hk] at hg
    refine la_i (tgt := 348) F G hg (lv_at hl 4 rfl) (lv_at hl 0 rfl) dL_law_336 dL_law_337 dL_law_338 dL_law_339 dL_law_341 dL_law_342 dL_law_343 (by decide) ?_
    refine lv_goto (tgt := 2225) F.1 F.2.1 dL_law_348 (by decide) ?_
    exact kk _ _ _ _ _ _ _ _ _ _ _ hD2 hq2 hS2 G (lv_sub hl [2, 3, 4, 5, 6, 7] rfl)
theorem my_L_removeRule : ad_myH yL_removeRule cL_removeRule 4 (some .int) hL_removeRule 3 := ⟨(ad_mt (List.mem_of_getElem? (i := 723) (by decide +kernel)) (by decide +kernel)), ⟨by decide, by decide, by decide +kernel⟩, (ad_mt (List.mem_of_getElem? (i := 0) (by decide +kernel)) (by decide +kernel))⟩
set_option maxRecDepth 20000 in
theorem lc_removeRule {p : Program} {l : Launch} {e : Env} {R : Room} {s : State} {m : MethodId} {args : Array Value} {below : List Frame} {meth : Method} {c : Code} {H : Heap} {locs : List Loc} {cells slots : Nat} {Q : State → Prop} {ret : Option FieldType} {D : va_G} {K : Nat → ClassId} {z0 : Nat} {A : Nat → Prop} {ls : Array Slot} {b d0 m0 o1 o2 L n : Nat} {xs : Nat → Int32} {fs fm : List Value} {go : Nat → Int64} {gd : Nat → UInt64} {wD wM : va_W} {N M MH ME MS : Nat → Nat} {S : Sx} {xth i : Int} {nm : String} (hl0 : l.stackTraces = false) (F : ad_F p s m args meth c RL nm cL_law 9 ret D K z0 A) (B : LB s A b L xs) (hn : n < 512) (hD : DkI K N n S fs wD) (hM : MoI K M MH ME MS xth S fm wM) (hS : SxI n S) (hi : 0 ≤ i ∧ i + 4 ≤ L ∧ L ≤ 2048) (hR : 20 ≤ R.frames ∧ 1000 ≤ R.locals) (hC : cells + 4 ≤ R.cells ∧ slots + 1214 ≤ R.slots) (G : ad_G D A s.heap H locs (WL K d0 m0 o1 o2 fs fm go gd wD wM)) (hl : lv_has ls 9 (LV b d0 m0 o1 o2 i)) (kk : LK p l e R s m args below meth c cells slots Q D A K b d0 m0 o1 o2 n N M MH ME MS i) : W p l e R s m args below meth c H locs cells slots Q (F0 m 351 ls []) := by
  refine lv_aload_n F.1 F.2.1 dL_law_351 rfl (lv_at hl 4 rfl) ?_
  refine la_x F G B (lv_at hl 5 rfl) (lv_at hl 0 rfl) (k := 1) ⟨by omega, by omega, by omega⟩ dL_law_352 dL_law_353 dL_law_355 dL_law_356 dL_law_357 ?_
  refine lv_aload_n F.1 F.2.1 dL_law_358 rfl (lv_at hl 2 rfl) ?_
  refine la_c (As := [.ref d0, .int (iI ((xs (i + 1).toNat).toInt)), .ref o1]) (a := (an_removeRule S ((xs (i + 1).toNat).toInt))) F G (w_removeRule l D K z0 d0 o1 fs wD go ((xs (i + 1).toNat).toInt) (PRg K N n (an_removeRule S ((xs (i + 1).toNat).toInt))) (PXg K N n (an_removeRule S ((xs (i + 1).toNat).toInt))) (dk_removeRule l hl0 D K z0 N d0 hn hD hS ((xs (i + 1).toNat).toInt) (x32 _))) my_L_removeRule ms_L_150 (by decide) rfl rfl ⟨by omega, by omega⟩ hC (by simp) hl.1 dL_law_359 (fun cm fs2 wD2 go2 H locs hc0 hcg hS2 hD2 G => ?_)
  refine lv_istore (lv' := (6, .int (iI ((an_removeRule S ((xs (i + 1).toNat).toInt)) cm).1)) :: LV b d0 m0 o1 o2 i) F.1 F.2.1 dL_law_362 hl (by decide) rfl (fun ls hl => ?_)
  refine lv_aload_n F.1 F.2.1 dL_law_364 rfl (lv_at hl 4 rfl) ?_
  refine la_x F G B (lv_at hl 6 rfl) (lv_at hl 1 rfl) (k := 1) ⟨by omega, by omega, by omega⟩ dL_law_365 dL_law_366 dL_law_368 dL_law_369 dL_law_370 ?_
  refine la_m (As := [.int (iI ((xs (i + 1).toNat).toInt))]) (mkv := fun z => .int (iI z)) (a := (an_removeRule S ((xs (i + 1).toNat).toInt))) F G (md_removeRule l D K z0 M MH ME MS m0 hM hS ((xs (i + 1).toNat).toInt) (x32 _)) my_X11_removeRule mv_L_153 rfl rfl rfl ⟨by omega, by omega⟩ ⟨by omega, by omega⟩ (Nat.le_of_ble_eq_true rfl) hl.1 dL_law_371 (fun z fm2 wM2 H locs hq G => ?_)
  refine lv_istore (lv' := (7, .int (iI z)) :: (6, .int (iI ((an_removeRule S ((xs (i + 1).toNat).toInt)) cm).1)) :: LV b d0 m0 o1 o2 i) F.1 F.2.1 dL_law_374 hl (by decide) rfl (fun ls hl => ?_)
  obtain ⟨hq1, hq2⟩ := hq cm
  refine la_t (tgt := 404) F G hq2 hc0 ⟨by omega, by omega⟩ ⟨by omega, by omega⟩ hl.1 (lv_at hl 5 rfl) (lv_at hl 1 rfl) dL_law_376 dL_law_377 dL_law_380 dL_law_382 dL_law_387 dL_law_389 (by decide) (fun H locs _ G => ?_) (fun H locs hk G => ?_)
  · skip
    refine lv_goto (tgt := 2225) F.1 F.2.1 dL_law_404 (by decide) ?_
    exact kk _ _ _ _ _ _ _ _ _ _ _ hD2 hq2 hS2 G (lv_sub hl [2, 3, 4, 5, 6, 7] rfl)
  · have hg := hcg hk
    rw [hq1 hk] at hg
    refine la_i (tgt := 404) F G hg (lv_at hl 4 rfl) (lv_at hl 0 rfl) dL_law_392 dL_law_393 dL_law_394 dL_law_395 dL_law_397 dL_law_398 dL_law_399 (by decide) ?_
    refine lv_goto (tgt := 2225) F.1 F.2.1 dL_law_404 (by decide) ?_
    exact kk _ _ _ _ _ _ _ _ _ _ _ hD2 hq2 hS2 G (lv_sub hl [2, 3, 4, 5, 6, 7] rfl)
theorem my_L_setPriority : ad_myH yL_setPriority cL_setPriority 5 (some .int) hL_setPriority 4 := ⟨(ad_mt (List.mem_of_getElem? (i := 734) (by decide +kernel)) (by decide +kernel)), ⟨by decide, by decide, by decide +kernel⟩, (ad_mt (List.mem_of_getElem? (i := 0) (by decide +kernel)) (by decide +kernel))⟩
set_option maxRecDepth 20000 in
theorem lc_setPriority {p : Program} {l : Launch} {e : Env} {R : Room} {s : State} {m : MethodId} {args : Array Value} {below : List Frame} {meth : Method} {c : Code} {H : Heap} {locs : List Loc} {cells slots : Nat} {Q : State → Prop} {ret : Option FieldType} {D : va_G} {K : Nat → ClassId} {z0 : Nat} {A : Nat → Prop} {ls : Array Slot} {b d0 m0 o1 o2 L n : Nat} {xs : Nat → Int32} {fs fm : List Value} {go : Nat → Int64} {gd : Nat → UInt64} {wD wM : va_W} {N M MH ME MS : Nat → Nat} {S : Sx} {xth i : Int} {nm : String} (hl0 : l.stackTraces = false) (F : ad_F p s m args meth c RL nm cL_law 9 ret D K z0 A) (B : LB s A b L xs) (hn : n < 512) (hD : DkI K N n S fs wD) (hM : MoI K M MH ME MS xth S fm wM) (hS : SxI n S) (hi : 0 ≤ i ∧ i + 4 ≤ L ∧ L ≤ 2048) (hR : 20 ≤ R.frames ∧ 1000 ≤ R.locals) (hC : cells + 4 ≤ R.cells ∧ slots + 1214 ≤ R.slots) (G : ad_G D A s.heap H locs (WL K d0 m0 o1 o2 fs fm go gd wD wM)) (hl : lv_has ls 9 (LV b d0 m0 o1 o2 i)) (kk : LK p l e R s m args below meth c cells slots Q D A K b d0 m0 o1 o2 n N M MH ME MS i) : W p l e R s m args below meth c H locs cells slots Q (F0 m 407 ls []) := by
  refine lv_aload_n F.1 F.2.1 dL_law_407 rfl (lv_at hl 4 rfl) ?_
  refine la_x F G B (lv_at hl 5 rfl) (lv_at hl 0 rfl) (k := 1) ⟨by omega, by omega, by omega⟩ dL_law_408 dL_law_409 dL_law_411 dL_law_412 dL_law_413 ?_
  refine la_x F G B (lv_at hl 5 rfl) (lv_at hl 0 rfl) (k := 2) ⟨by omega, by omega, by omega⟩ dL_law_414 dL_law_415 dL_law_417 dL_law_418 dL_law_419 ?_
  refine lv_aload_n F.1 F.2.1 dL_law_420 rfl (lv_at hl 2 rfl) ?_
  refine la_c (As := [.ref d0, .int (iI ((xs (i + 1).toNat).toInt)), .int (iI ((xs (i + 2).toNat).toInt)), .ref o1]) (a := (an_setPriority S ((xs (i + 1).toNat).toInt) ((xs (i + 2).toNat).toInt))) F G (w_setPriority l D K z0 d0 o1 fs wD go ((xs (i + 1).toNat).toInt) ((xs (i + 2).toNat).toInt) (PRg K N n (an_setPriority S ((xs (i + 1).toNat).toInt) ((xs (i + 2).toNat).toInt))) (PXg K N n (an_setPriority S ((xs (i + 1).toNat).toInt) ((xs (i + 2).toNat).toInt))) (dk_setPriority l hl0 D K z0 N d0 hn hD hS ((xs (i + 1).toNat).toInt) ((xs (i + 2).toNat).toInt) (x32 _) (x32 _))) my_L_setPriority ms_L_154 (by decide) rfl rfl ⟨by omega, by omega⟩ hC (by simp) hl.1 dL_law_421 (fun cm fs2 wD2 go2 H locs hc0 hcg hS2 hD2 G => ?_)
  refine lv_istore (lv' := (6, .int (iI ((an_setPriority S ((xs (i + 1).toNat).toInt) ((xs (i + 2).toNat).toInt)) cm).1)) :: LV b d0 m0 o1 o2 i) F.1 F.2.1 dL_law_424 hl (by decide) rfl (fun ls hl => ?_)
  refine lv_aload_n F.1 F.2.1 dL_law_426 rfl (lv_at hl 4 rfl) ?_
  refine la_x F G B (lv_at hl 6 rfl) (lv_at hl 1 rfl) (k := 1) ⟨by omega, by omega, by omega⟩ dL_law_427 dL_law_428 dL_law_430 dL_law_431 dL_law_432 ?_
  refine la_x F G B (lv_at hl 6 rfl) (lv_at hl 1 rfl) (k := 2) ⟨by omega, by omega, by omega⟩ dL_law_433 dL_law_434 dL_law_436 dL_law_437 dL_law_438 ?_
  refine la_m (As := [.int (iI ((xs (i + 1).toNat).toInt)), .int (iI ((xs (i + 2).toNat).toInt))]) (mkv := fun z => .int (iI z)) (a := (an_setPriority S ((xs (i + 1).toNat).toInt) ((xs (i + 2).toNat).toInt))) F G (md_setPriority l D K z0 M MH ME MS m0 hM hS ((xs (i + 1).toNat).toInt) ((xs (i + 2).toNat).toInt) (x32 _) (x32 _)) my_X11_setPriority mv_L_157 rfl rfl rfl ⟨by omega, by omega⟩ ⟨by omega, by omega⟩ (Nat.le_of_ble_eq_true rfl) hl.1 dL_law_439 (fun z fm2 wM2 H locs hq G => ?_)
  refine lv_istore (lv' := (7, .int (iI z)) :: (6, .int (iI ((an_setPriority S ((xs (i + 1).toNat).toInt) ((xs (i + 2).toNat).toInt)) cm).1)) :: LV b d0 m0 o1 o2 i) F.1 F.2.1 dL_law_442 hl (by decide) rfl (fun ls hl => ?_)
  obtain ⟨hq1, hq2⟩ := hq cm
  refine la_t (tgt := 472) F G hq2 hc0 ⟨by omega, by omega⟩ ⟨by omega, by omega⟩ hl.1 (lv_at hl 5 rfl) (lv_at hl 1 rfl) dL_law_444 dL_law_445 dL_law_448 dL_law_450 dL_law_455 dL_law_457 (by decide) (fun H locs _ G => ?_) (fun H locs hk G => ?_)
  · skip
    refine lv_goto (tgt := 2225) F.1 F.2.1 dL_law_472 (by decide) ?_
    exact kk _ _ _ _ _ _ _ _ _ _ _ hD2 hq2 hS2 G (lv_sub hl [2, 3, 4, 5, 6, 7] rfl)
  · have hg := hcg hk
    rw [hq1 hk] at hg
    refine la_i (tgt := 472) F G hg (lv_at hl 4 rfl) (lv_at hl 0 rfl) dL_law_460 dL_law_461 dL_law_462 dL_law_463 dL_law_465 dL_law_466 dL_law_467 (by decide) ?_
    refine lv_goto (tgt := 2225) F.1 F.2.1 dL_law_472 (by decide) ?_
    exact kk _ _ _ _ _ _ _ _ _ _ _ hD2 hq2 hS2 G (lv_sub hl [2, 3, 4, 5, 6, 7] rfl)
theorem my_L_setContext : ad_myH yL_setContext cL_setContext 5 (some .int) hL_setContext 4 := ⟨(ad_mt (List.mem_of_getElem? (i := 744) (by decide +kernel)) (by decide +kernel)), ⟨by decide, by decide, by decide +kernel⟩, (ad_mt (List.mem_of_getElem? (i := 0) (by decide +kernel)) (by decide +kernel))⟩
set_option maxRecDepth 20000 in
theorem lc_setContext {p : Program} {l : Launch} {e : Env} {R : Room} {s : State} {m : MethodId} {args : Array Value} {below : List Frame} {meth : Method} {c : Code} {H : Heap} {locs : List Loc} {cells slots : Nat} {Q : State → Prop} {ret : Option FieldType} {D : va_G} {K : Nat → ClassId} {z0 : Nat} {A : Nat → Prop} {ls : Array Slot} {b d0 m0 o1 o2 L n : Nat} {xs : Nat → Int32} {fs fm : List Value} {go : Nat → Int64} {gd : Nat → UInt64} {wD wM : va_W} {N M MH ME MS : Nat → Nat} {S : Sx} {xth i : Int} {nm : String} (hl0 : l.stackTraces = false) (F : ad_F p s m args meth c RL nm cL_law 9 ret D K z0 A) (B : LB s A b L xs) (hn : n < 512) (hD : DkI K N n S fs wD) (hM : MoI K M MH ME MS xth S fm wM) (hS : SxI n S) (hi : 0 ≤ i ∧ i + 4 ≤ L ∧ L ≤ 2048) (hR : 20 ≤ R.frames ∧ 1000 ≤ R.locals) (hC : cells + 4 ≤ R.cells ∧ slots + 1214 ≤ R.slots) (G : ad_G D A s.heap H locs (WL K d0 m0 o1 o2 fs fm go gd wD wM)) (hl : lv_has ls 9 (LV b d0 m0 o1 o2 i)) (kk : LK p l e R s m args below meth c cells slots Q D A K b d0 m0 o1 o2 n N M MH ME MS i) : W p l e R s m args below meth c H locs cells slots Q (F0 m 475 ls []) := by
  refine lv_aload_n F.1 F.2.1 dL_law_475 rfl (lv_at hl 4 rfl) ?_
  refine la_x F G B (lv_at hl 5 rfl) (lv_at hl 0 rfl) (k := 1) ⟨by omega, by omega, by omega⟩ dL_law_476 dL_law_477 dL_law_479 dL_law_480 dL_law_481 ?_
  refine la_x F G B (lv_at hl 5 rfl) (lv_at hl 0 rfl) (k := 2) ⟨by omega, by omega, by omega⟩ dL_law_482 dL_law_483 dL_law_485 dL_law_486 dL_law_487 ?_
  refine lv_aload_n F.1 F.2.1 dL_law_488 rfl (lv_at hl 2 rfl) ?_
  refine la_c (As := [.ref d0, .int (iI ((xs (i + 1).toNat).toInt)), .int (iI ((xs (i + 2).toNat).toInt)), .ref o1]) (a := (an_setContext S ((xs (i + 1).toNat).toInt) ((xs (i + 2).toNat).toInt))) F G (w_setContext l D K z0 d0 o1 fs wD go ((xs (i + 1).toNat).toInt) ((xs (i + 2).toNat).toInt) (PRg K N n (an_setContext S ((xs (i + 1).toNat).toInt) ((xs (i + 2).toNat).toInt))) (PXg K N n (an_setContext S ((xs (i + 1).toNat).toInt) ((xs (i + 2).toNat).toInt))) (dk_setContext l hl0 D K z0 N d0 hn hD hS ((xs (i + 1).toNat).toInt) ((xs (i + 2).toNat).toInt) (x32 _) (x32 _))) my_L_setContext ms_L_158 (by decide) rfl rfl ⟨by omega, by omega⟩ hC (by simp) hl.1 dL_law_489 (fun cm fs2 wD2 go2 H locs hc0 hcg hS2 hD2 G => ?_)
  refine lv_istore (lv' := (6, .int (iI ((an_setContext S ((xs (i + 1).toNat).toInt) ((xs (i + 2).toNat).toInt)) cm).1)) :: LV b d0 m0 o1 o2 i) F.1 F.2.1 dL_law_492 hl (by decide) rfl (fun ls hl => ?_)
  refine lv_aload_n F.1 F.2.1 dL_law_494 rfl (lv_at hl 4 rfl) ?_
  refine la_x F G B (lv_at hl 6 rfl) (lv_at hl 1 rfl) (k := 1) ⟨by omega, by omega, by omega⟩ dL_law_495 dL_law_496 dL_law_498 dL_law_499 dL_law_500 ?_
  refine la_x F G B (lv_at hl 6 rfl) (lv_at hl 1 rfl) (k := 2) ⟨by omega, by omega, by omega⟩ dL_law_501 dL_law_502 dL_law_504 dL_law_505 dL_law_506 ?_
  refine la_m (As := [.int (iI ((xs (i + 1).toNat).toInt)), .int (iI ((xs (i + 2).toNat).toInt))]) (mkv := fun z => .int (iI z)) (a := (an_setContext S ((xs (i + 1).toNat).toInt) ((xs (i + 2).toNat).toInt))) F G (md_setContext l D K z0 M MH ME MS m0 hM hS ((xs (i + 1).toNat).toInt) ((xs (i + 2).toNat).toInt) (x32 _) (x32 _)) my_X11_setContext mv_L_160 rfl rfl rfl ⟨by omega, by omega⟩ ⟨by omega, by omega⟩ (Nat.le_of_ble_eq_true rfl) hl.1 dL_law_507 (fun z fm2 wM2 H locs hq G => ?_)
  refine lv_istore (lv' := (7, .int (iI z)) :: (6, .int (iI ((an_setContext S ((xs (i + 1).toNat).toInt) ((xs (i + 2).toNat).toInt)) cm).1)) :: LV b d0 m0 o1 o2 i) F.1 F.2.1 dL_law_510 hl (by decide) rfl (fun ls hl => ?_)
  obtain ⟨hq1, hq2⟩ := hq cm
  refine la_t (tgt := 540) F G hq2 hc0 ⟨by omega, by omega⟩ ⟨by omega, by omega⟩ hl.1 (lv_at hl 5 rfl) (lv_at hl 1 rfl) dL_law_512 dL_law_513 dL_law_516 dL_law_518 dL_law_523 dL_law_525 (by decide) (fun H locs _ G => ?_) (fun H locs hk G => ?_)
  · skip
    refine lv_goto (tgt := 2225) F.1 F.2.1 dL_law_540 (by decide) ?_
    exact kk _ _ _ _ _ _ _ _ _ _ _ hD2 hq2 hS2 G (lv_sub hl [2, 3, 4, 5, 6, 7] rfl)
  · have hg := hcg hk
    rw [hq1 hk] at hg
    refine la_i (tgt := 540) F G hg (lv_at hl 4 rfl) (lv_at hl 0 rfl) dL_law_528 dL_law_529 dL_law_530 dL_law_531 dL_law_533 dL_law_534 dL_law_535 (by decide) ?_
    refine lv_goto (tgt := 2225) F.1 F.2.1 dL_law_540 (by decide) ?_
    exact kk _ _ _ _ _ _ _ _ _ _ _ hD2 hq2 hS2 G (lv_sub hl [2, 3, 4, 5, 6, 7] rfl)
theorem my_L_setMode : ad_myH yL_setMode cL_setMode 4 (some .int) hL_setMode 3 := ⟨(ad_mt (List.mem_of_getElem? (i := 751) (by decide +kernel)) (by decide +kernel)), ⟨by decide, by decide, by decide +kernel⟩, (ad_mt (List.mem_of_getElem? (i := 0) (by decide +kernel)) (by decide +kernel))⟩
set_option maxRecDepth 20000 in
theorem lc_setMode {p : Program} {l : Launch} {e : Env} {R : Room} {s : State} {m : MethodId} {args : Array Value} {below : List Frame} {meth : Method} {c : Code} {H : Heap} {locs : List Loc} {cells slots : Nat} {Q : State → Prop} {ret : Option FieldType} {D : va_G} {K : Nat → ClassId} {z0 : Nat} {A : Nat → Prop} {ls : Array Slot} {b d0 m0 o1 o2 L n : Nat} {xs : Nat → Int32} {fs fm : List Value} {go : Nat → Int64} {gd : Nat → UInt64} {wD wM : va_W} {N M MH ME MS : Nat → Nat} {S : Sx} {xth i : Int} {nm : String} (hl0 : l.stackTraces = false) (F : ad_F p s m args meth c RL nm cL_law 9 ret D K z0 A) (B : LB s A b L xs) (hn : n < 512) (hD : DkI K N n S fs wD) (hM : MoI K M MH ME MS xth S fm wM) (hS : SxI n S) (hi : 0 ≤ i ∧ i + 4 ≤ L ∧ L ≤ 2048) (hR : 20 ≤ R.frames ∧ 1000 ≤ R.locals) (hC : cells + 4 ≤ R.cells ∧ slots + 1214 ≤ R.slots) (G : ad_G D A s.heap H locs (WL K d0 m0 o1 o2 fs fm go gd wD wM)) (hl : lv_has ls 9 (LV b d0 m0 o1 o2 i)) (kk : LK p l e R s m args below meth c cells slots Q D A K b d0 m0 o1 o2 n N M MH ME MS i) : W p l e R s m args below meth c H locs cells slots Q (F0 m 543 ls []) := by
  refine lv_aload_n F.1 F.2.1 dL_law_543 rfl (lv_at hl 4 rfl) ?_
  refine la_x F G B (lv_at hl 5 rfl) (lv_at hl 0 rfl) (k := 1) ⟨by omega, by omega, by omega⟩ dL_law_544 dL_law_545 dL_law_547 dL_law_548 dL_law_549 ?_
  refine lv_aload_n F.1 F.2.1 dL_law_550 rfl (lv_at hl 2 rfl) ?_
  refine la_c (As := [.ref d0, .int (iI ((xs (i + 1).toNat).toInt)), .ref o1]) (a := (an_setMode S ((xs (i + 1).toNat).toInt))) F G (w_setMode l D K z0 d0 o1 fs wD go ((xs (i + 1).toNat).toInt) (PRg K N n (an_setMode S ((xs (i + 1).toNat).toInt))) (PXg K N n (an_setMode S ((xs (i + 1).toNat).toInt))) (dk_setMode l hl0 D K z0 N d0 hn hD hS ((xs (i + 1).toNat).toInt) (x32 _))) my_L_setMode ms_L_161 (by decide) rfl rfl ⟨by omega, by omega⟩ hC (by simp) hl.1 dL_law_551 (fun cm fs2 wD2 go2 H locs hc0 hcg hS2 hD2 G => ?_)
  refine lv_istore (lv' := (6, .int (iI ((an_setMode S ((xs (i + 1).toNat).toInt)) cm).1)) :: LV b d0 m0 o1 o2 i) F.1 F.2.1 dL_law_554 hl (by decide) rfl (fun ls hl => ?_)
  refine lv_aload_n F.1 F.2.1 dL_law_556 rfl (lv_at hl 4 rfl) ?_
  refine la_x F G B (lv_at hl 6 rfl) (lv_at hl 1 rfl) (k := 1) ⟨by omega, by omega, by omega⟩ dL_law_557 dL_law_558 dL_law_560 dL_law_561 dL_law_562 ?_
  refine la_m (As := [.int (iI ((xs (i + 1).toNat).toInt))]) (mkv := fun z => .int (iI z)) (a := (an_setMode S ((xs (i + 1).toNat).toInt))) F G (md_setMode l D K z0 M MH ME MS m0 hM hS ((xs (i + 1).toNat).toInt) (x32 _)) my_X11_setMode mv_L_163 rfl rfl rfl ⟨by omega, by omega⟩ ⟨by omega, by omega⟩ (Nat.le_of_ble_eq_true rfl) hl.1 dL_law_563 (fun z fm2 wM2 H locs hq G => ?_)
  refine lv_istore (lv' := (7, .int (iI z)) :: (6, .int (iI ((an_setMode S ((xs (i + 1).toNat).toInt)) cm).1)) :: LV b d0 m0 o1 o2 i) F.1 F.2.1 dL_law_566 hl (by decide) rfl (fun ls hl => ?_)
  obtain ⟨hq1, hq2⟩ := hq cm
  refine la_t (tgt := 596) F G hq2 hc0 ⟨by omega, by omega⟩ ⟨by omega, by omega⟩ hl.1 (lv_at hl 5 rfl) (lv_at hl 1 rfl) dL_law_568 dL_law_569 dL_law_572 dL_law_574 dL_law_579 dL_law_581 (by decide) (fun H locs _ G => ?_) (fun H locs hk G => ?_)
  · skip
    refine lv_goto (tgt := 2225) F.1 F.2.1 dL_law_596 (by decide) ?_
    exact kk _ _ _ _ _ _ _ _ _ _ _ hD2 hq2 hS2 G (lv_sub hl [2, 3, 4, 5, 6, 7] rfl)
  · have hg := hcg hk
    rw [hq1 hk] at hg
    refine la_i (tgt := 596) F G hg (lv_at hl 4 rfl) (lv_at hl 0 rfl) dL_law_584 dL_law_585 dL_law_586 dL_law_587 dL_law_589 dL_law_590 dL_law_591 (by decide) ?_
    refine lv_goto (tgt := 2225) F.1 F.2.1 dL_law_596 (by decide) ?_
    exact kk _ _ _ _ _ _ _ _ _ _ _ hD2 hq2 hS2 G (lv_sub hl [2, 3, 4, 5, 6, 7] rfl)
theorem my_L_setThreshold : ad_myH yL_setThreshold cL_setThreshold 4 (some .int) hL_setThreshold 3 := ⟨(ad_mt (List.mem_of_getElem? (i := 758) (by decide +kernel)) (by decide +kernel)), ⟨by decide, by decide, by decide +kernel⟩, (ad_mt (List.mem_of_getElem? (i := 0) (by decide +kernel)) (by decide +kernel))⟩
set_option maxRecDepth 20000 in
theorem lc_setThreshold {p : Program} {l : Launch} {e : Env} {R : Room} {s : State} {m : MethodId} {args : Array Value} {below : List Frame} {meth : Method} {c : Code} {H : Heap} {locs : List Loc} {cells slots : Nat} {Q : State → Prop} {ret : Option FieldType} {D : va_G} {K : Nat → ClassId} {z0 : Nat} {A : Nat → Prop} {ls : Array Slot} {b d0 m0 o1 o2 L n : Nat} {xs : Nat → Int32} {fs fm : List Value} {go : Nat → Int64} {gd : Nat → UInt64} {wD wM : va_W} {N M MH ME MS : Nat → Nat} {S : Sx} {xth i : Int} {nm : String} (hl0 : l.stackTraces = false) (F : ad_F p s m args meth c RL nm cL_law 9 ret D K z0 A) (B : LB s A b L xs) (hn : n < 512) (hD : DkI K N n S fs wD) (hM : MoI K M MH ME MS xth S fm wM) (hS : SxI n S) (hi : 0 ≤ i ∧ i + 4 ≤ L ∧ L ≤ 2048) (hR : 20 ≤ R.frames ∧ 1000 ≤ R.locals) (hC : cells + 4 ≤ R.cells ∧ slots + 1214 ≤ R.slots) (G : ad_G D A s.heap H locs (WL K d0 m0 o1 o2 fs fm go gd wD wM)) (hl : lv_has ls 9 (LV b d0 m0 o1 o2 i)) (kk : LK p l e R s m args below meth c cells slots Q D A K b d0 m0 o1 o2 n N M MH ME MS i) : W p l e R s m args below meth c H locs cells slots Q (F0 m 599 ls []) := by
  refine lv_aload_n F.1 F.2.1 dL_law_599 rfl (lv_at hl 4 rfl) ?_
  refine la_x F G B (lv_at hl 5 rfl) (lv_at hl 0 rfl) (k := 1) ⟨by omega, by omega, by omega⟩ dL_law_600 dL_law_601 dL_law_603 dL_law_604 dL_law_605 ?_
  refine lv_aload_n F.1 F.2.1 dL_law_606 rfl (lv_at hl 2 rfl) ?_
  refine la_c (As := [.ref d0, .int (iI ((xs (i + 1).toNat).toInt)), .ref o1]) (a := (an_setThreshold S ((xs (i + 1).toNat).toInt))) F G (w_setThreshold l D K z0 d0 o1 fs wD go ((xs (i + 1).toNat).toInt) (PRg K N n (an_setThreshold S ((xs (i + 1).toNat).toInt))) (PXg K N n (an_setThreshold S ((xs (i + 1).toNat).toInt))) (dk_setThreshold l hl0 D K z0 N d0 hn hD hS ((xs (i + 1).toNat).toInt) (x32 _))) my_L_setThreshold ms_L_164 (by decide) rfl rfl ⟨by omega, by omega⟩ hC (by simp) hl.1 dL_law_607 (fun cm fs2 wD2 go2 H locs hc0 hcg hS2 hD2 G => ?_)
  refine lv_istore (lv' := (6, .int (iI ((an_setThreshold S ((xs (i + 1).toNat).toInt)) cm).1)) :: LV b d0 m0 o1 o2 i) F.1 F.2.1 dL_law_610 hl (by decide) rfl (fun ls hl => ?_)
  refine lv_aload_n F.1 F.2.1 dL_law_612 rfl (lv_at hl 4 rfl) ?_
  refine la_x F G B (lv_at hl 6 rfl) (lv_at hl 1 rfl) (k := 1) ⟨by omega, by omega, by omega⟩ dL_law_613 dL_law_614 dL_law_616 dL_law_617 dL_law_618 ?_
  refine la_m (As := [.int (iI ((xs (i + 1).toNat).toInt))]) (mkv := fun z => .int (iI z)) (a := (an_setThreshold S ((xs (i + 1).toNat).toInt))) F G (md_setThreshold l D K z0 M MH ME MS m0 hM hS ((xs (i + 1).toNat).toInt) (x32 _)) my_X11_setThreshold mv_L_166 rfl rfl rfl ⟨by omega, by omega⟩ ⟨by omega, by omega⟩ (Nat.le_of_ble_eq_true rfl) hl.1 dL_law_619 (fun z fm2 wM2 H locs hq G => ?_)
  refine lv_istore (lv' := (7, .int (iI z)) :: (6, .int (iI ((an_setThreshold S ((xs (i + 1).toNat).toInt)) cm).1)) :: LV b d0 m0 o1 o2 i) F.1 F.2.1 dL_law_622 hl (by decide) rfl (fun ls hl => ?_)
  obtain ⟨hq1, hq2⟩ := hq cm
  refine la_t (tgt := 652) F G hq2 hc0 ⟨by omega, by omega⟩ ⟨by omega, by omega⟩ hl.1 (lv_at hl 5 rfl) (lv_at hl 1 rfl) dL_law_624 dL_law_625 dL_law_628 dL_law_630 dL_law_635 dL_law_637 (by decide) (fun H locs _ G => ?_) (fun H locs hk G => ?_)
  · skip
    refine lv_goto (tgt := 2225) F.1 F.2.1 dL_law_652 (by decide) ?_
    exact kk _ _ _ _ _ _ _ _ _ _ _ hD2 hq2 hS2 G (lv_sub hl [2, 3, 4, 5, 6, 7] rfl)
  · have hg := hcg hk
    rw [hq1 hk] at hg
    refine la_i (tgt := 652) F G hg (lv_at hl 4 rfl) (lv_at hl 0 rfl) dL_law_640 dL_law_641 dL_law_642 dL_law_643 dL_law_645 dL_law_646 dL_law_647 (by decide) ?_
    refine lv_goto (tgt := 2225) F.1 F.2.1 dL_law_652 (by decide) ?_
    exact kk _ _ _ _ _ _ _ _ _ _ _ hD2 hq2 hS2 G (lv_sub hl [2, 3, 4, 5, 6, 7] rfl)
theorem my_L_rule : ad_myH yL_rule cL_rule 5 (some .int) hL_rule 4 := ⟨(ad_mt (List.mem_of_getElem? (i := 765) (by decide +kernel)) (by decide +kernel)), ⟨by decide, by decide, by decide +kernel⟩, (ad_mt (List.mem_of_getElem? (i := 0) (by decide +kernel)) (by decide +kernel))⟩
set_option maxRecDepth 20000 in
theorem lc_rule {p : Program} {l : Launch} {e : Env} {R : Room} {s : State} {m : MethodId} {args : Array Value} {below : List Frame} {meth : Method} {c : Code} {H : Heap} {locs : List Loc} {cells slots : Nat} {Q : State → Prop} {ret : Option FieldType} {D : va_G} {K : Nat → ClassId} {z0 : Nat} {A : Nat → Prop} {ls : Array Slot} {b d0 m0 o1 o2 L n : Nat} {xs : Nat → Int32} {fs fm : List Value} {go : Nat → Int64} {gd : Nat → UInt64} {wD wM : va_W} {N M MH ME MS : Nat → Nat} {S : Sx} {xth i : Int} {nm : String} (hl0 : l.stackTraces = false) (F : ad_F p s m args meth c RL nm cL_law 9 ret D K z0 A) (B : LB s A b L xs) (hn : n < 512) (hD : DkI K N n S fs wD) (hM : MoI K M MH ME MS xth S fm wM) (hS : SxI n S) (hi : 0 ≤ i ∧ i + 4 ≤ L ∧ L ≤ 2048) (hR : 20 ≤ R.frames ∧ 1000 ≤ R.locals) (hC : cells + 4 ≤ R.cells ∧ slots + 1214 ≤ R.slots) (G : ad_G D A s.heap H locs (WL K d0 m0 o1 o2 fs fm go gd wD wM)) (hl : lv_has ls 9 (LV b d0 m0 o1 o2 i)) (kk : LK p l e R s m args below meth c cells slots Q D A K b d0 m0 o1 o2 n N M MH ME MS i) : W p l e R s m args below meth c H locs cells slots Q (F0 m 655 ls []) := by
  refine lv_aload_n F.1 F.2.1 dL_law_655 rfl (lv_at hl 4 rfl) ?_
  refine la_x F G B (lv_at hl 5 rfl) (lv_at hl 0 rfl) (k := 1) ⟨by omega, by omega, by omega⟩ dL_law_656 dL_law_657 dL_law_659 dL_law_660 dL_law_661 ?_
  refine la_x F G B (lv_at hl 5 rfl) (lv_at hl 0 rfl) (k := 2) ⟨by omega, by omega, by omega⟩ dL_law_662 dL_law_663 dL_law_665 dL_law_666 dL_law_667 ?_
  refine lv_aload_n F.1 F.2.1 dL_law_668 rfl (lv_at hl 2 rfl) ?_
  refine la_c (As := [.ref d0, .int (iI ((xs (i + 1).toNat).toInt)), .int (iI ((xs (i + 2).toNat).toInt)), .ref o1]) (a := (an_rule S ((xs (i + 1).toNat).toInt) ((xs (i + 2).toNat).toInt))) F G (w_rule l D K z0 d0 o1 fs wD go ((xs (i + 1).toNat).toInt) ((xs (i + 2).toNat).toInt) (PRg K N n (an_rule S ((xs (i + 1).toNat).toInt) ((xs (i + 2).toNat).toInt))) (PXg K N n (an_rule S ((xs (i + 1).toNat).toInt) ((xs (i + 2).toNat).toInt))) (dk_rule l hl0 D K z0 N d0 hn hD hS ((xs (i + 1).toNat).toInt) ((xs (i + 2).toNat).toInt) (x32 _) (x32 _))) my_L_rule ms_L_167 (by decide) rfl rfl ⟨by omega, by omega⟩ hC (by simp) hl.1 dL_law_669 (fun cm fs2 wD2 go2 H locs hc0 hcg hS2 hD2 G => ?_)
  refine lv_istore (lv' := (6, .int (iI ((an_rule S ((xs (i + 1).toNat).toInt) ((xs (i + 2).toNat).toInt)) cm).1)) :: LV b d0 m0 o1 o2 i) F.1 F.2.1 dL_law_672 hl (by decide) rfl (fun ls hl => ?_)
  refine lv_aload_n F.1 F.2.1 dL_law_674 rfl (lv_at hl 4 rfl) ?_
  refine la_x F G B (lv_at hl 6 rfl) (lv_at hl 1 rfl) (k := 1) ⟨by omega, by omega, by omega⟩ dL_law_675 dL_law_676 dL_law_678 dL_law_679 dL_law_680 ?_
  refine la_x F G B (lv_at hl 6 rfl) (lv_at hl 1 rfl) (k := 2) ⟨by omega, by omega, by omega⟩ dL_law_681 dL_law_682 dL_law_684 dL_law_685 dL_law_686 ?_
  refine la_m (As := [.int (iI ((xs (i + 1).toNat).toInt)), .int (iI ((xs (i + 2).toNat).toInt))]) (mkv := fun z => .int (iI z)) (a := (an_rule S ((xs (i + 1).toNat).toInt) ((xs (i + 2).toNat).toInt))) F G (md_rule l D K z0 M MH ME MS m0 hM hS ((xs (i + 1).toNat).toInt) ((xs (i + 2).toNat).toInt) (x32 _) (x32 _)) my_X11_rule mv_L_169 rfl rfl rfl ⟨by omega, by omega⟩ ⟨by omega, by omega⟩ (Nat.le_of_ble_eq_true rfl) hl.1 dL_law_687 (fun z fm2 wM2 H locs hq G => ?_)
  refine lv_istore (lv' := (7, .int (iI z)) :: (6, .int (iI ((an_rule S ((xs (i + 1).toNat).toInt) ((xs (i + 2).toNat).toInt)) cm).1)) :: LV b d0 m0 o1 o2 i) F.1 F.2.1 dL_law_690 hl (by decide) rfl (fun ls hl => ?_)
  obtain ⟨hq1, hq2⟩ := hq cm
  refine la_t (tgt := 720) F G hq2 hc0 ⟨by omega, by omega⟩ ⟨by omega, by omega⟩ hl.1 (lv_at hl 5 rfl) (lv_at hl 1 rfl) dL_law_692 dL_law_693 dL_law_696 dL_law_698 dL_law_703 dL_law_705 (by decide) (fun H locs _ G => ?_) (fun H locs hk G => ?_)
  · skip
    refine lv_goto (tgt := 2225) F.1 F.2.1 dL_law_720 (by decide) ?_
    exact kk _ _ _ _ _ _ _ _ _ _ _ hD2 hq2 hS2 G (lv_sub hl [2, 3, 4, 5, 6, 7] rfl)
  · have hg := hcg hk
    rw [hq1 hk] at hg
    refine la_i (tgt := 720) F G hg (lv_at hl 4 rfl) (lv_at hl 0 rfl) dL_law_708 dL_law_709 dL_law_710 dL_law_711 dL_law_713 dL_law_714 dL_law_715 (by decide) ?_
    refine lv_goto (tgt := 2225) F.1 F.2.1 dL_law_720 (by decide) ?_
    exact kk _ _ _ _ _ _ _ _ _ _ _ hD2 hq2 hS2 G (lv_sub hl [2, 3, 4, 5, 6, 7] rfl)
theorem my_L_letter : ad_myH yL_letter cL_letter 6 (some .int) hL_letter 5 := ⟨(ad_mt (List.mem_of_getElem? (i := 792) (by decide +kernel)) (by decide +kernel)), ⟨by decide, by decide, by decide +kernel⟩, (ad_mt (List.mem_of_getElem? (i := 0) (by decide +kernel)) (by decide +kernel))⟩
set_option maxRecDepth 20000 in
theorem lc_letter {p : Program} {l : Launch} {e : Env} {R : Room} {s : State} {m : MethodId} {args : Array Value} {below : List Frame} {meth : Method} {c : Code} {H : Heap} {locs : List Loc} {cells slots : Nat} {Q : State → Prop} {ret : Option FieldType} {D : va_G} {K : Nat → ClassId} {z0 : Nat} {A : Nat → Prop} {ls : Array Slot} {b d0 m0 o1 o2 L n : Nat} {xs : Nat → Int32} {fs fm : List Value} {go : Nat → Int64} {gd : Nat → UInt64} {wD wM : va_W} {N M MH ME MS : Nat → Nat} {S : Sx} {xth i : Int} {nm : String} (hl0 : l.stackTraces = false) (F : ad_F p s m args meth c RL nm cL_law 9 ret D K z0 A) (B : LB s A b L xs) (hn : n < 512) (hD : DkI K N n S fs wD) (hM : MoI K M MH ME MS xth S fm wM) (hS : SxI n S) (hi : 0 ≤ i ∧ i + 4 ≤ L ∧ L ≤ 2048) (hR : 20 ≤ R.frames ∧ 1000 ≤ R.locals) (hC : cells + 4 ≤ R.cells ∧ slots + 1214 ≤ R.slots) (G : ad_G D A s.heap H locs (WL K d0 m0 o1 o2 fs fm go gd wD wM)) (hl : lv_has ls 9 (LV b d0 m0 o1 o2 i)) (kk : LK p l e R s m args below meth c cells slots Q D A K b d0 m0 o1 o2 n N M MH ME MS i) : W p l e R s m args below meth c H locs cells slots Q (F0 m 723 ls []) := by
  refine lv_aload_n F.1 F.2.1 dL_law_723 rfl (lv_at hl 4 rfl) ?_
  refine la_x F G B (lv_at hl 5 rfl) (lv_at hl 0 rfl) (k := 1) ⟨by omega, by omega, by omega⟩ dL_law_724 dL_law_725 dL_law_727 dL_law_728 dL_law_729 ?_
  refine la_x F G B (lv_at hl 5 rfl) (lv_at hl 0 rfl) (k := 2) ⟨by omega, by omega, by omega⟩ dL_law_730 dL_law_731 dL_law_733 dL_law_734 dL_law_735 ?_
  refine la_bz (A9 := 743) (B9 := 744) F (x32 _) dL_law_736 dL_law_739 dL_law_740 dL_law_743 (by decide) (by decide) rfl ?_
  refine la_x F G B (lv_at hl 5 rfl) (lv_at hl 0 rfl) (k := 3) ⟨by omega, by omega, by omega⟩ dL_law_744 dL_law_745 dL_law_747 dL_law_748 dL_law_749 ?_
  refine lv_aload_n F.1 F.2.1 dL_law_750 rfl (lv_at hl 2 rfl) ?_
  refine la_c (As := [.ref d0, .int (iI ((xs (i + 1).toNat).toInt)), .int (iI (bz (xs (i + 2).toNat).toInt)), .int (iI ((xs (i + 3).toNat).toInt)), .ref o1]) (a := (an_letter S ((xs (i + 1).toNat).toInt) (bz (xs (i + 2).toNat).toInt) ((xs (i + 3).toNat).toInt))) F G (w_letter l D K z0 d0 o1 fs wD go ((xs (i + 1).toNat).toInt) (bz (xs (i + 2).toNat).toInt) ((xs (i + 3).toNat).toInt) (PRg K N n (an_letter S ((xs (i + 1).toNat).toInt) (bz (xs (i + 2).toNat).toInt) ((xs (i + 3).toNat).toInt))) (PXg K N n (an_letter S ((xs (i + 1).toNat).toInt) (bz (xs (i + 2).toNat).toInt) ((xs (i + 3).toNat).toInt))) (dk_letter l hl0 D K z0 N d0 hn hD hS ((xs (i + 1).toNat).toInt) (bz (xs (i + 2).toNat).toInt) ((xs (i + 3).toNat).toInt) (x32 _) (bz_01 _) (x32 _))) my_L_letter ms_L_170 (by decide) rfl rfl ⟨by omega, by omega⟩ hC (by simp) hl.1 dL_law_751 (fun cm fs2 wD2 go2 H locs hc0 hcg hS2 hD2 G => ?_)
  refine lv_istore (lv' := (6, .int (iI ((an_letter S ((xs (i + 1).toNat).toInt) (bz (xs (i + 2).toNat).toInt) ((xs (i + 3).toNat).toInt)) cm).1)) :: LV b d0 m0 o1 o2 i) F.1 F.2.1 dL_law_754 hl (by decide) rfl (fun ls hl => ?_)
  refine lv_aload_n F.1 F.2.1 dL_law_756 rfl (lv_at hl 4 rfl) ?_
  refine la_x F G B (lv_at hl 6 rfl) (lv_at hl 1 rfl) (k := 1) ⟨by omega, by omega, by omega⟩ dL_law_757 dL_law_758 dL_law_760 dL_law_761 dL_law_762 ?_
  refine la_x F G B (lv_at hl 6 rfl) (lv_at hl 1 rfl) (k := 2) ⟨by omega, by omega, by omega⟩ dL_law_763 dL_law_764 dL_law_766 dL_law_767 dL_law_768 ?_
  refine la_bz (A9 := 776) (B9 := 777) F (x32 _) dL_law_769 dL_law_772 dL_law_773 dL_law_776 (by decide) (by decide) rfl ?_
  refine la_x F G B (lv_at hl 6 rfl) (lv_at hl 1 rfl) (k := 3) ⟨by omega, by omega, by omega⟩ dL_law_777 dL_law_778 dL_law_780 dL_law_781 dL_law_782 ?_
  refine la_m (As := [.int (iI ((xs (i + 1).toNat).toInt)), .int (iI (bz (xs (i + 2).toNat).toInt)), .int (iI ((xs (i + 3).toNat).toInt))]) (mkv := fun z => .int (iI z)) (a := (an_letter S ((xs (i + 1).toNat).toInt) (bz (xs (i + 2).toNat).toInt) ((xs (i + 3).toNat).toInt))) F G (md_letter l D K z0 M MH ME MS m0 hM hS ((xs (i + 1).toNat).toInt) (bz (xs (i + 2).toNat).toInt) ((xs (i + 3).toNat).toInt) (x32 _) (bz_01 _) (x32 _)) my_X11_letter mv_L_173 rfl rfl rfl ⟨by omega, by omega⟩ ⟨by omega, by omega⟩ (Nat.le_of_ble_eq_true rfl) hl.1 dL_law_783 (fun z fm2 wM2 H locs hq G => ?_)
  refine lv_istore (lv' := (7, .int (iI z)) :: (6, .int (iI ((an_letter S ((xs (i + 1).toNat).toInt) (bz (xs (i + 2).toNat).toInt) ((xs (i + 3).toNat).toInt)) cm).1)) :: LV b d0 m0 o1 o2 i) F.1 F.2.1 dL_law_786 hl (by decide) rfl (fun ls hl => ?_)
  obtain ⟨hq1, hq2⟩ := hq cm
  refine la_t (tgt := 816) F G hq2 hc0 ⟨by omega, by omega⟩ ⟨by omega, by omega⟩ hl.1 (lv_at hl 5 rfl) (lv_at hl 1 rfl) dL_law_788 dL_law_789 dL_law_792 dL_law_794 dL_law_799 dL_law_801 (by decide) (fun H locs _ G => ?_) (fun H locs hk G => ?_)
  · skip
    refine lv_goto (tgt := 2225) F.1 F.2.1 dL_law_816 (by decide) ?_
    exact kk _ _ _ _ _ _ _ _ _ _ _ hD2 hq2 hS2 G (lv_sub hl [2, 3, 4, 5, 6, 7] rfl)
  · have hg := hcg hk
    rw [hq1 hk] at hg
    refine la_i (tgt := 816) F G hg (lv_at hl 4 rfl) (lv_at hl 0 rfl) dL_law_804 dL_law_805 dL_law_806 dL_law_807 dL_law_809 dL_law_810 dL_law_811 (by decide) ?_
    refine lv_goto (tgt := 2225) F.1 F.2.1 dL_law_816 (by decide) ?_
    exact kk _ _ _ _ _ _ _ _ _ _ _ hD2 hq2 hS2 G (lv_sub hl [2, 3, 4, 5, 6, 7] rfl)
theorem my_L_count : ad_myH yL_count cL_count 4 (some .int) hL_count 3 := ⟨(ad_mt (List.mem_of_getElem? (i := 820) (by decide +kernel)) (by decide +kernel)), ⟨by decide, by decide, by decide +kernel⟩, (ad_mt (List.mem_of_getElem? (i := 0) (by decide +kernel)) (by decide +kernel))⟩
set_option maxRecDepth 20000 in
theorem lc_count {p : Program} {l : Launch} {e : Env} {R : Room} {s : State} {m : MethodId} {args : Array Value} {below : List Frame} {meth : Method} {c : Code} {H : Heap} {locs : List Loc} {cells slots : Nat} {Q : State → Prop} {ret : Option FieldType} {D : va_G} {K : Nat → ClassId} {z0 : Nat} {A : Nat → Prop} {ls : Array Slot} {b d0 m0 o1 o2 L n : Nat} {xs : Nat → Int32} {fs fm : List Value} {go : Nat → Int64} {gd : Nat → UInt64} {wD wM : va_W} {N M MH ME MS : Nat → Nat} {S : Sx} {xth i : Int} {nm : String} (hl0 : l.stackTraces = false) (F : ad_F p s m args meth c RL nm cL_law 9 ret D K z0 A) (B : LB s A b L xs) (hn : n < 512) (hD : DkI K N n S fs wD) (hM : MoI K M MH ME MS xth S fm wM) (hS : SxI n S) (hi : 0 ≤ i ∧ i + 4 ≤ L ∧ L ≤ 2048) (hR : 20 ≤ R.frames ∧ 1000 ≤ R.locals) (hC : cells + 4 ≤ R.cells ∧ slots + 1214 ≤ R.slots) (G : ad_G D A s.heap H locs (WL K d0 m0 o1 o2 fs fm go gd wD wM)) (hl : lv_has ls 9 (LV b d0 m0 o1 o2 i)) (kk : LK p l e R s m args below meth c cells slots Q D A K b d0 m0 o1 o2 n N M MH ME MS i) : W p l e R s m args below meth c H locs cells slots Q (F0 m 819 ls []) := by
  refine lv_aload_n F.1 F.2.1 dL_law_819 rfl (lv_at hl 4 rfl) ?_
  refine la_x F G B (lv_at hl 5 rfl) (lv_at hl 0 rfl) (k := 1) ⟨by omega, by omega, by omega⟩ dL_law_820 dL_law_821 dL_law_823 dL_law_824 dL_law_825 ?_
  refine lv_aload_n F.1 F.2.1 dL_law_826 rfl (lv_at hl 2 rfl) ?_
  refine la_c (As := [.ref d0, .int (iI ((xs (i + 1).toNat).toInt)), .ref o1]) (a := (an_count S ((xs (i + 1).toNat).toInt))) F G (w_count l D K z0 d0 o1 fs wD go ((xs (i + 1).toNat).toInt) (PRg K N n (an_count S ((xs (i + 1).toNat).toInt))) (PXg K N n (an_count S ((xs (i + 1).toNat).toInt))) (dk_count l hl0 D K z0 N d0 hn hD hS ((xs (i + 1).toNat).toInt) (x32 _))) my_L_count ms_L_174 (by decide) rfl rfl ⟨by omega, by omega⟩ hC (by simp) hl.1 dL_law_827 (fun cm fs2 wD2 go2 H locs hc0 hcg hS2 hD2 G => ?_)
  refine lv_istore (lv' := (6, .int (iI ((an_count S ((xs (i + 1).toNat).toInt)) cm).1)) :: LV b d0 m0 o1 o2 i) F.1 F.2.1 dL_law_830 hl (by decide) rfl (fun ls hl => ?_)
  refine lv_aload_n F.1 F.2.1 dL_law_832 rfl (lv_at hl 4 rfl) ?_
  refine la_x F G B (lv_at hl 6 rfl) (lv_at hl 1 rfl) (k := 1) ⟨by omega, by omega, by omega⟩ dL_law_833 dL_law_834 dL_law_836 dL_law_837 dL_law_838 ?_
  refine la_m (As := [.int (iI ((xs (i + 1).toNat).toInt))]) (mkv := fun z => .int (iI z)) (a := (an_count S ((xs (i + 1).toNat).toInt))) F G (md_count l D K z0 M MH ME MS m0 hM hS ((xs (i + 1).toNat).toInt) (x32 _)) my_X11_count mv_L_176 rfl rfl rfl ⟨by omega, by omega⟩ ⟨by omega, by omega⟩ (Nat.le_of_ble_eq_true rfl) hl.1 dL_law_839 (fun z fm2 wM2 H locs hq G => ?_)
  refine lv_istore (lv' := (7, .int (iI z)) :: (6, .int (iI ((an_count S ((xs (i + 1).toNat).toInt)) cm).1)) :: LV b d0 m0 o1 o2 i) F.1 F.2.1 dL_law_842 hl (by decide) rfl (fun ls hl => ?_)
  obtain ⟨hq1, hq2⟩ := hq cm
  refine la_t (tgt := 872) F G hq2 hc0 ⟨by omega, by omega⟩ ⟨by omega, by omega⟩ hl.1 (lv_at hl 5 rfl) (lv_at hl 1 rfl) dL_law_844 dL_law_845 dL_law_848 dL_law_850 dL_law_855 dL_law_857 (by decide) (fun H locs _ G => ?_) (fun H locs hk G => ?_)
  · skip
    refine lv_goto (tgt := 2225) F.1 F.2.1 dL_law_872 (by decide) ?_
    exact kk _ _ _ _ _ _ _ _ _ _ _ hD2 hq2 hS2 G (lv_sub hl [2, 3, 4, 5, 6, 7] rfl)
  · have hg := hcg hk
    rw [hq1 hk] at hg
    refine la_i (tgt := 872) F G hg (lv_at hl 4 rfl) (lv_at hl 0 rfl) dL_law_860 dL_law_861 dL_law_862 dL_law_863 dL_law_865 dL_law_866 dL_law_867 (by decide) ?_
    refine lv_goto (tgt := 2225) F.1 F.2.1 dL_law_872 (by decide) ?_
    exact kk _ _ _ _ _ _ _ _ _ _ _ hD2 hq2 hS2 G (lv_sub hl [2, 3, 4, 5, 6, 7] rfl)
theorem my_L_collision : ad_myH yL_collision cL_collision 5 (some .int) hL_collision 4 := ⟨(ad_mt (List.mem_of_getElem? (i := 848) (by decide +kernel)) (by decide +kernel)), ⟨by decide, by decide, by decide +kernel⟩, (ad_mt (List.mem_of_getElem? (i := 0) (by decide +kernel)) (by decide +kernel))⟩
set_option maxRecDepth 20000 in
theorem lc_collision {p : Program} {l : Launch} {e : Env} {R : Room} {s : State} {m : MethodId} {args : Array Value} {below : List Frame} {meth : Method} {c : Code} {H : Heap} {locs : List Loc} {cells slots : Nat} {Q : State → Prop} {ret : Option FieldType} {D : va_G} {K : Nat → ClassId} {z0 : Nat} {A : Nat → Prop} {ls : Array Slot} {b d0 m0 o1 o2 L n : Nat} {xs : Nat → Int32} {fs fm : List Value} {go : Nat → Int64} {gd : Nat → UInt64} {wD wM : va_W} {N M MH ME MS : Nat → Nat} {S : Sx} {xth i : Int} {nm : String} (hl0 : l.stackTraces = false) (F : ad_F p s m args meth c RL nm cL_law 9 ret D K z0 A) (B : LB s A b L xs) (hn : n < 512) (hD : DkI K N n S fs wD) (hM : MoI K M MH ME MS xth S fm wM) (hS : SxI n S) (hi : 0 ≤ i ∧ i + 4 ≤ L ∧ L ≤ 2048) (hR : 20 ≤ R.frames ∧ 1000 ≤ R.locals) (hC : cells + 4 ≤ R.cells ∧ slots + 1214 ≤ R.slots) (G : ad_G D A s.heap H locs (WL K d0 m0 o1 o2 fs fm go gd wD wM)) (hl : lv_has ls 9 (LV b d0 m0 o1 o2 i)) (kk : LK p l e R s m args below meth c cells slots Q D A K b d0 m0 o1 o2 n N M MH ME MS i) : W p l e R s m args below meth c H locs cells slots Q (F0 m 875 ls []) := by
  refine lv_aload_n F.1 F.2.1 dL_law_875 rfl (lv_at hl 4 rfl) ?_
  refine la_x F G B (lv_at hl 5 rfl) (lv_at hl 0 rfl) (k := 1) ⟨by omega, by omega, by omega⟩ dL_law_876 dL_law_877 dL_law_879 dL_law_880 dL_law_881 ?_
  refine la_x F G B (lv_at hl 5 rfl) (lv_at hl 0 rfl) (k := 2) ⟨by omega, by omega, by omega⟩ dL_law_882 dL_law_883 dL_law_885 dL_law_886 dL_law_887 ?_
  refine la_bz (A9 := 895) (B9 := 896) F (x32 _) dL_law_888 dL_law_891 dL_law_892 dL_law_895 (by decide) (by decide) rfl ?_
  refine lv_aload_n F.1 F.2.1 dL_law_896 rfl (lv_at hl 2 rfl) ?_
  refine la_c (As := [.ref d0, .int (iI ((xs (i + 1).toNat).toInt)), .int (iI (bz (xs (i + 2).toNat).toInt)), .ref o1]) (a := (an_collision S ((xs (i + 1).toNat).toInt) (bz (xs (i + 2).toNat).toInt))) F G (w_collision l D K z0 d0 o1 fs wD go ((xs (i + 1).toNat).toInt) (bz (xs (i + 2).toNat).toInt) (PRg K N n (an_collision S ((xs (i + 1).toNat).toInt) (bz (xs (i + 2).toNat).toInt))) (PXg K N n (an_collision S ((xs (i + 1).toNat).toInt) (bz (xs (i + 2).toNat).toInt))) (dk_collision l hl0 D K z0 N d0 hn hD hS ((xs (i + 1).toNat).toInt) (bz (xs (i + 2).toNat).toInt) (x32 _) (bz_01 _))) my_L_collision ms_L_177 (by decide) rfl rfl ⟨by omega, by omega⟩ hC (by simp) hl.1 dL_law_897 (fun cm fs2 wD2 go2 H locs hc0 hcg hS2 hD2 G => ?_)
  refine lv_istore (lv' := (6, .int (iI ((an_collision S ((xs (i + 1).toNat).toInt) (bz (xs (i + 2).toNat).toInt)) cm).1)) :: LV b d0 m0 o1 o2 i) F.1 F.2.1 dL_law_900 hl (by decide) rfl (fun ls hl => ?_)
  refine lv_aload_n F.1 F.2.1 dL_law_902 rfl (lv_at hl 4 rfl) ?_
  refine la_x F G B (lv_at hl 6 rfl) (lv_at hl 1 rfl) (k := 1) ⟨by omega, by omega, by omega⟩ dL_law_903 dL_law_904 dL_law_906 dL_law_907 dL_law_908 ?_
  refine la_x F G B (lv_at hl 6 rfl) (lv_at hl 1 rfl) (k := 2) ⟨by omega, by omega, by omega⟩ dL_law_909 dL_law_910 dL_law_912 dL_law_913 dL_law_914 ?_
  refine la_bz (A9 := 922) (B9 := 923) F (x32 _) dL_law_915 dL_law_918 dL_law_919 dL_law_922 (by decide) (by decide) rfl ?_
  refine la_m (As := [.int (iI ((xs (i + 1).toNat).toInt)), .int (iI (bz (xs (i + 2).toNat).toInt))]) (mkv := fun z => .int (iI z)) (a := (an_collision S ((xs (i + 1).toNat).toInt) (bz (xs (i + 2).toNat).toInt))) F G (md_collision l D K z0 M MH ME MS m0 hM hS ((xs (i + 1).toNat).toInt) (bz (xs (i + 2).toNat).toInt) (x32 _) (bz_01 _)) my_X11_collision mv_L_180 rfl rfl rfl ⟨by omega, by omega⟩ ⟨by omega, by omega⟩ (Nat.le_of_ble_eq_true rfl) hl.1 dL_law_923 (fun z fm2 wM2 H locs hq G => ?_)
  refine lv_istore (lv' := (7, .int (iI z)) :: (6, .int (iI ((an_collision S ((xs (i + 1).toNat).toInt) (bz (xs (i + 2).toNat).toInt)) cm).1)) :: LV b d0 m0 o1 o2 i) F.1 F.2.1 dL_law_926 hl (by decide) rfl (fun ls hl => ?_)
  obtain ⟨hq1, hq2⟩ := hq cm
  refine la_t (tgt := 956) F G hq2 hc0 ⟨by omega, by omega⟩ ⟨by omega, by omega⟩ hl.1 (lv_at hl 5 rfl) (lv_at hl 1 rfl) dL_law_928 dL_law_929 dL_law_932 dL_law_934 dL_law_939 dL_law_941 (by decide) (fun H locs _ G => ?_) (fun H locs hk G => ?_)
  · skip
    refine lv_goto (tgt := 2225) F.1 F.2.1 dL_law_956 (by decide) ?_
    exact kk _ _ _ _ _ _ _ _ _ _ _ hD2 hq2 hS2 G (lv_sub hl [2, 3, 4, 5, 6, 7] rfl)
  · have hg := hcg hk
    rw [hq1 hk] at hg
    refine la_i (tgt := 956) F G hg (lv_at hl 4 rfl) (lv_at hl 0 rfl) dL_law_944 dL_law_945 dL_law_946 dL_law_947 dL_law_949 dL_law_950 dL_law_951 (by decide) ?_
    refine lv_goto (tgt := 2225) F.1 F.2.1 dL_law_956 (by decide) ?_
    exact kk _ _ _ _ _ _ _ _ _ _ _ hD2 hq2 hS2 G (lv_sub hl [2, 3, 4, 5, 6, 7] rfl)
