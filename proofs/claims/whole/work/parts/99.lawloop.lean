/-! the law's loop -/
theorem and63 (x : Int32) : ∃ v : Int, (0 ≤ v ∧ v < 64) ∧ x &&& iI 63 = iI v := by
  refine ⟨(x &&& iI 63).toInt, ?_, iI_of _⟩
  have h1 : (x &&& iI 63).toInt = (x.toBitVec &&& 63#32).toInt := rfl
  have h2 : (x.toBitVec &&& 63#32).toNat = x.toBitVec.toNat &&& 63 := rfl
  have h3 : x.toBitVec.toNat &&& 63 ≤ 63 := Nat.and_le_right
  rw [h1, BitVec.toInt_eq_toNat_cond, h2]
  split <;> omega
set_option maxRecDepth 20000 in
theorem law_loop {p : Program} {l : Launch} {e : Env} {R : Room} {s : State} {m : MethodId} {args : Array Value} {below : List Frame} {meth : Method} {c : Code} {Q : State → Prop} {ret : Option FieldType} {D : va_G} {K : Nat → ClassId} {z0 : Nat} {A : Nat → Prop} {b d0 m0 o1 o2 L : Nat} {xs : Nat → Int32} {N M MH ME MS : Nat → Nat} {nm : String} (hl0 : l.stackTraces = false) (F : ad_F p s m args meth c RL nm cL_law 9 ret D K z0 A) (B : LB s A b L xs) (hL : L ≤ 2048) (hR : 20 ≤ R.frames ∧ 1000 ≤ R.locals)
    (kend : ∀ (H : Heap) (locs : List Loc) (ls : Array Slot) (cells slots : Nat) (ws : va_W), cells ≤ R.cells → slots ≤ R.slots → ad_G D A s.heap H locs ws → W p l e R s m args below meth c H locs cells slots Q (F0 m 2231 ls [])) :
    ∀ (k n cells slots : Nat) (S : Sx) (xth : Int) (fs fm : List Value) (go : Nat → Int64) (gd : Nat → UInt64) (wD wM : va_W) (H : Heap) (locs : List Loc) (ls : Array Slot), n + k = 512 → cells + 4 * k ≤ R.cells → slots + 1214 * k ≤ R.slots → DkI K N n S fs wD → MoI K M MH ME MS xth S fm wM → SxI n S → ad_G D A s.heap H locs (WL K d0 m0 o1 o2 fs fm go gd wD wM) → lv_has ls 9 (LV b d0 m0 o1 o2 (4 * n)) → W p l e R s m args below meth c H locs cells slots Q (F0 m 28 ls []) := by
  intro k
  induction k with
  | zero =>
    intro n cells slots S xth fs fm go gd wD wM H locs ls hk hc hs hD hM hS G hl
    refine lv_iload F.1 F.2.1 dL_law_28 (lv_at hl 0 rfl) ?_
    refine lv_aload_n F.1 F.2.1 dL_law_30 rfl (lv_at hl 5 rfl) ?_
    refine va_slen F.1 F.2.1 B.1 B.2.1 B.2.2 G.2.2 dL_law_31 ?_
    rw [iI_nat]
    refine ad_iconst F dL_law_32 ?_
    refine ad_isub F dL_law_33 ?_
    refine ad_icmp_gt (tgt := 2231) F (by omega) dL_law_34 (by decide) (fun _ => ?_) (fun h => by omega)
    exact kend H locs ls cells slots _ (by omega) (by omega) G
  | succ k ih =>
    intro n cells slots S xth fs fm go gd wD wM H locs ls hk hc hs hD hM hS G hl
    refine lv_iload F.1 F.2.1 dL_law_28 (lv_at hl 0 rfl) ?_
    refine lv_aload_n F.1 F.2.1 dL_law_30 rfl (lv_at hl 5 rfl) ?_
    refine va_slen F.1 F.2.1 B.1 B.2.1 B.2.2 G.2.2 dL_law_31 ?_
    rw [iI_nat]
    refine ad_iconst F dL_law_32 ?_
    refine ad_isub F dL_law_33 ?_
    refine ad_icmp_gt (tgt := 2231) F (by omega) dL_law_34 (by decide) (fun _ => ?_) (fun hle => ?_)
    · exact kend H locs ls cells slots _ (by omega) (by omega) G
    have hn : n < 512 := by omega
    have hi : 0 ≤ (4 * n : Int) ∧ (4 * n : Int) + 4 ≤ L ∧ L ≤ 2048 := by omega
    have hC : cells + 4 ≤ R.cells ∧ slots + 1214 ≤ R.slots := by omega
    have kk : LK p l e R s m args below meth c cells slots Q D A K b d0 m0 o1 o2 n N M MH ME MS (4 * n) := by
      intro S2 xth2 fs2 fm2 wD2 wM2 go2 gd2 H locs ls hD2 hM2 hS2 G hl
      refine ad_iinc (lv' := LV b d0 m0 o1 o2 (4 * n + 4)) F dL_law_2225 hl (k := 0) rfl (by decide) rfl (fun ls hl => ?_)
      refine lv_goto (tgt := 28) F.1 F.2.1 dL_law_2228 (by decide) ?_
      have e4 : (4 * n + 4 : Int) = 4 * ((n + 1 : Nat) : Int) := by omega
      rw [e4] at hl
      exact ih (n + 1) (cells + 4) (slots + 1214) S2 xth2 fs2 fm2 go2 gd2 wD2 wM2 H locs ls (by omega) (by omega) (by omega) hD2 hM2 hS2 G hl
    refine lv_aload_n F.1 F.2.1 dL_law_37 rfl (lv_at hl 5 rfl) ?_
    refine lv_iload F.1 F.2.1 dL_law_38 (lv_at hl 0 rfl) ?_
    refine va_sld F.1 F.2.1 B.1 B.2.1 B.2.2 G.2.2 (iI_in ⟨by omega, by omega, by omega⟩) dL_law_40 ?_
    refine ad_bipush F dL_law_41 (by decide) ?_
    refine lv_iand F.1 F.2.1 dL_law_43 ?_
    generalize xs (iI (4 * n)).toNatClampNeg = xi
    obtain ⟨v, hv, he⟩ := and63 xi
    rw [he]
    by_cases h35 : 35 ≤ v
    · refine lv_tableOut (tgt := 2225) F.1 F.2.1 dL_law_44 (Or.inr (by rw [iI_toInt (by omega)]; omega)) (by decide) ?_
      refine W.widen (k := cells + 4) (n := slots + 1214) (by omega) (by omega) ?_
      exact kk S xth fs fm wD wM go gd H locs ls (hD.up hn) hM (hS.up hn) G hl
    · rcases (show v = 0 ∨ v = 1 ∨ v = 2 ∨ v = 3 ∨ v = 4 ∨ v = 5 ∨ v = 6 ∨ v = 7 ∨ v = 8 ∨ v = 9 ∨ v = 10 ∨ v = 11 ∨ v = 12 ∨ v = 13 ∨ v = 14 ∨ v = 15 ∨ v = 16 ∨ v = 17 ∨ v = 18 ∨ v = 19 ∨ v = 20 ∨ v = 21 ∨ v = 22 ∨ v = 23 ∨ v = 24 ∨ v = 25 ∨ v = 26 ∨ v = 27 ∨ v = 28 ∨ v = 29 ∨ v = 30 ∨ v = 31 ∨ v = 32 ∨ v = 33 ∨ v = 34 by omega) with rfl | rfl | rfl | rfl | rfl | rfl | rfl | rfl | rfl | rfl | rfl | rfl | rfl | rfl | rfl | rfl | rfl | rfl | rfl | rfl | rfl | rfl | rfl | rfl | rfl | rfl | rfl | rfl | rfl | rfl | rfl | rfl | rfl | rfl | rfl
      · refine ad_tabIn (tgt := 200) F dL_law_44 rfl (by decide) (by decide) (by decide) rfl (by decide) ?_
        exact lc_clear hl0 F B hn hD hM hS hi hR hC G hl kk
      · refine ad_tabIn (tgt := 213) F dL_law_44 rfl (by decide) (by decide) (by decide) rfl (by decide) ?_
        exact lc_append hl0 F B hn hD hM hS hi hR hC G hl kk
      · refine ad_tabIn (tgt := 271) F dL_law_44 rfl (by decide) (by decide) (by decide) rfl (by decide) ?_
        exact lc_addRule hl0 F B hn hD hM hS hi hR hC G hl kk
      · refine ad_tabIn (tgt := 351) F dL_law_44 rfl (by decide) (by decide) (by decide) rfl (by decide) ?_
        exact lc_removeRule hl0 F B hn hD hM hS hi hR hC G hl kk
      · refine ad_tabIn (tgt := 407) F dL_law_44 rfl (by decide) (by decide) (by decide) rfl (by decide) ?_
        exact lc_setPriority hl0 F B hn hD hM hS hi hR hC G hl kk
      · refine ad_tabIn (tgt := 475) F dL_law_44 rfl (by decide) (by decide) (by decide) rfl (by decide) ?_
        exact lc_setContext hl0 F B hn hD hM hS hi hR hC G hl kk
      · refine ad_tabIn (tgt := 543) F dL_law_44 rfl (by decide) (by decide) (by decide) rfl (by decide) ?_
        exact lc_setMode hl0 F B hn hD hM hS hi hR hC G hl kk
      · refine ad_tabIn (tgt := 599) F dL_law_44 rfl (by decide) (by decide) (by decide) rfl (by decide) ?_
        exact lc_setThreshold hl0 F B hn hD hM hS hi hR hC G hl kk
      · refine ad_tabIn (tgt := 655) F dL_law_44 rfl (by decide) (by decide) (by decide) rfl (by decide) ?_
        exact lc_rule hl0 F B hn hD hM hS hi hR hC G hl kk
      · refine ad_tabIn (tgt := 723) F dL_law_44 rfl (by decide) (by decide) (by decide) rfl (by decide) ?_
        exact lc_letter hl0 F B hn hD hM hS hi hR hC G hl kk
      · refine ad_tabIn (tgt := 819) F dL_law_44 rfl (by decide) (by decide) (by decide) rfl (by decide) ?_
        exact lc_count hl0 F B hn hD hM hS hi hR hC G hl kk
      · refine ad_tabIn (tgt := 875) F dL_law_44 rfl (by decide) (by decide) (by decide) rfl (by decide) ?_
        exact lc_collision hl0 F B hn hD hM hS hi hR hC G hl kk
      · refine ad_tabIn (tgt := 959) F dL_law_44 rfl (by decide) (by decide) (by decide) rfl (by decide) ?_
        exact lc_order hl0 F B hn hD hM hS hi hR hC G hl kk
      · refine ad_tabIn (tgt := 1015) F dL_law_44 rfl (by decide) (by decide) (by decide) rfl (by decide) ?_
        exact lc_shadow hl0 F B hn hD hM hS hi hR hC G hl kk
      · refine ad_tabIn (tgt := 1099) F dL_law_44 rfl (by decide) (by decide) (by decide) rfl (by decide) ?_
        exact lc_letterCount hl0 F B hn hD hM hS hi hR hC G hl kk
      · refine ad_tabIn (tgt := 1185) F dL_law_44 rfl (by decide) (by decide) (by decide) rfl (by decide) ?_
        exact lc_saving hl0 F B hn hD hM hS hi hR hC G hl kk
      · refine ad_tabIn (tgt := 1241) F dL_law_44 rfl (by decide) (by decide) (by decide) rfl (by decide) ?_
        exact lc_learn hl0 F B hn hD hM hS hi hR hC G hl kk
      · refine ad_tabIn (tgt := 1285) F dL_law_44 rfl (by decide) (by decide) (by decide) rfl (by decide) ?_
        exact lc_pair hl0 F B hn hD hM hS hi hR hC G hl kk
      · refine ad_tabIn (tgt := 1353) F dL_law_44 rfl (by decide) (by decide) (by decide) rfl (by decide) ?_
        exact lc_abbreviate hl0 F B hn hD hM hS hi hR hC G hl kk
      · refine ad_tabIn (tgt := 1397) F dL_law_44 rfl (by decide) (by decide) (by decide) rfl (by decide) ?_
        exact lc_expand hl0 F B hn hD hM hS hi hR hC G hl kk
      · refine ad_tabIn (tgt := 1441) F dL_law_44 rfl (by decide) (by decide) (by decide) rfl (by decide) ?_
        exact lc_errorPosition hl0 F B hn hD hM hS hi hR hC G hl kk
      · refine ad_tabIn (tgt := 1485) F dL_law_44 rfl (by decide) (by decide) (by decide) rfl (by decide) ?_
        exact lc_output hl0 F B hn hD hM hS hi hR hC G hl kk
      · refine ad_tabIn (tgt := 1541) F dL_law_44 rfl (by decide) (by decide) (by decide) rfl (by decide) ?_
        exact lc_takeBack hl0 F B hn hD hM hS hi hR hC G hl kk
      · refine ad_tabIn (tgt := 1585) F dL_law_44 rfl (by decide) (by decide) (by decide) rfl (by decide) ?_
        exact lc_word hl0 F B hn hD hM hS hi hR hC G hl kk
      · refine ad_tabIn (tgt := 1653) F dL_law_44 rfl (by decide) (by decide) (by decide) rfl (by decide) ?_
        exact lc_result hl0 F B hn hD hM hS hi hR hC G hl kk
      · refine ad_tabIn (tgt := 1709) F dL_law_44 rfl (by decide) (by decide) (by decide) rfl (by decide) ?_
        exact lc_firstLost hl0 F B hn hD hM hS hi hR hC G hl kk
      · refine ad_tabIn (tgt := 1753) F dL_law_44 rfl (by decide) (by decide) (by decide) rfl (by decide) ?_
        exact lc_share hl0 F B hn hD hM hS hi hR hC G hl kk
      · refine ad_tabIn (tgt := 1818) F dL_law_44 rfl (by decide) (by decide) (by decide) rfl (by decide) ?_
        exact lc_meanPriority hl0 F B hn hD hM hS hi hR hC G hl kk
      · refine ad_tabIn (tgt := 1884) F dL_law_44 rfl (by decide) (by decide) (by decide) rfl (by decide) ?_
        exact lc_storeLengths hl0 F B hn hD hM hS hi hR hC G hl kk
      · refine ad_tabIn (tgt := 1968) F dL_law_44 rfl (by decide) (by decide) (by decide) rfl (by decide) ?_
        exact lc_copyLengths hl0 F B hn hD hM hS hi hR hC G hl kk
      · refine ad_tabIn (tgt := 2043) F dL_law_44 rfl (by decide) (by decide) (by decide) rfl (by decide) ?_
        exact lc_storedBits hl0 F B hn hD hM hS hi hR hC G hl kk
      · refine ad_tabIn (tgt := 2111) F dL_law_44 rfl (by decide) (by decide) (by decide) rfl (by decide) ?_
        exact lc_undo hl0 F B hn hD hM hS hi hR hC G hl kk
      · refine ad_tabIn (tgt := 2155) F dL_law_44 rfl (by decide) (by decide) (by decide) rfl (by decide) ?_
        exact lc_isReplayed hl0 F B hn hD hM hS hi hR hC G hl kk
      · refine ad_tabIn (tgt := 2168) F dL_law_44 rfl (by decide) (by decide) (by decide) rfl (by decide) ?_
        exact lc_snapshot hl0 F B hn hD hM hS hi hR hC G hl kk
      · refine ad_tabIn (tgt := 2181) F dL_law_44 rfl (by decide) (by decide) (by decide) rfl (by decide) ?_
        exact lc_restore hl0 F B hn hD hM hS hi hR hC G hl kk
