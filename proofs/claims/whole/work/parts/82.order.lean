/-! the pool of commands, and what they make -/
abbrev Cm : Type := Nat × Option Nat × Int × Int × Int × Int × Option (Nat × Nat × (Nat → Int) × List Int × Nat)
def cmV (c : Cm) : List Value := [va_rf c.2.1, .int (iI c.2.2.1), .int (iI c.2.2.2.1), .int (iI c.2.2.2.2.1), .int (iI c.2.2.2.2.2.1), va_rf (c.2.2.2.2.2.2.map (fun t => t.1))]
def cmW (K : Nat → ClassId) (c : Cm) : va_W := (c.1, .inr (1, cmV c)) :: (match c.2.2.2.2.2.2 with | none => [] | some (tq, ta, g, w, _) => [(tq, .inr (7, [.ref ta, .int (iI (w.length : Int))])), (ta, aI (K 2) w.length g)])
def clW (K : Nat → ClassId) (pl : List Cm) : va_W := (pl.map (cmW K)).flatten
theorem cl_mem {K : Nat → ClassId} {pl : List Cm} {c : Cm} (h : c ∈ pl) : (c.1, (.inr (1, cmV c) : va_E)) ∈ clW K pl := by
  refine List.mem_flatten.mpr ⟨cmW K c, List.mem_map.mpr ⟨c, h, rfl⟩, ?_⟩
  unfold cmW
  exact List.mem_cons_self
theorem cl_take {K : Nat → ClassId} {pl : List Cm} {i : Nat} {c : Cm} (h : pl[i]? = some c) : (clW K pl).Perm (cmW K c ++ clW K (pl.eraseIdx i)) := by
  obtain ⟨hi, rfl⟩ := List.getElem?_eq_some_iff.mp h
  exact ((pick_perm hi).map (cmW K)).flatten
abbrev S4 : Type := List Rl × List Pr × Int × Int
def apC (c : Cm) (s : S4) : S4 :=
  if c.2.2.1 = 0 then (match c.2.2.2.2.2.2 with | none => s | some (_, _, _, w, _) => (insR s.1 (c.2.2.2.1, c.2.2.2.2.1, c.2.2.2.2.2.1, shW w, loW w), s.2))
  else if c.2.2.1 = 1 then (s.1.eraseIdx c.2.2.2.1.toNat, s.2)
  else if c.2.2.1 = 2 then (rsetp s.1 c.2.2.2.1 c.2.2.2.2.1, s.2)
  else if c.2.2.1 = 3 then (rsetc s.1 c.2.2.2.1 c.2.2.2.2.1, s.2)
  else if c.2.2.1 = 4 then (s.1, s.2.1, c.2.2.2.1, s.2.2.2)
  else if c.2.2.1 = 5 then (s.1, s.2.1, s.2.2.1, c.2.2.2.1)
  else (match c.2.2.2.2.2.2 with | none => s | some (_, _, _, w, n) => ((lrnT s.1 s.2.1 s.2.2.2 w n n).1, (lrnT s.1 s.2.1 s.2.2.2 w n n).2, s.2.2.1, s.2.2.2))
/-- a command that went well on a state -/
def okC (c : Cm) (s : S4) : Prop :=
  (∃ (a : Nat) (pv : Option Nat) (f1 f2 f3 : Int) (tq ta : Nat) (g : Nat → Int) (w : List Int) (n : Nat), c = (a, pv, 0, f1, f2, f3, some (tq, ta, g, w, n)) ∧ (Tx g w ∧ Chs w ∧ w.length ≤ 100) ∧ errR w = -1 ∧ (0 ≤ f1 ∧ f1 ≤ 2) ∧ (0 ≤ f2 ∧ f2 ≤ 99) ∧ (0 ≤ f3 ∧ f3 ≤ 4)) ∨
  (∃ (a : Nat) (pv : Option Nat) (f1 f2 f3 : Int), c = (a, pv, 1, f1, f2, f3, none) ∧ (0 ≤ f1 ∧ f1 < s.1.length)) ∨
  (∃ (a : Nat) (pv : Option Nat) (f1 f2 f3 : Int), c = (a, pv, 2, f1, f2, f3, none) ∧ (0 ≤ f1 ∧ f1 < s.1.length) ∧ (0 ≤ f2 ∧ f2 ≤ 99)) ∨
  (∃ (a : Nat) (pv : Option Nat) (f1 f2 f3 : Int), c = (a, pv, 3, f1, f2, f3, none) ∧ (0 ≤ f1 ∧ f1 < s.1.length) ∧ (0 ≤ f2 ∧ f2 ≤ 4)) ∨
  (∃ (a : Nat) (pv : Option Nat) (f1 f2 f3 : Int), c = (a, pv, 4, f1, f2, f3, none) ∧ (0 ≤ f1 ∧ f1 ≤ 1)) ∨
  (∃ (a : Nat) (pv : Option Nat) (f1 f2 f3 : Int), c = (a, pv, 5, f1, f2, f3, none) ∧ (1 ≤ f1 ∧ f1 ≤ 9)) ∨
  (∃ (a : Nat) (pv : Option Nat) (f1 f2 f3 : Int) (tq ta : Nat) (g : Nat → Int) (w : List Int) (n : Nat), c = (a, pv, 6, f1, f2, f3, some (tq, ta, g, w, n)) ∧ (Tx g w ∧ Chs w ∧ w.length ≤ 100) ∧ RP w n)
def s40 : S4 := ([], [], 1, 2)
def runC : List Cm → S4
  | [] => s40
  | c :: cs => apC c (runC cs)
def okR : List Cm → Prop
  | [] => True
  | c :: cs => okC c (runC cs) ∧ okR cs
def Chn (pl : List Cm) : List Cm → Option Nat → Prop
  | [], lc => lc = none
  | c :: cs, lc => lc = some c.1 ∧ c ∈ pl ∧ Chn pl cs c.2.1
theorem Chn.mono {pl pl' : List Cm} (h : ∀ c ∈ pl, c ∈ pl') : ∀ {cs : List Cm} {lc : Option Nat}, Chn pl cs lc → Chn pl' cs lc
  | [], _, q => q
  | _ :: _, _, q => ⟨q.1, h _ q.2.1, Chn.mono h q.2.2⟩
theorem Chn.mem {pl : List Cm} : ∀ {cs : List Cm} {lc : Option Nat}, Chn pl cs lc → ∀ c ∈ cs, c ∈ pl
  | [], _, _ => fun _ h => nomatch h
  | _ :: _, _, q => fun c h => (List.mem_cons.mp h).elim (fun e => e ▸ q.2.1) (fun e => Chn.mem q.2.2 c e)
theorem apC_ok {c : Cm} {s : S4} {B : Int} (hc : okC c s) (h1 : RW s.1) (h2 : PW s.2.1 B) (h3 : 0 ≤ s.2.2.1 ∧ s.2.2.1 ≤ 1) (h4 : 1 ≤ s.2.2.2 ∧ s.2.2.2 ≤ 9) (hB : 0 ≤ B) (hB2 : B + 25 ≤ 1000000) : RW (apC c s).1 ∧ PW (apC c s).2.1 (B + 25) ∧ (0 ≤ (apC c s).2.2.1 ∧ (apC c s).2.2.1 ≤ 1) ∧ (1 ≤ (apC c s).2.2.2 ∧ (apC c s).2.2.2 ≤ 9) := by
  have hup : PW s.2.1 (B + 25) := ⟨h2.1, hB2, fun p hp => by
    obtain ⟨a, b, c⟩ := h2.2.2 p hp
    exact ⟨a, by omega, c⟩⟩
  rcases hc with ⟨a, pv, f1, f2, f3, tq, ta, g, w, n, rfl, ht, he, k1, k2, k3⟩ | ⟨a, pv, f1, f2, f3, rfl, k1⟩ | ⟨a, pv, f1, f2, f3, rfl, k1, k2⟩ | ⟨a, pv, f1, f2, f3, rfl, k1, k2⟩ | ⟨a, pv, f1, f2, f3, rfl, k1⟩ | ⟨a, pv, f1, f2, f3, rfl, k1⟩ | ⟨a, pv, f1, f2, f3, tq, ta, g, w, n, rfl, ht, hr⟩
  · refine ⟨?_, hup, h3, h4⟩
    show RW (insR s.1 (f1, f2, f3, shW w, loW w))
    unfold insR
    split
    · rename_i q
      exact RW_push h1 (RO_of he k1 k2 k3) q
    · exact h1
  · exact ⟨RW_erase h1 _, hup, h3, h4⟩
  · exact ⟨RW_setp h1 k1.1 k1.2 k2, hup, h3, h4⟩
  · exact ⟨RW_setc h1 k1.1 k1.2 k2, hup, h3, h4⟩
  · exact ⟨h1, hup, k1, h4⟩
  · exact ⟨h1, hup, h3, k1⟩
  · have hl := RW_lrnT h1 h2 hB hB2 h4 hr n (Nat.le_refl _)
    have hn := hr.2.1
    refine ⟨hl.1, ⟨hl.2.1, hB2, fun p hp => ?_⟩, h3, h4⟩
    obtain ⟨a, b, c⟩ := hl.2.2.2 p hp
    exact ⟨a, by omega, c⟩
theorem run_ok : ∀ (cs : List Cm), okR cs → cs.length ≤ 512 → RW (runC cs).1 ∧ PW (runC cs).2.1 (25 * cs.length) ∧ (0 ≤ (runC cs).2.2.1 ∧ (runC cs).2.2.1 ≤ 1) ∧ (1 ≤ (runC cs).2.2.2 ∧ (runC cs).2.2.2 ≤ 9)
  | [], _, _ => ⟨⟨by simp [runC, s40], by simp [runC, s40]⟩, ⟨by simp [runC, s40], by simp, by simp [runC, s40]⟩, by simp [runC, s40], by simp [runC, s40]⟩
  | c :: cs, h, hl => by
    simp only [List.length_cons] at hl
    obtain ⟨a1, a2, a3, a4⟩ := run_ok cs h.2 (by omega)
    have := apC_ok h.1 a1 a2 a3 a4 (by omega) (by omega)
    rw [show (25 : Int) * ((c :: cs).length : Int) = 25 * cs.length + 25 by simp only [List.length_cons]; omega]
    exact this
theorem okR_drop : ∀ (k : Nat) {cs : List Cm}, okR cs → okR (cs.drop k)
  | 0, _, h => h
  | _ + 1, [], _ => trivial
  | k + 1, _ :: cs, h => okR_drop k (cs := cs) h.2
theorem dr_s {cs cs9 : List Cm} {c9 : Cm} (h : c9 :: cs9 = cs.drop (cs.length - (c9 :: cs9).length) ∧ (c9 :: cs9).length ≤ cs.length) : cs9 = cs.drop (cs.length - cs9.length) ∧ cs9.length ≤ cs.length := by
  obtain ⟨h1, h2⟩ := h
  simp only [List.length_cons] at h1 h2
  refine ⟨?_, by omega⟩
  have e : (cs.drop (cs.length - (cs9.length + 1))).drop 1 = cs9 := by rw [← h1]; rfl
  rw [List.drop_drop] at e
  rw [← e]
  congr 1
  rw [e]
  omega
theorem fx_s {cs cs9 : List Cm} {c9 : Cm} {gx : Nat → Option Nat} {num : Int} (h : c9 :: cs9 = cs.drop (cs.length - (c9 :: cs9).length) ∧ (c9 :: cs9).length ≤ cs.length) (hf : ∀ j : Nat, j < cs.length - (c9 :: cs9).length → gx (cs.length - 1 - j) = (cs[j]?).map (fun c => c.1)) (hn : num.toNat = cs9.length) : ∀ j : Nat, j < cs.length - cs9.length → va_up gx num.toNat (some c9.1) (cs.length - 1 - j) = (cs[j]?).map (fun c => c.1) := by
  obtain ⟨h1, h2⟩ := h
  simp only [List.length_cons] at h1 h2 hf
  intro j hj
  have hc : cs[cs.length - (cs9.length + 1)]? = some c9 := by
    have e := congrArg (fun l => l[0]?) h1
    simp only [List.getElem?_drop, Nat.add_zero] at e
    exact e.symm
  by_cases e : j = cs.length - (cs9.length + 1)
  · rw [e, hc, hn]
    have : cs.length - 1 - (cs.length - (cs9.length + 1)) = cs9.length := by omega
    simp [va_up, this]
  · have e2 : ¬ cs.length - 1 - j = num.toNat := by omega
    simp only [va_up, if_neg e2]
    exact hf j (by omega)
section ADG7
variable {p : Program} {l : Launch} {e : Env} {R : Room} {s : State} {m : MethodId} {args : Array Value} {below : List Frame} {meth : Method} {c : Code} {H : Heap} {locs : List Loc} {cells slots : Nat} {Q : State → Prop}
variable {own nm : String} {cc : ByteArray} {nL : Nat} {ret : Option FieldType} {D : va_G} {K : Nat → ClassId} {z0 : Nat} {A : Nat → Prop} {ws : va_W} {pc : Nat} {ls : Array Slot} {rest : List Value} {a : Nat}
theorem ad_getm (F : ad_F p s m args meth c own nm cc nL ret D K z0 A) (G : ad_G D A s.heap H locs ws) {index ci kf : Nat} {fin : Bool} {ty : FieldType} (L : ad_fl own index ci kf fin ty) {fs : List Value} (hm : (a, (.inr (ci, fs) : va_E)) ∈ ws) {v : Value} (hv : fs[kf]? = some v) (d : decode cc pc = .ok (.getfield index, 3)) (k : W p l e R s m args below meth c H locs cells slots Q (F0 m (pc + 3) ls (v :: rest))) : W p l e R s m args below meth c H locs cells slots Q (F0 m pc ls (.ref a :: rest)) := by
  obtain ⟨q0, hq⟩ := List.mem_iff_getElem?.mp hm
  exact ad_get F G L q0 hq hv d k
end ADG7
def rm_X10_orderCommands : Room := { frames := 1, cells := 0, slots := 0, locals := 40 }
set_option maxHeartbeats 4000000 in
set_option maxRecDepth 100000 in
theorem c_X10_orderCommands (l : Launch) (D : va_G) (K : Nat → ClassId) (z0 : Nat) (d0 : Nat) (bfq : Nat) (gvq : Nat) (ckq : Nat) (tuq : Nat) (buq : Nat) (hb : Nat) (svq : Nat) (rbq : Nat) (roq : Nat) (hh : Nat) (lq : Nat) (zq : Nat) (yq : Nat) (le : Int) (hsn : Int) (ak : Nat) (ap : Nat) (ac : Nat) (ash : Nat) (alo : Nat) (apc : Nat) (aps : Nat) (apl : Nat) (rs : List Rl) (ps : List Pr) (md : Int) (th : Int) (lc : Option Nat) (nc : Int) (gR : Nat → Option Nat) (pl : List Cm) (cs : List Cm) (hch0 : Chn pl cs lc) (hnc : nc = cs.length ∧ cs.length ≤ 512) : CT l D K z0 yX10_orderCommands cX10_orderCommands 4 (some .int) rm_X10_orderCommands [.ref d0] ([(d0, .inr (10, [.ref bfq, .ref gvq, .ref ckq, .ref tuq, .ref buq, .ref hb, .ref svq, .ref rbq, .ref roq, .ref hh, .ref lq, .ref zq, .ref yq, .int (iI le), .int (iI hsn)])), (hb, .inr (0, [.ref ak, .ref ap, .ref ac, .ref ash, .ref alo, .int (iI (rs.length : Int)), .ref apc, .ref aps, .ref apl, .int (iI (ps.length : Int)), .int (iI md), .int (iI th), va_rf lc, .int (iI nc)])), (roq, aR (K 6) 512 gR)] ++ (clW K pl)) (fun v9 u9 => ∃ (gR2 : Nat → Option Nat), v9 = some (.int (iI nc)) ∧ (∀ j : Nat, j < cs.length → gR2 (cs.length - 1 - j) = (cs[j]?).map (fun c => c.1)) ∧ u9 = ([(d0, .inr (10, [.ref bfq, .ref gvq, .ref ckq, .ref tuq, .ref buq, .ref hb, .ref svq, .ref rbq, .ref roq, .ref hh, .ref lq, .ref zq, .ref yq, .int (iI le), .int (iI hsn)])), (hb, .inr (0, [.ref ak, .ref ap, .ref ac, .ref ash, .ref alo, .int (iI (rs.length : Int)), .ref apc, .ref aps, .ref apl, .int (iI (ps.length : Int)), .int (iI md), .int (iI th), va_rf lc, .int (iI nc)])), (roq, aR (K 6) 512 gR2)] ++ (clW K pl))) := by
  refine CT.start RX10 "orderCommands" (by decide) rfl rfl (Nat.le_of_ble_eq_true rfl) ?_
  intro p9 e9 s9 m9 ag9 bl9 mt9 c9 A9 Q9 ls F G hR hl
  have hl : lv_has ls 4 [(0, .ref d0)] := hl
  refine lv_aload_n F.1 F.2.1 dX10_orderCommands_0 rfl (lv_at hl 0 rfl) ?_
  refine ad_get F G fl_X10_41 0 rfl rfl dX10_orderCommands_1 ?_
  refine ad_get F G fl_X10_208 1 rfl rfl dX10_orderCommands_4 ?_
  refine lv_aload_n F.1 F.2.1 dX10_orderCommands_7 rfl (lv_at hl 0 rfl) ?_
  refine ad_get F G fl_X10_53 0 rfl rfl dX10_orderCommands_8 ?_
  refine ad_alen F G 2 6 rfl rfl (n := 512) rfl dX10_orderCommands_11 ?_
  refine ad_min F mn_X10_379 hl.1 (Nat.le_of_ble_eq_true rfl) (Nat.le_of_ble_eq_true rfl) (Nat.le_of_ble_eq_true rfl) (Nat.le_of_ble_eq_true rfl) (by omega) dX10_orderCommands_12 ?_
  refine ad_topi (y := nc) (by unfold imin; split <;> omega) ?_
  refine lv_istore_n (lv' := [(1, .int (iI nc)), (0, .ref d0)]) F.1 F.2.1 dX10_orderCommands_15 rfl hl (by decide) rfl (fun ls hl => ?_)
  refine lv_aload_n F.1 F.2.1 dX10_orderCommands_16 rfl (lv_at hl 1 rfl) ?_
  refine ad_get F G fl_X10_41 0 rfl rfl dX10_orderCommands_17 ?_
  refine ad_get F G fl_X10_138 1 rfl rfl dX10_orderCommands_20 ?_
  refine ad_astoreq_n (lv' := [(2, va_rf lc), (1, .int (iI nc)), (0, .ref d0)]) F dX10_orderCommands_23 rfl hl (by decide) (by cases lc <;> rfl) (fun ls hl => ?_)
  refine lv_iload_n F.1 F.2.1 dX10_orderCommands_24 rfl (lv_at hl 1 rfl) ?_
  refine ad_iconst F dX10_orderCommands_25 ?_
  refine ad_isub F dX10_orderCommands_26 ?_
  refine lv_istore_n (lv' := [(3, .int (iI (nc - 1))), (2, va_rf lc), (1, .int (iI nc)), (0, .ref d0)]) F.1 F.2.1 dX10_orderCommands_27 rfl hl (by decide) (by cases lc <;> rfl) (fun ls hl => ?_)
  have lp28 : ∀ (n28 : Nat) (num : Int) (lcx : Option Nat) (csx : List Cm) (gx : Nat → Option Nat) (H : Heap) (locs : List Loc) (ls : Array Slot), (-1 ≤ num ∧ num < 512) → (Chn pl csx lcx) → ((csx.length : Int) = num + 1) → (csx = cs.drop (cs.length - csx.length) ∧ csx.length ≤ cs.length) → (∀ j : Nat, j < cs.length - csx.length → gx (cs.length - 1 - j) = (cs[j]?).map (fun c => c.1)) → (num + 1) < (n28 : Int) → ad_G D A9 s9.heap H locs ([(d0, .inr (10, [.ref bfq, .ref gvq, .ref ckq, .ref tuq, .ref buq, .ref hb, .ref svq, .ref rbq, .ref roq, .ref hh, .ref lq, .ref zq, .ref yq, .int (iI le), .int (iI hsn)])), (hb, .inr (0, [.ref ak, .ref ap, .ref ac, .ref ash, .ref alo, .int (iI (rs.length : Int)), .ref apc, .ref aps, .ref apl, .int (iI (ps.length : Int)), .int (iI md), .int (iI th), va_rf lc, .int (iI nc)])), (roq, aR (K 6) 512 gx)] ++ (clW K pl)) → lv_has ls 4 [(0, .ref d0), (1, .int (iI nc)), (2, va_rf lcx), (3, .int (iI num))] → W p9 l e9 rm_X10_orderCommands s9 m9 ag9 bl9 mt9 c9 H locs 0 0 Q9 (F0 m9 28 ls []) := by
    intro n28
    induction n28 with
    | zero =>
      intro num lcx csx gx H locs ls hnu hch hlx hsu hfx hm28
      exact absurd hm28 (by omega)
    | succ n28 ih28 =>
      intro num lcx csx gx H locs ls hnu hch hlx hsu hfx hm28 G hl
      refine lv_iload_n F.1 F.2.1 dX10_orderCommands_28 rfl (lv_at hl 3 rfl) ?_
      refine ad_if_lt (tgt := 54) F (by omega) dX10_orderCommands_29 (by decide) (fun cc_1 => ?_) (fun cc_1 => ?_)
      · refine lv_iload_n F.1 F.2.1 dX10_orderCommands_54 rfl (lv_at hl 1 rfl) ?_
        exact ad_ireturn F G hR rfl (Nat.le_of_ble_eq_true rfl) (Nat.le_of_ble_eq_true rfl) ⟨gx, rfl, (fun j hj => hfx j (by omega)), rfl⟩ dX10_orderCommands_55
      · obtain ⟨c9, cs9, hcs9⟩ : ∃ c9 cs9, csx = c9 :: cs9 := by
          cases csx with
          | nil => simp only [List.length_nil] at hlx; omega
          | cons a b => exact ⟨a, b, rfl⟩
        subst hcs9
        obtain ⟨hlc9, hm9, hch9⟩ := hch
        subst hlc9
        replace hl : lv_has ls 4 [(0, .ref d0), (1, .int (iI nc)), (2, .ref c9.1), (3, .int (iI num))] := hl
        have hl9 : (cs9.length : Int) = num := by simp only [List.length_cons] at hlx; omega
        have hl8 : (c9 :: cs9).length = cs9.length + 1 := rfl
        refine lv_aload_n F.1 F.2.1 dX10_orderCommands_32 rfl (lv_at hl 2 rfl) ?_
        refine lv_ifnull F.1 F.2.1 dX10_orderCommands_33 ?_
        refine lv_aload_n F.1 F.2.1 dX10_orderCommands_36 rfl (lv_at hl 0 rfl) ?_
        refine ad_get F G fl_X10_53 0 rfl rfl dX10_orderCommands_37 ?_
        refine lv_iload_n F.1 F.2.1 dX10_orderCommands_40 rfl (lv_at hl 3 rfl) ?_
        refine lv_aload_n F.1 F.2.1 dX10_orderCommands_41 rfl (lv_at hl 2 rfl) ?_
        refine ad_aast F G 2 6 1 rfl rfl (List.mem_append_right _ (cl_mem hm9)) rfl (by omega) (ws' := ([(d0, .inr (10, [.ref bfq, .ref gvq, .ref ckq, .ref tuq, .ref buq, .ref hb, .ref svq, .ref rbq, .ref roq, .ref hh, .ref lq, .ref zq, .ref yq, .int (iI le), .int (iI hsn)])), (hb, .inr (0, [.ref ak, .ref ap, .ref ac, .ref ash, .ref alo, .int (iI (rs.length : Int)), .ref apc, .ref aps, .ref apl, .int (iI (ps.length : Int)), .int (iI md), .int (iI th), va_rf lc, .int (iI nc)])), (roq, aR (K 6) 512 (va_up gx num.toNat (some c9.1)))] ++ (clW K pl))) rfl dX10_orderCommands_42 (fun H locs G => ?_)
        refine lv_aload_n F.1 F.2.1 dX10_orderCommands_43 rfl (lv_at hl 2 rfl) ?_
        refine ad_getm F G fl_X10_385 (List.mem_append_right _ (cl_mem hm9)) (v := va_rf c9.2.1) rfl dX10_orderCommands_44 ?_
        refine ad_astoreq_n (lv' := [(2, va_rf c9.2.1), (0, .ref d0), (1, .int (iI nc)), (3, .int (iI num))]) F dX10_orderCommands_47 rfl hl (by decide) (by cases c9.2.1 <;> rfl) (fun ls hl => ?_)
        refine ad_iinc (lv' := [(3, .int (iI (num + (-1)))), (2, va_rf c9.2.1), (0, .ref d0), (1, .int (iI nc))]) F dX10_orderCommands_48 hl (k := 3) rfl (by decide) (by cases c9.2.1 <;> rfl) (fun ls hl => ?_)
        refine lv_goto (tgt := 28) F.1 F.2.1 dX10_orderCommands_51 (by decide) ?_
        exact ih28 (num + (-1)) c9.2.1 cs9 (va_up gx num.toNat (some c9.1)) _ _ _ (by omega) hch9 (by omega) (dr_s hsu) (fx_s hsu hfx (by omega)) (by omega) (G.bl (ws' := ([(d0, .inr (10, [.ref bfq, .ref gvq, .ref ckq, .ref tuq, .ref buq, .ref hb, .ref svq, .ref rbq, .ref roq, .ref hh, .ref lq, .ref zq, .ref yq, .int (iI le), .int (iI hsn)])), (hb, .inr (0, [.ref ak, .ref ap, .ref ac, .ref ash, .ref alo, .int (iI (rs.length : Int)), .ref apc, .ref aps, .ref apl, .int (iI (ps.length : Int)), .int (iI md), .int (iI th), va_rf lc, .int (iI nc)])), (roq, aR (K 6) 512 (va_up gx num.toNat (some c9.1)))] ++ (clW K pl))) [[(d0, .inr (10, [.ref bfq, .ref gvq, .ref ckq, .ref tuq, .ref buq, .ref hb, .ref svq, .ref rbq, .ref roq, .ref hh, .ref lq, .ref zq, .ref yq, .int (iI le), .int (iI hsn)]))], [(hb, .inr (0, [.ref ak, .ref ap, .ref ac, .ref ash, .ref alo, .int (iI (rs.length : Int)), .ref apc, .ref aps, .ref apl, .int (iI (ps.length : Int)), .int (iI md), .int (iI th), va_rf lc, .int (iI nc)]))], [(roq, aR (K 6) 512 (va_up gx num.toNat (some c9.1)))], clW K pl] [[(d0, .inr (10, [.ref bfq, .ref gvq, .ref ckq, .ref tuq, .ref buq, .ref hb, .ref svq, .ref rbq, .ref roq, .ref hh, .ref lq, .ref zq, .ref yq, .int (iI le), .int (iI hsn)]))], [(hb, .inr (0, [.ref ak, .ref ap, .ref ac, .ref ash, .ref alo, .int (iI (rs.length : Int)), .ref apc, .ref aps, .ref apl, .int (iI (ps.length : Int)), .int (iI md), .int (iI th), va_rf lc, .int (iI nc)]))], [(roq, aR (K 6) 512 (va_up gx num.toNat (some c9.1)))], clW K pl] [0, 1, 2, 3] [] (by simp only [List.flatten_cons, List.flatten_nil, List.append_nil, List.append_assoc, List.cons_append, List.nil_append, va_rf_s, va_rf_n]) (n := 4) rfl (by decide) rfl (by simp only [List.flatten_cons, List.flatten_nil, List.append_nil, List.append_assoc, List.cons_append, List.nil_append, va_rf_s, va_rf_n])) (lv_sub hl [2, 3, 1, 0] rfl)
  exact lp28 (((((nc - 1) + 1 : Int)) + 1).toNat) (nc - 1) lc cs gR _ _ _ (by omega) hch0 (by omega) ⟨by simp, Nat.le_refl _⟩ (fun j hj => by omega) (by omega) (G.bl (ws' := ([(d0, .inr (10, [.ref bfq, .ref gvq, .ref ckq, .ref tuq, .ref buq, .ref hb, .ref svq, .ref rbq, .ref roq, .ref hh, .ref lq, .ref zq, .ref yq, .int (iI le), .int (iI hsn)])), (hb, .inr (0, [.ref ak, .ref ap, .ref ac, .ref ash, .ref alo, .int (iI (rs.length : Int)), .ref apc, .ref aps, .ref apl, .int (iI (ps.length : Int)), .int (iI md), .int (iI th), va_rf lc, .int (iI nc)])), (roq, aR (K 6) 512 gR)] ++ (clW K pl))) [[(d0, .inr (10, [.ref bfq, .ref gvq, .ref ckq, .ref tuq, .ref buq, .ref hb, .ref svq, .ref rbq, .ref roq, .ref hh, .ref lq, .ref zq, .ref yq, .int (iI le), .int (iI hsn)]))], [(hb, .inr (0, [.ref ak, .ref ap, .ref ac, .ref ash, .ref alo, .int (iI (rs.length : Int)), .ref apc, .ref aps, .ref apl, .int (iI (ps.length : Int)), .int (iI md), .int (iI th), va_rf lc, .int (iI nc)]))], [(roq, aR (K 6) 512 gR)], clW K pl] [[(d0, .inr (10, [.ref bfq, .ref gvq, .ref ckq, .ref tuq, .ref buq, .ref hb, .ref svq, .ref rbq, .ref roq, .ref hh, .ref lq, .ref zq, .ref yq, .int (iI le), .int (iI hsn)]))], [(hb, .inr (0, [.ref ak, .ref ap, .ref ac, .ref ash, .ref alo, .int (iI (rs.length : Int)), .ref apc, .ref aps, .ref apl, .int (iI (ps.length : Int)), .int (iI md), .int (iI th), va_rf lc, .int (iI nc)]))], [(roq, aR (K 6) 512 gR)], clW K pl] [0, 1, 2, 3] [] (by simp only [List.flatten_cons, List.flatten_nil, List.append_nil, List.append_assoc, List.cons_append, List.nil_append, va_rf_s, va_rf_n]) (n := 4) rfl (by decide) rfl (by simp only [List.flatten_cons, List.flatten_nil, List.append_nil, List.append_assoc, List.cons_append, List.nil_append, va_rf_s, va_rf_n])) (lv_sub hl [3, 2, 1, 0] rfl)
