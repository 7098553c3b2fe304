theorem ad_qN {C : String} (o : Option Nat) : narrow (.object C) (va_rf o) = va_rf o ∧ fits (.object C) (va_rf o) = true := by cases o <;> exact ⟨rfl, rfl⟩
def cpy {α : Type} (f g : Nat → α) (n : Nat) : Nat → α := fun k => if k < n then f k else g k
theorem cpy_in {α : Type} {f g : Nat → α} {n : Nat} {z : Int} (h0 : 0 ≤ z) (h : z < n) : cpy f g n z.toNat = f z.toNat := by
  have : z.toNat < n := by omega
  simp [cpy, this]
theorem cpy_va {α : Type} (f g : Nat → α) (n : Nat) : va_cpy f g 0 0 n = cpy f g n := by
  funext k
  simp [va_cpy, cpy]
theorem cpy_i (f g : Nat → Int) (n : Nat) : va_cpy (fun j => iI (f j)) (fun j => iI (g j)) 0 0 n = fun j => iI (cpy f g n j) := by
  funext k
  simp only [va_cpy, cpy, Nat.zero_le, Nat.zero_add, Nat.sub_zero, true_and]
  split <;> rfl
theorem cpy_BRep {gk gp gc kk pp qq : Nat → Int} {gs gl ss ll : Nat → Int64} {rs : List Rl} (h : BRep gk gp gc gs gl rs) (hW : RW rs) : BRep (cpy gk kk 24) (cpy gp pp 24) (cpy gc qq 24) (cpy gs ss 24) (cpy gl ll 24) rs := by
  intro z h0 h1
  have hn := hW.1
  rw [cpy_in h0 (by omega), cpy_in h0 (by omega), cpy_in h0 (by omega), cpy_in h0 (by omega), cpy_in h0 (by omega)]
  exact h z h0 h1
theorem cpy_PRep {gn nn : Nat → Int} {gq gr qq rr : Nat → Int64} {ps : List Pr} {B : Int} (h : PRep gn gq gr ps) (hV : PW ps B) : PRep (cpy gn nn 30) (cpy gq qq 30) (cpy gr rr 30) ps := by
  intro z h0 h1
  have hn := hV.1
  rw [cpy_in h0 (by omega), cpy_in h0 (by omega), cpy_in h0 (by omega)]
  exact h z h0 h1
def ad_sc (own : String) (idx : Nat) : Prop := Cond.methodLink own idx arraycopyName ∈ BIG ∧ Cond.native arraycopyName ∈ BIG ∧ Cond.static arraycopyName ∈ BIG ∧ Cond.initialized "java/lang/System" ∈ BIG
theorem sc_X0_57 : ad_sc RX0 57 := ⟨(ad_mt (List.mem_of_getElem? (i := 470) (by decide +kernel)) (by decide +kernel)), (ad_mt (List.mem_of_getElem? (i := 472) (by decide +kernel)) (by decide +kernel)), (ad_mt (List.mem_of_getElem? (i := 471) (by decide +kernel)) (by decide +kernel)), (ad_mt (List.mem_of_getElem? (i := 22) (by decide +kernel)) (by decide +kernel))⟩
/-! learning one pair -/
def psetn (ps : List Pr) (z c : Int) : List Pr := ps.set z.toNat (c, (pget ps z).2)
theorem PRep_cnt {gn : Nat → Int} {gq gr : Nat → Int64} {ps : List Pr} (h : PRep gn gq gr ps) {z : Int} (hz : 0 ≤ z) (c : Int) : PRep (va_up gn z.toNat c) gq gr (psetn ps z c) := by
  intro x h0 h1
  have h1 : x < ps.length := by simpa [psetn] using h1
  have hx := h x h0 h1
  unfold psetn
  rw [pget_set hz h0 h1, va_upI hz h0]
  by_cases e : x = z
  · subst e; simp only [if_true]; exact ⟨trivial, hx.2⟩
  · simp only [e, if_false]; exact hx
def lps (ps : List Pr) (u v : List Int) : List Pr := if pfi ps u v = ps.length then ps ++ [(0, u, v)] else ps
def lcn (ps : List Pr) (u v : List Int) : Int := (pget (lps ps u v) (pfi ps u v)).1 + 1
def lrnP (ps : List Pr) (u v : List Int) : List Pr := if 30 ≤ pfi ps u v then ps else psetn (lps ps u v) (pfi ps u v) (lcn ps u v)
def lrnR (rs : List Rl) (ps : List Pr) (th : Int) (u v : List Int) : List Rl := if 30 ≤ pfi ps u v then rs else if lcn ps u v = th ∧ wfi rs u v < 0 then (if rs.length < 24 then rs ++ [(0, 10 * th, 0, u, v)] else rs) else rs
def PF (u v : List Int) : Prop := Fw u ∧ Fw v ∧ 1 ≤ u.length ∧ u.length ≤ 6 ∧ u.length < v.length
theorem lps_in {ps : List Pr} {B : Int} (h : PW ps B) {u v : List Int} : pfi ps u v < (lps ps u v).length := by
  have := pfi_b ps u v
  unfold lps
  split
  · simp; omega
  · omega
theorem lcn_b {ps : List Pr} {B : Int} (h : PW ps B) (hB : 0 ≤ B) (u v : List Int) : 1 ≤ lcn ps u v ∧ lcn ps u v ≤ B + 1 := by
  have hb := pfi_b ps u v
  unfold lcn lps
  split
  · rename_i e
    rw [pget_push hb.1 hb.2, if_pos e]
    simp only
    omega
  · have := h.bd hb.1 (by omega)
    omega
theorem PW_lrn {ps : List Pr} {B : Int} (h : PW ps B) (hB : 0 ≤ B) (hB2 : B + 1 ≤ 1000000) {u v : List Int} (hf : PF u v) : PW (lrnP ps u v) (B + 1) := by
  have hb := pfi_b ps u v
  have hc := lcn_b h hB u v
  have hup : ∀ p ∈ ps, PO (B + 1) p := fun p hp => by
    obtain ⟨a1, a2, a3⟩ := h.2.2 p hp
    exact ⟨a1, by omega, a3⟩
  unfold lrnP
  split
  · exact ⟨h.1, hB2, hup⟩
  · rename_i hlt
    have hin := lps_in h (u := u) (v := v)
    refine ⟨?_, hB2, fun p hp => ?_⟩
    · unfold psetn lps
      have := h.1
      split <;> simp <;> omega
    · obtain ⟨n, hl, rfl⟩ := List.getElem_of_mem hp
      have hl2 : n < (lps ps u v).length := by unfold psetn at hl; rwa [List.length_set] at hl
      have hz := pget_n hl
      rw [← hz]
      unfold psetn
      rw [pget_set hb.1 (by omega) (by omega)]
      split
      · have hpo : PF (pget (lps ps u v) (pfi ps u v)).2.1 (pget (lps ps u v) (pfi ps u v)).2.2 := by
          unfold lps
          split
          · rename_i e
            rw [pget_push hb.1 hb.2, if_pos e]
            exact hf
          · have := h.at (z := pfi ps u v) hb.1 (by omega)
            exact this.2.2
        exact ⟨hc.1, hc.2, hpo⟩
      · rename_i hne
        have hle := hl2
        unfold lps at hl2 ⊢
        split
        · rename_i e
          rw [if_pos e, List.length_append, List.length_singleton] at hl2
          rw [pget_push (by omega) (by omega), if_neg (by omega)]
          exact hup _ (pget_mem (by omega) (by omega))
        · rename_i e
          rw [if_neg e] at hl2
          exact hup _ (pget_mem (by omega) (by omega))
theorem RW_lrn {rs : List Rl} (h : RW rs) {ps : List Pr} {th : Int} (ht : 1 ≤ th ∧ th ≤ 9) {u v : List Int} (hf : PF u v) : RW (lrnR rs ps th u v) := by
  unfold lrnR
  split
  · exact h
  · split
    · split
      · rename_i hn
        exact RW_push h (r := (0, 10 * th, 0, u, v)) ⟨by simp, by simp only; omega, by simp, hf.1, hf.2.1, hf.2.2⟩ hn
      · exact h
    · exact h
section ADP
variable {p : Program} {l : Launch} {e : Env} {R : Room} {s : State} {m : MethodId} {args : Array Value} {below : List Frame} {meth : Method} {c : Code} {H : Heap} {locs : List Loc} {cells slots : Nat} {Q : State → Prop}
variable {own nm : String} {cc : ByteArray} {nL : Nat} {ret : Option FieldType} {D : va_G} {K : Nat → ClassId} {z0 : Nat} {A : Nat → Prop} {ws : va_W} {pc : Nat} {ls : Array Slot} {rest : List Value} {a : Nat}
theorem ad_copyi (F : ad_F p s m args meth c own nm cc nL ret D K z0 A) (G : ad_G D A s.heap H locs ws) {index : Nat} (X : ad_sc own index) (hlv : ls.size = nL) (q0 q1 : Nat) {a0 n0 n1 : Nat} {f g : Nat → Int} (h0 : ws[q0]? = some (a0, aI (K 0) n0 f)) (h1 : ws[q1]? = some (a, aI (K 0) n1 g)) {n : Nat} (hn : n ≤ n0 ∧ n ≤ n1 ∧ n < 1000) (hf : 1 ≤ R.frames) (hl : (rest.map fun v => v.category).sum + (nativeFrameWords "java/lang/System" "arraycopy" 5 + 11) ≤ R.locals) {ws' : va_W} (hw : ws.set q1 (a, aI (K 0) n1 (cpy f g n)) = ws') (d : decode cc pc = .ok (.invokestatic index, 3)) (k : ∀ (H : Heap) (locs : List Loc), ad_G D A s.heap H locs ws' → W p l e R s m args below meth c H locs cells slots Q (F0 m (pc + 3) ls rest)) : W p l e R s m args below meth c H locs cells slots Q (F0 m pc ls (.int (iI (n : Int)) :: .int (iI 0) :: .ref a :: .int (iI 0) :: .ref a0 :: rest)) := by
  subst hw
  have c0 : (iI 0).toNatClampNeg = 0 := rfl
  have cn : (iI (n : Int)).toNatClampNeg = n := by rw [iI_cl (by omega)]; omega
  refine va_copyi (D := D) F.1 F.2.1 (F.2.2.2.1.trans hlv.symm) F.2.2.2.2.1 (F.in X.1) (F.in X.2.1) (F.in X.2.2.1) (F.in X.2.2.2) F.2.2.2.2.2.2.2.1 G.1 G.2.1 G.2.2 q0 q1 0 0 h0 h1 rfl rfl rfl (iI_neg (by omega)) (iI_neg (by omega)) (iI_neg (by omega)) (by rw [c0, cn]; omega) (by rw [c0, cn]; omega) (fun _ _ => rfl) hf hl d (fun H1 l1 a1 a2 a3 => ?_)
  rw [c0, cn, cpy_i] at a1 a2
  exact k H1 l1 ⟨a1, a2, a3⟩
theorem ad_copyl (F : ad_F p s m args meth c own nm cc nL ret D K z0 A) (G : ad_G D A s.heap H locs ws) {index : Nat} (X : ad_sc own index) (hlv : ls.size = nL) (q0 q1 : Nat) {a0 n0 n1 : Nat} {f g : Nat → Int64} (h0 : ws[q0]? = some (a0, aJ (K 1) n0 f)) (h1 : ws[q1]? = some (a, aJ (K 1) n1 g)) {n : Nat} (hn : n ≤ n0 ∧ n ≤ n1 ∧ n < 1000) (hf : 1 ≤ R.frames) (hl : (rest.map fun v => v.category).sum + (nativeFrameWords "java/lang/System" "arraycopy" 5 + 11) ≤ R.locals) {ws' : va_W} (hw : ws.set q1 (a, aJ (K 1) n1 (cpy f g n)) = ws') (d : decode cc pc = .ok (.invokestatic index, 3)) (k : ∀ (H : Heap) (locs : List Loc), ad_G D A s.heap H locs ws' → W p l e R s m args below meth c H locs cells slots Q (F0 m (pc + 3) ls rest)) : W p l e R s m args below meth c H locs cells slots Q (F0 m pc ls (.int (iI (n : Int)) :: .int (iI 0) :: .ref a :: .int (iI 0) :: .ref a0 :: rest)) := by
  subst hw
  have c0 : (iI 0).toNatClampNeg = 0 := rfl
  have cn : (iI (n : Int)).toNatClampNeg = n := by rw [iI_cl (by omega)]; omega
  refine va_copyl (D := D) F.1 F.2.1 (F.2.2.2.1.trans hlv.symm) F.2.2.2.2.1 (F.in X.1) (F.in X.2.1) (F.in X.2.2.1) (F.in X.2.2.2) F.2.2.2.2.2.2.2.1 G.1 G.2.1 G.2.2 q0 q1 1 1 h0 h1 rfl rfl rfl (iI_neg (by omega)) (iI_neg (by omega)) (iI_neg (by omega)) (by rw [c0, cn]; omega) (by rw [c0, cn]; omega) (fun _ _ => rfl) hf hl d (fun H1 l1 a1 a2 a3 => ?_)
  rw [c0, cn, cpy_va] at a1 a2
  exact k H1 l1 ⟨a1, a2, a3⟩
end ADP
