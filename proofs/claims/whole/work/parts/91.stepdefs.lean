/-! what the steps rest on -/
section STPD
variable {K : Nat → ClassId}
theorem PRg.of {N : Nat → Nat} {n : Nat} {α : Type} {a : Cm → Int × α × Sx} {z z2 : α} {S2 : Sx} {fs : List Value} {wD : va_W} (c : Cm) (ha : a c = (0, z2, S2)) (hz : z2 = z) (hi : SxI (n + 1) S2) (hd : DkI K N (n + 1) S2 fs wD) : PRg K N n a z fs wD :=
  ⟨c, by rw [ha], by rw [ha]; exact hz, by rw [ha]; exact hi, by rw [ha]; exact hd⟩
theorem PXg.of {N : Nat → Nat} {n : Nat} {α : Type} {a : Cm → Int × α × Sx} {k : Int} {z2 : α} {S2 : Sx} {fs : List Value} {wD : va_W} (c : Cm) (ha : a c = (k, z2, S2)) (hi : SxI (n + 1) S2) (hd : DkI K N (n + 1) S2 fs wD) : PXg K N n a k fs wD :=
  ⟨c, by rw [ha], by rw [ha]; exact hi, by rw [ha]; exact hd⟩
theorem QRg.of {M MH ME MS : Nat → Nat} {α : Type} {a : Cm → Int × α × Sx} {c : Cm} {k : Int} {z z2 : α} {S2 : Sx} {fm : List Value} {wM : va_W} (ha : a c = (k, z2, S2)) (hz : k = 0 → z2 = z) (hm : MoI K M MH ME MS k S2 fm wM) : ((a c).1 = 0 → (a c).2.1 = z) ∧ MoI K M MH ME MS (a c).1 (a c).2.2 fm wM := by
  rw [ha]; exact ⟨hz, hm⟩
/-! the history -/
def hpush (hs : List Bk) (b : Bk) : List Bk := if hs.length < 8 then hs ++ [b] else hs.drop 1 ++ [b]
theorem hpush_len {hs : List Bk} {b : Bk} (h : hs.length ≤ 8) : ((hpush hs b).length : Int) = kpS (hs.length : Int) ∧ (hpush hs b).length ≤ 8 := by
  unfold hpush kpS
  by_cases h8 : hs.length < 8
  · rw [if_pos h8, if_pos (by omega)]
    simp only [List.length_append, List.length_singleton]
    omega
  · rw [if_neg h8, if_neg (by omega)]
    simp only [List.length_append, List.length_singleton, List.length_drop]
    omega
theorem hpush_mem {hs : List Bk} {b x : Bk} (h : x ∈ hpush hs b) : x ∈ hs ∨ x = b := by
  unfold hpush at h
  split at h
  · rcases List.mem_append.mp h with q | q
    · exact Or.inl q
    · exact Or.inr (List.mem_singleton.mp q)
  · rcases List.mem_append.mp h with q | q
    · exact Or.inl (List.mem_of_mem_drop q)
    · exact Or.inr (List.mem_singleton.mp q)
theorem hpush_get {hs : List Bk} {b x : Bk} {i : Nat} (h8 : hs.length ≤ 8) (h : (hpush hs b)[i]? = some x) : (hs.length < 8 ∧ ((i < hs.length ∧ hs[i]? = some x) ∨ (i = hs.length ∧ x = b))) ∨ (hs.length = 8 ∧ ((i < 7 ∧ hs[i + 1]? = some x) ∨ (i = 7 ∧ x = b))) := by
  unfold hpush at h
  by_cases h9 : hs.length < 8
  · rw [if_pos h9] at h
    refine Or.inl ⟨h9, ?_⟩
    by_cases hi : i < hs.length
    · rw [List.getElem?_append_left hi] at h; exact Or.inl ⟨hi, h⟩
    · rw [List.getElem?_append_right (by omega)] at h
      by_cases he : i = hs.length
      · subst he; simp at h; exact Or.inr ⟨rfl, h.symm⟩
      · rw [List.getElem?_eq_none (by simp; omega)] at h; cases h
  · rw [if_neg h9] at h
    refine Or.inr ⟨by omega, ?_⟩
    have hd : (hs.drop 1).length = 7 := by simp; omega
    by_cases hi : i < 7
    · rw [List.getElem?_append_left (by omega), List.getElem?_drop, Nat.add_comm] at h; exact Or.inl ⟨hi, h⟩
    · rw [List.getElem?_append_right (by omega)] at h
      by_cases he : i = 7
      · subst he; rw [hd] at h; simp at h; exact Or.inr ⟨rfl, h.symm⟩
      · rw [List.getElem?_eq_none (by simp; omega)] at h; cases h
theorem hisL.mono {pl pl' : List Cm} {hs : List Bk} {bs : List BkA} (hp : ∀ c ∈ pl, c ∈ pl') (h : hisL pl hs bs) : hisL pl' hs bs := by
  intro i b hi
  obtain ⟨lc, h1, h2⟩ := h i b hi
  exact ⟨lc, h1, Chn.mono hp h2⟩
theorem BokD.mono {h : Nat} {a : Nat → Nat} {pl pl' : List Cm} {b : Bk} {W : va_W} (hp : ∀ c ∈ pl, c ∈ pl') (H : BokD K h a pl b W) : BokD K h a pl' b W := by
  obtain ⟨gk, gp, gc, gs, gl, gn, gq, gr, lc, h1, h2, h3, h4⟩ := H
  exact ⟨gk, gp, gc, gs, gl, gn, gq, gr, lc, h1, h2, Chn.mono hp h3, h4⟩
theorem kpL_ok {B : Int} {bs : List BkA} {b : BkA} {sz : Int} (h : ∀ x ∈ bs, BkOk B x) (hb : BkOk B b) : ∀ x ∈ kpL sz bs b, BkOk B x := by
  intro x hx
  unfold kpL at hx
  split at hx
  · rcases List.mem_or_eq_of_mem_set hx with q | q
    · exact h x q
    · rw [q]; exact hb
  · rcases List.mem_or_eq_of_mem_set hx with q | q
    · rcases List.mem_append.mp q with q | q
      · exact h x (List.mem_of_mem_drop q)
      · exact h x (List.mem_of_mem_take q)
    · rw [q]; exact hb
theorem hisL_push {pl : List Cm} {hs : List Bk} {bs : List BkA} {b : Bk} {b2 : BkA} {lc : Option Nat} (h : hisL pl hs bs) (hR : bs.length = 8) (h8 : hs.length ≤ 8) (hs1 : bkS b2 = (b.1, b.2.1, b.2.2.1, b.2.2.2.1, lc, (b.2.2.2.2.length : Int))) (hc : Chn pl b.2.2.2.2 lc) : hisL pl (hpush hs b) (kpL (hs.length : Int) bs b2) := by
  intro i x hi
  unfold kpL
  rcases hpush_get h8 hi with ⟨h9, ⟨q1, q2⟩ | ⟨q1, q2⟩⟩ | ⟨h9, ⟨q1, q2⟩ | ⟨q1, q2⟩⟩
  · rw [if_pos (by omega), bget_set (by omega), if_neg (by omega)]
    exact h i x q2
  · subst q2
    rw [if_pos (by omega), bget_set (by omega), if_pos (by omega)]
    exact ⟨lc, hs1, hc⟩
  · rw [if_neg (by omega), bget_set (by rw [rotB_len hR]; omega), if_neg (by omega), rotB_get hR (by omega), if_pos (by omega)]
    exact h (i + 1) x q2
  · subst q2
    rw [if_neg (by omega), bget_set (by rw [rotB_len hR]; omega), if_pos q1]
    exact ⟨lc, hs1, hc⟩
theorem HisD.push {h a n : Nat} {pl : List Cm} {hs : List Bk} {b : Bk} {bs bs2 : List BkA} {gB gB2 : Nat → Option Nat} {b2 : BkA} {lc : Option Nat} (c : Cm) (hn : n < 512) (hR : HRep gB bs) (hbs : ∀ x ∈ bs, BkOk (25 * (n : Int)) x) (hhl : hisL pl hs bs) (h8 : hs.length ≤ 8) (he : bs2 = kpL (hs.length : Int) bs b2) (hr : HRep gB2 bs2) (ho : BkOk (25 * (n : Int)) b2) (hs1 : bkS b2 = (b.1, b.2.1, b.2.2.1, b.2.2.2.1, lc, (b.2.2.2.2.length : Int))) (hc : Chn pl b.2.2.2.2 lc) :
    HisD K h a (n + 1) (c :: pl) (hpush hs b) ([(h, .inr (3, [.ref a, .int (iI (kpS (hs.length : Int)))])), (a, aR (K 5) 8 gB2)] ++ plW K bs2) := by
  refine HisD.up hn ⟨gB2, bs2, hr, ?_, ?_, ?_⟩
  · rw [he]; exact kpL_ok hbs ho
  · rw [he]; exact (hisL_push hhl hR.1 h8 hs1 hc).mono (fun x hx => List.mem_cons_of_mem _ hx)
  · rw [(hpush_len (b := b) h8).1]
theorem HisD.mono {h a n : Nat} {pl pl' : List Cm} {hs : List Bk} {W : va_W} (hp : ∀ c ∈ pl, c ∈ pl') (H : HisD K h a n pl hs W) : HisD K h a n pl' hs W := by
  obtain ⟨gB, bs, h1, h2, h3, h4⟩ := H
  exact ⟨gB, bs, h1, h2, h3.mono hp, h4⟩
/-! the command -/
theorem BokD.cmd {h : Nat} {a : Nat → Nat} {pl cs : List Cm} {rs : List Rl} {ps : List Pr} {md th n9 p9 : Int} {gk gp gc : Nat → Int} {gs gl : Nat → Int64} {gn : Nat → Int} {gq gr : Nat → Int64} (c : Cm) (hB : BRep gk gp gc gs gl rs) (hP : PRep gn gq gr ps) (hCh : Chn pl cs c.2.1) (h1 : n9 = (rs.length : Int)) (h2 : p9 = (ps.length : Int)) : BokD K h a (c :: pl) (rs, ps, md, th, c :: cs) (bokE K h a gk gp gc gs gl gn gq gr n9 p9 md th (some c.1) ((cs.length : Int) + 1)) := by
  subst h1; subst h2
  refine ⟨gk, gp, gc, gs, gl, gn, gq, gr, some c.1, hB, hP, ⟨rfl, List.mem_cons_self, Chn.mono (fun x hx => List.mem_cons_of_mem _ hx) hCh⟩, ?_⟩
  show _ = bokE K h a gk gp gc gs gl gn gq gr (rs.length : Int) (ps.length : Int) md th (some c.1) (((c :: cs).length : Nat) : Int)
  rw [show (((c :: cs).length : Nat) : Int) = (cs.length : Int) + 1 by simp]
def cmdS (S : Sx) (b : Bk) (w : List Int) : Sx := (b, w, S.2.2.1, hpush (sH S) (sB S), S.2.2.2.2)
theorem cmd_I {n : Nat} {S : Sx} (hn : n < 512) (hS : SxI n S) {c : Cm} {rs : List Rl} {ps : List Pr} {md th : Int} {w : List Int} (hok : okC c ((sB S).1, (sB S).2.1, (sB S).2.2.1, (sB S).2.2.2.1)) (hap : apC c ((sB S).1, (sB S).2.1, (sB S).2.2.1, (sB S).2.2.2.1) = (rs, ps, md, th)) (hw : Chs w ∧ w.length ≤ 100) : SxI (n + 1) (cmdS S (rs, ps, md, th, c :: (sB S).2.2.2.2) w) := by
  have hS0 := hS.up hn
  obtain ⟨⟨b1, b2, b3, b4, b5, b6⟩, -⟩ := hS
  have h1 := apC_ok hok b1 b2 b3.1 b3.2 (by omega) (by omega)
  rw [hap] at h1
  obtain ⟨a1, a2, a3, a4⟩ := h1
  refine ⟨⟨a1, ?_, ⟨a3, a4⟩, ⟨?_, b4⟩, ?_, ?_⟩, hw, hS0.2.2.1, ⟨(hpush_len hS0.2.2.2.1.1).2, fun x hx => ?_⟩, hS0.2.2.2.2⟩
  · exact a2.up (by omega) (by omega)
  · show okC c (runC (sB S).2.2.2.2)
    rw [b5]; exact hok
  · show apC c (runC (sB S).2.2.2.2) = _
    rw [b5]; exact hap
  · show (c :: (sB S).2.2.2.2).length ≤ n + 1
    rw [List.length_cons]; omega
  · rcases hpush_mem hx with q | q
    · exact hS0.2.2.2.1.2 x q
    · rw [q]; exact hS0.1
/-! the reference's rows -/
theorem RowM.cmd {a : Nat} {g2 : Nat → Int} {rs : List Rl} {ps : List Pr} {md th : Int} {cs : List Cm} (c : Cm) (h : MRow g2 rs ps md th ((cs.length : Int) + 1)) : RowM K a (rs, ps, md, th, c :: cs) [(a, aI (K 0) 1247 g2)] := by
  refine ⟨g2, ?_, rfl⟩
  show MRow g2 rs ps md th (((c :: cs).length : Nat) : Int)
  rw [show (((c :: cs).length : Nat) : Int) = (cs.length : Int) + 1 by simp]
  exact h
theorem HisM.push {M MH : Nat → Nat} {n : Nat} {hs : List Bk} {b : Bk} {gH : Nat → Option Nat} {g : Nat → Int} {gh gh2 : Nat → Nat → Int} (hH : ∀ j : Nat, j < 8 → gH j = some (MH j)) (hgh : ∀ (i : Nat) (b : Bk), hs[i]? = some b → MRow (gh i) b.1 b.2.1 b.2.2.1 b.2.2.2.1 (b.2.2.2.2.length : Int)) (h8 : hs.length ≤ 8) (hI : ∀ x ∈ hs, BkI n x) (hb : BkI n b) (hM : MRow g b.1 b.2.1 b.2.2.1 b.2.2.2.1 (b.2.2.2.2.length : Int)) (hr : RmH g gh gh2 (hs.length : Int)) :
    HisM K M MH (hpush hs b) [(M 3, aR (K 7) 8 gH), (MH 0, aI (K 0) 1247 (gh2 0)), (MH 1, aI (K 0) 1247 (gh2 1)), (MH 2, aI (K 0) 1247 (gh2 2)), (MH 3, aI (K 0) 1247 (gh2 3)), (MH 4, aI (K 0) 1247 (gh2 4)), (MH 5, aI (K 0) 1247 (gh2 5)), (MH 6, aI (K 0) 1247 (gh2 6)), (MH 7, aI (K 0) 1247 (gh2 7))] := by
  refine ⟨gH, gh2, hH, fun i x hi => ?_, rfl⟩
  rcases hpush_get h8 hi with ⟨h9, ⟨q1, q2⟩ | ⟨q1, q2⟩⟩ | ⟨h9, ⟨q1, q2⟩ | ⟨q1, q2⟩⟩
  · rw [(hr.1 (by omega)).2 i (by omega) (by omega)]
    exact hgh i x q2
  · subst q2; subst q1
    exact hM.cg hb.1.1 hb.2.1.1 (hr.1 (by omega)).1
  · have hx := hI x (List.mem_of_getElem? q2)
    exact (hgh (i + 1) x q2).cg hx.1.1 hx.2.1.1 ((hr.2 (by omega)).2 i q1)
  · subst q2; subst q1
    exact hM.cg hb.1.1 hb.2.1.1 (hr.2 (by omega)).1
end STPD
/-! answers that a text or a table determines -/
noncomputable def peV (a b : Int) (w : List Int) : Int := Classical.epsilon (fun r => PE a b w r)
theorem peV_eq {a b : Int} {w : List Int} {r : Int} (h : PE a b w r) : peV a b w = r := PE_uniq (Classical.epsilon_spec (p := fun r => PE a b w r) ⟨r, h⟩) h
theorem RP_uniq {w : List Int} {n m : Nat} (h : RP w n) (h' : RP w m) : n = m := by
  obtain ⟨-, -, a3, a4, -⟩ := h
  obtain ⟨-, -, b3, b4, -⟩ := h'
  have := stk_uniq a3 b3 (fun j hj => (a4 j hj).1) (fun j hj => (b4 j hj).1)
  omega
noncomputable def rpN (w : List Int) : Nat := Classical.epsilon (RP w)
theorem rpN_eq {w : List Int} {n : Nat} (h : RP w n) : rpN w = n := RP_uniq (Classical.epsilon_spec (p := RP w) ⟨n, h⟩) h
theorem RT_uniq {am : Int} {w : List Int} {n m : Nat} (h : RT am w n) (h' : RT am w m) : n = m :=
  stk_uniq h.2.2.1 h'.2.2.1 (fun j hj => (h.2.2.2 j hj).1) (fun j hj => (h'.2.2.2 j hj).1)
noncomputable def rtN (am : Int) (w : List Int) : Nat := Classical.epsilon (RT am w)
theorem rtN_eq {am : Int} {w : List Int} {n : Nat} (h : RT am w n) : rtN am w = n := RT_uniq (Classical.epsilon_spec (p := RT am w) ⟨n, h⟩) h
noncomputable def flV (rs : List Rl) (md : Int) (w : List Int) (N : Nat) : Int := Classical.epsilon (flW rs md w N)
theorem flV_eq {rs : List Rl} {md : Int} {w : List Int} {N : Nat} {r : Int} (h : flW rs md w N r) : flV rs md w N = r := flW_uniq (Classical.epsilon_spec (p := flW rs md w N) ⟨r, h⟩) h
theorem cntb_le {f g : Int → Bool} : ∀ n : Nat, (∀ z : Int, 0 ≤ z → z < n → f z = true → g z = true) → cntb f n ≤ cntb g n
  | 0, _ => Int.le_refl _
  | n + 1, h => by
    have ih := cntb_le n (fun z z0 z1 => h z z0 (by omega))
    have hn := h n (by omega) (by omega)
    simp only [cntb]
    by_cases hf : f n = true
    · rw [if_pos hf, if_pos (hn hf)]; omega
    · rw [if_neg hf]; split <;> omega
theorem cntb_lt {f g : Int → Bool} {a : Int} (ha : 0 ≤ a) (hfa : ¬ f a = true) (hga : g a = true) : ∀ n : Nat, a < n → (∀ z : Int, 0 ≤ z → z < n → f z = true → g z = true) → cntb f n < cntb g n
  | 0, h, _ => by omega
  | n + 1, h0, h => by
    have hn := h n (by omega) (by omega)
    simp only [cntb]
    by_cases he : a = n
    · subst he
      have ih := cntb_le (f := f) (g := g) n (fun z z0 z1 => h z z0 (by omega))
      rw [if_neg hfa, if_pos hga]; omega
    · have ih := cntb_lt ha hfa hga n (by omega) (fun z z0 z1 => h z z0 (by omega))
      by_cases hf : f n = true
      · rw [if_pos hf, if_pos (hn hf)]; omega
      · rw [if_neg hf]; split <;> omega
theorem cnt_less {rs : List Rl} {a b : Int} {n : Nat} (ha : 0 ≤ a ∧ a < n) (h : btr rs a b) : cntb (fun o => btb rs o a) n < cntb (fun o => btb rs o b) n := by
  refine cntb_lt (f := fun o => btb rs o a) (g := fun o => btb rs o b) (a := a) ha.1 ?_ (btb_iff.mpr h) n ha.2 (fun z _ _ hz => ?_)
  · intro h1
    exact btr_irr rfl (btb_iff.mp h1)
  · have h1 := btb_iff.mp hz
    refine btb_iff.mpr ?_
    unfold btr at h h1 ⊢
    omega
theorem cnt_inj {rs : List Rl} {a b : Int} {n : Nat} (ha : 0 ≤ a ∧ a < n) (hb : 0 ≤ b ∧ b < n) (h : cntb (fun o => btb rs o a) n = cntb (fun o => btb rs o b) n) : a = b := by
  by_cases e : a = b
  · exact e
  · have : btr rs a b ∨ btr rs b a := by unfold btr; omega
    rcases this with q | q
    · have := cnt_less (n := n) ha q; omega
    · have := cnt_less (n := n) hb q; omega
def ordP (rs : List Rl) (k r : Int) : Prop := (0 ≤ r ∧ r < rs.length ∧ cntb (fun o => btb rs o r) rs.length = k) ∨ ((∀ z : Int, 0 ≤ z → z < rs.length → cntb (fun o => btb rs o z) rs.length ≠ k) ∧ r = -1)
theorem ordP_uniq {rs : List Rl} {k r r' : Int} (h : ordP rs k r) (h' : ordP rs k r') : r = r' := by
  rcases h with ⟨a1, a2, a3⟩ | ⟨a1, a2⟩ <;> rcases h' with ⟨b1, b2, b3⟩ | ⟨b1, b2⟩
  · exact cnt_inj ⟨a1, a2⟩ ⟨b1, b2⟩ (by rw [a3, b3])
  · exact absurd a3 (b1 r a1 a2)
  · exact absurd b3 (a1 r' b1 b2)
  · omega
noncomputable def ordV (rs : List Rl) (k : Int) : Int := Classical.epsilon (ordP rs k)
theorem ordV_eq {rs : List Rl} {k r : Int} (h : ordP rs k r) : ordV rs k = r := ordP_uniq (Classical.epsilon_spec (p := ordP rs k) ⟨r, h⟩) h
noncomputable def cpV (P : Prop) : Int := Classical.epsilon (fun c : Int => (c = 1 ↔ P) ∧ (c = 0 ∨ c = 1))
theorem cpV_eq {P : Prop} {c : Int} (h : c = 1 ↔ P) (h1 : c = 0 ∨ c = 1) : cpV P = c := by
  have hs := Classical.epsilon_spec (p := fun c : Int => (c = 1 ↔ P) ∧ (c = 0 ∨ c = 1)) ⟨c, h, h1⟩
  show Classical.epsilon (fun c : Int => (c = 1 ↔ P) ∧ (c = 0 ∨ c = 1)) = c
  generalize Classical.epsilon (fun c : Int => (c = 1 ↔ P) ∧ (c = 0 ∨ c = 1)) = d at hs
  obtain ⟨s1, s2⟩ := hs
  have : d = 1 ↔ c = 1 := s1.trans h.symm
  omega
/-! what texts make -/
theorem rnR_len3 {rs : List Rl} (hW : RW rs) {md ab : Int} {w : List Int} : ∀ k : Nat, (∀ j : Nat, j < k → WdOk w j) → (k = 0 ∧ (rnR rs md ab w k).1 = []) ∨ (1 ≤ k ∧ ((rnR rs md ab w k).1.length : Int) ≤ 12 * stk w k - 12)
  | 0, _ => Or.inl ⟨rfl, rfl⟩
  | k + 1, h => by
    refine Or.inr ⟨by omega, ?_⟩
    have ih := rnR_len3 hW (md := md) (ab := ab) k (fun j hj => h j (by omega))
    have hl2 := rnR_len rs md ab w k
    have hk := h k (by omega)
    obtain ⟨t1, t2, t3, t4, t5, t6, t7, t8⟩ := tnW_ok hW (md := md) (ab := ab) hk (plS rs md ab w k)
    have hl := wW_len hk
    obtain ⟨a1, a2, a3, a4, a5, -⟩ := hk
    have hs : stk w (k + 1) = eW w k + 1 := stk_s w k
    simp only [rnR]
    generalize tnW rs md ab w k (plS rs md ab w k) = T at *
    generalize rnR rs md ab w k = s at *
    have q1 := outS_len s.1 s.2.1.length
    have q2 : ((outM (outS s.1 s.2.1.length) T.2.1).length : Int) ≤ (outS s.1 s.2.1.length).length + T.2.1 := by
      unfold outM; split
      · omega
      · simp; omega
    simp only [stR, List.length_append]
    rcases ih with ⟨i1, i2⟩ | ⟨i1, i2⟩
    · subst i1
      have q3 : outS s.1 s.2.1.length = [] := by rw [hl2, i2]; rfl
      rw [q3] at q2
      simp only [List.length_nil] at q2
      have hs0 : stk w 0 = 0 := rfl
      rw [q3]
      omega
    · omega
theorem qget_mem {qs : List Wq} {z : Int} (h0 : 0 ≤ z) (h1 : z < qs.length) : qget qs z ∈ qs := by
  have hl : z.toNat < qs.length := by omega
  rw [qget, if_pos h0, List.getD_eq_getElem?_getD, List.getElem?_eq_getElem hl]
  exact List.getElem_mem hl
theorem outS_mem {ow : List Int} {n x : Int} (h : x ∈ outS ow n) : x ∈ ow ∨ x = 32 := by
  unfold outS at h
  split at h
  · rcases List.mem_append.mp h with q | q
    · exact Or.inl q
    · exact Or.inr (List.mem_singleton.mp q)
  · exact Or.inl h
theorem outM_mem {ow : List Int} {n x : Int} (h : x ∈ outM ow n) : x ∈ ow ∨ x = 39 := by
  unfold outM at h
  split at h
  · exact Or.inl h
  · rcases List.mem_append.mp h with q | q
    · exact Or.inl q
    · exact Or.inr (List.mem_singleton.mp q)
theorem rnR_all {rs : List Rl} (hW : RW rs) {md ab : Int} {w : List Int} : ∀ k : Nat, (∀ j : Nat, j < k → WdOk w j) → Chs (rnR rs md ab w k).1 ∧ ∀ q ∈ (rnR rs md ab w k).2.1, (1 ≤ q.2.2.2.1 ∧ q.2.2.2.1 ≤ 24) ∧ (1 ≤ q.2.2.2.2.1 ∧ q.2.2.2.2.1 ≤ 46)
  | 0, _ => ⟨fun x h => absurd h List.not_mem_nil, fun q h => absurd h List.not_mem_nil⟩
  | k + 1, h => by
    obtain ⟨i1, i2⟩ := rnR_all hW (md := md) (ab := ab) k (fun j hj => h j (by omega))
    have hk := h k (by omega)
    obtain ⟨t1, t2, t3, -⟩ := tnW_ok hW (md := md) (ab := ab) hk (plS rs md ab w k)
    have hl := wW_len hk
    obtain ⟨a1, a2, a3, a4, a5, -⟩ := hk
    simp only [rnR]
    generalize tnW rs md ab w k (plS rs md ab w k) = T at *
    generalize rnR rs md ab w k = s at *
    refine ⟨fun x hx => ?_, fun q hq => ?_⟩
    · simp only [stR] at hx
      rcases List.mem_append.mp hx with q | q
      · rcases outM_mem q with q | q
        · rcases outS_mem q with q | q
          · exact i1 x q
          · omega
        · omega
      · have := t1 x q; omega
    · simp only [stR] at hq
      rcases List.mem_append.mp hq with q1 | q1
      · exact i2 q q1
      · rw [List.mem_singleton.mp q1]
        show (1 ≤ ((wW w k).length : Int) ∧ ((wW w k).length : Int) ≤ 24) ∧ (1 ≤ (T.1.length : Int) ∧ (T.1.length : Int) ≤ 46)
        omega
theorem rn_Rz {rs : List Rl} (hW : RW rs) {md ab am : Int} {w : List Int} {n : Nat} (hr : RT am w (n + 1)) (hl : w.length ≤ 100) (hab : ab = 0 ∨ ab = 1) : RzI 1 ((rnR rs md ab w (n + 1)).1, (rnR rs md ab w (n + 1)).2.1, (w.length : Int), (rnR rs md ab w (n + 1)).2.2.1, (rnR rs md ab w (n + 1)).2.2.2.1, (rnR rs md ab w (n + 1)).2.2.2.2, ab) := by
  obtain ⟨r1, r2, r3, r4⟩ := hr
  have hk : ∀ j : Nat, j < n + 1 → WdOk w j := fun j hj => (r4 j hj).1
  obtain ⟨c1, c2⟩ := rnR_all hW (md := md) (ab := ab) (n + 1) hk
  obtain ⟨-, -, d3, d4, -⟩ := rnR_ok hW (md := md) (ab := ab) (n + 1) hk
  have hl2 := rnR_len rs md ab w (n + 1)
  obtain ⟨w1, w2, w3, w4, -⟩ := hk 0 (by omega)
  have hlen : (rnR rs md ab w (n + 1)).1.length ≤ 1200 := by
    rcases rnR_len3 hW (md := md) (ab := ab) (n + 1) hk with ⟨e, -⟩ | ⟨-, e⟩
    · omega
    · rw [r3] at e; omega
  refine ⟨Or.inr rfl, c1, hlen, ⟨by show (rnR rs md ab w (n + 1)).2.1.length ≤ 50; omega, fun z z0 z1 => c2 _ (qget_mem z0 z1)⟩, ⟨d3.1, by show (rnR rs md ab w (n + 1)).2.2.1 ≤ 100; omega, d4.1, by show (rnR rs md ab w (n + 1)).2.2.2.1 ≤ 9900; omega⟩, hab, fun _ => ⟨by show 1 ≤ (w.length : Int); omega, by show (w.length : Int) ≤ 100; omega⟩⟩
theorem VOk_row {qs : List Wq} (h : QOk qs) : VOk (rowV qs) := by
  refine ⟨by rw [rowV_len]; exact h.1, fun z z0 z1 => ?_⟩
  rw [rowV_len] at z1
  rw [rowV_get z0 z1]
  obtain ⟨h1, h2⟩ := h.2 z z0 z1
  exact ⟨by show 0 ≤ (qget qs z).2.2.2.2.1; omega, h2.2, _, h1.1, h1.2, rfl⟩
theorem VOk_tk {vs ws : List Vw} {k : Int} (h : VOk vs) (h' : VOk ws) (h0 : 0 ≤ k) (h1 : k ≤ vs.length) (h2 : k ≤ ws.length) : VOk (tkV vs ws k) := by
  have hl := tkV_len h0 h1 h2
  refine ⟨by rw [hl]; exact h.1, fun z z0 z1 => ?_⟩
  rw [hl] at z1
  rw [tkV_get h0 h1 h2 z0]
  split
  · exact h'.2 z z0 (by omega)
  · exact h.2 z z0 z1
/-! an empty book -/
theorem RW_nil : RW [] := ⟨by simp, fun r h => absurd h List.not_mem_nil⟩
theorem BkI_nil {n : Nat} (hn : n ≤ 512) : BkI n ([], [], 1, 2, []) := ⟨RW_nil, ⟨by simp, by omega, fun r h => absurd h List.not_mem_nil⟩, ⟨⟨by show (0 : Int) ≤ 1; omega, by show (1 : Int) ≤ 1; omega⟩, ⟨by show (1 : Int) ≤ 2; omega, by show (2 : Int) ≤ 9; omega⟩⟩, trivial, rfl, Nat.zero_le _⟩
theorem BRep_nil {gk gp gc : Nat → Int} {gs gl : Nat → Int64} : BRep gk gp gc gs gl [] := fun z h0 h1 => absurd h1 (by simp; omega)
theorem PRep_nil {gn : Nat → Int} {gq gr : Nat → Int64} : PRep gn gq gr [] := fun z h0 h1 => absurd h1 (by simp; omega)
def setB0 (S : Sx) : Sx := (([], [], 1, 2, []), S.2.1, S.2.2.1, [], S.2.2.2.2)
def setV (S : Sx) : Sx := (S.1, S.2.1, S.2.2.1, S.2.2.2.1, 1, S.1, S.2.2.2.2.2.2)
def setR (S : Sx) : Sx := (S.2.2.2.2.2.1, S.2.1, S.2.2.1, [], S.2.2.2.2)
def bk0x : Bk := ([], [], 1, 2, [])
def hlast (hs : List Bk) : Bk := hs.getD (hs.length - 1) bk0x
def setU (S : Sx) : Sx := (hlast (sH S), S.2.1, S.2.2.1, (sH S).take ((sH S).length - 1), S.2.2.2.2)
def errS (S : Sx) (e : Int) : Sx := (S.1, [], e, S.2.2.2)
def errK (S : Sx) (e : Int) : Sx := (S.1, S.2.1, e, S.2.2.2)
def resS (S : Sx) (q : Rz) : Sx := (S.1, [], S.2.2.1, S.2.2.2.1, S.2.2.2.2.1, S.2.2.2.2.2.1, 1, q, S.2.2.2.2.2.2.2.2)
def setR0 (S : Sx) (r : Rw) : Sx := (S.1, S.2.1, S.2.2.1, S.2.2.2.1, S.2.2.2.2.1, S.2.2.2.2.2.1, S.2.2.2.2.2.2.1, S.2.2.2.2.2.2.2.1, r, S.2.2.2.2.2.2.2.2.2)
def setR1 (S : Sx) (r : Rw) : Sx := (S.1, S.2.1, S.2.2.1, S.2.2.2.1, S.2.2.2.2.1, S.2.2.2.2.2.1, S.2.2.2.2.2.2.1, S.2.2.2.2.2.2.2.1, S.2.2.2.2.2.2.2.2.1, r)
theorem hlast_get {hs : List Bk} (h : 0 < hs.length) : hs[hs.length - 1]? = some (hlast hs) := by
  have hl : hs.length - 1 < hs.length := by omega
  unfold hlast
  rw [List.getD_eq_getElem?_getD, List.getElem?_eq_getElem hl]
  rfl
theorem hlast_mem {hs : List Bk} (h : 0 < hs.length) : hlast hs ∈ hs := List.mem_of_getElem? (hlast_get h)
theorem hget_take {hs : List Bk} {k i : Nat} {x : Bk} (h : (hs.take k)[i]? = some x) : hs[i]? = some x := by
  rw [List.getElem?_take] at h
  split at h
  · exact h
  · cases h
theorem err_I {n : Nat} {S : Sx} {e : Int} (hS : SxI n S) (h0 : -1 ≤ e) (h1 : e ≤ (sW S).length) : SxI n (errS S e) := by
  have := hS.2.1.2
  exact ⟨hS.1, ⟨fun x h => absurd h List.not_mem_nil, Nat.zero_le _⟩, ⟨h0, by show e ≤ 100; omega⟩, hS.2.2.2⟩
theorem errK_I {n : Nat} {S : Sx} {e : Int} (hS : SxI n S) (h0 : -1 ≤ e) (h1 : e ≤ (sW S).length) : SxI n (errK S e) := by
  have := hS.2.1.2
  exact ⟨hS.1, hS.2.1, ⟨h0, by show e ≤ 100; omega⟩, hS.2.2.2⟩
theorem Chs_nil2 : Chs [] ∧ ([] : List Int).length ≤ 100 := ⟨fun x h => absurd h List.not_mem_nil, Nat.zero_le _⟩
theorem Tx_nil2 {g : Nat → Int} : Tx g [] := fun j h => absurd h (Nat.not_lt_zero _)
section STPE
variable {K : Nat → ClassId}
theorem HisD.nil {h a n : Nat} {pl : List Cm} {gB : Nat → Option Nat} {bs : List BkA} (hH : HRep gB bs) (hbs : ∀ b ∈ bs, BkOk (25 * (n : Int)) b) : HisD K h a n pl [] ([(h, .inr (3, [.ref a, .int (iI 0)])), (a, aR (K 5) 8 gB)] ++ plW K bs) :=
  ⟨gB, bs, hH, hbs, fun i b hb => (by simp at hb), rfl⟩
theorem hpop_len {hs : List Bk} (h : 0 < hs.length) : ((hs.take (hs.length - 1)).length : Int) = (hs.length : Int) - 1 := by
  rw [List.length_take]; omega
theorem HisD.pop {h a n : Nat} {pl : List Cm} {hs : List Bk} {gB : Nat → Option Nat} {bs : List BkA} (h0 : 0 < hs.length) (hH : HRep gB bs) (hbs : ∀ b ∈ bs, BkOk (25 * (n : Int)) b) (hhl : hisL pl hs bs) : HisD K h a n pl (hs.take (hs.length - 1)) ([(h, .inr (3, [.ref a, .int (iI ((hs.length : Int) - 1))])), (a, aR (K 5) 8 gB)] ++ plW K bs) :=
  ⟨gB, bs, hH, hbs, fun i b hb => hhl i b (hget_take hb), by rw [hpop_len h0]⟩
theorem HisM.nil {M MH : Nat → Nat} {hs : List Bk} {W : va_W} (H : HisM K M MH hs W) : HisM K M MH [] W := by
  obtain ⟨gH, gh, h1, h2, h3⟩ := H
  exact ⟨gH, gh, h1, fun i b hb => (by simp at hb), h3⟩
end STPE
theorem pmR {R B B' : List va_W} {u u' : va_W} {n : Nat} (is : List Nat) (e1 : u ++ [] = B.flatten) (hn : (R ++ B).length = n) (h : is.isPerm (List.range n) = true) (hm : is.map (fun i => (R ++ B)[i]?) = B'.map some) (e2 : B'.flatten = u') : (R.flatten ++ u).Perm u' := by
  have e3 : u = B.flatten := by rw [← e1, List.append_nil]
  rw [e3, ← List.flatten_append]
  exact pmF (R ++ B) B' is rfl hn h hm e2
theorem pmRC {R B pre : List va_W} {a b c' u u' : va_W} {n : Nat} (is : List Nat) (e1 : u ++ [] = B.flatten) (hn : (R ++ B).length = n) (h : is.isPerm (List.range n) = true) (hm : is.map (fun i => (R ++ B)[i]?) = (pre ++ [a, b]).map some) (hc : a ++ b = c') (e2 : (pre ++ [c']).flatten = u') : (R.flatten ++ u).Perm u' := by
  subst hc
  refine pmR (B' := pre ++ [a, b]) is e1 hn h hm ?_
  rw [← e2]
  simp
