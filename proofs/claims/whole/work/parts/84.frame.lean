/-! contracts over a larger world: what the method doesn't ask stays -/
section FRM
variable {l : Launch} {D : va_G} {K : Nat → ClassId} {z0 : Nat} {y : MethodName} {cc : ByteArray} {nL : Nat} {ret : Option FieldType} {rm : Room} {avs : List Value} {ws wc wr : va_W} {Ps Ps' : Option Value → va_W → Prop} {Px Px' : String → va_W → Prop}
/-- where the rest and the callee's world stand in the larger one -/
def frO (wr u u' : va_W) : Prop := ∃ g : va_W, (wr ++ u).Perm (u' ++ g)
theorem frO.eq {wr u u' : va_W} (h : wr ++ u = u') : frO wr u u' := ⟨[], by rw [List.append_nil, h]⟩
theorem frO.pm {wr u u' : va_W} (h : (wr ++ u).Perm u') : frO wr u u' := ⟨[], by rw [List.append_nil]; exact h⟩
theorem fr_post {H H1 : Heap} {isC isR : List Nat} {u u' : va_W} (hP : va_P D classes ws H) (hD : va_D (fun q => z0 ≤ q) ws) (X : ad_cut ws wc wr isC isR) (hk : ∀ q : Nat, q < H.size → ¬ va_A wc H.size q → H1[q]? = H[q]?) (hP1 : va_P D classes u H1) (hD1 : va_D (va_A wc H.size) u) (ho : frO wr u u') : va_P D classes u' H1 ∧ va_D (va_A ws H.size) u' := by
  obtain ⟨g, ho⟩ := ho
  have hF : ∀ q, va_A wc H.size q → va_A ws H.size q := va_free (A0 := va_A ws H.size) (H0 := H) (locs := []) hD.self va_S.rf (fun q h => Or.inr h) isC X.1
  obtain ⟨j1, j2⟩ := va_join (A0 := va_A ws H.size) hP hD.self isC isR X.1 X.2.1 X.2.2.2.1 X.2.2.2.2 hk hF hP1 hD1
  have G : ad_G D (va_A ws H.size) H1 H1 [] (wr ++ u) := ⟨j1, j2, va_S.rf⟩
  have G2 := (G.pm ho).drop
  exact ⟨G2.1, G2.2.1⟩
theorem fr_pre {sz : Nat} {U : State} {isC isR : List Nat} (X : ad_cut ws wc wr isC isR) (h : ad_PRE D K z0 ws sz U) : ad_PRE D K z0 wc sz U := by
  obtain ⟨hsz, hz, hP, hK, hD, hE⟩ := h
  have G : ad_G D (fun q => z0 ≤ q) U.heap U.heap [] ws := ⟨hP, hD, va_S.rf⟩
  have G2 := G.perm isC X.2.2.1 X.1
  exact ⟨hsz, hz, G2.1, hK, G2.2.1, hE⟩
theorem fr_A {sz : Nat} {isC isR : List Nat} (X : ad_cut ws wc wr isC isR) : ∀ q, va_A wc sz q → va_A ws sz q := by
  intro q h
  rcases h with ⟨k, e, h⟩ | h
  · have h1 : (isC.map (fun i => ws[i]?))[k]? = some (some (q, e)) := by rw [X.1, List.getElem?_map, h]; rfl
    rw [List.getElem?_map] at h1
    cases hi : isC[k]? with
    | none => rw [hi] at h1; cases h1
    | some i => rw [hi] at h1; exact Or.inl ⟨i, e, Option.some.inj h1⟩
  · exact Or.inr h
theorem CT.fr (M : CT l D K z0 y cc nL ret rm avs wc Ps) (hw : ws.Perm (wc ++ wr)) (hp : ∀ v u, Ps v u → ∃ u', frO wr u u' ∧ Ps' v u') : CT l D K z0 y cc nL ret rm avs ws Ps' := by
  obtain ⟨isC, isR, X⟩ := ad_cutP hw
  intro sz p e h1 h2 h3 s m args below h4 h5 h6 h7
  obtain ⟨hv, hpre⟩ := h6
  have hpc := fr_pre X hpre
  obtain ⟨hsz, hz, hP, hK, hD, hE⟩ := hpre
  subst hsz
  obtain ⟨n, o, a1, a2, a3, ⟨⟨v, u, b1, b2, b3, b4⟩, b5, b6⟩, L, c1, c2⟩ := M s.heap.size p e h1 h2 h3 s m args below h4 h5 ⟨hv, hpc⟩ h7
  obtain ⟨u', ho, hps⟩ := hp v u b2
  obtain ⟨d1, d2⟩ := fr_post hP hD X b6 b3 b4 ho
  exact ⟨n, o, a1, a2, a3, ⟨⟨v, u', b1, hps, d1, d2⟩, b5, fun q q1 q2 => b6 q q1 (fun z => q2 (fr_A X q z))⟩, L, c1, fun q hq => fr_A X _ (c2 q hq)⟩
theorem CX.fr (M : CX l D K z0 y cc nL ret rm avs wc Ps Px) (hw : ws.Perm (wc ++ wr)) (hp : ∀ v u, Ps v u → ∃ u', frO wr u u' ∧ Ps' v u') (hx : ∀ E u, Px E u → ∃ u', frO wr u u' ∧ Px' E u') : CX l D K z0 y cc nL ret rm avs ws Ps' Px' := by
  obtain ⟨isC, isR, X⟩ := ad_cutP hw
  intro sz p e h1 h2 h3 s m args below h4 h5 h6 h7
  obtain ⟨hv, hpre⟩ := h6
  have hpc := fr_pre X hpre
  obtain ⟨hsz, hz, hP, hK, hD, hE⟩ := hpre
  subst hsz
  obtain ⟨n, o, a1, a2, a3, hQ⟩ := M s.heap.size p e h1 h2 h3 s m args below h4 h5 ⟨hv, hpc⟩ h7
  refine ⟨n, o, a1, a2, a3, ?_⟩
  rcases hQ with ⟨⟨⟨v, u, b1, b2, b3, b4⟩, b5, b6⟩, L, c1, c2⟩ | ⟨q, e1, E, ce, L, ⟨u, b2, b3, b4, b5, b6⟩, f1, f2, f3, f4, f5, f6⟩
  · obtain ⟨u', ho, hps⟩ := hp v u b2
    obtain ⟨d1, d2⟩ := fr_post hP hD X b6 b3 b4 ho
    exact Or.inl ⟨⟨⟨v, u', b1, hps, d1, d2⟩, b5, fun q q1 q2 => b6 q q1 (fun z => q2 (fr_A X q z))⟩, L, c1, fun q hq => fr_A X _ (c2 q hq)⟩
  · obtain ⟨u', ho, hps⟩ := hx E u b2
    obtain ⟨d1, d2⟩ := fr_post hP hD X b6 b3 b4 ho
    exact Or.inr ⟨q, e1, E, ce, L, ⟨u', hps, d1, d2, b5, fun q q1 q2 => b6 q q1 (fun z => q2 (fr_A X q z))⟩, f1, f2, f3, f4, f5, fun z hz => fr_A X _ (f6 z hz)⟩
/-- a method that returns is one that may throw, and never does -/
theorem CT.toX (M : CT l D K z0 y cc nL ret rm avs ws Ps) : CX l D K z0 y cc nL ret rm avs ws Ps (fun _ _ => False) := by
  intro sz p e h1 h2 h3 s m args below h4 h5 h6 h7
  obtain ⟨n, o, a1, a2, a3, hQ⟩ := M sz p e h1 h2 h3 s m args below h4 h5 h6 h7
  exact ⟨n, o, a1, a2, a3, Or.inl hQ⟩
theorem CT.wk (M : CT l D K z0 y cc nL ret rm avs ws Ps) (hp : ∀ v u, Ps v u → Ps' v u) : CT l D K z0 y cc nL ret rm avs ws Ps' :=
  CT.fr (wr := []) M (by rw [List.append_nil]) (fun v u h => ⟨u, frO.eq rfl, hp v u h⟩)
theorem CX.wk (M : CX l D K z0 y cc nL ret rm avs ws Ps Px) (hp : ∀ v u, Ps v u → Ps' v u) (hx : ∀ E u, Px E u → Px' E u) : CX l D K z0 y cc nL ret rm avs ws Ps' Px' :=
  CX.fr (wr := []) M (by rw [List.append_nil]) (fun v u h => ⟨u, frO.eq rfl, hp v u h⟩) (fun E u h => ⟨u, frO.eq rfl, hx E u h⟩)
/-- more room -/
def rmLe (a b : Room) : Prop := a.frames ≤ b.frames ∧ a.cells ≤ b.cells ∧ a.slots ≤ b.slots ∧ a.locals ≤ b.locals
theorem fr_has {s : State} {pl : Platform} {a b : Room} (hle : rmLe a b) (h : s.hasRoom pl b = true) : s.hasRoom pl a = true := by
  obtain ⟨l1, l2, l3, l4⟩ := hle
  unfold State.hasRoom at h ⊢
  simp only [Bool.and_eq_true, decide_eq_true_eq] at h ⊢
  obtain ⟨⟨⟨⟨h1, h2, h3, h4, h5, h6⟩, h7⟩, h8⟩, h9⟩ := h
  exact ⟨⟨⟨⟨by omega, by omega, by omega, by omega, by omega, h6⟩, by omega⟩, by omega⟩, h9⟩
theorem fr_app {tw : List Cond} {a b : Room} {x : MethodName} {pl : Platform} {s : State} (hle : rmLe a b) (h : (headSpec tw b).appliesLoose x pl s = true) : (headSpec tw a).appliesLoose x pl s = true := by
  unfold Spec.appliesLoose at h ⊢
  split at h
  · simp only [Bool.and_eq_true] at h ⊢
    obtain ⟨⟨h1, h2⟩, h3⟩ := h
    exact ⟨⟨h1, fr_has hle h2⟩, h3⟩
  · cases h
theorem fr_new {s t : State} {L : List Loc} {k n k' n' : Nat} (h : s.sameButNew t L k n) (hc : k ≤ k') (hn : n ≤ n') : s.sameButNew t L k' n' :=
  ⟨h.1, h.2.1, Nat.le_trans h.2.2.1 (Nat.add_le_add_left hc _), h.2.2.2.1, Nat.le_trans h.2.2.2.2.1 hn, h.2.2.2.2.2⟩
theorem CT.wide {rm' : Room} (M : CT l D K z0 y cc nL ret rm avs ws Ps) (hle : rmLe rm rm') : CT l D K z0 y cc nL ret rm' avs ws Ps := by
  intro sz p e h1 h2 h3 s m args below h4 h5 h6 h7
  obtain ⟨n, o, a1, a2, a3, hQ, L, ⟨c1, c2, c3⟩, c4⟩ := M sz p e h1 h2 h3 s m args below h4 (fr_app hle h5) h6 h7
  exact ⟨n, o, a1, a2, a3, hQ, L, ⟨c1, c2, fr_new c3 hle.2.1 hle.2.2.1⟩, c4⟩
theorem CX.wide {rm' : Room} (M : CX l D K z0 y cc nL ret rm avs ws Ps Px) (hle : rmLe rm rm') : CX l D K z0 y cc nL ret rm' avs ws Ps Px := by
  intro sz p e h1 h2 h3 s m args below h4 h5 h6 h7
  obtain ⟨n, o, a1, a2, a3, hQ⟩ := M sz p e h1 h2 h3 s m args below h4 (fr_app hle h5) h6 h7
  refine ⟨n, o, a1, a2, a3, ?_⟩
  rcases hQ with ⟨hQ, L, ⟨c1, c2, c3⟩, c4⟩ | ⟨q, e1, E, ce, L, hx, f1, f2, f3, f4, f5, f6⟩
  · exact Or.inl ⟨hQ, L, ⟨c1, c2, fr_new c3 hle.2.1 hle.2.2.1⟩, c4⟩
  · exact Or.inr ⟨q, e1, E, ce, L, hx, f1, f2, f3, f4, fr_new f5 hle.2.1 hle.2.2.1, f6⟩
end FRM
