/-! spelling: the best rules, and what a word becomes -/
def st0 (f w : List Int) (k : Int) : Int := if k = 2 then (w.length : Int) - f.length else 0
def stb (f w : List Int) (k : Int) : Bool := decide ((if k = 0 then (w.length : Int) = f.length else (f.length : Int) < w.length) ∧ sl w (st0 f w k) (st0 f w k + f.length) = f)
def fitb (c pl : Int) : Bool := decide ((plN c / 2 ^ pl.toNat) &&& 1 = 1)
def bst (rs : List Rl) (f : Int → Bool) : Nat → Int
  | 0 => -1
  | n + 1 => if f n = true ∧ (bst rs f n < 0 ∨ btb rs n (bst rs f n) = true) then n else bst rs f n
theorem bst_s {rs : List Rl} {f : Int → Bool} {i : Int} (h : 0 ≤ i) : bst rs f (i + 1).toNat = if f i = true ∧ (bst rs f i.toNat < 0 ∨ btb rs i (bst rs f i.toNat) = true) then i else bst rs f i.toNat := by
  obtain ⟨n, rfl⟩ := Int.eq_ofNat_of_zero_le h
  rfl
theorem bst_b (rs : List Rl) (f : Int → Bool) : ∀ n : Nat, -1 ≤ bst rs f n ∧ bst rs f n < n ∧ (0 ≤ bst rs f n → f (bst rs f n) = true)
  | 0 => by simp [bst]
  | n + 1 => by
    obtain ⟨a, b, c⟩ := bst_b rs f n
    simp only [bst]
    split
    · rename_i h
      exact ⟨by omega, by omega, fun _ => h.1⟩
    · exact ⟨a, by omega, c⟩
def cnd (rs : List Rl) (w : List Int) (pl k b : Int) (z : Int) : Bool := decide ((rget rs z).1 = k ∧ fitb (rget rs z).2.2.1 pl = true ∧ stb (fmo (rget rs z) b) w k = true)
def bR (rs : List Rl) (w : List Int) (pl k b : Int) : Int := bst rs (cnd rs w pl k b) rs.length
theorem bR_b (rs : List Rl) (w : List Int) (pl k b : Int) : -1 ≤ bR rs w pl k b ∧ bR rs w pl k b < rs.length ∧ (0 ≤ bR rs w pl k b → (rget rs (bR rs w pl k b)).1 = k ∧ stb (fmo (rget rs (bR rs w pl k b)) b) w k = true) := by
  obtain ⟨a, c, d⟩ := bst_b rs (cnd rs w pl k b) rs.length
  refine ⟨a, c, fun h => ?_⟩
  have := of_decide_eq_true (d h)
  exact ⟨this.1, this.2.2⟩
theorem stb_len {f w : List Int} {k : Int} (h : stb f w k = true) : (k = 0 → (w.length : Int) = f.length) ∧ (k ≠ 0 → (f.length : Int) < w.length) := by
  have := (of_decide_eq_true h).1
  constructor
  · intro hk; rwa [if_pos hk] at this
  · intro hk; rwa [if_neg hk] at this
/-- both would take more letters than there are -/
def ovl (rs : List Rl) (w : List Int) (pl b : Int) : Prop := 0 ≤ bR rs w pl 1 b ∧ 0 ≤ bR rs w pl 2 b ∧ (w.length : Int) < (fmo (rget rs (bR rs w pl 1 b)) b).length + (fmo (rget rs (bR rs w pl 2 b)) b).length
def ovlb (rs : List Rl) (w : List Int) (pl b : Int) : Bool := decide (0 ≤ bR rs w pl 1 b ∧ 0 ≤ bR rs w pl 2 b ∧ (w.length : Int) < (fmo (rget rs (bR rs w pl 1 b)) b).length + (fmo (rget rs (bR rs w pl 2 b)) b).length)
def spm (rs : List Rl) (w : List Int) (pl b : Int) : Int :=
  if 0 ≤ bR rs w pl 0 b then bR rs w pl 0 b else if ovlb rs w pl b = true ∧ btb rs (bR rs w pl 1 b) (bR rs w pl 2 b) = false then -1 else bR rs w pl 1 b
def spe (rs : List Rl) (w : List Int) (pl b : Int) : Int :=
  if 0 ≤ bR rs w pl 0 b then -1 else if ovlb rs w pl b = true ∧ btb rs (bR rs w pl 1 b) (bR rs w pl 2 b) = true then -1 else bR rs w pl 2 b
def spw (rs : List Rl) (w : List Int) (pl b : Int) : List Int :=
  fmo (rget rs (spm rs w pl b)) (1 - b) ++ sl w (fmo (rget rs (spm rs w pl b)) b).length ((w.length : Int) - (fmo (rget rs (spe rs w pl b)) b).length) ++ fmo (rget rs (spe rs w pl b)) (1 - b)
theorem rget_m1 (rs : List Rl) : rget rs (-1) = RD := rget_out (Or.inl (by decide))
theorem fmo_m1 (rs : List Rl) (b : Int) : fmo (rget rs (-1)) b = [] := by rw [rget_m1]; unfold fmo; split <;> rfl
theorem spm_b (rs : List Rl) (w : List Int) (pl b : Int) : -1 ≤ spm rs w pl b ∧ spm rs w pl b < rs.length := by
  have h0 := bR_b rs w pl 0 b
  have h1 := bR_b rs w pl 1 b
  unfold spm
  split
  · omega
  · split <;> omega
theorem spe_b (rs : List Rl) (w : List Int) (pl b : Int) : -1 ≤ spe rs w pl b ∧ spe rs w pl b < rs.length := by
  have h2 := bR_b rs w pl 2 b
  unfold spe
  split
  · omega
  · split <;> omega
theorem spl_le (rs : List Rl) (w : List Int) (pl b : Int) : ((fmo (rget rs (spm rs w pl b)) b).length : Int) + (fmo (rget rs (spe rs w pl b)) b).length ≤ w.length := by
  have h0 := bR_b rs w pl 0 b
  have h1 := bR_b rs w pl 1 b
  have h2 := bR_b rs w pl 2 b
  unfold spm spe
  by_cases c0 : 0 ≤ bR rs w pl 0 b
  · rw [if_pos c0, if_pos c0, fmo_m1]
    have := (stb_len (h0.2.2 c0).2).1 rfl
    simp only [List.length_nil]
    omega
  · rw [if_neg c0, if_neg c0]
    by_cases co : ovlb rs w pl b = true
    · have ho := of_decide_eq_true co
      have e1 := (stb_len (h1.2.2 ho.1).2).2 (by decide)
      have e2 := (stb_len (h2.2.2 ho.2.1).2).2 (by decide)
      cases hb : btb rs (bR rs w pl 1 b) (bR rs w pl 2 b) with
      | true => simp only [co, true_and, if_true, Bool.true_eq_false, if_false, fmo_m1, List.length_nil]; omega
      | false => simp only [co, true_and, if_true, Bool.false_eq_true, if_false, fmo_m1, List.length_nil]; omega
    · have ho := of_decide_eq_false (Bool.eq_false_iff.mpr co)
      have e1 : 0 ≤ bR rs w pl 1 b → ((fmo (rget rs (bR rs w pl 1 b)) b).length : Int) < w.length := fun h => (stb_len (h1.2.2 h).2).2 (by decide)
      have e2 : 0 ≤ bR rs w pl 2 b → ((fmo (rget rs (bR rs w pl 2 b)) b).length : Int) < w.length := fun h => (stb_len (h2.2.2 h).2).2 (by decide)
      rw [if_neg (fun q => co q.1), if_neg (fun q => co q.1)]
      by_cases d1 : 0 ≤ bR rs w pl 1 b
      · by_cases d2 : 0 ≤ bR rs w pl 2 b
        · have := fun q => ho ⟨d1, d2, q⟩
          omega
        · rw [show bR rs w pl 2 b = -1 by omega, fmo_m1]
          have := e1 d1
          simp only [List.length_nil]
          omega
      · rw [show bR rs w pl 1 b = -1 by omega, fmo_m1]
        by_cases d2 : 0 ≤ bR rs w pl 2 b
        · have := e2 d2
          simp only [List.length_nil]
          omega
        · rw [show bR rs w pl 2 b = -1 by omega, fmo_m1]
          simp
theorem fmo_len {rs : List Rl} (h : RW rs) (z b : Int) : (fmo (rget rs z) b).length ≤ 12 := (fmo_Fw h z b).1
theorem fmo_pos {rs : List Rl} (h : RW rs) {z : Int} (h0 : 0 ≤ z) (h1 : z < rs.length) (b : Int) : 1 ≤ (fmo (rget rs z) b).length := by
  have := h.bd h0 h1
  unfold fmo
  split <;> omega
theorem spw_len {rs : List Rl} {w : List Int} {pl b : Int} : ((spw rs w pl b).length : Int) = (fmo (rget rs (spm rs w pl b)) (1 - b)).length + ((w.length : Int) - (fmo (rget rs (spm rs w pl b)) b).length - (fmo (rget rs (spe rs w pl b)) b).length) + (fmo (rget rs (spe rs w pl b)) (1 - b)).length := by
  have := spl_le rs w pl b
  unfold spw
  rw [List.length_append, List.length_append, Int.natCast_add, Int.natCast_add, sl_len (by omega) (by omega) (by omega)]
  omega
def Lt (w : List Int) : Prop := ∀ x ∈ w, 97 ≤ x ∧ x ≤ 122
theorem Lt_Chs {w : List Int} (h : Lt w) : Chs w := fun x hx => by have := h x hx; omega
theorem spw_Lt {rs : List Rl} (h : RW rs) {w : List Int} (hw : Lt w) (pl b : Int) : Lt (spw rs w pl b) := by
  intro x hx
  unfold spw at hx
  rcases List.mem_append.mp hx with h1 | h1
  · rcases List.mem_append.mp h1 with h2 | h2
    · exact (fmo_Fw h _ _).2 x h2
    · exact hw x (List.mem_of_mem_drop (List.mem_of_mem_take h2))
  · exact (fmo_Fw h _ _).2 x h1
/-- how long a form of a rule can be against the other one -/
theorem fmo_ratio {rs : List Rl} (h : RW rs) (z b : Int) (hb : b = 0 ∨ b = 1) (hz : -1 ≤ z ∧ z < rs.length) : ((fmo (rget rs z) (1 - b)).length : Int) ≤ (fmo (rget rs z) b).length + 11 ∧ (b = 1 → ((fmo (rget rs z) (1 - b)).length : Int) ≤ (fmo (rget rs z) b).length) ∧ (0 ≤ z → 1 ≤ (fmo (rget rs z) b).length ∧ 1 ≤ (fmo (rget rs z) (1 - b)).length) ∧ (z < 0 → fmo (rget rs z) b = [] ∧ fmo (rget rs z) (1 - b) = []) := by
  by_cases hz0 : 0 ≤ z
  · have hd := h.bd hz0 hz.2
    rcases hb with rfl | rfl
    · refine ⟨?_, fun q => by omega, fun _ => ⟨fmo_pos h hz0 hz.2 _, fmo_pos h hz0 hz.2 _⟩, fun q => by omega⟩
      show ((rget rs z).2.2.2.2.length : Int) ≤ (rget rs z).2.2.2.1.length + 11
      omega
    · refine ⟨?_, fun _ => ?_, fun _ => ⟨fmo_pos h hz0 hz.2 _, fmo_pos h hz0 hz.2 _⟩, fun q => by omega⟩
      · show ((rget rs z).2.2.2.1.length : Int) ≤ (rget rs z).2.2.2.2.length + 11
        omega
      · show ((rget rs z).2.2.2.1.length : Int) ≤ (rget rs z).2.2.2.2.length
        omega
  · rw [show z = -1 by omega, fmo_m1, fmo_m1]
    simp
theorem spw_b {rs : List Rl} (h : RW rs) {w : List Int} (hw : 1 ≤ w.length) (pl b : Int) (hb : b = 0 ∨ b = 1) : 1 ≤ (spw rs w pl b).length ∧ (spw rs w pl b).length ≤ w.length + 22 ∧ ((spw rs w pl b).length : Int) ≤ 12 * w.length ∧ (b = 1 → (spw rs w pl b).length ≤ w.length) := by
  have hl := spw_len (rs := rs) (w := w) (pl := pl) (b := b)
  have hle := spl_le rs w pl b
  obtain ⟨a1, a2, a3, a4⟩ := fmo_ratio h (spm rs w pl b) b hb (spm_b rs w pl b)
  obtain ⟨c1, c2, c3, c4⟩ := fmo_ratio h (spe rs w pl b) b hb (spe_b rs w pl b)
  have hmb := spm_b rs w pl b
  have heb := spe_b rs w pl b
  have hm12 := fmo_len h (spm rs w pl b) (1 - b)
  have he12 := fmo_len h (spe rs w pl b) (1 - b)
  have hmain : 0 ≤ spm rs w pl b → 1 ≤ (fmo (rget rs (spm rs w pl b)) b).length ∧ 1 ≤ (fmo (rget rs (spm rs w pl b)) (1 - b)).length := a3
  have hend : 0 ≤ spe rs w pl b → 1 ≤ (fmo (rget rs (spe rs w pl b)) b).length ∧ 1 ≤ (fmo (rget rs (spe rs w pl b)) (1 - b)).length := c3
  have n1 : spm rs w pl b < 0 → (fmo (rget rs (spm rs w pl b)) b).length = 0 ∧ (fmo (rget rs (spm rs w pl b)) (1 - b)).length = 0 := fun q => by
    obtain ⟨x, y⟩ := a4 q
    rw [x, y]; exact ⟨rfl, rfl⟩
  have n2 : spe rs w pl b < 0 → (fmo (rget rs (spe rs w pl b)) b).length = 0 ∧ (fmo (rget rs (spe rs w pl b)) (1 - b)).length = 0 := fun q => by
    obtain ⟨x, y⟩ := c4 q
    rw [x, y]; exact ⟨rfl, rfl⟩
  generalize (fmo (rget rs (spm rs w pl b)) b).length = x1 at *
  generalize (fmo (rget rs (spm rs w pl b)) (1 - b)).length = x2 at *
  generalize (fmo (rget rs (spe rs w pl b)) b).length = y1 at *
  generalize (fmo (rget rs (spe rs w pl b)) (1 - b)).length = y2 at *
  generalize spm rs w pl b = mm at *
  generalize spe rs w pl b = ee at *
  have hb1 : b = 1 → (x2 : Int) ≤ x1 ∧ (y2 : Int) ≤ y1 := fun q => ⟨a2 q, c2 q⟩
  refine ⟨?_, ?_, ?_, fun q => ?_⟩
  · by_cases q1 : 0 ≤ mm
    · have := hmain q1; omega
    · by_cases q2 : 0 ≤ ee
      · have := hend q2; omega
      · have := n1 (by omega); have := n2 (by omega); omega
  · omega
  · by_cases q1 : 0 ≤ mm
    · have := hmain q1
      by_cases q2 : 0 ≤ ee
      · have := hend q2; omega
      · have := n2 (by omega); omega
    · have := n1 (by omega)
      by_cases q2 : 0 ≤ ee
      · have := hend q2; omega
      · have := n2 (by omega); omega
  · have := hb1 q
    omega
/-- which kind of rules were used -/
def ded (rs : List Rl) (m e : Int) : Int := if (rget rs m).1 = 0 then 1 else if 0 ≤ m then (if 0 ≤ e then 4 else 2) else if 0 ≤ e then 3 else 0
/-- what becomes of a word: the word, marked, what was done, the rules -/
abbrev Tn : Type := List Int × Int × Int × Int × Int
def exW (rs : List Rl) (w : List Int) (pl : Int) : Tn := (spw rs w pl 0, 0, ded rs (spm rs w pl 0) (spe rs w pl 0), spm rs w pl 0, spe rs w pl 0)
def abW (rs : List Rl) (md : Int) (w : List Int) (pl : Int) : Tn :=
  if md = 0 ∨ spw rs (spw rs w pl 1) pl 0 = w then (spw rs w pl 1, 0, ded rs (spm rs w pl 1) (spe rs w pl 1), spm rs w pl 1, spe rs w pl 1)
  else if spw rs w pl 0 = w then (w, 0, 6, -1, -1) else (w, 1, 5, -1, -1)
def umW (w : List Int) : Tn := (w, 0, 5, -1, -1)
theorem iI_shr8 {a b : Nat} (ha : a ≤ 7) (hb : b ≤ 2) : iI (a : Int) >>> (iI (b : Int) &&& 31) = iI ((a / 2 ^ b : Nat) : Int) := by
  have key : ∀ (x : Fin 8) (y : Fin 3), iI (x.1 : Int) >>> (iI (y.1 : Int) &&& 31) = iI ((x.1 / 2 ^ y.1 : Nat) : Int) := by decide
  exact key ⟨a, by omega⟩ ⟨b, by omega⟩
theorem div8 (a b : Nat) (h : a ≤ 7) : a / 2 ^ b ≤ 7 := Nat.le_trans (Nat.div_le_self _ _) h
section ADQ
variable {p : Program} {l : Launch} {e : Env} {R : Room} {s : State} {m : MethodId} {args : Array Value} {below : List Frame} {meth : Method} {c : Code} {H : Heap} {locs : List Loc} {cells slots : Nat} {Q : State → Prop}
variable {own nm : String} {cc : ByteArray} {nL : Nat} {ret : Option FieldType} {D : va_G} {K : Nat → ClassId} {z0 : Nat} {A : Nat → Prop} {ws : va_W} {pc : Nat} {ls : Array Slot} {rest : List Value} {a : Nat}
theorem ad_ishr8 (F : ad_F p s m args meth c own nm cc nL ret D K z0 A) {x : Nat} {y : Int} (hx : x ≤ 7) (hy : 0 ≤ y ∧ y ≤ 2) (d : decode cc pc = .ok (.ishr, 1)) (k : W p l e R s m args below meth c H locs cells slots Q (F0 m (pc + 1) ls (.int (iI ((x / 2 ^ y.toNat : Nat) : Int)) :: rest))) : W p l e R s m args below meth c H locs cells slots Q (F0 m pc ls (.int (iI y) :: .int (iI (x : Int)) :: rest)) := by
  obtain ⟨n, rfl⟩ := Int.eq_ofNat_of_zero_le hy.1
  refine lv_ishr F.1 F.2.1 d ?_
  rw [iI_shr8 hx (by omega)]
  exact k
end ADQ
