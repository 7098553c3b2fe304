abbrev BkA : Type := (Nat → Nat) × (Nat → Int) × (Nat → Int) × (Nat → Int) × (Nat → Int64) × (Nat → Int64) × (Nat → Int) × (Nat → Int64) × (Nat → Int64) × List Rl × List Pr × Int × Int × Option Nat × Int
abbrev BkS : Type := List Rl × List Pr × Int × Int × Option Nat × Int
def bkm (ad : Nat → Nat) (gk gp gc : Nat → Int) (gs gl : Nat → Int64) (gn : Nat → Int) (gq gr : Nat → Int64) (rs : List Rl) (ps : List Pr) (md th : Int) (lc : Option Nat) (nc : Int) : BkA := (ad, gk, gp, gc, gs, gl, gn, gq, gr, rs, ps, md, th, lc, nc)
def bkA : BkA → Nat → Nat := fun b => b.1
def bkS : BkA → BkS := fun b => b.2.2.2.2.2.2.2.2.2
def bkV : BkA → List Value
  | (ad, _, _, _, _, _, _, _, _, rs, ps, md, th, lc, nc) => [.ref (ad 1), .ref (ad 2), .ref (ad 3), .ref (ad 4), .ref (ad 5), .int (iI (rs.length : Int)), .ref (ad 6), .ref (ad 7), .ref (ad 8), .int (iI (ps.length : Int)), .int (iI md), .int (iI th), va_rf lc, .int (iI nc)]
def bkW (K : Nat → ClassId) : BkA → va_W
  | (ad, gk, gp, gc, gs, gl, gn, gq, gr, rs, ps, md, th, lc, nc) => [(ad 0, .inr (0, [.ref (ad 1), .ref (ad 2), .ref (ad 3), .ref (ad 4), .ref (ad 5), .int (iI (rs.length : Int)), .ref (ad 6), .ref (ad 7), .ref (ad 8), .int (iI (ps.length : Int)), .int (iI md), .int (iI th), va_rf lc, .int (iI nc)])), (ad 1, aI (K 0) 24 gk), (ad 2, aI (K 0) 24 gp), (ad 3, aI (K 0) 24 gc), (ad 4, aJ (K 1) 24 gs), (ad 5, aJ (K 1) 24 gl), (ad 6, aI (K 0) 30 gn), (ad 7, aJ (K 1) 30 gq), (ad 8, aJ (K 1) 30 gr)]
def BkOk (B : Int) : BkA → Prop
  | (_, gk, gp, gc, gs, gl, gn, gq, gr, rs, ps, md, th, _, _) => BRep gk gp gc gs gl rs ∧ RW rs ∧ PRep gn gq gr ps ∧ PW ps B ∧ (0 ≤ md ∧ md ≤ 1) ∧ (1 ≤ th ∧ th ≤ 9)
def bk0 : BkA := (fun _ => 0, fun _ => 0, fun _ => 0, fun _ => 0, fun _ => 0, fun _ => 0, fun _ => 0, fun _ => 0, fun _ => 0, [], [], 1, 2, none, 0)
def bget (bs : List BkA) (i : Nat) : BkA := bs.getD i bk0
def plW (K : Nat → ClassId) (bs : List BkA) : va_W := (bs.map (bkW K)).flatten
theorem pick_perm {α : Type} : ∀ {l : List α} {i : Nat} (h : i < l.length), l.Perm (l[i] :: l.eraseIdx i)
  | a :: l, 0, _ => List.Perm.refl _
  | a :: l, i + 1, h => by
    have := pick_perm (l := l) (i := i) (by simpa using h)
    exact (this.cons a).trans (List.Perm.swap _ _ _)
theorem bget_lt {bs : List BkA} {i : Nat} (h : i < bs.length) : bget bs i = bs[i] := by simp [bget, List.getD_eq_getElem?_getD, h]
theorem bget_mem {bs : List BkA} {i : Nat} (h : i < bs.length) : bget bs i ∈ bs := by rw [bget_lt h]; exact List.getElem_mem h
theorem pl_perm {K : Nat → ClassId} {bs bs' : List BkA} (h : bs.Perm bs') : (plW K bs).Perm (plW K bs') := (h.map _).flatten
theorem pl_take {K : Nat → ClassId} {bs : List BkA} {i : Nat} (h : i < bs.length) : (plW K bs).Perm (bkW K (bget bs i) ++ plW K (bs.eraseIdx i)) := by
  have : bs.Perm (bget bs i :: bs.eraseIdx i) := by
    rw [bget_lt h]
    exact (pick_perm h)
  exact pl_perm (K := K) this
theorem pl_put {K : Nat → ClassId} {bs : List BkA} {i : Nat} (h : i < bs.length) (b : BkA) : (bkW K b ++ plW K (bs.eraseIdx i)).Perm (plW K (bs.set i b)) := by
  have h2 : (bs.set i b).Perm (b :: bs.eraseIdx i) := by
    have h3 : i < (bs.set i b).length := by rw [List.length_set]; exact h
    have := (pick_perm h3)
    rw [List.getElem_set_self, List.eraseIdx_set_eq] at this
    exact this
  exact (pl_perm (K := K) h2).symm
def rotB (bs : List BkA) : List BkA := bs.drop 1 ++ bs.take 1
theorem pl_rot {K : Nat → ClassId} (bs : List BkA) : (plW K bs).Perm (plW K (rotB bs)) := by
  refine pl_perm ?_
  have h := List.perm_append_comm (l₁ := bs.take 1) (l₂ := bs.drop 1)
  rw [List.take_append_drop] at h
  exact h
theorem bk_mem {K : Nat → ClassId} (b : BkA) : (bkA b 0, (.inr (0, bkV b) : va_E)) ∈ bkW K b := by
  obtain ⟨ad, gk, gp, gc, gs, gl, gn, gq, gr, rs, ps, md, th, lc, nc⟩ := b
  exact List.mem_of_getElem? (i := 0) rfl
theorem pl_mem {K : Nat → ClassId} {bs : List BkA} {i : Nat} (h : i < bs.length) : (bkA (bget bs i) 0, (.inr (0, bkV (bget bs i)) : va_E)) ∈ plW K bs := by
  refine List.mem_flatten.mpr ⟨bkW K (bget bs i), List.mem_map.mpr ⟨_, bget_mem h, rfl⟩, bk_mem _⟩
def HRep (gB : Nat → Option Nat) (bs : List BkA) : Prop := bs.length = 8 ∧ ∀ j : Nat, j < 8 → gB j = some (bkA (bget bs j) 0)
theorem rotB_len {bs : List BkA} (h : bs.length = 8) : (rotB bs).length = 8 := by simp [rotB, h]
theorem rotB_get {bs : List BkA} (h : bs.length = 8) {j : Nat} (hj : j < 8) : bget (rotB bs) j = bget bs (if j < 7 then j + 1 else 0) := by
  unfold bget rotB
  rw [List.getD_eq_getElem?_getD, List.getD_eq_getElem?_getD]
  by_cases h7 : j < 7
  · rw [if_pos h7, List.getElem?_append_left (by simp; omega), List.getElem?_drop, Nat.add_comm]
  · have : j = 7 := by omega
    subst this
    rw [if_neg h7, List.getElem?_append_right (by simp [h])]
    simp [h, List.getElem?_take]
theorem bget_set {bs : List BkA} {i : Nat} (h : i < bs.length) (b : BkA) (j : Nat) : bget (bs.set i b) j = if j = i then b else bget bs j := by
  unfold bget
  rw [List.getD_eq_getElem?_getD, List.getD_eq_getElem?_getD, List.getElem?_set]
  by_cases hj : i = j
  · subst hj; simp [h]
  · rw [if_neg hj, if_neg (fun q => hj q.symm)]
theorem HRep_rot {gB g1 : Nat → Option Nat} {bs : List BkA} {q : Nat} (h : HRep gB bs) (hq : gB 0 = some q) (h1 : ∀ j : Nat, g1 j = if (j : Int) + 1 < 8 then gB (j + 1) else gB j) : HRep (va_up g1 7 (some q)) (rotB bs) := by
  refine ⟨rotB_len h.1, fun j hj => ?_⟩
  rw [rotB_get h.1 hj]
  by_cases h7 : j < 7
  · rw [if_pos h7]
    have : va_up g1 7 (some q) j = g1 j := by simp [va_up]; omega
    rw [this, h1, if_pos (by omega)]
    exact h.2 (j + 1) (by omega)
  · have : j = 7 := by omega
    subst this
    rw [if_neg h7]
    simp only [va_up, if_true]
    rw [← hq]; exact h.2 0 (by omega)
theorem HRep_set {gB : Nat → Option Nat} {bs : List BkA} (h : HRep gB bs) {i : Nat} (hi : i < 8) {b : BkA} (hb : bkA b 0 = bkA (bget bs i) 0) : HRep gB (bs.set i b) := by
  refine ⟨by rw [List.length_set]; exact h.1, fun j hj => ?_⟩
  have h8 := h.1
  rw [bget_set (by omega)]
  split
  · rename_i e; subst e; rw [hb]; exact h.2 j hj
  · exact h.2 j hj
def kpS (sz : Int) : Int := if sz < 8 then sz + 1 else 8
def kpL (sz : Int) (bs : List BkA) (b : BkA) : List BkA := if sz < 8 then bs.set sz.toNat b else (rotB bs).set 7 b
def adf (a0 a1 a2 a3 a4 a5 a6 a7 a8 : Nat) : Nat → Nat
  | 0 => a0 | 1 => a1 | 2 => a2 | 3 => a3 | 4 => a4 | 5 => a5 | 6 => a6 | 7 => a7 | _ => a8
theorem plW_snoc (K : Nat → ClassId) (bs : List BkA) (b : BkA) : plW K bs ++ bkW K b = plW K (bs ++ [b]) := by simp [plW]
theorem ok_snoc {B : Int} {bs : List BkA} {b : BkA} (h : ∀ x ∈ bs, BkOk B x) (hb : BkOk B b) : ∀ x ∈ bs ++ [b], BkOk B x := by
  intro x hx
  rcases List.mem_append.mp hx with q | q
  · exact h x q
  · rw [List.mem_singleton.mp q]; exact hb
theorem bk_init (ad : Nat → Nat) : BkOk 0 (ad, fun _ => 0, fun _ => 0, fun _ => 0, fun _ => 0, fun _ => 0, fun _ => 0, fun _ => 0, fun _ => 0, [], [], 1, 2, none, 0) := by
  refine ⟨fun z h0 h1 => ?_, ⟨by simp, ?_⟩, fun z h0 h1 => ?_, ⟨by simp, ?_⟩, by omega, by omega⟩
  · simp at h1; omega
  · simp
  · simp at h1; omega
  · simp
