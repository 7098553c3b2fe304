def sumb (f : Int → Int) : Nat → Int
  | 0 => 0
  | n + 1 => sumb f n + f n
theorem sumb_s {f : Int → Int} {i : Int} (h0 : 0 ≤ i) : sumb f (i + 1).toNat = sumb f i.toNat + f i := by
  obtain ⟨n, rfl⟩ := Int.eq_ofNat_of_zero_le h0
  rfl
def ruA (rs : List Rl) (z w : Int) : Int := if w = 0 then (rget rs z).1 else if w = 1 then (rget rs z).2.1 else if w = 2 then (rget rs z).2.2.1 else if w = 3 then ((rget rs z).2.2.2.1.length : Int) else if w = 4 then ((rget rs z).2.2.2.2.length : Int) else cntb (fun o => btb rs o z) rs.length
def paA (rs : List Rl) (ps : List Pr) (z w : Int) : Int := if w = 0 then (pget ps z).1 else if w = 1 then ((pget ps z).2.1.length : Int) else if w = 2 then ((pget ps z).2.2.length : Int) else wfi rs (pget ps z).2.1 (pget ps z).2.2
def cnA (rs : List Rl) (ps : List Pr) (md th bl sz nc w : Int) : Int := if w = 0 then (rs.length : Int) else if w = 1 then (ps.length : Int) else if w = 2 then md else if w = 3 then th else if w = 4 then ((colO rs rs.length).length : Int) else if w = 5 then bl else if w = 6 then sz else nc
def tmsA (rs : List Rl) (x b : Int) : Int → Int := fun r => cntb (fun o => decide (lat (fmo (rget rs r) b) o = x)) (fmo (rget rs r) b).length
def savA (rs : List Rl) (k : Int) : Int → Int := fun r => if k = -1 ∨ (rget rs r).1 = k then sav (rget rs r) else 0
def shb (rs : List Rl) (x y b : Int) : Bool := decide ((rget rs y).1 = (rget rs x).1 ∧ btb rs y x = true ∧ fmo (rget rs x) b = fmo (rget rs y) b ∧ (plN (rget rs x).2.2.1 &&& (7 - plN (rget rs y).2.2.1)) = 0)
theorem shb_iff {rs : List Rl} {x y b : Int} : shb rs x y b = true ↔ shd rs x y b := by
  unfold shb shd
  rw [decide_eq_true_iff, btb_iff]
def shG (rs : List Rl) (x b : Int) : Nat → Int
  | 0 => -1
  | n + 1 => if shb rs x n b = true ∧ (shG rs x b n < 0 ∨ btb rs n (shG rs x b n) = true) then (n : Int) else shG rs x b n
theorem shG_s {rs : List Rl} {x b i : Int} (h0 : 0 ≤ i) : shG rs x b (i + 1).toNat = if shb rs x i b = true ∧ (shG rs x b i.toNat < 0 ∨ btb rs i (shG rs x b i.toNat) = true) then i else shG rs x b i.toNat := by
  obtain ⟨n, rfl⟩ := Int.eq_ofNat_of_zero_le h0
  rfl
theorem shG_b (rs : List Rl) (x b : Int) : ∀ n : Nat, -1 ≤ shG rs x b n ∧ shG rs x b n < n ∨ shG rs x b n = -1
  | 0 => Or.inr rfl
  | n + 1 => by
    have := shG_b rs x b n
    unfold shG
    split <;> omega
theorem sav_b {rs : List Rl} (hW : RW rs) {z : Int} (h0 : 0 ≤ z) (h1 : z < rs.length) : 0 ≤ sav (rget rs z) ∧ sav (rget rs z) ≤ 24 := by
  have h := hW.2 _ (rget_mem h0 h1)
  have hl := h.2.2.2.2.1.1
  obtain ⟨-, -, -, -, -, h6, h7, h8⟩ := h
  unfold sav
  split <;> omega
theorem colI_in {rs : List Rl} {i : Int} : ∀ (n : Nat) {x y : Int}, (x, y) ∈ colI rs i n → x = i ∧ i < y ∧ y < n ∧ cold rs x y
  | 0, x, y, h => by simp [colI] at h
  | n + 1, x, y, h => by
    unfold colI at h
    rcases List.mem_append.mp h with h | h
    · have := colI_in n h
      refine ⟨this.1, this.2.1, by have := this.2.2.1; omega, this.2.2.2⟩
    · split at h
      · rename_i hc
        have h2 := List.mem_singleton.mp h
        injection h2 with e1 e2
        subst e1; subst e2
        exact ⟨rfl, hc.1, by omega, cob_iff.mp hc.2⟩
      · simp at h
theorem colO_in {rs : List Rl} : ∀ (n : Nat) {x y : Int}, (x, y) ∈ colO rs n → 0 ≤ x ∧ x < n ∧ x < y ∧ y < rs.length ∧ cold rs x y
  | 0, x, y, h => by simp [colO] at h
  | n + 1, x, y, h => by
    unfold colO at h
    rcases List.mem_append.mp h with h | h
    · have := colO_in n h
      exact ⟨this.1, by have := this.2.1; omega, this.2.2⟩
    · have := colI_in _ h
      exact ⟨by omega, by omega, by omega, this.2.2.1, this.2.2.2⟩
def quA (q : Wq) (w : Int) : Int := if w = 0 then q.1 else if w = 1 then q.2.1 else if w = 2 then q.2.2.1 else if w = 3 then q.2.2.2.1 else if w = 4 then q.2.2.2.2.1 else q.2.2.2.2.2
def reA (nw ol gz us mc ia w : Int) : Int := if w = 0 then nw else if w = 1 then ol else if w = 2 then gz else if w = 3 then us else if w = 4 then mc else ia
