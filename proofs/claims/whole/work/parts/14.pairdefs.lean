/-! pairs: count, short form, long form -/
abbrev Pr : Type := Int × List Int × List Int
def PD : Pr := (0, [], [])
def pget (ps : List Pr) (z : Int) : Pr := if 0 ≤ z then ps.getD z.toNat PD else PD
def PO (B : Int) (p : Pr) : Prop := 1 ≤ p.1 ∧ p.1 ≤ B ∧ Fw p.2.1 ∧ Fw p.2.2 ∧ 1 ≤ p.2.1.length ∧ p.2.1.length ≤ 6 ∧ p.2.1.length < p.2.2.length
def PW (ps : List Pr) (B : Int) : Prop := ps.length ≤ 30 ∧ (B ≤ 1000000) ∧ ∀ p ∈ ps, PO B p
def PRep (gn : Nat → Int) (gq gr : Nat → Int64) (ps : List Pr) : Prop := ∀ z : Int, 0 ≤ z → z < ps.length → gn z.toNat = (pget ps z).1 ∧ gq z.toNat = enc (pget ps z).2.1 ∧ gr z.toNat = enc (pget ps z).2.2
theorem pget_mem {ps : List Pr} {z : Int} (h0 : 0 ≤ z) (h1 : z < ps.length) : pget ps z ∈ ps := by
  have hl : z.toNat < ps.length := by omega
  simp only [pget, h0, if_true, List.getD_eq_getElem?_getD, List.getElem?_eq_getElem hl, Option.getD_some]
  exact List.getElem_mem hl
theorem PW.at {ps : List Pr} {B : Int} (h : PW ps B) {z : Int} (h0 : 0 ≤ z) (h1 : z < ps.length) : PO B (pget ps z) := h.2.2 _ (pget_mem h0 h1)
theorem PW.bd {ps : List Pr} {B : Int} (h : PW ps B) {z : Int} (h0 : 0 ≤ z) (h1 : z < ps.length) : 1 ≤ (pget ps z).1 ∧ (pget ps z).1 ≤ B ∧ (pget ps z).1 ≤ 1000000 ∧ 1 ≤ (pget ps z).2.1.length ∧ (pget ps z).2.1.length ≤ 6 ∧ (pget ps z).2.1.length < (pget ps z).2.2.length ∧ (pget ps z).2.2.length ≤ 12 := by
  obtain ⟨a1, a2, a3, a4, a5, a6, a7⟩ := h.at h0 h1
  have := h.2.1
  exact ⟨a1, a2, by omega, a5, a6, a7, a4.1⟩
theorem rget_n {rs : List Rl} {n : Nat} (h : n < rs.length) : rget rs (n : Int) = rs[n] := by
  have h0 : (0 : Int) ≤ n := by omega
  simp [rget, h0, List.getD_eq_getElem?_getD, h]
theorem pget_n {ps : List Pr} {n : Nat} (h : n < ps.length) : pget ps (n : Int) = ps[n] := by
  have h0 : (0 : Int) ≤ n := by omega
  simp [pget, h0, List.getD_eq_getElem?_getD, h]
theorem rget_ext {a b : List Rl} (hl : a.length = b.length) (h : ∀ z : Int, 0 ≤ z → z < a.length → rget a z = rget b z) : a = b := by
  apply List.ext_getElem hl
  intro n h1 h2
  have := h n (by omega) (by omega)
  rwa [rget_n h1, rget_n h2] at this
theorem pget_ext {a b : List Pr} (hl : a.length = b.length) (h : ∀ z : Int, 0 ≤ z → z < a.length → pget a z = pget b z) : a = b := by
  apply List.ext_getElem hl
  intro n h1 h2
  have := h n (by omega) (by omega)
  rwa [pget_n h1, pget_n h2] at this
theorem rget_push {rs : List Rl} {r : Rl} {z : Int} (h0 : 0 ≤ z) (h1 : z ≤ rs.length) : rget (rs ++ [r]) z = if z = rs.length then r else rget rs z := by
  obtain ⟨n, rfl⟩ := Int.eq_ofNat_of_zero_le h0
  by_cases e : n = rs.length
  · subst e
    rw [rget_n (by simp)]
    simp
  · have hn : n < rs.length := by omega
    rw [rget_n (by simp; omega), rget_n hn, if_neg (by omega), List.getElem_append_left hn]
theorem pget_push {ps : List Pr} {r : Pr} {z : Int} (h0 : 0 ≤ z) (h1 : z ≤ ps.length) : pget (ps ++ [r]) z = if z = ps.length then r else pget ps z := by
  obtain ⟨n, rfl⟩ := Int.eq_ofNat_of_zero_le h0
  by_cases e : n = ps.length
  · subst e
    rw [pget_n (by simp)]
    simp
  · have hn : n < ps.length := by omega
    rw [pget_n (by simp; omega), pget_n hn, if_neg (by omega), List.getElem_append_left hn]
theorem rget_set {rs : List Rl} {r : Rl} {k z : Int} (hk : 0 ≤ k) (h0 : 0 ≤ z) (h1 : z < rs.length) : rget (rs.set k.toNat r) z = if z = k then r else rget rs z := by
  obtain ⟨n, rfl⟩ := Int.eq_ofNat_of_zero_le h0
  obtain ⟨i, rfl⟩ := Int.eq_ofNat_of_zero_le hk
  have hn : n < rs.length := by omega
  rw [rget_n (by simpa using hn), rget_n hn]
  by_cases e : n = i
  · subst e; simp
  · rw [if_neg (by omega)]
    simp only [Int.toNat_natCast]
    rw [List.getElem_set_ne (by omega)]
theorem pget_set {ps : List Pr} {r : Pr} {k z : Int} (hk : 0 ≤ k) (h0 : 0 ≤ z) (h1 : z < ps.length) : pget (ps.set k.toNat r) z = if z = k then r else pget ps z := by
  obtain ⟨n, rfl⟩ := Int.eq_ofNat_of_zero_le h0
  obtain ⟨i, rfl⟩ := Int.eq_ofNat_of_zero_le hk
  have hn : n < ps.length := by omega
  rw [pget_n (by simpa using hn), pget_n hn]
  by_cases e : n = i
  · subst e; simp
  · rw [if_neg (by omega)]
    simp only [Int.toNat_natCast]
    rw [List.getElem_set_ne (by omega)]
theorem rget_erase {rs : List Rl} {k z : Int} (hk : 0 ≤ k) (hk1 : k < rs.length) (h0 : 0 ≤ z) (h1 : z + 1 < rs.length) : rget (rs.eraseIdx k.toNat) z = if z < k then rget rs z else rget rs (z + 1) := by
  obtain ⟨n, rfl⟩ := Int.eq_ofNat_of_zero_le h0
  obtain ⟨i, rfl⟩ := Int.eq_ofNat_of_zero_le hk
  have hi : i < rs.length := by omega
  have hn : n + 1 < rs.length := by omega
  rw [rget_n (by rw [List.length_eraseIdx]; simp [hi]; omega), show ((n : Int) + 1) = ((n + 1 : Nat) : Int) by omega, rget_n (n := n) (by omega), rget_n hn, List.getElem_eraseIdx]
  simp only [Int.toNat_natCast]
  by_cases e : n < i
  · simp [e]
  · simp [e]
theorem va_upI {α : Type} {g : Nat → α} {k z : Int} {v : α} (hk : 0 ≤ k) (hz : 0 ≤ z) : va_up g k.toNat v z.toNat = if z = k then v else g z.toNat := by
  simp only [va_up]
  by_cases e : z = k
  · simp [e]
  · have : ¬ z.toNat = k.toNat := by omega
    simp [e, this]
theorem BRep_push {gk gp gc : Nat → Int} {gs gl : Nat → Int64} {rs : List Rl} (h : BRep gk gp gc gs gl rs) (k p c : Int) (a b : List Int) : BRep (va_up gk ((rs.length : Int)).toNat k) (va_up gp ((rs.length : Int)).toNat p) (va_up gc ((rs.length : Int)).toNat c) (va_up gs ((rs.length : Int)).toNat (enc a)) (va_up gl ((rs.length : Int)).toNat (enc b)) (rs ++ [(k, p, c, a, b)]) := by
  intro z h0 h1
  have h1 : z < (rs.length : Int) + 1 := by simpa using h1
  have hn : (0 : Int) ≤ rs.length := by omega
  rw [rget_push h0 (by omega), va_upI hn h0, va_upI hn h0, va_upI hn h0, va_upI hn h0, va_upI hn h0]
  by_cases e : z = rs.length
  · simp [e]
  · simp only [e, if_false]
    exact h z h0 (by omega)
theorem PRep_push {gn : Nat → Int} {gq gr : Nat → Int64} {ps : List Pr} (h : PRep gn gq gr ps) (k : Int) (a b : List Int) : PRep (va_up gn ((ps.length : Int)).toNat k) (va_up gq ((ps.length : Int)).toNat (enc a)) (va_up gr ((ps.length : Int)).toNat (enc b)) (ps ++ [(k, a, b)]) := by
  intro z h0 h1
  have h1 : z < (ps.length : Int) + 1 := by simpa using h1
  have hn : (0 : Int) ≤ ps.length := by omega
  rw [pget_push h0 (by omega), va_upI hn h0, va_upI hn h0, va_upI hn h0]
  by_cases e : z = ps.length
  · simp [e]
  · simp only [e, if_false]
    exact h z h0 (by omega)
theorem RW_push {rs : List Rl} (h : RW rs) {r : Rl} (hr : RO r) (hn : rs.length < 24) : RW (rs ++ [r]) := ⟨by simp; omega, fun x hx => by
  rcases List.mem_append.mp hx with h1 | h1
  · exact h.2 x h1
  · rw [List.mem_singleton] at h1; rw [h1]; exact hr⟩
def rsetp (rs : List Rl) (z v : Int) : List Rl := rs.set z.toNat ((rget rs z).1, v, (rget rs z).2.2)
def rsetc (rs : List Rl) (z v : Int) : List Rl := rs.set z.toNat ((rget rs z).1, (rget rs z).2.1, v, (rget rs z).2.2.2)
theorem RW_set {rs : List Rl} (h : RW rs) {r : Rl} (hr : RO r) (k : Nat) : RW (rs.set k r) := ⟨by simpa using h.1, fun x hx => by
  rcases List.mem_or_eq_of_mem_set hx with h1 | h1
  · exact h.2 x h1
  · rw [h1]; exact hr⟩
theorem RW_setp {rs : List Rl} (h : RW rs) {z v : Int} (h0 : 0 ≤ z) (h1 : z < rs.length) (hv : 0 ≤ v ∧ v ≤ 99) : RW (rsetp rs z v) := RW_set h (r := ((rget rs z).1, v, (rget rs z).2.2)) ⟨(h.at h0 h1).1, hv, (h.at h0 h1).2.2⟩ _
theorem RW_setc {rs : List Rl} (h : RW rs) {z v : Int} (h0 : 0 ≤ z) (h1 : z < rs.length) (hv : 0 ≤ v ∧ v ≤ 4) : RW (rsetc rs z v) := RW_set h (r := ((rget rs z).1, (rget rs z).2.1, v, (rget rs z).2.2.2)) ⟨(h.at h0 h1).1, (h.at h0 h1).2.1, hv, (h.at h0 h1).2.2.2⟩ _
theorem RW_erase {rs : List Rl} (h : RW rs) (k : Nat) : RW (rs.eraseIdx k) := ⟨Nat.le_trans (List.length_eraseIdx_le _ _) h.1, fun x hx => h.2 x (List.mem_of_mem_eraseIdx hx)⟩
theorem BRep_setp {gk gp gc : Nat → Int} {gs gl : Nat → Int64} {rs : List Rl} (h : BRep gk gp gc gs gl rs) {z v : Int} (hz : 0 ≤ z) (hz1 : z < rs.length) : BRep gk (va_up gp z.toNat v) gc gs gl (rsetp rs z v) := by
  intro x h0 h1
  have h1 : x < rs.length := by simpa [rsetp] using h1
  have hx := h x h0 h1
  unfold rsetp
  rw [rget_set hz h0 h1, va_upI hz h0]
  by_cases e : x = z
  · subst e; simp only [if_true]; exact ⟨hx.1, trivial, hx.2.2⟩
  · simp only [e, if_false]; exact hx
theorem BRep_setc {gk gp gc : Nat → Int} {gs gl : Nat → Int64} {rs : List Rl} (h : BRep gk gp gc gs gl rs) {z v : Int} (hz : 0 ≤ z) (hz1 : z < rs.length) : BRep gk gp (va_up gc z.toNat v) gs gl (rsetc rs z v) := by
  intro x h0 h1
  have h1 : x < rs.length := by simpa [rsetc] using h1
  have hx := h x h0 h1
  unfold rsetc
  rw [rget_set hz h0 h1, va_upI hz h0]
  by_cases e : x = z
  · subst e; simp only [if_true]; exact ⟨hx.1, hx.2.1, trivial, hx.2.2.2⟩
  · simp only [e, if_false]; exact hx
/-- g1 is g, its places from z to before i taken from one place on -/
def Shf {α : Type} (g g1 : Nat → α) (z i : Int) : Prop := ∀ j : Int, 0 ≤ j → g1 j.toNat = if z ≤ j ∧ j < i then g (j + 1).toNat else g j.toNat
theorem Shf_0 {α : Type} {g : Nat → α} {z : Int} : Shf g g z z := fun j _ => by rw [if_neg (by omega)]
theorem Shf_s {α : Type} {g g1 : Nat → α} {z i : Int} (h : Shf g g1 z i) (hz : 0 ≤ z) (hi : z ≤ i) : Shf g (va_up g1 i.toNat (g1 (i + 1).toNat)) z (i + 1) := by
  intro j hj
  rw [va_upI (by omega) hj]
  by_cases e : j = i
  · subst e
    rw [if_pos rfl, if_pos (by omega), h _ (by omega), if_neg (by omega)]
  · rw [if_neg e, h j hj]
    by_cases e2 : z ≤ j ∧ j < i
    · rw [if_pos e2, if_pos (by omega)]
    · rw [if_neg e2, if_neg (by omega)]
theorem BRep_erase {gk gp gc kk pp qq : Nat → Int} {gs gl ss ll : Nat → Int64} {rs : List Rl} (h : BRep gk gp gc gs gl rs) {z i : Int} (hz : 0 ≤ z) (hz1 : z < rs.length) (hi : i + 1 = rs.length) (a1 : Shf gk kk z i) (a2 : Shf gp pp z i) (a3 : Shf gc qq z i) (a4 : Shf gs ss z i) (a5 : Shf gl ll z i) : BRep kk pp qq ss ll (rs.eraseIdx z.toNat) := by
  intro x h0 h1
  have hl : (rs.eraseIdx z.toNat).length + 1 = rs.length := by
    rw [List.length_eraseIdx]
    have : z.toNat < rs.length := by omega
    simp [this]; omega
  rw [rget_erase hz hz1 h0 (by omega), a1 x h0, a2 x h0, a3 x h0, a4 x h0, a5 x h0]
  by_cases e : x < z
  · have e1 : ¬ (z ≤ x ∧ x < i) := by omega
    simp only [e, e1, if_true, if_false]
    exact h x h0 (by omega)
  · have e1 : z ≤ x ∧ x < i := by omega
    simp only [e, e1, if_false]
    exact h (x + 1) (by omega) (by omega)
/-! first places -/
def wfi (rs : List Rl) (a b : List Int) : Int := if rs.findIdx (fun r => decide (r.1 = 0 ∧ r.2.2.2.1 = a ∧ r.2.2.2.2 = b)) < rs.length then (rs.findIdx (fun r => decide (r.1 = 0 ∧ r.2.2.2.1 = a ∧ r.2.2.2.2 = b)) : Int) else -1
def pfi (ps : List Pr) (a b : List Int) : Int := (ps.findIdx (fun r => decide (r.2.1 = a ∧ r.2.2 = b)) : Int)
def wm (rs : List Rl) (a b : List Int) (z : Int) : Prop := (rget rs z).1 = 0 ∧ (rget rs z).2.2.2.1 = a ∧ (rget rs z).2.2.2.2 = b
def pm (ps : List Pr) (a b : List Int) (z : Int) : Prop := (pget ps z).2.1 = a ∧ (pget ps z).2.2 = b
theorem wfi_at {rs : List Rl} {a b : List Int} {i : Int} (h0 : 0 ≤ i) (h1 : i < rs.length) (hm : wm rs a b i) (hn : ∀ j : Int, 0 ≤ j → j < i → ¬ wm rs a b j) : wfi rs a b = i := by
  obtain ⟨n, rfl⟩ := Int.eq_ofNat_of_zero_le h0
  have hl : n < rs.length := by omega
  have e : rs.findIdx (fun r => decide (r.1 = 0 ∧ r.2.2.2.1 = a ∧ r.2.2.2.2 = b)) = n := by
    rw [List.findIdx_eq hl]
    unfold wm at hm
    rw [rget_n hl] at hm
    refine ⟨decide_eq_true hm, fun j hj => decide_eq_false ?_⟩
    have := hn j (by omega) (by omega)
    unfold wm at this
    rwa [rget_n (by omega)] at this
  unfold wfi
  rw [e, if_pos hl]
theorem wfi_no {rs : List Rl} {a b : List Int} (hn : ∀ j : Int, 0 ≤ j → j < rs.length → ¬ wm rs a b j) : wfi rs a b = -1 := by
  have e : rs.findIdx (fun r => decide (r.1 = 0 ∧ r.2.2.2.1 = a ∧ r.2.2.2.2 = b)) = rs.length := by
    rw [List.findIdx_eq_length]
    intro x hx
    obtain ⟨n, hl, rfl⟩ := List.getElem_of_mem hx
    have := hn n (by omega) (by omega)
    unfold wm at this
    rw [rget_n hl] at this
    exact decide_eq_false this
  unfold wfi
  rw [e, if_neg (by omega)]
theorem pfi_at {ps : List Pr} {a b : List Int} {i : Int} (h0 : 0 ≤ i) (h1 : i < ps.length) (hm : pm ps a b i) (hn : ∀ j : Int, 0 ≤ j → j < i → ¬ pm ps a b j) : pfi ps a b = i := by
  obtain ⟨n, rfl⟩ := Int.eq_ofNat_of_zero_le h0
  have hl : n < ps.length := by omega
  have e : ps.findIdx (fun r => decide (r.2.1 = a ∧ r.2.2 = b)) = n := by
    rw [List.findIdx_eq hl]
    unfold pm at hm
    rw [pget_n hl] at hm
    refine ⟨decide_eq_true hm, fun j hj => decide_eq_false ?_⟩
    have := hn j (by omega) (by omega)
    unfold pm at this
    rwa [pget_n (by omega)] at this
  unfold pfi
  rw [e]
theorem pfi_no {ps : List Pr} {a b : List Int} (hn : ∀ j : Int, 0 ≤ j → j < ps.length → ¬ pm ps a b j) : pfi ps a b = ps.length := by
  have e : ps.findIdx (fun r => decide (r.2.1 = a ∧ r.2.2 = b)) = ps.length := by
    rw [List.findIdx_eq_length]
    intro x hx
    obtain ⟨n, hl, rfl⟩ := List.getElem_of_mem hx
    have := hn n (by omega) (by omega)
    unfold pm at this
    rw [pget_n hl] at this
    exact decide_eq_false this
  unfold pfi
  rw [e]
theorem wfi_b (rs : List Rl) (a b : List Int) : -1 ≤ wfi rs a b ∧ wfi rs a b < rs.length := by
  unfold wfi
  split <;> omega
theorem pfi_b (ps : List Pr) (a b : List Int) : 0 ≤ pfi ps a b ∧ pfi ps a b ≤ ps.length := by
  have : ps.findIdx (fun r => decide (r.2.1 = a ∧ r.2.2 = b)) ≤ ps.length := List.findIdx_le_length
  unfold pfi
  omega
theorem pfi_m {ps : List Pr} {a b : List Int} (h : pfi ps a b < ps.length) : pm ps a b (pfi ps a b) := by
  have hl : ps.findIdx (fun r => decide (r.2.1 = a ∧ r.2.2 = b)) < ps.length := by unfold pfi at h; omega
  have := List.findIdx_getElem (w := hl)
  unfold pm pfi
  rw [pget_n hl]
  exact of_decide_eq_true this
/-! collisions -/
def cold (rs : List Rl) (x y : Int) : Prop := (rget rs y).1 = (rget rs x).1 ∧ (rget rs x).2.2.2.1 = (rget rs y).2.2.2.1 ∧ (rget rs x).2.2.2.2 ≠ (rget rs y).2.2.2.2 ∧ (plN (rget rs x).2.2.1 &&& plN (rget rs y).2.2.1) ≠ 0
def cob (rs : List Rl) (x y : Int) : Bool := decide ((rget rs y).1 = (rget rs x).1 ∧ (rget rs x).2.2.2.1 = (rget rs y).2.2.2.1 ∧ (rget rs x).2.2.2.2 ≠ (rget rs y).2.2.2.2 ∧ (plN (rget rs x).2.2.1 &&& plN (rget rs y).2.2.1) ≠ 0)
theorem cob_iff {rs : List Rl} {x y : Int} : cob rs x y = true ↔ cold rs x y := decide_eq_true_iff
/-- the collisions of i with rules from i + 1 to before j -/
def colI (rs : List Rl) (i : Int) : Nat → List (Int × Int)
  | 0 => []
  | j + 1 => colI rs i j ++ (if i < (j : Int) ∧ cob rs i j = true then [(i, (j : Int))] else [])
def colO (rs : List Rl) : Nat → List (Int × Int)
  | 0 => []
  | i + 1 => colO rs i ++ colI rs i rs.length
theorem colI_s {rs : List Rl} {i j : Int} (hj : 0 ≤ j) : colI rs i (j + 1).toNat = colI rs i j.toNat ++ (if i < j ∧ cob rs i j = true then [(i, j)] else []) := by
  obtain ⟨n, rfl⟩ := Int.eq_ofNat_of_zero_le hj
  rfl
theorem colI_z {rs : List Rl} {i : Int} : ∀ n : Nat, (n : Int) ≤ i + 1 → colI rs i n = []
  | 0, _ => rfl
  | n + 1, h => by
    rw [colI, colI_z n (by omega), if_neg (by omega)]
    rfl
theorem colO_s {rs : List Rl} {i : Int} (hi : 0 ≤ i) : colO rs (i + 1).toNat = colO rs i.toNat ++ colI rs i rs.length := by
  obtain ⟨n, rfl⟩ := Int.eq_ofNat_of_zero_le hi
  rfl
theorem colI_len (rs : List Rl) (i : Int) : ∀ n : Nat, (colI rs i n).length ≤ n
  | 0 => by simp [colI]
  | n + 1 => by
    have := colI_len rs i n
    rw [colI, List.length_append]
    split <;> simp <;> omega
theorem colO_len (rs : List Rl) : ∀ n : Nat, (colO rs n).length ≤ n * rs.length
  | 0 => by simp [colO]
  | n + 1 => by
    have := colO_len rs n
    have := colI_len rs n rs.length
    rw [colO, List.length_append, Nat.succ_mul]
    omega
theorem colI_pre {rs : List Rl} {i : Int} : ∀ (n m : Nat), n ≤ m → colI rs i n <+: colI rs i m
  | n, 0, h => by rw [Nat.le_zero.mp h]; exact List.prefix_refl _
  | n, m + 1, h => by
    by_cases e : n = m + 1
    · rw [e]; exact List.prefix_refl _
    · exact (colI_pre n m (by omega)).trans ⟨_, rfl⟩
theorem colO_pre {rs : List Rl} : ∀ (n m : Nat), n ≤ m → colO rs n <+: colO rs m
  | n, 0, h => by rw [Nat.le_zero.mp h]; exact List.prefix_refl _
  | n, m + 1, h => by
    by_cases e : n = m + 1
    · rw [e]; exact List.prefix_refl _
    · exact (colO_pre n m (by omega)).trans ⟨_, rfl⟩
/-- the collision that is found at i, j stands at its place in the whole list -/
theorem col_at {rs : List Rl} {i j : Int} (h0 : 0 ≤ i) (h1 : i < j) (h2 : j < rs.length) (hc : cold rs i j) : (colO rs rs.length)[(colO rs i.toNat).length + (colI rs i j.toNat).length]? = some (i, j) := by
  have p1 : colO rs (i + 1).toNat <+: colO rs rs.length := colO_pre _ _ (by omega)
  have p2 : colI rs i (j + 1).toNat <+: colI rs i rs.length := colI_pre _ _ (by omega)
  rw [colO_s h0] at p1
  rw [colI_s (by omega), if_pos ⟨h1, cob_iff.mpr hc⟩] at p2
  obtain ⟨t1, e1⟩ := p1
  obtain ⟨t2, e2⟩ := p2
  rw [← e1, ← e2]
  simp
def shd (rs : List Rl) (x y b : Int) : Prop := (rget rs y).1 = (rget rs x).1 ∧ btr rs y x ∧ fmo (rget rs x) b = fmo (rget rs y) b ∧ (plN (rget rs x).2.2.1 &&& (7 - plN (rget rs y).2.2.1)) = 0
def sav (r : Rl) : Int := if r.1 = 0 then (r.2.2.2.2.length : Int) - r.2.2.2.1.length else 2 * ((r.2.2.2.2.length : Int) - r.2.2.2.1.length)
theorem and_le7 (a b : Nat) (h : a ≤ 7) : a &&& b ≤ 7 := Nat.le_trans Nat.and_le_left h
