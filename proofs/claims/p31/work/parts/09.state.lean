/-! what a stamp is: its cells lie from st on, st the stamp, st + 1 the row of bands, then each band with its row of wears, st + 14 the settings; π tells which band's cells are in which place; σ is the row of numbers -/
def row3 (σ : Nat → Int) : Nat → Int := fun j => if j < 3 then σ j else 0
def roww (σ : Nat → Int) (p : Nat) : Nat → Int := fun j => if j < 10 then σ (88 + 13 * p + j) else 0
theorem row3_fu {σ : Nat → Int} {k : Nat} {v : Int} (hk : k < 3) : fu (row3 σ) k v = row3 (fu σ k v) := by
  funext j
  unfold fu row3
  by_cases h : j = k
  · subst h
    simp [hk]
  · simp [h]
theorem roww_fu {σ : Nat → Int} {p k : Nat} {v : Int} (hk : k < 10) : fu (roww σ p) k v = roww (fu σ (88 + 13 * p + k) v) p := by
  funext j
  unfold fu roww
  by_cases h : j = k
  · subst h
    simp [hk]
  · have h2 : ¬ 88 + 13 * p + j = 88 + 13 * p + k := by omega
    simp [h]
theorem row3_cg {σ τ : Nat → Int} (h : ∀ j, j < 3 → τ j = σ j) : row3 τ = row3 σ := by
  funext j
  unfold row3
  by_cases hj : j < 3
  · rw [if_pos hj, if_pos hj, h j hj]
  · rw [if_neg hj, if_neg hj]
theorem roww_cg {σ τ : Nat → Int} {p q : Nat} (h : ∀ j, j < 10 → τ (88 + 13 * p + j) = σ (88 + 13 * q + j)) : roww τ p = roww σ q := by
  funext j
  unfold roww
  by_cases hj : j < 10
  · rw [if_pos hj, if_pos hj, h j hj]
  · rw [if_neg hj, if_neg hj]
theorem row3_cp (σ τ : Nat → Int) : (fun j => if j < 3 then row3 σ j else row3 τ j) = row3 σ := by
  funext j
  unfold row3
  by_cases hj : j < 3 <;> simp [hj]
theorem roww_cp (σ τ : Nat → Int) (p q : Nat) : (fun j => if j < 10 then roww σ p j else roww τ q j) = roww σ p := by
  funext j
  unfold roww
  by_cases hj : j < 10 <;> simp [hj]
theorem row3_at {σ : Nat → Int} {k : Nat} (h : k < 3) : row3 σ k = σ k := if_pos h
theorem roww_at {σ : Nat → Int} {p k : Nat} (h : k < 10) : roww σ p k = σ (88 + 13 * p + k) := if_pos h
def IsSt (G : wG) (μ : hM) (st : Nat) (π : Nat → Nat) (σ : Nat → Int) (fp sp : Int) : Prop :=
  μ st = some (.inr (4, [.ref (st + 1), .ref (st + 14), .int (iv (σ 4)), .int (iv (σ 9)), .int (iv (σ 10)), .int (iv fp), .int (iv sp)])) ∧
  μ (st + 1) = some (.inl (G.2.1 2, 6, .inr (.inr (.inr (.inr (fun p => some (st + 2 + 2 * π p))))))) ∧
  μ (st + 14) = some (.inl (G.2.1 0, 3, .inl (fun j => iv (row3 σ j)))) ∧
  (∀ p, p < 6 → μ (st + 2 + 2 * π p) = some (.inr (0, [.int (iv (σ (85 + 13 * p))), .int (iv (σ (86 + 13 * p))), .int (iv (σ (87 + 13 * p))), .ref (st + 3 + 2 * π p)]))) ∧
  (∀ p, p < 6 → μ (st + 3 + 2 * π p) = some (.inl (G.2.1 0, 10, .inl (fun j => iv (roww σ p j))))) ∧
  (∀ p, p < 6 → π p < 6) ∧ ∀ p q, p < 6 → q < 6 → π p = π q → p = q
theorem IsSt.fr {G : wG} {μ ν : hM} {st : Nat} {π : Nat → Nat} {σ : Nat → Int} {fp sp : Int} (h : IsSt G μ st π σ fp sp) (hq : ∀ q, st ≤ q → q < st + 15 → ν q = μ q) : IsSt G ν st π σ fp sp := by
  obtain ⟨h1, h2, h3, h4, h5, h6, h7⟩ := h
  refine ⟨(hq st (by omega) (by omega)).trans h1, (hq (st + 1) (by omega) (by omega)).trans h2, (hq (st + 14) (by omega) (by omega)).trans h3, fun p hp => ?_, fun p hp => ?_, h6, h7⟩
  · have := h6 p hp
    exact (hq (st + 2 + 2 * π p) (by omega) (by omega)).trans (h4 p hp)
  · have := h6 p hp
    exact (hq (st + 3 + 2 * π p) (by omega) (by omega)).trans (h5 p hp)
theorem IsSt.cg {G : wG} {μ : hM} {st : Nat} {π : Nat → Nat} {σ τ : Nat → Int} {fp sp : Int} (h : IsSt G μ st π σ fp sp) (hq : ∀ j, (j < 3 ∨ j = 4 ∨ j = 9 ∨ j = 10 ∨ (85 ≤ j ∧ j < 163)) → τ j = σ j) : IsSt G μ st π τ fp sp := by
  obtain ⟨h1, h2, h3, h4, h5, h6, h7⟩ := h
  refine ⟨?_, h2, ?_, fun p hp => ?_, fun p hp => ?_, h6, h7⟩
  · rw [hq 4 (by omega), hq 9 (by omega), hq 10 (by omega)]; exact h1
  · rw [row3_cg (fun j hj => hq j (by omega))]; exact h3
  · rw [hq (85 + 13 * p) (by omega), hq (86 + 13 * p) (by omega), hq (87 + 13 * p) (by omega)]; exact h4 p hp
  · rw [roww_cg (fun j hj => hq (88 + 13 * p + j) (by omega))]; exact h5 p hp
theorem IsSt.st {G : wG} {μ : hM} {st : Nat} {π : Nat → Nat} {σ : Nat → Int} {fp sp : Int} (h : IsSt G μ st π σ fp sp) (τ : Nat → Int) (fp' sp' : Int) (hq : ∀ j, j ≠ 4 → j ≠ 9 → j ≠ 10 → τ j = σ j) : IsSt G (hu μ st (.inr (4, [.ref (st + 1), .ref (st + 14), .int (iv (τ 4)), .int (iv (τ 9)), .int (iv (τ 10)), .int (iv fp'), .int (iv sp')]))) st π τ fp' sp' := by
  obtain ⟨h1, h2, h3, h4, h5, h6, h7⟩ := h
  refine ⟨hu_s, hu_n' (by omega) h2, ?_, fun p hp => ?_, fun p hp => ?_, h6, h7⟩
  · rw [row3_cg (fun j hj => hq j (by omega) (by omega) (by omega))]; exact hu_n' (by omega) h3
  · rw [hq (85 + 13 * p) (by omega) (by omega) (by omega), hq (86 + 13 * p) (by omega) (by omega) (by omega), hq (87 + 13 * p) (by omega) (by omega) (by omega)]; exact hu_n' (by omega) (h4 p hp)
  · rw [roww_cg (fun j hj => hq (88 + 13 * p + j) (by omega) (by omega) (by omega))]; exact hu_n' (by omega) (h5 p hp)
theorem IsSt.bd {G : wG} {μ : hM} {st : Nat} {π : Nat → Nat} {σ : Nat → Int} {fp sp : Int} (h : IsSt G μ st π σ fp sp) {p : Nat} (hp : p < 6) (τ : Nat → Int) (hq : ∀ j, j ≠ 85 + 13 * p → j ≠ 86 + 13 * p → j ≠ 87 + 13 * p → τ j = σ j) : IsSt G (hu μ (st + 2 + 2 * π p) (.inr (0, [.int (iv (τ (85 + 13 * p))), .int (iv (τ (86 + 13 * p))), .int (iv (τ (87 + 13 * p))), .ref (st + 3 + 2 * π p)]))) st π τ fp sp := by
  obtain ⟨h1, h2, h3, h4, h5, h6, h7⟩ := h
  have hpp := h6 p hp
  refine ⟨?_, hu_n' (by omega) h2, ?_, fun q hqq => ?_, fun q hqq => ?_, h6, h7⟩
  · rw [hq 4 (by omega) (by omega) (by omega), hq 9 (by omega) (by omega) (by omega), hq 10 (by omega) (by omega) (by omega)]; exact hu_n' (by omega) h1
  · rw [row3_cg (fun j hj => hq j (by omega) (by omega) (by omega))]; exact hu_n' (by omega) h3
  · by_cases e : q = p
    · subst e
      exact hu_s
    · have := h6 q hqq
      have hne : π q ≠ π p := fun z => e (h7 q p hqq hp z)
      rw [hq (85 + 13 * q) (by omega) (by omega) (by omega), hq (86 + 13 * q) (by omega) (by omega) (by omega), hq (87 + 13 * q) (by omega) (by omega) (by omega)]; exact hu_n' (by omega) (h4 q hqq)
  · have := h6 q hqq
    rw [roww_cg (fun j hj => hq (88 + 13 * q + j) (by omega) (by omega) (by omega))]; exact hu_n' (by omega) (h5 q hqq)
theorem IsSt.wr {G : wG} {μ : hM} {st : Nat} {π : Nat → Nat} {σ : Nat → Int} {fp sp : Int} (h : IsSt G μ st π σ fp sp) {p : Nat} (hp : p < 6) (τ : Nat → Int) (hq : ∀ j, j < 88 + 13 * p ∨ 98 + 13 * p ≤ j → τ j = σ j) : IsSt G (hu μ (st + 3 + 2 * π p) (.inl (G.2.1 0, 10, .inl (fun j => iv (roww τ p j))))) st π τ fp sp := by
  obtain ⟨h1, h2, h3, h4, h5, h6, h7⟩ := h
  have hpp := h6 p hp
  refine ⟨?_, hu_n' (by omega) h2, ?_, fun q hqq => ?_, fun q hqq => ?_, h6, h7⟩
  · rw [hq 4 (by omega), hq 9 (by omega), hq 10 (by omega)]; exact hu_n' (by omega) h1
  · rw [row3_cg (fun j hj => hq j (by omega))]; exact hu_n' (by omega) h3
  · have := h6 q hqq
    rw [hq (85 + 13 * q) (by omega), hq (86 + 13 * q) (by omega), hq (87 + 13 * q) (by omega)]; exact hu_n' (by omega) (h4 q hqq)
  · by_cases e : q = p
    · subst e
      exact hu_s
    · have := h6 q hqq
      have hne : π q ≠ π p := fun z => e (h7 q p hqq hp z)
      rw [roww_cg (fun j hj => hq (88 + 13 * q + j) (by omega))]; exact hu_n' (by omega) (h5 q hqq)
theorem IsSt.se {G : wG} {μ : hM} {st : Nat} {π : Nat → Nat} {σ : Nat → Int} {fp sp : Int} (h : IsSt G μ st π σ fp sp) (τ : Nat → Int) (hq : ∀ j, 3 ≤ j → τ j = σ j) : IsSt G (hu μ (st + 14) (.inl (G.2.1 0, 3, .inl (fun j => iv (row3 τ j))))) st π τ fp sp := by
  obtain ⟨h1, h2, h3, h4, h5, h6, h7⟩ := h
  refine ⟨?_, hu_n' (by omega) h2, hu_s, fun q hqq => ?_, fun q hqq => ?_, h6, h7⟩
  · rw [hq 4 (by omega), hq 9 (by omega), hq 10 (by omega)]; exact hu_n' (by omega) h1
  · have := h6 q hqq
    rw [hq (85 + 13 * q) (by omega), hq (86 + 13 * q) (by omega), hq (87 + 13 * q) (by omega)]; exact hu_n' (by omega) (h4 q hqq)
  · have := h6 q hqq
    rw [roww_cg (fun j hj => hq (88 + 13 * q + j) (by omega))]; exact hu_n' (by omega) (h5 q hqq)
/-- the bounds of a stamp's numbers -/
def OkS (σ : Nat → Int) : Prop := (10 ≤ σ 0 ∧ σ 0 ≤ 60) ∧ (60 ≤ σ 1 ∧ σ 1 ≤ 150) ∧ (1 ≤ σ 2 ∧ σ 2 ≤ 99) ∧ (0 ≤ σ 4 ∧ σ 4 ≤ 200) ∧ ∀ p, p < 6 → (0 ≤ σ (85 + 13 * p) ∧ σ (85 + 13 * p) ≤ 5) ∧ (0 ≤ σ (86 + 13 * p) ∧ σ (86 + 13 * p) ≤ 9) ∧ (0 ≤ σ (87 + 13 * p) ∧ σ (87 + 13 * p) ≤ 99) ∧ ∀ k, k < 10 → 0 ≤ σ (88 + 13 * p + k) ∧ σ (88 + 13 * p + k) ≤ 99
theorem OkS.w {σ : Nat → Int} (h : OkS σ) {p : Nat} (hp : p < 6) : ∀ j, j < 10 → 0 ≤ roww σ p j ∧ roww σ p j ≤ 99 := fun j hj => by
  rw [roww_at hj]
  exact (h.2.2.2.2 p hp).2.2.2 j hj
/-- the digits that are shown, as one number -/
def shw (σ : Nat → Int) : Nat → Int
  | 0 => 0
  | k + 1 => 10 * shw σ k + σ (86 + 13 * k)
theorem shw_rng {σ : Nat → Int} (h : OkS σ) : (0 ≤ shw σ 0 ∧ shw σ 0 ≤ 0) ∧ (0 ≤ shw σ 1 ∧ shw σ 1 ≤ 9) ∧ (0 ≤ shw σ 2 ∧ shw σ 2 ≤ 99) ∧ (0 ≤ shw σ 3 ∧ shw σ 3 ≤ 999) ∧ (0 ≤ shw σ 4 ∧ shw σ 4 ≤ 9999) ∧ (0 ≤ shw σ 5 ∧ shw σ 5 ≤ 99999) ∧ 0 ≤ shw σ 6 ∧ shw σ 6 ≤ 999999 := by
  have h0 := (h.2.2.2.2 0 (by omega)).2.1
  have h1 := (h.2.2.2.2 1 (by omega)).2.1
  have h2 := (h.2.2.2.2 2 (by omega)).2.1
  have h3 := (h.2.2.2.2 3 (by omega)).2.1
  have h4 := (h.2.2.2.2 4 (by omega)).2.1
  have h5 := (h.2.2.2.2 5 (by omega)).2.1
  simp only [shw]
  omega
theorem shw_6 {σ : Nat → Int} (h : OkS σ) : 0 ≤ shw σ 6 ∧ shw σ 6 ≤ 999999 := (shw_rng h).2.2.2.2.2.2
/-- the digit of a number of six digits at a place -/
def dAt (D : Int) (p : Nat) : Int := if p = 5 then D % 10 else if p = 4 then D / 10 % 10 else if p = 3 then D / 100 % 10 else if p = 2 then D / 1000 % 10 else if p = 1 then D / 10000 % 10 else D / 100000 % 10
theorem dAt_rng (D : Int) (p : Nat) : 0 ≤ dAt D p ∧ dAt D p ≤ 9 := by
  unfold dAt
  (repeat' split) <;> omega
/-- the way of the band in a place to a digit -/
def way (σ : Nat → Int) (p : Nat) (d : Int) : Int := wayf (σ (86 + 13 * p)) d
def ab (x : Int) : Int := if 0 ≤ x then x else -x
theorem way_rng (σ : Nat → Int) (p : Nat) (d : Int) : -9 ≤ way σ p d ∧ way σ p d ≤ 9 := wayf_rng _ _
/-- the ways of the places from lo on below hi -/
def wsm (σ : Nat → Int) (D : Int) (lo hi : Int) : Int := (if lo ≤ 0 ∧ 0 < hi then ab (way σ 0 (dAt D 0)) else 0) + (if lo ≤ 1 ∧ 1 < hi then ab (way σ 1 (dAt D 1)) else 0) + (if lo ≤ 2 ∧ 2 < hi then ab (way σ 2 (dAt D 2)) else 0) + (if lo ≤ 3 ∧ 3 < hi then ab (way σ 3 (dAt D 3)) else 0) + (if lo ≤ 4 ∧ 4 < hi then ab (way σ 4 (dAt D 4)) else 0) + (if lo ≤ 5 ∧ 5 < hi then ab (way σ 5 (dAt D 5)) else 0)
theorem ab_rng {x : Int} (h : -9 ≤ x ∧ x ≤ 9) : 0 ≤ ab x ∧ ab x ≤ 9 := by
  unfold ab
  split <;> omega
theorem wsm_rng (σ : Nat → Int) (D lo hi : Int) : 0 ≤ wsm σ D lo hi ∧ wsm σ D lo hi ≤ 54 := by
  have h0 := ab_rng (way_rng σ 0 (dAt D 0))
  have h1 := ab_rng (way_rng σ 1 (dAt D 1))
  have h2 := ab_rng (way_rng σ 2 (dAt D 2))
  have h3 := ab_rng (way_rng σ 3 (dAt D 3))
  have h4 := ab_rng (way_rng σ 4 (dAt D 4))
  have h5 := ab_rng (way_rng σ 5 (dAt D 5))
  unfold wsm
  (repeat' split) <;> omega
/-- the places from lo on below hi are adjusted to six digits -/
def adjF (σ : Nat → Int) (D lo hi : Int) : Nat → Int := fun j =>
  if j = 9 then σ 9 + wsm σ D lo hi
  else if 85 ≤ j ∧ j < 163 ∧ (j - 85) % 13 = 1 ∧ lo ≤ ((j - 85) / 13 : Nat) ∧ (((j - 85) / 13 : Nat) : Int) < hi then dAt D ((j - 85) / 13)
  else if 85 ≤ j ∧ j < 163 ∧ (j - 85) % 13 = 2 ∧ lo ≤ ((j - 85) / 13 : Nat) ∧ (((j - 85) / 13 : Nat) : Int) < hi then min 99 (σ j + ab (way σ ((j - 85) / 13) (dAt D ((j - 85) / 13))))
  else σ j
/-- one band turned -/
def trn (σ : Nat → Int) (p : Nat) (t : Int) : Nat → Int := fun j => if j = 86 + 13 * p then (σ j + t) % 10 else if j = 87 + 13 * p then min 99 (σ j + ab t) else if j = 9 then σ 9 + ab t else σ j
theorem way_to {σ : Nat → Int} {p : Nat} {d : Int} (hd : 0 ≤ d ∧ d ≤ 9) (hs : 0 ≤ σ (86 + 13 * p) ∧ σ (86 + 13 * p) ≤ 9) : (σ (86 + 13 * p) + way σ p d) % 10 = d := by
  unfold way wayf
  split <;> omega
theorem wsm_lo {σ : Nat → Int} {D : Int} {p : Nat} (hp : p < 6) : wsm σ D ((p : Int) + 1) 6 + ab (way σ p (dAt D p)) = wsm σ D p 6 := by
  have hc : p = 0 ∨ p = 1 ∨ p = 2 ∨ p = 3 ∨ p = 4 ∨ p = 5 := by omega
  rcases hc with rfl | rfl | rfl | rfl | rfl | rfl <;> simp [wsm] <;> omega
theorem wsm_hi {σ : Nat → Int} {D : Int} {p : Nat} (hp : p < 6) : wsm σ D 0 p + ab (way σ p (dAt D p)) = wsm σ D 0 ((p : Int) + 1) := by
  have hc : p = 0 ∨ p = 1 ∨ p = 2 ∨ p = 3 ∨ p = 4 ∨ p = 5 := by omega
  rcases hc with rfl | rfl | rfl | rfl | rfl | rfl <;> simp [wsm] <;> omega
theorem adj_at {σ : Nat → Int} {D lo hi : Int} {p : Nat} (hp : p < 6) : adjF σ D lo hi (86 + 13 * p) = if lo ≤ p ∧ (p : Int) < hi then dAt D p else σ (86 + 13 * p) := by
  unfold adjF
  have e1 : (86 + 13 * p - 85) / 13 = p := by omega
  have e2 : (86 + 13 * p - 85) % 13 = 1 := by omega
  rw [if_neg (by omega), e1, e2]
  by_cases h : lo ≤ p ∧ (p : Int) < hi
  · rw [if_pos (by omega), if_pos h]
  · rw [if_neg (by omega), if_neg (by omega), if_neg h]
theorem adj_sl {σ : Nat → Int} {D lo hi : Int} {p : Nat} (hp : p < 6) : adjF σ D lo hi (87 + 13 * p) = if lo ≤ p ∧ (p : Int) < hi then min 99 (σ (87 + 13 * p) + ab (way σ p (dAt D p))) else σ (87 + 13 * p) := by
  unfold adjF
  have e1 : (87 + 13 * p - 85) / 13 = p := by omega
  have e2 : (87 + 13 * p - 85) % 13 = 2 := by omega
  rw [if_neg (by omega), e1, e2, if_neg (by omega)]
  by_cases h : lo ≤ p ∧ (p : Int) < hi
  · rw [if_pos (by omega), if_pos h]
  · rw [if_neg (by omega), if_neg h]
theorem adj_ot {σ : Nat → Int} {D lo hi : Int} {j : Nat} (h9 : j ≠ 9) (h : j < 85 ∨ 163 ≤ j ∨ ((j - 85) % 13 ≠ 1 ∧ (j - 85) % 13 ≠ 2)) : adjF σ D lo hi j = σ j := by
  unfold adjF
  rw [if_neg h9, if_neg (by omega), if_neg (by omega)]
theorem jcase (j : Nat) : j = 9 ∨ (∃ p, p < 6 ∧ j = 86 + 13 * p) ∨ (∃ p, p < 6 ∧ j = 87 + 13 * p) ∨ (j ≠ 9 ∧ (j < 85 ∨ 163 ≤ j ∨ ((j - 85) % 13 ≠ 1 ∧ (j - 85) % 13 ≠ 2))) := by
  by_cases h9 : j = 9
  · exact Or.inl h9
  · by_cases h : 85 ≤ j ∧ j < 163
    · by_cases h1 : (j - 85) % 13 = 1
      · exact Or.inr (Or.inl ⟨(j - 85) / 13, by omega, by omega⟩)
      · by_cases h2 : (j - 85) % 13 = 2
        · exact Or.inr (Or.inr (Or.inl ⟨(j - 85) / 13, by omega, by omega⟩))
        · exact Or.inr (Or.inr (Or.inr ⟨h9, by omega⟩))
    · exact Or.inr (Or.inr (Or.inr ⟨h9, by omega⟩))
theorem trn_at {σ : Nat → Int} {p q : Nat} {t : Int} : trn σ p t (86 + 13 * q) = if q = p then (σ (86 + 13 * q) + t) % 10 else σ (86 + 13 * q) := by
  unfold trn
  by_cases h : q = p
  · rw [if_pos (by omega), if_pos h]
  · rw [if_neg (by omega), if_neg (by omega), if_neg (by omega), if_neg h]
theorem trn_sl {σ : Nat → Int} {p q : Nat} {t : Int} : trn σ p t (87 + 13 * q) = if q = p then min 99 (σ (87 + 13 * q) + ab t) else σ (87 + 13 * q) := by
  unfold trn
  by_cases h : q = p
  · rw [if_neg (by omega), if_pos (by omega), if_pos h]
  · rw [if_neg (by omega), if_neg (by omega), if_neg (by omega), if_neg h]
theorem trn_9 {σ : Nat → Int} {p : Nat} {t : Int} : trn σ p t 9 = σ 9 + ab t := by
  unfold trn
  rw [if_neg (by omega), if_neg (by omega), if_pos rfl]
theorem trn_ot {σ : Nat → Int} {p : Nat} {t : Int} (hp : p < 6) {j : Nat} (h9 : j ≠ 9) (h : j < 85 ∨ 163 ≤ j ∨ ((j - 85) % 13 ≠ 1 ∧ (j - 85) % 13 ≠ 2)) : trn σ p t j = σ j := by
  unfold trn
  rw [if_neg (by omega), if_neg (by omega), if_neg h9]
/-- one more place, from above -/
theorem adj_lo {σ : Nat → Int} {D : Int} {p : Nat} (hp : p < 6) (hs : 0 ≤ σ (86 + 13 * p) ∧ σ (86 + 13 * p) ≤ 9) : trn (adjF σ D ((p : Int) + 1) 6) p (way σ p (dAt D p)) = adjF σ D p 6 := by
  funext j
  rcases jcase j with rfl | ⟨q, hq, rfl⟩ | ⟨q, hq, rfl⟩ | ⟨h9, h⟩
  · rw [trn_9]
    show σ 9 + wsm σ D ((p : Int) + 1) 6 + _ = σ 9 + wsm σ D p 6
    rw [← wsm_lo hp]
    omega
  · rw [trn_at, adj_at hq, adj_at hq]
    by_cases e : q = p
    · subst e
      rw [if_pos rfl, if_neg (by omega), if_pos (by omega)]
      exact way_to (dAt_rng D q) hs
    · rw [if_neg e]
      by_cases h1 : (p : Int) + 1 ≤ q ∧ (q : Int) < 6
      · rw [if_pos h1, if_pos (by omega)]
      · rw [if_neg h1, if_neg (by omega)]
  · rw [trn_sl, adj_sl hq, adj_sl hq]
    by_cases e : q = p
    · subst e
      rw [if_pos rfl, if_neg (by omega), if_pos (by omega)]
    · rw [if_neg e]
      by_cases h1 : (p : Int) + 1 ≤ q ∧ (q : Int) < 6
      · rw [if_pos h1, if_pos (by omega)]
      · rw [if_neg h1, if_neg (by omega)]
  · rw [trn_ot hp h9 h, adj_ot h9 h, adj_ot h9 h]
/-- one more place, from below -/
theorem adj_hi {σ : Nat → Int} {D : Int} {p : Nat} (hp : p < 6) (hs : 0 ≤ σ (86 + 13 * p) ∧ σ (86 + 13 * p) ≤ 9) : trn (adjF σ D 0 p) p (way σ p (dAt D p)) = adjF σ D 0 ((p : Int) + 1) := by
  funext j
  rcases jcase j with rfl | ⟨q, hq, rfl⟩ | ⟨q, hq, rfl⟩ | ⟨h9, h⟩
  · rw [trn_9]
    show σ 9 + wsm σ D 0 p + _ = σ 9 + wsm σ D 0 ((p : Int) + 1)
    rw [← wsm_hi hp]
    omega
  · rw [trn_at, adj_at hq, adj_at hq]
    by_cases e : q = p
    · subst e
      rw [if_pos rfl, if_neg (by omega), if_pos (by omega)]
      exact way_to (dAt_rng D q) hs
    · rw [if_neg e]
      by_cases h1 : (0 : Int) ≤ q ∧ (q : Int) < p
      · rw [if_pos h1, if_pos (by omega)]
      · rw [if_neg h1, if_neg (by omega)]
  · rw [trn_sl, adj_sl hq, adj_sl hq]
    by_cases e : q = p
    · subst e
      rw [if_pos rfl, if_neg (by omega), if_pos (by omega)]
    · rw [if_neg e]
      by_cases h1 : (0 : Int) ≤ q ∧ (q : Int) < p
      · rw [if_pos h1, if_pos (by omega)]
      · rw [if_neg h1, if_neg (by omega)]
  · rw [trn_ot hp h9 h, adj_ot h9 h, adj_ot h9 h]
theorem adj_no {σ : Nat → Int} {D : Int} {lo hi : Int} (hlo : hi ≤ lo) : adjF σ D lo hi = σ := by
  funext j
  unfold adjF
  by_cases h9 : j = 9
  · subst h9
    rw [if_pos rfl]
    unfold wsm
    rw [if_neg (by omega), if_neg (by omega), if_neg (by omega), if_neg (by omega), if_neg (by omega), if_neg (by omega)]
    omega
  · rw [if_neg h9, if_neg (by omega), if_neg (by omega)]
/-- .. adjusted to a number of six digits -/
def adj (σ : Nat → Int) (D : Int) : Nat → Int := adjF σ D 0 6
/-- one place's number, digit and slack changed -/
def bset (σ : Nat → Int) (p : Nat) (nu sh sl : Int) : Nat → Int := fun j => if j = 85 + 13 * p then nu else if j = 86 + 13 * p then sh else if j = 87 + 13 * p then sl else σ j
theorem bset_0 {σ : Nat → Int} {p : Nat} {nu sh sl : Int} : bset σ p nu sh sl (85 + 13 * p) = nu := if_pos rfl
theorem bset_1 {σ : Nat → Int} {p : Nat} {nu sh sl : Int} : bset σ p nu sh sl (86 + 13 * p) = sh := by
  unfold bset
  rw [if_neg (by omega), if_pos rfl]
theorem bset_2 {σ : Nat → Int} {p : Nat} {nu sh sl : Int} : bset σ p nu sh sl (87 + 13 * p) = sl := by
  unfold bset
  rw [if_neg (by omega), if_neg (by omega), if_pos rfl]
theorem bset_n {σ : Nat → Int} {p j : Nat} {nu sh sl : Int} (h0 : j ≠ 85 + 13 * p) (h1 : j ≠ 86 + 13 * p) (h2 : j ≠ 87 + 13 * p) : bset σ p nu sh sl j = σ j := by
  unfold bset
  rw [if_neg h0, if_neg h1, if_neg h2]
theorem IsSt.bs {G : wG} {μ : hM} {st : Nat} {π : Nat → Nat} {σ : Nat → Int} {fp sp : Int} (h : IsSt G μ st π σ fp sp) {p : Nat} (hp : p < 6) (nu sh sl : Int) : IsSt G (hu μ (st + 2 + 2 * π p) (.inr (0, [.int (iv nu), .int (iv sh), .int (iv sl), .ref (st + 3 + 2 * π p)]))) st π (bset σ p nu sh sl) fp sp := by
  have h1 := h.bd hp (bset σ p nu sh sl) (fun j a b c => bset_n a b c)
  rw [bset_0, bset_1, bset_2] at h1
  exact h1
theorem IsSt.ws {G : wG} {μ : hM} {st : Nat} {π : Nat → Nat} {σ : Nat → Int} {fp sp : Int} (h : IsSt G μ st π σ fp sp) {p k : Nat} (hp : p < 6) (hk : k < 10) (v : Int) : IsSt G (hu μ (st + 3 + 2 * π p) (.inl (G.2.1 0, 10, .inl (fun j => iv (fu (roww σ p) k v j))))) st π (fu σ (88 + 13 * p + k) v) fp sp := by
  have h1 := h.wr hp (fu σ (88 + 13 * p + k) v) (fun j hj => fu_n (by omega))
  rw [← roww_fu hk] at h1
  exact h1
theorem IsSt.bw {G : wG} {μ ν : hM} {st : Nat} {π : Nat → Nat} {σ τ : Nat → Int} {fp sp : Int} (h : IsSt G μ st π σ fp sp) {p : Nat} (hp : p < 6) (hb : ν (st + 2 + 2 * π p) = some (.inr (0, [.int (iv (τ (85 + 13 * p))), .int (iv (τ (86 + 13 * p))), .int (iv (τ (87 + 13 * p))), .ref (st + 3 + 2 * π p)]))) (hw : ν (st + 3 + 2 * π p) = some (.inl (G.2.1 0, 10, .inl (fun j => iv (roww τ p j))))) (hq : ∀ q, q ≠ st + 2 + 2 * π p → q ≠ st + 3 + 2 * π p → ν q = μ q) (ht : ∀ j, j < 85 + 13 * p ∨ 98 + 13 * p ≤ j → τ j = σ j) : IsSt G ν st π τ fp sp := by
  obtain ⟨h1, h2, h3, h4, h5, h6, h7⟩ := h
  have hpp := h6 p hp
  refine ⟨?_, (hq _ (by omega) (by omega)).trans h2, ?_, fun q hqq => ?_, fun q hqq => ?_, h6, h7⟩
  · rw [ht 4 (by omega), ht 9 (by omega), ht 10 (by omega)]; exact (hq _ (by omega) (by omega)).trans h1
  · rw [row3_cg (fun j hj => ht j (by omega))]; exact (hq _ (by omega) (by omega)).trans h3
  · by_cases e : q = p
    · subst e
      exact hb
    · have := h6 q hqq
      have hne : π q ≠ π p := fun z => e (h7 q p hqq hp z)
      rw [ht (85 + 13 * q) (by omega), ht (86 + 13 * q) (by omega), ht (87 + 13 * q) (by omega)]; exact (hq _ (by omega) (by omega)).trans (h4 q hqq)
  · by_cases e : q = p
    · subst e
      exact hw
    · have := h6 q hqq
      have hne : π q ≠ π p := fun z => e (h7 q p hqq hp z)
      rw [roww_cg (fun j hj => ht (88 + 13 * q + j) (by omega))]; exact (hq _ (by omega) (by omega)).trans (h5 q hqq)
theorem trn_eq {σ : Nat → Int} {p : Nat} {t x : Int} (hx : x = ab t) (hp : p < 6) : fu (bset σ p (σ (85 + 13 * p)) ((σ (86 + 13 * p) + t) % 10) (min 99 (σ (87 + 13 * p) + x))) 9 (bset σ p (σ (85 + 13 * p)) ((σ (86 + 13 * p) + t) % 10) (min 99 (σ (87 + 13 * p) + x)) 9 + x) = trn σ p t := by
  subst hx
  funext j
  rcases jcase j with rfl | ⟨q, hq, rfl⟩ | ⟨q, hq, rfl⟩ | ⟨h9, h⟩
  · rw [fu_s, trn_9, bset_n (by omega) (by omega) (by omega)]
  · rw [fu_n (by omega), trn_at]
    by_cases e : q = p
    · subst e
      rw [bset_1, if_pos rfl]
    · rw [bset_n (by omega) (by omega) (by omega), if_neg e]
  · rw [fu_n (by omega), trn_sl]
    by_cases e : q = p
    · subst e
      rw [bset_2, if_pos rfl]
    · rw [bset_n (by omega) (by omega) (by omega), if_neg e]
  · rw [fu_n h9, trn_ot hp h9 h]
    by_cases e : j = 85 + 13 * p
    · subst e
      rw [bset_0]
    · rw [bset_n e (by omega) (by omega)]
/-- the darkness of a place -/
def drk (σ : Nat → Int) (p : Nat) (k : Int) : Int := 8 * k + σ 4 / 4 - σ (88 + 13 * p + (σ (86 + 13 * p)).toNat)
theorem drk_rng {σ : Nat → Int} (h : OkS σ) {p : Nat} (hp : p < 6) {k : Int} (hk : 0 ≤ k ∧ k ≤ 9) : -99 ≤ drk σ p k ∧ drk σ p k ≤ 122 := by
  have h4 := h.2.2.2.1
  obtain ⟨-, hd, -, hw⟩ := h.2.2.2.2 p hp
  have := hw (σ (86 + 13 * p)).toNat (by omega)
  unfold drk
  omega
/-- the rest of a number of six digits, when the places behind i are told -/
def dRest (D : Int) (i : Int) : Int := if i = 5 then D else if i = 4 then D / 10 else if i = 3 then D / 100 else if i = 2 then D / 1000 else if i = 1 then D / 10000 else if i = 0 then D / 100000 else D / 1000000
theorem dRest_s {D i : Int} (hi : 0 ≤ i ∧ i ≤ 5) : dRest D i / 10 = dRest D (i - 1) := by
  have hc : i = 0 ∨ i = 1 ∨ i = 2 ∨ i = 3 ∨ i = 4 ∨ i = 5 := by omega
  rcases hc with rfl | rfl | rfl | rfl | rfl | rfl <;> simp [dRest] <;> omega
theorem dRest_d {D i : Int} (hi : 0 ≤ i ∧ i ≤ 5) : dRest D i % 10 = dAt D i.toNat := by
  have hc : i = 0 ∨ i = 1 ∨ i = 2 ∨ i = 3 ∨ i = 4 ∨ i = 5 := by omega
  rcases hc with rfl | rfl | rfl | rfl | rfl | rfl <;> simp [dRest, dAt]
theorem dRest_rng {D i : Int} (hD : 0 ≤ D ∧ D ≤ 999999) : 0 ≤ dRest D i ∧ dRest D i ≤ 999999 := by
  unfold dRest
  (repeat' split) <;> omega
theorem wsm_no {σ : Nat → Int} {D lo hi : Int} (h : hi ≤ lo) : wsm σ D lo hi = 0 := by
  unfold wsm
  rw [if_neg (by omega), if_neg (by omega), if_neg (by omega), if_neg (by omega), if_neg (by omega), if_neg (by omega)]
  omega
/-- the places below k as another's -/
def cpF (σ τ : Nat → Int) (k : Int) : Nat → Int := fun j => if 85 ≤ j ∧ (j : Int) < 85 + 13 * k then τ j else σ j
theorem okS_adj {σ : Nat → Int} (h : OkS σ) (D lo hi : Int) : OkS (adjF σ D lo hi) := by
  obtain ⟨h0, h1, h2, h4, hp⟩ := h
  refine ⟨?_, ?_, ?_, ?_, fun p hpp => ?_⟩
  · rw [adj_ot (by omega) (by omega)]; exact h0
  · rw [adj_ot (by omega) (by omega)]; exact h1
  · rw [adj_ot (by omega) (by omega)]; exact h2
  · rw [adj_ot (by omega) (by omega)]; exact h4
  · obtain ⟨q1, q2, q3, q4⟩ := hp p hpp
    refine ⟨?_, ?_, ?_, fun k hk => ?_⟩
    · rw [adj_ot (by omega) (by omega)]; exact q1
    · rw [adj_at hpp]
      split
      · exact dAt_rng D p
      · exact q2
    · rw [adj_sl hpp]
      have hw := ab_rng (way_rng σ p (dAt D p))
      split
      · omega
      · exact q3
    · rw [adj_ot (by omega) (by omega)]; exact q4 k hk
