/-! texts of orders -/
/-- the character at a place; -1 behind the text -/
def nxt (c : Nat → Int) (L a : Int) : Int := if 0 ≤ a ∧ a < L then c a.toNat else -1
/-- the digit at a place; -1 if none is there -/
def dgt (c : Nat → Int) (L a : Int) : Int := if 48 ≤ nxt c L a ∧ nxt c L a ≤ 57 then nxt c L a - 48 else -1
def OkC (c : Nat → Int) (L : Int) : Prop := (0 ≤ L ∧ L ≤ 60) ∧ ∀ j, 0 ≤ c j ∧ c j ≤ 65535
theorem nxt_rng {c : Nat → Int} {L : Int} (h : OkC c L) (a : Int) : -1 ≤ nxt c L a ∧ nxt c L a ≤ 65535 := by
  unfold nxt
  have := h.2 a.toNat
  split <;> omega
theorem nxt_in {c : Nat → Int} {L a : Int} (h : 0 ≤ nxt c L a) : 0 ≤ a ∧ a < L := by
  unfold nxt at h
  split at h
  · assumption
  · omega
theorem dgt_rng (c : Nat → Int) (L a : Int) : -1 ≤ dgt c L a ∧ dgt c L a ≤ 9 := by
  unfold dgt
  split <;> omega
theorem dgt_in {c : Nat → Int} {L a : Int} (h : 0 ≤ dgt c L a) : 0 ≤ a ∧ a < L := by
  unfold dgt at h
  split at h
  · rename_i h2; exact nxt_in (c := c) (by omega)
  · omega
/-- a number is read, as far as its digits are allowed -/
def rnum (c : Nat → Int) (L mx : Int) : Nat → Int → Int → Int × Int
  | 0, v, a => (v, a)
  | f + 1, v, a => if 0 ≤ dgt c L a ∧ ¬ (dgt c L a = 0 ∧ v = 0) ∧ 10 * v + dgt c L a ≤ mx then rnum c L mx f (10 * v + dgt c L a) (a + 1) else (v, a)
theorem rnum_y {c : Nat → Int} {L mx : Int} {f : Nat} {v a : Int} (h : 0 ≤ dgt c L a ∧ ¬ (dgt c L a = 0 ∧ v = 0) ∧ 10 * v + dgt c L a ≤ mx) : rnum c L mx (f + 1) v a = rnum c L mx f (10 * v + dgt c L a) (a + 1) := if_pos h
theorem rnum_n {c : Nat → Int} {L mx : Int} {f : Nat} {v a : Int} (h : ¬ (0 ≤ dgt c L a ∧ ¬ (dgt c L a = 0 ∧ v = 0) ∧ 10 * v + dgt c L a ≤ mx)) : rnum c L mx f v a = (v, a) := by
  cases f with
  | zero => rfl
  | succ f => exact if_neg h
theorem rnum_rng {c : Nat → Int} {L mx : Int} : ∀ (f : Nat) (v a : Int), 0 ≤ v → v ≤ mx → a ≤ L → 0 ≤ (rnum c L mx f v a).1 ∧ (rnum c L mx f v a).1 ≤ mx ∧ a ≤ (rnum c L mx f v a).2 ∧ (rnum c L mx f v a).2 ≤ L := by
  intro f
  induction f with
  | zero => intro v a h1 h2 h3; exact ⟨h1, h2, Int.le_refl _, h3⟩
  | succ f ih =>
    intro v a h1 h2 h3
    by_cases h : 0 ≤ dgt c L a ∧ ¬ (dgt c L a = 0 ∧ v = 0) ∧ 10 * v + dgt c L a ≤ mx
    · rw [rnum_y h]
      have hin := dgt_in h.1
      have := ih (10 * v + dgt c L a) (a + 1) (by omega) h.2.2 (by omega)
      omega
    · rw [rnum_n h]
      exact ⟨h1, h2, Int.le_refl _, h3⟩
/-- a date is read -/
def rdat (c : Nat → Int) (L : Int) : Nat → Int → Int → Int → Int × Int × Int
  | 0, _, v, a => (1, v, a)
  | f + 1, i, v, a => if dgt c L a = -1 ∨ sbg (10 * v + dgt c L a) i = 0 then (0, v, a) else rdat c L f (i + 1) (10 * v + dgt c L a) (a + 1)
theorem rdat_y {c : Nat → Int} {L : Int} {f : Nat} {i v a : Int} (h : ¬ (dgt c L a = -1 ∨ sbg (10 * v + dgt c L a) i = 0)) : rdat c L (f + 1) i v a = rdat c L f (i + 1) (10 * v + dgt c L a) (a + 1) := if_neg h
theorem rdat_n {c : Nat → Int} {L : Int} {f : Nat} {i v a : Int} (h : dgt c L a = -1 ∨ sbg (10 * v + dgt c L a) i = 0) : rdat c L (f + 1) i v a = (0, v, a) := if_pos h
theorem rdat_rng {c : Nat → Int} {L : Int} : ∀ (f : Nat) (i v a : Int), a ≤ L → ((rdat c L f i v a).1 = 0 ∨ (rdat c L f i v a).1 = 1) ∧ a ≤ (rdat c L f i v a).2.2 ∧ (rdat c L f i v a).2.2 ≤ L := by
  intro f
  induction f with
  | zero => intro i v a h; exact ⟨Or.inr rfl, Int.le_refl _, h⟩
  | succ f ih =>
    intro i v a h
    by_cases hc : dgt c L a = -1 ∨ sbg (10 * v + dgt c L a) i = 0
    · rw [rdat_n hc]; exact ⟨Or.inl rfl, Int.le_refl _, h⟩
    · rw [rdat_y hc]
      have hd := dgt_rng c L a
      have hin := dgt_in (c := c) (L := L) (a := a) (by omega)
      have := ih (i + 1) (10 * v + dgt c L a) (a + 1) (by omega)
      omega
/-- the greatest number of so many digits less one -/
def lim (i : Int) : Int := if i ≤ 1 then 0 else if i = 2 then 9 else if i = 3 then 99 else if i = 4 then 999 else if i = 5 then 9999 else if i = 6 then 99999 else 999999
theorem lim_s {i v d : Int} (hi : 1 ≤ i ∧ i ≤ 6) (hv : 0 ≤ v ∧ v ≤ lim i) (hd : 0 ≤ d ∧ d ≤ 9) : 0 ≤ 10 * v + d ∧ 10 * v + d ≤ lim (i + 1) ∧ 10 * v + d ≤ 999999 := by
  have hc : i = 1 ∨ i = 2 ∨ i = 3 ∨ i = 4 ∨ i = 5 ∨ i = 6 := by omega
  rcases hc with rfl | rfl | rfl | rfl | rfl | rfl <;> simp [lim] at hv ⊢ <;> omega
/-- an order: whether it is one, where the reading stops, its number, how many times -/
def ordF (c : Nat → Int) (L a : Int) : Int × Int × Int × Int :=
  if nxt c L a = 100 then ((rdat c L 6 1 0 (a + 1)).1, (rdat c L 6 1 0 (a + 1)).2.2, (rdat c L 6 1 0 (a + 1)).2.1, 1)
  else if nxt c L a = 97 then (1, a + 1, 0, 1)
  else if nxt c L a = 112 then (
    if 0 < (rnum c L 9 60 0 (a + 1)).1 then (
      if nxt c L (rnum c L 9 60 0 (a + 1)).2 = 120 then ((if 0 < (rnum c L 99 60 0 ((rnum c L 9 60 0 (a + 1)).2 + 1)).1 then 1 else 0), (rnum c L 99 60 0 ((rnum c L 9 60 0 (a + 1)).2 + 1)).2, (rnum c L 9 60 0 (a + 1)).1, (rnum c L 99 60 0 ((rnum c L 9 60 0 (a + 1)).2 + 1)).1)
      else (1, (rnum c L 9 60 0 (a + 1)).2, (rnum c L 9 60 0 (a + 1)).1, 1))
    else (0, (rnum c L 9 60 0 (a + 1)).2, (rnum c L 9 60 0 (a + 1)).1, 1))
  else if nxt c L a = 43 then ((if 0 < (rnum c L 999 60 0 (a + 1)).1 then 1 else 0), (rnum c L 999 60 0 (a + 1)).2, (rnum c L 999 60 0 (a + 1)).1, 1)
  else if nxt c L a = 105 then ((if 0 < (rnum c L 200 60 0 (a + 1)).1 then 1 else 0), (rnum c L 200 60 0 (a + 1)).2, (rnum c L 200 60 0 (a + 1)).1, 1)
  else (0, a, 0, 1)
theorem ordF_rng {c : Nat → Int} {L a : Int} (ha : 0 ≤ a ∧ a ≤ L) : ((ordF c L a).1 = 0 ∨ (ordF c L a).1 = 1) ∧ a ≤ (ordF c L a).2.1 ∧ (ordF c L a).2.1 ≤ L ∧ ((ordF c L a).1 = 1 → a < (ordF c L a).2.1) := by
  have hn : ∀ k : Int, 0 ≤ k → nxt c L a = k → a < L := fun k hk he => (nxt_in (c := c) (L := L) (a := a) (by omega)).2
  unfold ordF
  by_cases h1 : nxt c L a = 100
  · have := hn 100 (by omega) h1
    have hr := rdat_rng (c := c) (L := L) 6 1 0 (a + 1) (by omega)
    rw [if_pos h1]
    dsimp only
    omega
  · rw [if_neg h1]
    by_cases h2 : nxt c L a = 97
    · have := hn 97 (by omega) h2
      rw [if_pos h2]
      dsimp only
      omega
    · rw [if_neg h2]
      by_cases h3 : nxt c L a = 112
      · have := hn 112 (by omega) h3
        have hr := rnum_rng (c := c) (L := L) (mx := 9) 60 0 (a + 1) (by omega) (by omega) (by omega)
        rw [if_pos h3]
        by_cases h4 : 0 < (rnum c L 9 60 0 (a + 1)).1
        · rw [if_pos h4]
          by_cases h5 : nxt c L (rnum c L 9 60 0 (a + 1)).2 = 120
          · have hin := nxt_in (c := c) (L := L) (a := (rnum c L 9 60 0 (a + 1)).2) (by omega)
            have hr2 := rnum_rng (c := c) (L := L) (mx := 99) 60 0 ((rnum c L 9 60 0 (a + 1)).2 + 1) (by omega) (by omega) (by omega)
            rw [if_pos h5]
            dsimp only
            split <;> omega
          · rw [if_neg h5]
            dsimp only
            omega
        · rw [if_neg h4]
          dsimp only
          omega
      · rw [if_neg h3]
        by_cases h6 : nxt c L a = 43
        · have := hn 43 (by omega) h6
          have hr := rnum_rng (c := c) (L := L) (mx := 999) 60 0 (a + 1) (by omega) (by omega) (by omega)
          rw [if_pos h6]
          dsimp only
          split <;> omega
        · rw [if_neg h6]
          by_cases h7 : nxt c L a = 105
          · have := hn 105 (by omega) h7
            have hr := rnum_rng (c := c) (L := L) (mx := 200) 60 0 (a + 1) (by omega) (by omega) (by omega)
            rw [if_pos h7]
            dsimp only
            split <;> omega
          · rw [if_neg h7]
            dsimp only
            omega
/-- the text's fault (-5: none), how many orders were read, how many days pass by them -/
def fltF (c : Nat → Int) (L : Int) : Nat → Int → Int → Int → Int × Int × Int
  | 0, a, o, d => (a, o, d)
  | f + 1, a, o, d =>
    if (ordF c L a).1 = 0 then ((ordF c L a).2.1, o, d)
    else if L ≤ (ordF c L a).2.1 then (-5, o + 1, d + (if nxt c L a = 43 then (ordF c L a).2.2.1 else 0))
    else if nxt c L (ordF c L a).2.1 = 59 then fltF c L f ((ordF c L a).2.1 + 1) (o + 1) (d + (if nxt c L a = 43 then (ordF c L a).2.2.1 else 0))
    else ((ordF c L a).2.1, o + 1, d + (if nxt c L a = 43 then (ordF c L a).2.2.1 else 0))
def IsText (G : wG) (μ : hM) (tx : Nat) (c : Nat → Int) (L o d ki nu ti a : Int) : Prop :=
  μ tx = some (.inr (6, [.ref (tx + 1), .int (iv L), .int (iv o), .int (iv d), .int (iv ki), .int (iv nu), .int (iv ti), .int (iv a)])) ∧
  μ (tx + 1) = some (.inl (G.2.1 1, 60, .inl (fun j => iv (c j))))
theorem IsText.fr {G : wG} {μ ν : hM} {tx : Nat} {c : Nat → Int} {L o d ki nu ti a : Int} (h : IsText G μ tx c L o d ki nu ti a) (hq : ∀ q, tx ≤ q → q < tx + 2 → ν q = μ q) : IsText G ν tx c L o d ki nu ti a := ⟨(hq tx (by omega) (by omega)).trans h.1, (hq (tx + 1) (by omega) (by omega)).trans h.2⟩
theorem IsText.mn {G : wG} {μ ν : hM} {tx : Nat} {c : Nat → Int} {L o d ki nu ti a : Int} (h : IsText G μ tx c L o d ki nu ti a) (hq : ∀ q e, tx ≤ q → q < tx + 2 → μ q = some e → ν q = some e) : IsText G ν tx c L o d ki nu ti a := ⟨hq tx _ (by omega) (by omega) h.1, hq (tx + 1) _ (by omega) (by omega) h.2⟩
theorem IsText.tx {G : wG} {μ : hM} {tx : Nat} {c : Nat → Int} {L o d ki nu ti a : Int} (h : IsText G μ tx c L o d ki nu ti a) (L2 o2 d2 ki2 nu2 ti2 a2 : Int) : IsText G (hu μ tx (.inr (6, [.ref (tx + 1), .int (iv L2), .int (iv o2), .int (iv d2), .int (iv ki2), .int (iv nu2), .int (iv ti2), .int (iv a2)]))) tx c L2 o2 d2 ki2 nu2 ti2 a2 := ⟨hu_s, hu_n' (by omega) h.2⟩
theorem sbg_rng (D k : Int) : 0 ≤ sbg D k ∧ sbg D k ≤ 1 := by
  unfold sbg
  (repeat' split) <;> omega
theorem nar_c {k : Int} (h : 0 ≤ k ∧ k ≤ 65535) : narrow .char (.int (iv k)) = .int (iv k) := by
  have e : iv k = nI k.toNat := by rw [iv_nI]; rw [show ((k.toNat : Nat) : Int) = k by omega]
  rw [e]
  exact (pk_charN (by omega)).1
