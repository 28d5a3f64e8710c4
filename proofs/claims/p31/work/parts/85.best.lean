/-! the best exchange -/
def BI (σ : Nat → Int) (k t : Int) (c : Nat) (x : Int × Int) : Prop :=
  (x.2 = -5 ∧ x.1 = lasF σ k t ∧ ∀ p q : Nat, p < q → q < 6 → 10 * p + q < c → lasF (swpS σ p q) k t ≤ lasF σ k t) ∨
  (∃ p q : Nat, p < q ∧ q < 6 ∧ 10 * p + q < c ∧ x.2 = 10 * (p : Int) + q ∧ x.1 = lasF (swpS σ p q) k t ∧ lasF σ k t < x.1 ∧ ∀ p' q' : Nat, p' < q' → q' < 6 → 10 * p' + q' < c → lasF (swpS σ p' q') k t < x.1 ∨ (lasF (swpS σ p' q') k t = x.1 ∧ 10 * p + q ≤ 10 * p' + q'))
theorem BI.skip {σ : Nat → Int} {k t : Int} {c c2 : Nat} {x : Int × Int} (h : BI σ k t c x) (hc : c ≤ c2) (hs : ∀ p q : Nat, p < q → q < 6 → 10 * p + q < c2 → 10 * p + q < c) : BI σ k t c2 x := by
  rcases h with ⟨h1, h2, h3⟩ | ⟨p, q, h1, h2, h3, h4, h5, h6, h7⟩
  · exact Or.inl ⟨h1, h2, fun p q a b d => h3 p q a b (hs p q a b d)⟩
  · exact Or.inr ⟨p, q, h1, h2, by omega, h4, h5, h6, fun p' q' a b d => h7 p' q' a b (hs p' q' a b d)⟩
theorem BI.step {σ : Nat → Int} {k t : Int} {p q : Nat} {x : Int × Int} (hp : p < q) (hq : q < 6) (h : BI σ k t (10 * p + q) x) : BI σ k t (10 * p + q + 1) (beS σ k t p q x) := by
  have huniq : ∀ p' q' : Nat, p' < q' → q' < 6 → 10 * p' + q' < 10 * p + q + 1 → ¬ 10 * p' + q' < 10 * p + q → p' = p ∧ q' = q := fun p' q' a b c d => by omega
  unfold beS
  by_cases hc : x.1 < lasF (swpS σ p q) k t
  · rw [if_pos hc]
    right
    rcases h with ⟨h1, h2, h3⟩ | ⟨p0, q0, h1, h2, h3, h4, h5, h6, h7⟩
    · refine ⟨p, q, hp, hq, by omega, rfl, rfl, by show lasF σ k t < lasF (swpS σ p q) k t; omega, fun p' q' a b c => ?_⟩
      by_cases hlt : 10 * p' + q' < 10 * p + q
      · left
        have := h3 p' q' a b hlt
        show lasF (swpS σ p' q') k t < lasF (swpS σ p q) k t
        omega
      · obtain ⟨e1, e2⟩ := huniq p' q' a b c hlt
        subst e1
        subst e2
        exact Or.inr ⟨rfl, Nat.le_refl _⟩
    · refine ⟨p, q, hp, hq, by omega, rfl, rfl, by show lasF σ k t < lasF (swpS σ p q) k t; omega, fun p' q' a b c => ?_⟩
      by_cases hlt : 10 * p' + q' < 10 * p + q
      · left
        have := h7 p' q' a b hlt
        show lasF (swpS σ p' q') k t < lasF (swpS σ p q) k t
        omega
      · obtain ⟨e1, e2⟩ := huniq p' q' a b c hlt
        subst e1
        subst e2
        exact Or.inr ⟨rfl, Nat.le_refl _⟩
  · rw [if_neg hc]
    rcases h with ⟨h1, h2, h3⟩ | ⟨p0, q0, h1, h2, h3, h4, h5, h6, h7⟩
    · refine Or.inl ⟨h1, h2, fun p' q' a b c => ?_⟩
      by_cases hlt : 10 * p' + q' < 10 * p + q
      · exact h3 p' q' a b hlt
      · obtain ⟨e1, e2⟩ := huniq p' q' a b c hlt
        subst e1
        subst e2
        omega
    · refine Or.inr ⟨p0, q0, h1, h2, by omega, h4, h5, h6, fun p' q' a b c => ?_⟩
      by_cases hlt : 10 * p' + q' < 10 * p + q
      · exact h7 p' q' a b hlt
      · obtain ⟨e1, e2⟩ := huniq p' q' a b c hlt
        subst e1
        subst e2
        by_cases he : lasF (swpS σ p' q') k t = x.1
        · exact Or.inr ⟨he, by omega⟩
        · exact Or.inl (by omega)
theorem BI.q {σ : Nat → Int} {k t : Int} {p : Nat} : ∀ (f q : Nat) (x : Int × Int), p < q → q + f = 6 → BI σ k t (10 * p + q) x → BI σ k t (10 * p + 6) (beQ σ k t p f q x) := by
  intro f
  induction f with
  | zero =>
    intro q x _ h2 h
    have e : q = 6 := by omega
    subst e
    exact h
  | succ f ih =>
    intro q x h1 h2 h
    show BI σ k t (10 * p + 6) (beQ σ k t p f (q + 1) (beS σ k t p q x))
    exact ih (q + 1) _ (by omega) (by omega) (BI.step h1 (by omega) h)
theorem BI.p {σ : Nat → Int} {k t : Int} : ∀ (f p : Nat) (x : Int × Int), p + f = 6 → BI σ k t (10 * p) x → BI σ k t 60 (beP σ k t f p x) := by
  intro f
  induction f with
  | zero =>
    intro p x h2 h
    have e : p = 6 := by omega
    subst e
    exact h
  | succ f ih =>
    intro p x h2 h
    show BI σ k t 60 (beP σ k t f (p + 1) (beQ σ k t p (5 - p) (p + 1) x))
    refine ih (p + 1) _ (by omega) ?_
    have h3 : BI σ k t (10 * p + (p + 1)) x := h.skip (by omega) (fun p' q' a b c => by omega)
    have h4 := BI.q (5 - p) (p + 1) x (by omega) (by omega) h3
    exact h4.skip (by omega) (fun p' q' a b c => by omega)
theorem best_spec {σ : Nat → Int} {k t : Int} (hk : 1 ≤ k ∧ k ≤ 9) (ht : 1 ≤ t ∧ t ≤ 20) :
    (a_best σ k t = -5 ∧ ∀ p q : Nat, p < q → q < 6 → lasF (swpS σ p q) k t ≤ lasF σ k t) ∨
    (∃ p q : Nat, p < q ∧ q < 6 ∧ a_best σ k t = 10 * (p : Int) + q ∧ lasF σ k t < lasF (swpS σ p q) k t ∧ ∀ p' q' : Nat, p' < q' → q' < 6 → lasF (swpS σ p' q') k t < lasF (swpS σ p q) k t ∨ (lasF (swpS σ p' q') k t = lasF (swpS σ p q) k t ∧ 10 * p + q ≤ 10 * p' + q')) := by
  have h0 : BI σ k t (10 * 0) (lasF σ k t, -5) := Or.inl ⟨rfl, rfl, fun p q _ _ h => by omega⟩
  have h := BI.p 6 0 _ (by omega) h0
  have e : a_best σ k t = (beP σ k t 6 0 (lasF σ k t, -5)).2 := if_pos ⟨hk, ht⟩
  rw [e]
  generalize beP σ k t 6 0 (lasF σ k t, -5) = x at *
  rcases h with ⟨h1, h2, h3⟩ | ⟨p, q, h1, h2, h3, h4, h5, h6, h7⟩
  · exact Or.inl ⟨h1, fun p q a b => h3 p q a b (by omega)⟩
  · rw [h5] at h6 h7
    exact Or.inr ⟨p, q, h1, h2, h4, h6, fun p' q' a b => h7 p' q' a b (by omega)⟩
/-- days, endless ones the most -/
def most9 (L : Int) : Int := if L = 200 then 999 else L
/-- the least strength that is clear -/
theorem lpF_spec {σ : Nat → Int} : ∀ (f : Nat) (k : Int), (lpF σ f k = -5 ∧ ∀ j : Int, k ≤ j → j < k + f → ¬ (fbN σ j 6 = 0 ∧ sbN σ j 6 = 0)) ∨ ((k ≤ lpF σ f k ∧ lpF σ f k < k + f) ∧ (fbN σ (lpF σ f k) 6 = 0 ∧ sbN σ (lpF σ f k) 6 = 0) ∧ ∀ j : Int, k ≤ j → j < lpF σ f k → ¬ (fbN σ j 6 = 0 ∧ sbN σ j 6 = 0)) := by
  intro f
  induction f with
  | zero => intro k; exact Or.inl ⟨rfl, fun j h1 h2 => by omega⟩
  | succ f ih =>
    intro k
    by_cases hc : fbN σ k 6 = 0 ∧ sbN σ k 6 = 0
    · have e : lpF σ (f + 1) k = k := if_pos hc
      rw [e]
      exact Or.inr ⟨⟨Int.le_refl _, by omega⟩, hc, fun j h1 h2 => by omega⟩
    · have e : lpF σ (f + 1) k = lpF σ f (k + 1) := if_neg hc
      rw [e]
      rcases ih (k + 1) with ⟨h1, h2⟩ | ⟨h1, h2, h3⟩
      · refine Or.inl ⟨h1, fun j a b => ?_⟩
        by_cases ej : j = k
        · rw [ej]; exact hc
        · exact h2 j (by omega) (by omega)
      · refine Or.inr ⟨by omega, h2, fun j a b => ?_⟩
        by_cases ej : j = k
        · rw [ej]; exact hc
        · exact h3 j (by omega) b
