/-- the wears' sum and the greatest of them, one after the other -/
def esum (σ : Nat → Int) : Nat → Int
  | 0 => 0
  | n + 1 => esum σ n + σ (88 + 13 * (n / 10) + n % 10)
def emax (σ : Nat → Int) : Nat → Int
  | 0 => 0
  | n + 1 => max (emax σ n) (σ (88 + 13 * (n / 10) + n % 10))
theorem e_rng {σ : Nat → Int} (h : OkS σ) : ∀ n : Nat, n ≤ 60 → (0 ≤ emax σ n ∧ emax σ n ≤ 99) ∧ emax σ n ≤ esum σ n ∧ esum σ n ≤ 99 * n := by
  intro n
  induction n with
  | zero => intro _; exact ⟨⟨Int.le_refl _, by show (0 : Int) ≤ 99; omega⟩, Int.le_refl _, Int.le_refl _⟩
  | succ n ih =>
    intro hn
    have hi := ih (by omega)
    have hw := (h.2.2.2.2 (n / 10) (by omega)).2.2.2 (n % 10) (by omega)
    show (0 ≤ max (emax σ n) (σ (88 + 13 * (n / 10) + n % 10)) ∧ max (emax σ n) (σ (88 + 13 * (n / 10) + n % 10)) ≤ 99) ∧ max (emax σ n) (σ (88 + 13 * (n / 10) + n % 10)) ≤ esum σ n + σ (88 + 13 * (n / 10) + n % 10) ∧ esum σ n + σ (88 + 13 * (n / 10) + n % 10) ≤ 99 * ((n + 1 : Nat) : Int)
    generalize σ (88 + 13 * (n / 10) + n % 10) = w at *
    omega
