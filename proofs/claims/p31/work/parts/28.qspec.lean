theorem bleast_rng {f : Nat → Int} : ∀ k : Nat, (∀ j, j < k → 0 ≤ f j ∧ f j ≤ 99) → 0 ≤ bleast f k ∧ bleast f k ≤ 99 := by
  intro k
  induction k with
  | zero => intro _; simp [bleast]
  | succ k ih =>
    intro h
    have h1 := ih (fun j hj => h j (by omega))
    have h2 := h k (by omega)
    simp only [bleast]
    omega
theorem dday_rng {D : Int} (h : 0 ≤ D ∧ D ≤ 999999) : -5 ≤ dday D ∧ dday D ≤ 40000 := by
  unfold dday
  split
  · have hc := cum_rng (D / 100 % 100) (D % 100)
    have hm := mlen_rng (D / 100 % 100) (D % 100)
    unfold ystart
    omega
  · omega
theorem pix_of {σ : Nat → Int} {j : Nat} (hj : j < 12) : pix σ ((σ 5 - 1 - (j : Int)) % 12).toNat = j := by
  unfold pix
  omega
theorem clr_lt (σ : Nat → Int) (i : Nat) : clr σ i < 64 := by
  unfold clr
  omega
