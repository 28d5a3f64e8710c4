/-! numbers of a row -/
theorem iv_xor_neg {a b : Int} (ha : -2147483648 ≤ a ∧ a ≤ 2147483647) (hb : 0 ≤ b ∧ b ≤ 2147483647) : (iv a ^^^ iv b).toInt < 0 ↔ a < 0 := by
  have h1 : (iv a ^^^ iv b).toInt < 0 ↔ (iv a ^^^ iv b).toBitVec.msb = true := by
    rw [← Int32.toInt_toBitVec, BitVec.msb_eq_toInt]
    simp
  rw [h1, Int32.toBitVec_xor, BitVec.msb_xor]
  have ma : (iv a).toBitVec.msb = decide (a < 0) := by rw [BitVec.msb_eq_toInt, Int32.toInt_toBitVec, iv_toInt ha]
  have mb : (iv b).toBitVec.msb = false := by
    rw [BitVec.msb_eq_toInt, Int32.toInt_toBitVec, iv_toInt (by omega)]
    exact decide_eq_false (by omega)
  rw [ma, mb]
  simp
theorem ne_oa {μ : hM} {a b : Nat} {x : Nat × List Value} {y : ClassId × vp_A} (ha : μ a = some (.inr x)) (hb : μ b = some (.inl y)) : a ≠ b := fun e => by
  rw [e, hb] at ha
  cases ha
theorem ne_ao {μ : hM} {a b : Nat} {x : Nat × List Value} {y : ClassId × vp_A} (ha : μ a = some (.inl y)) (hb : μ b = some (.inr x)) : a ≠ b := (ne_oa hb ha).symm
theorem tN1 {i : Int} (h : 0 ≤ i) : (i + 1).toNat = i.toNat + 1 := by omega
def bsum (f : Nat → Int) : Nat → Int
  | 0 => 0
  | k + 1 => bsum f k + f k
theorem bsum_rng {f : Nat → Int} {M : Int} (h : ∀ j, 0 ≤ f j ∧ f j ≤ M) : ∀ k : Nat, 0 ≤ bsum f k ∧ bsum f k ≤ M * k := by
  intro k
  induction k with
  | zero => exact ⟨Int.le_refl _, by rw [show ((0 : Nat) : Int) = 0 from rfl, Int.mul_zero]; exact Int.le_refl _⟩
  | succ k ih =>
    have h1 := h k
    show 0 ≤ bsum f k + f k ∧ bsum f k + f k ≤ M * ((k + 1 : Nat) : Int)
    rw [show ((k + 1 : Nat) : Int) = (k : Int) + 1 from rfl, Int.mul_add, Int.mul_one]
    omega
def bleast (f : Nat → Int) : Nat → Int
  | 0 => 99
  | k + 1 => min (bleast f k) (f k)
def bmost (f : Nat → Int) : Nat → Nat
  | 0 => 0
  | k + 1 => if f (bmost f k) < f (k + 1) then k + 1 else bmost f k
theorem bmost_le (f : Nat → Int) : ∀ k, bmost f k ≤ k := by
  intro k
  induction k with
  | zero => exact Nat.le_refl _
  | succ k ih =>
    show (if f (bmost f k) < f (k + 1) then k + 1 else bmost f k) ≤ k + 1
    split
    · exact Nat.le_refl _
    · omega
