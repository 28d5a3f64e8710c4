/-- whether two numbers of six digits agree in the first places, but for those of a set -/
def agB (D O : Int) (U : Nat) : Nat → Int
  | 0 => 1
  | i + 1 => if agB D O U i = 1 ∧ (U / 2 ^ i % 2 = 1 ∨ dAt D i = dAt O i) then 1 else 0
theorem agB_01 (D O : Int) (U : Nat) : ∀ i, agB D O U i = 0 ∨ agB D O U i = 1 := by
  intro i
  cases i with
  | zero => exact Or.inr rfl
  | succ i =>
    show (if agB D O U i = 1 ∧ (U / 2 ^ i % 2 = 1 ∨ dAt D i = dAt O i) then 1 else 0) = (0 : Int) ∨ (if agB D O U i = 1 ∧ (U / 2 ^ i % 2 = 1 ∨ dAt D i = dAt O i) then 1 else 0) = (1 : Int)
    split
    · exact Or.inr rfl
    · exact Or.inl rfl
theorem agB_all {D O : Int} {U : Nat} : ∀ n, agB D O U n = 1 ↔ ∀ i, i < n → (U / 2 ^ i % 2 = 1 ∨ dAt D i = dAt O i) := by
  intro n
  induction n with
  | zero => exact ⟨fun _ i hi => absurd hi (Nat.not_lt_zero _), fun _ => rfl⟩
  | succ n ih =>
    show (if agB D O U n = 1 ∧ (U / 2 ^ n % 2 = 1 ∨ dAt D n = dAt O n) then 1 else 0) = (1 : Int) ↔ _
    constructor
    · intro h i hi
      by_cases hc : agB D O U n = 1 ∧ (U / 2 ^ n % 2 = 1 ∨ dAt D n = dAt O n)
      · by_cases e : i = n
        · rw [e]; exact hc.2
        · exact ih.mp hc.1 i (by omega)
      · rw [if_neg hc] at h; omega
    · intro h
      rw [if_pos ⟨ih.mpr (fun i hi => h i (by omega)), h n (by omega)⟩]
theorem pag_10 {a b : Int} {P : Nat} : pag a b P = 1 ↔ (P % 2 = 0 ∨ a / 10 = b / 10) ∧ (P / 2 % 2 = 0 ∨ a % 10 = b % 10) := by
  unfold pag
  split
  · exact ⟨fun _ => by assumption, fun _ => rfl⟩
  · exact ⟨fun h => by omega, fun h => by contradiction⟩
theorem agB_agx {D x : Int} {U : Nat} (hD : 0 ≤ D ∧ D ≤ 999999) (hx : 0 ≤ dig x ∧ dig x ≤ 999999) (hU : U < 64) : agx D (63 - U) x = agB (dig x) D U 6 := by
  have key : agB (dig x) D U 6 = 1 ↔ (pag (dig x / 10000) (D / 10000) (63 - U) = 1 ∧ pag (dig x / 100 % 100) (D / 100 % 100) ((63 - U) / 4) = 1 ∧ pag (dig x % 100) (D % 100) ((63 - U) / 16) = 1) := by
    rw [agB_all, pag_10, pag_10, pag_10]
    have b0 : (63 - U) % 2 = 0 ↔ U / 2 ^ 0 % 2 = 1 := by omega
    have b1 : (63 - U) / 2 % 2 = 0 ↔ U / 2 ^ 1 % 2 = 1 := by omega
    have b2 : (63 - U) / 4 % 2 = 0 ↔ U / 2 ^ 2 % 2 = 1 := by omega
    have b3 : (63 - U) / 4 / 2 % 2 = 0 ↔ U / 2 ^ 3 % 2 = 1 := by omega
    have b4 : (63 - U) / 16 % 2 = 0 ↔ U / 2 ^ 4 % 2 = 1 := by omega
    have b5 : (63 - U) / 16 / 2 % 2 = 0 ↔ U / 2 ^ 5 % 2 = 1 := by omega
    rw [b0, b1, b2, b3, b4, b5]
    generalize dig x = y at hx
    have e0 : y / 10000 / 10 = D / 10000 / 10 ↔ dAt y 0 = dAt D 0 := by show _ ↔ y / 100000 % 10 = D / 100000 % 10; omega
    have e1 : y / 10000 % 10 = D / 10000 % 10 ↔ dAt y 1 = dAt D 1 := Iff.rfl
    have e2 : y / 100 % 100 / 10 = D / 100 % 100 / 10 ↔ dAt y 2 = dAt D 2 := by show _ ↔ y / 1000 % 10 = D / 1000 % 10; omega
    have e3 : y / 100 % 100 % 10 = D / 100 % 100 % 10 ↔ dAt y 3 = dAt D 3 := by show _ ↔ y / 100 % 10 = D / 100 % 10; omega
    have e4 : y % 100 / 10 = D % 100 / 10 ↔ dAt y 4 = dAt D 4 := by show _ ↔ y / 10 % 10 = D / 10 % 10; omega
    have e5 : y % 100 % 10 = D % 100 % 10 ↔ dAt y 5 = dAt D 5 := by show _ ↔ y % 10 = D % 10; omega
    rw [e0, e1, e2, e3, e4, e5]
    constructor
    · intro h
      exact ⟨⟨h 0 (by omega), h 1 (by omega)⟩, ⟨h 2 (by omega), h 3 (by omega)⟩, h 4 (by omega), h 5 (by omega)⟩
    · intro h i hi
      obtain ⟨⟨h0, h1⟩, ⟨h2, h3⟩, h4, h5⟩ := h
      have : i = 0 ∨ i = 1 ∨ i = 2 ∨ i = 3 ∨ i = 4 ∨ i = 5 := by omega
      rcases this with rfl | rfl | rfl | rfl | rfl | rfl <;> assumption
  unfold agx
  by_cases h : agB (dig x) D U 6 = 1
  · rw [if_pos (key.mp h), h]
  · rw [if_neg (fun q => h (key.mpr q))]
    rcases agB_01 (dig x) D U 6 with q | q
    · exact q.symm
    · exact absurd q h
theorem day_s {k : Nat} : ystart ((k / 12 : Nat) : Int) + cum ((k % 12 + 1 : Nat) : Int) ((k / 12 : Nat) : Int) + mlen ((k % 12 + 1 : Nat) : Int) ((k / 12 : Nat) : Int) = ystart (((k + 1) / 12 : Nat) : Int) + cum (((k + 1) % 12 + 1 : Nat) : Int) (((k + 1) / 12 : Nat) : Int) := by
  have hs := cum_s (m := ((k % 12 + 1 : Nat) : Int)) (by omega) ((k / 12 : Nat) : Int)
  by_cases h : k % 12 = 11
  · have e1 : (k + 1) / 12 = k / 12 + 1 := by omega
    have e2 : (k + 1) % 12 = 0 := by omega
    rw [e1, e2, h]
    rw [h] at hs
    have h13 : cum ((11 + 1 : Nat) : Int) ((k / 12 : Nat) : Int) + mlen ((11 + 1 : Nat) : Int) ((k / 12 : Nat) : Int) = cum 13 ((k / 12 : Nat) : Int) := hs.symm
    have hy := ystart_s ((k / 12 : Nat) : Int)
    have h0 : cum ((0 + 1 : Nat) : Int) ((k / 12 + 1 : Nat) : Int) = 0 := cum_1 _
    have hc : ((k / 12 + 1 : Nat) : Int) = ((k / 12 : Nat) : Int) + 1 := by omega
    rw [h0, hc]
    omega
  · have e1 : (k + 1) / 12 = k / 12 := by omega
    have e2 : (k + 1) % 12 = k % 12 + 1 := by omega
    rw [e1, e2]
    have hc : ((k % 12 + 1 + 1 : Nat) : Int) = ((k % 12 + 1 : Nat) : Int) + 1 := by omega
    rw [hc]
    omega
theorem afst_cnt {D : Int} {P : Nat} : ∀ n : Nat, (acnt D P n = 0 ∧ afst D P n = -5) ∨ (0 < acnt D P n ∧ 0 ≤ afst D P n) := by
  intro n
  induction n with
  | zero => exact Or.inl ⟨rfl, rfl⟩
  | succ n ih =>
    have h1 : acnt D P (n + 1) = acnt D P n + agx D P n := rfl
    have h2 : afst D P (n + 1) = if afst D P n = -5 ∧ agx D P n = 1 then (n : Int) else afst D P n := rfl
    have h3 := agx_rng D P n
    rw [h1, h2]
    by_cases h : afst D P n = -5 ∧ agx D P n = 1
    · rw [if_pos h]; omega
    · rw [if_neg h]; omega
theorem chOf_lt {k : Int} : ∀ {ch : List (Int × Int)} {b : Int}, SrtL b ch → b < k → chOf ch k = 0 := by
  intro ch
  induction ch with
  | nil => intro b _ _; rfl
  | cons x t ih =>
    obtain ⟨d, c⟩ := x
    intro b h hb
    have h1 : d ≤ b := h.1
    show (if d = k then c else chOf t k) = 0
    rw [if_neg (by omega)]
    exact ih h.2 (by omega)
theorem lp_y {σ : Nat → Int} {f : Nat} {k : Int} (h : fbN σ k 6 = 0 ∧ sbN σ k 6 = 0) : lpF σ (f + 1) k = k := if_pos h
theorem lp_n {σ : Nat → Int} {f : Nat} {k : Int} (h : ¬ (fbN σ k 6 = 0 ∧ sbN σ k 6 = 0)) : lpF σ (f + 1) k = lpF σ f (k + 1) := if_neg h
theorem nOnce_3 {σ : Nat → Int} (h : OkS σ) {k : Int} (hk : 0 ≤ k ∧ k ≤ 9) : ∀ j, nOnce σ k j 3 = σ 3 := by
  intro j
  induction j with
  | zero => rfl
  | succ j ih =>
    show onceF (nOnce σ k j) k 3 = σ 3
    rw [once_ot (okS_n h hk j) k (by omega)]
    exact ih
/-- what the model has for a number of days -/
def farV (x : Int) : Int := if x = 200 then 1000000 else x
/-- the best exchange, place after place -/
def beL (σ : Nat → Int) (k t : Int) (x : Int × Int) : Nat → Int × Int
  | 0 => x
  | n + 1 => if n / 6 < n % 6 then beS σ k t (n / 6) (n % 6) (beL σ k t x n) else beL σ k t x n
theorem beL_rng {σ : Nat → Int} {k t : Int} {x : Int × Int} (h : 0 ≤ x.1 ∧ x.1 ≤ 200) : ∀ n, 0 ≤ (beL σ k t x n).1 ∧ (beL σ k t x n).1 ≤ 200 := by
  intro n
  induction n with
  | zero => exact h
  | succ n ih =>
    show 0 ≤ (if n / 6 < n % 6 then beS σ k t (n / 6) (n % 6) (beL σ k t x n) else beL σ k t x n).1 ∧ (if n / 6 < n % 6 then beS σ k t (n / 6) (n % 6) (beL σ k t x n) else beL σ k t x n).1 ≤ 200
    split
    · exact beS_rng ih
    · exact ih
theorem beL_36 (σ : Nat → Int) (k t : Int) (x : Int × Int) : beL σ k t x 36 = beP σ k t 6 0 x := by
  simp [beL, beP, beQ]
/-- the wears' sum and the greatest of them, one after the other -/
def esum (σ : Nat → Int) : Nat → Int
  | 0 => 0
  | n + 1 => esum σ n + σ (88 + 13 * (n / 10) + n % 10)
def emax (σ : Nat → Int) : Nat → Int
  | 0 => 0
  | n + 1 => max (emax σ n) (σ (88 + 13 * (n / 10) + n % 10))
theorem e_rng {σ : Nat → Int} (h : OkS σ) : ∀ n : Nat, n ≤ 60 → (0 ≤ emax σ n ∧ emax σ n ≤ 99) ∧ emax σ n ≤ esum σ n ∧ esum σ n ≤ 99 * n := by
  intro n
  induction n with
  | zero => intro _; exact ⟨⟨Int.le_refl _, by show (0 : Int) ≤ 99; omega⟩, Int.le_refl _, Int.le_refl _⟩
  | succ n ih =>
    intro hn
    have hi := ih (by omega)
    have hw := (h.2.2.2.2 (n / 10) (by omega)).2.2.2 (n % 10) (by omega)
    show (0 ≤ max (emax σ n) (σ (88 + 13 * (n / 10) + n % 10)) ∧ max (emax σ n) (σ (88 + 13 * (n / 10) + n % 10)) ≤ 99) ∧ max (emax σ n) (σ (88 + 13 * (n / 10) + n % 10)) ≤ esum σ n + σ (88 + 13 * (n / 10) + n % 10) ∧ esum σ n + σ (88 + 13 * (n / 10) + n % 10) ≤ 99 * ((n + 1 : Nat) : Int)
    generalize σ (88 + 13 * (n / 10) + n % 10) = w at *
    omega
