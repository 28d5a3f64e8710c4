/-! what the calls answer, for the law -/
theorem IsD.okD {G : wG} {μ : hM} {x rb : Nat} {u : aS} (h : IsD G μ x rb u) : OkD (aD u) := by
  obtain ⟨π, fp, sp, rd, a, b, c⟩ := h.2.1
  exact c
theorem IsD.okK {G : wG} {μ : hM} {x rb : Nat} {u : aS} (h : IsD G μ x rb u) : OkD (aK u) := by
  obtain ⟨π, fp, sp, rd, a, b, c⟩ := h.2.2.2.1
  exact c
theorem IsD.nN {G : wG} {μ : hM} {x rb : Nat} {u : aS} (h : IsD G μ x rb u) : 0 ≤ aN u ∧ aN u ≤ 4 := h.2.2.2.2.2.2.1
theorem IsD.lt {G : wG} {μ : hM} {x rb n : Nat} {u : aS} {H : Heap} (h : IsD G μ x rb u) (hH : gP G μ n H) : x + 194 ≤ n := by
  obtain ⟨-, -, -, -, -, -, -, -, -, h1, e, h2⟩ := h
  have := hH.lt h2
  omega
theorem v_pass {u : aS} {k : Int} (hO : OkD (aD u)) (hk : 1 ≤ k ∧ k ≤ 999) : (a_pass u k).2 = -3 ∨ (0 ≤ (a_pass u k).2 ∧ (a_pass u k).2 ≤ 36524) := by
  have h3 := hO.1.2.1
  unfold a_pass
  rw [if_pos hk]
  split
  · right
    show 0 ≤ (aD u).1 3 + k ∧ (aD u).1 3 + k ≤ 36524
    omega
  · left; rfl
theorem v_adjust {u : aS} {k : Int} (hk : 0 ≤ k ∧ k ≤ 36524) : a_adjust u k = (aAct u (adj (aD u).1 (dig k), (aD u).2), wsm (aD u).1 (dig k) 0 6) := if_pos hk
theorem v_turn {u : aS} {p k : Int} (hp : 0 ≤ p ∧ p ≤ 5) (hk : k ≠ 0 ∧ -9 ≤ k ∧ k ≤ 9) : 0 ≤ (a_turn u p k).2 := by
  unfold a_turn
  rw [if_pos hp, if_pos hk]
  show 0 ≤ ((aD u).1 (86 + 13 * p.toNat) + k) % 10
  omega
theorem v_press {u : aS} {k t : Int} (hk : 1 ≤ k ∧ k ≤ 9) (ht : 1 ≤ t ∧ t ≤ 99) : 0 ≤ (a_press u k t).2 := by
  unfold a_press
  rw [if_pos ⟨hk, ht⟩]
  exact (nRt_rng (aD u).1 k t.toNat).1
theorem v_fill {u : aS} {k : Int} (hO : OkD (aD u)) (hk : 1 ≤ k ∧ k ≤ 200) : (a_fill u k).2 = -5 ∨ 0 ≤ (a_fill u k).2 := by
  have h4 := hO.1.1.2.2.2.1
  unfold a_fill
  rw [if_pos hk]
  split
  · left; rfl
  · right
    show 0 ≤ min 200 ((aD u).1 4 + k)
    omega
theorem v_exchange {u : aS} {p q : Int} (hO : OkD (aD u)) (hp : 0 ≤ p ∧ p ≤ 5) (hq : 0 ≤ q ∧ q ≤ 5) : (a_exchange u p q).2 = -5 ∨ 0 ≤ (a_exchange u p q).2 := by
  have h5 := (hO.1.1.2.2.2.2 q.toNat (by omega)).1
  unfold a_exchange
  rw [if_pos ⟨hp, hq⟩]
  split
  · left; rfl
  · right; exact h5.1
theorem v_exchange2 {u : aS} {p q : Int} (hO : OkD (aD u)) (hp : 0 ≤ p ∧ p < q) (hq : q ≤ 5) : (a_exchange u p q).1 = aAct u (swpS (aD u).1 p.toNat q.toNat, (aD u).2) ∧ 0 ≤ (a_exchange u p q).2 := by
  have h5 := (hO.1.1.2.2.2.2 q.toNat (by omega)).1
  unfold a_exchange
  rw [if_pos (by omega), if_neg (by omega)]
  exact ⟨rfl, h5.1⟩
theorem v_tighten {u : aS} {p : Int} (hO : OkD (aD u)) (hp : 0 ≤ p ∧ p ≤ 5) : (a_tighten u p).2 = -5 ∨ 0 ≤ (a_tighten u p).2 := by
  have h5 := (hO.1.1.2.2.2.2 p.toNat (by omega)).2.2.1
  unfold a_tighten
  rw [if_pos hp]
  split
  · left; rfl
  · right; exact h5.1
theorem v_replace {u : aS} {p : Int} (hO : OkD (aD u)) (hp : 0 ≤ p ∧ p ≤ 5) : 0 ≤ (a_replace u p).2 := by
  have h5 := bsum_rng (M := 99) 10 (OkS.w hO.1.1 (p := p.toNat) (by omega))
  unfold a_replace
  rw [if_pos hp]
  exact h5.1
theorem v_set {u : aS} {w v : Int} (hO : OkD (aD u)) (hw : 0 ≤ w ∧ w ≤ 2) (hv : loSet w ≤ v ∧ v ≤ hiSet w) : (a_set u w v).2 = -5 ∨ 0 ≤ (a_set u w v).2 := by
  obtain ⟨h0, h1, h2, -⟩ := hO.1.1
  unfold a_set
  rw [if_pos ⟨hw, hv⟩]
  split
  · left; rfl
  · right
    show 0 ≤ (aD u).1 w.toNat
    have hc : w = 0 ∨ w = 1 ∨ w = 2 := by omega
    rcases hc with rfl | rfl | rfl
    · show 0 ≤ (aD u).1 0; omega
    · show 0 ≤ (aD u).1 1; omega
    · show 0 ≤ (aD u).1 2; omega
theorem lo_0 : loSet 0 = 10 ∧ hiSet 0 = 60 := ⟨rfl, rfl⟩
theorem lo_1 : loSet 1 = 60 ∧ hiSet 1 = 150 := ⟨rfl, rfl⟩
theorem lo_2 : loSet 2 = 1 ∧ hiSet 2 = 99 := ⟨rfl, rfl⟩
theorem band_0 {σ : Nat → Int} {i : Int} (h : 0 ≤ i ∧ i ≤ 5) : a_band σ i 0 = σ (85 + 13 * i.toNat) := by
  unfold a_band
  rw [if_pos h, if_pos rfl]
theorem band_1 {σ : Nat → Int} {i : Int} (h : 0 ≤ i ∧ i ≤ 5) : a_band σ i 1 = σ (86 + 13 * i.toNat) := by
  unfold a_band
  rw [if_pos h, if_neg (by omega), if_pos rfl]
theorem band_2 {σ : Nat → Int} {i : Int} (h : 0 ≤ i ∧ i ≤ 5) : a_band σ i 2 = σ (87 + 13 * i.toNat) := by
  unfold a_band
  rw [if_pos h, if_neg (by omega), if_neg (by omega), if_pos rfl]
theorem band_3 {σ : Nat → Int} {i : Int} (h : 0 ≤ i ∧ i ≤ 5) : a_band σ i 3 = roww σ i.toNat (bmost (roww σ i.toNat) 9) := by
  unfold a_band
  rw [if_pos h, if_neg (by omega), if_neg (by omega), if_neg (by omega), if_pos rfl]
theorem band_4 {σ : Nat → Int} {i : Int} (h : 0 ≤ i ∧ i ≤ 5) : a_band σ i 4 = bleast (roww σ i.toNat) 10 := by
  unfold a_band
  rw [if_pos h, if_neg (by omega), if_neg (by omega), if_neg (by omega), if_neg (by omega), if_pos rfl]
theorem band_5 {σ : Nat → Int} {i : Int} (h : 0 ≤ i ∧ i ≤ 5) : a_band σ i 5 = (bmost (roww σ i.toNat) 9 : Int) := by
  unfold a_band
  rw [if_pos h, if_neg (by omega), if_neg (by omega), if_neg (by omega), if_neg (by omega), if_neg (by omega), if_pos rfl]
theorem band_6 {σ : Nat → Int} {i : Int} (h : 0 ≤ i ∧ i ≤ 5) : a_band σ i 6 = drk σ i.toNat 5 + 100 := by
  unfold a_band
  rw [if_pos h, if_neg (by omega), if_neg (by omega), if_neg (by omega), if_neg (by omega), if_neg (by omega), if_neg (by omega), if_pos rfl]
theorem wear_of {σ : Nat → Int} {i k : Int} (h : 0 ≤ i ∧ i ≤ 5) (hk : 0 ≤ k ∧ k ≤ 9) : a_wear σ i k = roww σ i.toNat k.toNat := by
  unfold a_wear
  rw [if_pos h, if_pos hk]
theorem date_0 {k : Int} (h : 0 ≤ k ∧ k ≤ 36524) : a_date k 0 = dig k / 10000 := by
  unfold a_date
  rw [if_pos h, if_pos rfl]
theorem date_1 {k : Int} (h : 0 ≤ k ∧ k ≤ 36524) : a_date k 1 = dig k / 100 % 100 := by
  unfold a_date
  rw [if_pos h, if_neg (by omega), if_pos rfl]
theorem date_2 {k : Int} (h : 0 ≤ k ∧ k ≤ 36524) : a_date k 2 = dig k % 100 := by
  unfold a_date
  rw [if_pos h, if_neg (by omega), if_neg (by omega), if_pos rfl]
theorem date_3 {k : Int} (h : 0 ≤ k ∧ k ≤ 36524) : a_date k 3 = dig k := by
  unfold a_date
  rw [if_pos h, if_neg (by omega), if_neg (by omega), if_neg (by omega), if_pos rfl]
theorem day_of {D : Int} (h : 0 ≤ D ∧ D ≤ 999999) : a_day D = dday D := if_pos h
theorem cnt_0 (u : aS) : a_count u 0 = (aD u).1 3 := rfl
theorem cnt_1 (u : aS) : a_count u 1 = (aD u).1 4 := rfl
theorem cnt_2 (u : aS) : a_count u 2 = (aD u).1 5 := rfl
theorem cnt_8 (u : aS) : a_count u 8 = if shw (aD u).1 6 = dig ((aD u).1 3) then 1 else 0 := rfl
theorem cnt_9 (u : aS) : a_count u 9 = dday (shw (aD u).1 6) := by
  unfold a_count
  rw [if_neg (by decide), if_neg (by decide), if_neg (by decide), if_neg (by decide), if_neg (by decide), if_neg (by decide), if_neg (by decide), if_neg (by decide), if_neg (by decide), if_pos rfl]
theorem cnt_13 (u : aS) : a_count u 13 = (aD u).1 0 := rfl
theorem cnt_14 (u : aS) : a_count u 14 = (aD u).1 1 := rfl
theorem cnt_15 (u : aS) : a_count u 15 = (aD u).1 2 := rfl
theorem cnt_3 {u : aS} {b : Int} (h : UI u b) (hb : b ≤ 2000000000) : a_count u 3 = (aD u).1 6 := by
  obtain ⟨k1, k2, k3, k4, k5, k6, k7⟩ := h.1
  have := (cOk.sum k2).2
  exact wr32_id (by omega)
theorem cnt_4 {u : aS} {b : Int} (h : UI u b) (hb : b ≤ 2000000000) : a_count u 4 = (aD u).1 7 := by
  obtain ⟨k1, k2, k3, k4, k5, k6, k7⟩ := h.1
  exact wr32_id (by omega)
theorem cnt_5 {u : aS} {b : Int} (h : UI u b) (hb : b ≤ 2000000000) : a_count u 5 = (aD u).1 8 := by
  obtain ⟨k1, k2, k3, k4, k5, k6, k7⟩ := h.1
  exact wr32_id (by omega)
theorem cnt_6 {u : aS} {b : Int} (h : UI u b) (hb : b ≤ 2000000000) : a_count u 6 = (aD u).1 9 := by
  obtain ⟨k1, k2, k3, k4, k5, k6, k7⟩ := h.1
  exact wr32_id (by omega)
theorem cnt_10 {u : aS} {b : Int} (h : UI u b) (hb : b ≤ 2000000000) : a_count u 10 = ((aD u).2.length : Int) := by
  obtain ⟨k1, k2, k3, k4, k5, k6, k7⟩ := h.1
  have := cOk.sum k2
  exact wr32_id (by omega)
theorem rgt_of {u : aS} {b k : Int} (h : UI u b) (hb : b ≤ 2000000000) (hk : 0 ≤ k ∧ k ≤ 36524) : a_rightOf (aD u) k = chOf (aD u).2 k := by
  obtain ⟨k1, k2, k3, k4, k5, k6, k7⟩ := h.1
  have := cOk.of k k2
  unfold a_rightOf
  rw [if_pos hk]
  exact wr32_id (by omega)
theorem las_of {σ : Nat → Int} {k t : Int} (hk : 1 ≤ k ∧ k ≤ 9) (ht : 1 ≤ t ∧ t ≤ 20) : a_lasts σ k t = if lasF σ k t = 200 then -5 else lasF σ k t := if_pos ⟨hk, ht⟩
/-- a step of the law's count of steps -/
theorem on_way {b d : Int} (hb : 0 ≤ b ∧ b ≤ 9) (hd : 0 ≤ d ∧ d ≤ 9) : ((d - b + 10) % 10 ≤ 5 → ab (wayf b d) = (d - b + 10) % 10) ∧ (5 < (d - b + 10) % 10 → ab (wayf b d) = 10 - (d - b + 10) % 10) := by
  unfold wayf ab
  constructor
  · intro h
    rw [if_pos (show (d - b) % 10 ≤ 5 by omega), if_pos (by omega)]
    omega
  · intro h
    rw [if_neg (show ¬ (d - b) % 10 ≤ 5 by omega), if_neg (by omega)]
    omega
theorem wsm_adj {σ : Nat → Int} {D : Int} : wsm (adj σ D) D 0 6 = 0 := by
  have hz : ∀ p : Nat, p < 6 → ab (way (adj σ D) p (dAt D p)) = 0 := by
    intro p hp
    have e : adj σ D (86 + 13 * p) = dAt D p := by
      have := adj_at (σ := σ) (D := D) (lo := 0) (hi := 6) hp
      rw [if_pos (by omega)] at this
      exact this
    unfold way wayf ab
    rw [e, Int.sub_self]
    rfl
  unfold wsm
  rw [hz 0 (by omega), hz 1 (by omega), hz 2 (by omega), hz 3 (by omega), hz 4 (by omega), hz 5 (by omega)]
  rfl
theorem shw_adj {σ : Nat → Int} {D : Int} (hD : 0 ≤ D ∧ D ≤ 999999) : shw (adj σ D) 6 = D := by
  have e : ∀ p : Nat, p < 6 → adj σ D (86 + 13 * p) = dAt D p := by
    intro p hp
    have := adj_at (σ := σ) (D := D) (lo := 0) (hi := 6) hp
    rw [if_pos (by omega)] at this
    exact this
  show 10 * (10 * (10 * (10 * (10 * (10 * 0 + adj σ D (86 + 13 * 0)) + adj σ D (86 + 13 * 1)) + adj σ D (86 + 13 * 2)) + adj σ D (86 + 13 * 3)) + adj σ D (86 + 13 * 4)) + adj σ D (86 + 13 * 5) = D
  rw [e 0 (by omega), e 1 (by omega), e 2 (by omega), e 3 (by omega), e 4 (by omega), e 5 (by omega)]
  simp only [dAt]
  simp
  omega
/-- the greatest wear so far, and the first digit that has it, as the law finds them -/
def gG (f : Nat → Int) : Nat → Int
  | 0 => 0
  | j + 1 => if gG f j < f j then f j else gG f j
def gAt (f : Nat → Int) : Nat → Nat
  | 0 => 0
  | j + 1 => if gG f j < f j then j else gAt f j
theorem gG_y {f : Nat → Int} {j : Nat} (h : gG f j < f j) : gG f (j + 1) = f j ∧ gAt f (j + 1) = j := ⟨if_pos h, if_pos h⟩
theorem gG_n {f : Nat → Int} {j : Nat} (h : ¬ gG f j < f j) : gG f (j + 1) = gG f j ∧ gAt f (j + 1) = gAt f j := ⟨if_neg h, if_neg h⟩
theorem gG_b {f : Nat → Int} (h0 : 0 ≤ f 0) : ∀ j : Nat, gG f (j + 1) = f (bmost f j) ∧ gAt f (j + 1) = bmost f j := by
  intro j
  induction j with
  | zero =>
    by_cases h : gG f 0 < f 0
    · exact gG_y h
    · have h1 := gG_n h
      have e : gG f 0 = 0 := rfl
      have e2 : gAt f 0 = 0 := rfl
      refine ⟨?_, h1.2.trans e2⟩
      show gG f (0 + 1) = f 0
      omega
  | succ j ih =>
    show gG f (j + 1 + 1) = f (if f (bmost f j) < f (j + 1) then j + 1 else bmost f j) ∧ gAt f (j + 1 + 1) = if f (bmost f j) < f (j + 1) then j + 1 else bmost f j
    by_cases h : f (bmost f j) < f (j + 1)
    · rw [if_pos h]
      exact gG_y (by rw [ih.1]; exact h)
    · rw [if_neg h]
      have := gG_n (f := f) (j := j + 1) (by rw [ih.1]; exact h)
      rw [this.1, this.2]
      exact ih
theorem gG_rng {f : Nat → Int} {k : Nat} (h : ∀ j, j < k → 0 ≤ f j ∧ f j ≤ 99) : ∀ j, j ≤ k → 0 ≤ gG f j ∧ gG f j ≤ 99 := by
  intro j
  induction j with
  | zero => intro _; exact ⟨Int.le_refl _, by show (0 : Int) ≤ 99; omega⟩
  | succ j ih =>
    intro hj
    have h1 := ih (by omega)
    have h2 := h j (by omega)
    show 0 ≤ (if gG f j < f j then f j else gG f j) ∧ (if gG f j < f j then f j else gG f j) ≤ 99
    split <;> omega
theorem gAt_le (f : Nat → Int) : ∀ j : Nat, gAt f j ≤ j := by
  intro j
  induction j with
  | zero => exact Nat.le_refl _
  | succ j ih =>
    show (if gG f j < f j then j else gAt f j) ≤ j + 1
    split <;> omega
theorem esum_rng {σ : Nat → Int} (h : OkS σ) : ∀ k : Nat, k ≤ 60 → 0 ≤ esum σ k ∧ esum σ k ≤ 99 * (k : Int) := by
  intro k
  induction k with
  | zero => intro _; exact ⟨Int.le_refl _, Int.le_refl _⟩
  | succ k ih =>
    intro hk
    have h1 := ih (by omega)
    have h2 := (h.2.2.2.2 (k / 10) (by omega)).2.2.2 (k % 10) (by omega)
    show 0 ≤ esum σ k + σ (88 + 13 * (k / 10) + k % 10) ∧ esum σ k + σ (88 + 13 * (k / 10) + k % 10) ≤ 99 * ((k + 1 : Nat) : Int)
    omega
theorem emax_rng {σ : Nat → Int} (h : OkS σ) : ∀ k : Nat, k ≤ 60 → 0 ≤ emax σ k ∧ emax σ k ≤ 99 ∧ emax σ k ≤ esum σ k ∧ esum σ k ≤ k * emax σ k := by
  intro k
  induction k with
  | zero => intro _; exact ⟨Int.le_refl _, by show (0 : Int) ≤ 99; omega, Int.le_refl _, by show (0 : Int) ≤ ((0 : Nat) : Int) * emax σ 0; rw [show ((0 : Nat) : Int) = 0 from rfl, Int.zero_mul]; exact Int.le_refl _⟩
  | succ k ih =>
    intro hk
    have h1 := ih (by omega)
    have h2 := (h.2.2.2.2 (k / 10) (by omega)).2.2.2 (k % 10) (by omega)
    have h3 := esum_rng h k (by omega)
    show 0 ≤ max (emax σ k) (σ (88 + 13 * (k / 10) + k % 10)) ∧ max (emax σ k) (σ (88 + 13 * (k / 10) + k % 10)) ≤ 99 ∧ max (emax σ k) (σ (88 + 13 * (k / 10) + k % 10)) ≤ esum σ k + σ (88 + 13 * (k / 10) + k % 10) ∧ esum σ k + σ (88 + 13 * (k / 10) + k % 10) ≤ ((k + 1 : Nat) : Int) * max (emax σ k) (σ (88 + 13 * (k / 10) + k % 10))
    generalize σ (88 + 13 * (k / 10) + k % 10) = v at *
    generalize emax σ k = g at *
    generalize esum σ k = e at *
    have h5 : (k : Int) * g ≤ (k : Int) * max g v := Int.mul_le_mul_of_nonneg_left (by omega) (by omega)
    rw [show ((k + 1 : Nat) : Int) = (k : Int) + 1 from rfl, Int.add_mul, Int.one_mul]
    refine ⟨by omega, by omega, by omega, ?_⟩
    generalize (k : Int) * max g v = y at *
    generalize (k : Int) * g = y2 at *
    omega
/-- the law's own comparisons of the evenness -/
theorem even_all {σ : Nat → Int} (h : OkS σ) : (Jvm.FP.Core.dcmp (a_even σ) FP.dconst1 = some .lt ∨ Jvm.FP.Core.dcmp (a_even σ) FP.dconst1 = some .eq) ∧ Jvm.FP.Core.dcmp (a_even σ) 0 = some .gt ∧ (emax σ 60 = 0 → Jvm.FP.Core.dcmp (a_even σ) FP.dconst1 = some .eq) := by
  have h1 := emax_rng h 60 (Nat.le_refl _)
  unfold a_even
  by_cases h0 : emax σ 60 = 0
  · rw [if_pos h0]
    have e1 : Jvm.FP.Core.dcmp FP.dconst1 FP.dconst1 = some .eq := by decide +kernel
    exact ⟨Or.inr e1, by decide +kernel, fun _ => e1⟩
  · rw [if_neg h0]
    obtain ⟨s, hs⟩ : ∃ s : Nat, esum σ 60 = (s : Int) := ⟨(esum σ 60).toNat, by omega⟩
    obtain ⟨g, hg⟩ : ∃ g : Nat, emax σ 60 = (g : Int) := ⟨(emax σ 60).toNat, by omega⟩
    rw [hs, hg] at h1 ⊢
    have h2 := even_of (s := s) (g := g) (by omega) (by omega)
    exact ⟨h2.1, h2.2, fun q => by omega⟩
