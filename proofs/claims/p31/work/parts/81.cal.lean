/-! days and dates, for the law -/
theorem feb_two (y : Int) : 28 ≤ feb y ∧ feb y ≤ 29 := by
  rw [feb_rng]
  split <;> omega
theorem month_spec {r y : Int} (h0 : 0 ≤ r) (h1 : r < 337 + feb y) : cum (monthOf r y) y ≤ r ∧ r < cum (monthOf r y) y + mlen (monthOf r y) y := by
  have s0 : cum 1 y = 0 := cum_1 y
  have s1 : cum 2 y = cum 1 y + mlen 1 y := cum_s (m := 1) (by omega) y
  have s2 : cum 3 y = cum 2 y + mlen 2 y := cum_s (m := 2) (by omega) y
  have s3 : cum 4 y = cum 3 y + mlen 3 y := cum_s (m := 3) (by omega) y
  have s4 : cum 5 y = cum 4 y + mlen 4 y := cum_s (m := 4) (by omega) y
  have s5 : cum 6 y = cum 5 y + mlen 5 y := cum_s (m := 5) (by omega) y
  have s6 : cum 7 y = cum 6 y + mlen 6 y := cum_s (m := 6) (by omega) y
  have s7 : cum 8 y = cum 7 y + mlen 7 y := cum_s (m := 7) (by omega) y
  have s8 : cum 9 y = cum 8 y + mlen 8 y := cum_s (m := 8) (by omega) y
  have s9 : cum 10 y = cum 9 y + mlen 9 y := cum_s (m := 9) (by omega) y
  have s10 : cum 11 y = cum 10 y + mlen 10 y := cum_s (m := 10) (by omega) y
  have s11 : cum 12 y = cum 11 y + mlen 11 y := cum_s (m := 11) (by omega) y
  have s12 : cum 13 y = cum 12 y + mlen 12 y := cum_s (m := 12) (by omega) y
  have s13 := cum_13 y
  unfold monthOf
  by_cases h2 : r < cum 2 y
  · rw [if_pos h2]; omega
  rw [if_neg h2]
  by_cases h3 : r < cum 3 y
  · rw [if_pos h3]; omega
  rw [if_neg h3]
  by_cases h4 : r < cum 4 y
  · rw [if_pos h4]; omega
  rw [if_neg h4]
  by_cases h5 : r < cum 5 y
  · rw [if_pos h5]; omega
  rw [if_neg h5]
  by_cases h6 : r < cum 6 y
  · rw [if_pos h6]; omega
  rw [if_neg h6]
  by_cases h7 : r < cum 7 y
  · rw [if_pos h7]; omega
  rw [if_neg h7]
  by_cases h8 : r < cum 8 y
  · rw [if_pos h8]; omega
  rw [if_neg h8]
  by_cases h9 : r < cum 9 y
  · rw [if_pos h9]; omega
  rw [if_neg h9]
  by_cases h10 : r < cum 10 y
  · rw [if_pos h10]; omega
  rw [if_neg h10]
  by_cases h11 : r < cum 11 y
  · rw [if_pos h11]; omega
  rw [if_neg h11]
  by_cases h12 : r < cum 12 y
  · rw [if_pos h12]; omega
  rw [if_neg h12]
  omega
/-- a day's date -/
theorem date_of {day : Int} (h : 0 ≤ day ∧ day ≤ 36524) : ∃ y m d : Int, (0 ≤ y ∧ y ≤ 99) ∧ (1 ≤ m ∧ m ≤ 12) ∧ (1 ≤ d ∧ d ≤ mlen m y) ∧ day = ystart y + cum m y + d - 1 ∧ dig day = 10000 * d + 100 * m + y := by
  have h1 := restOf_rng day
  have h2 := month_spec h1.1 h1.2
  refine ⟨yearOf day, monthOf (restOf day) (yearOf day), restOf day - cum (monthOf (restOf day) (yearOf day)) (yearOf day) + 1, yearOf_rng h, monthOf_rng _ _, by omega, ?_, rfl⟩
  have h3 : restOf day = day - ystart (yearOf day) := rfl
  omega
theorem dday_at {y m d : Int} (hy : 0 ≤ y ∧ y ≤ 99) (hm : 1 ≤ m ∧ m ≤ 12) (hd : 1 ≤ d ∧ d ≤ 99) : dday (10000 * d + 100 * m + y) = if d ≤ mlen m y then ystart y + cum m y + d - 1 else -5 := by
  have e1 : (10000 * d + 100 * m + y) / 100 % 100 = m := by omega
  have e2 : (10000 * d + 100 * m + y) / 10000 = d := by omega
  have e3 : (10000 * d + 100 * m + y) % 100 = y := by omega
  unfold dday
  rw [e1, e2, e3]
  by_cases h : d ≤ mlen m y
  · rw [if_pos ⟨hm, hd.1, h⟩, if_pos h]
  · rw [if_neg (fun q => h q.2.2), if_neg h]
theorem dday_dig {day : Int} (h : 0 ≤ day ∧ day ≤ 36524) : dday (dig day) = day := by
  obtain ⟨y, m, d, hy, hm, hd, h1, h2⟩ := date_of h
  have hl := mlen_rng m y
  rw [h2, dday_at hy hm (by omega), if_pos hd.2]
  omega
theorem dig_inj {a b : Int} (ha : 0 ≤ a ∧ a ≤ 36524) (hb : 0 ≤ b ∧ b ≤ 36524) (h : dig a = dig b) : a = b := by
  rw [← dday_dig ha, ← dday_dig hb, h]
theorem ystart_rng {y : Int} (hy : 0 ≤ y ∧ y ≤ 99) : 0 ≤ ystart y ∧ ystart y ≤ 36160 := by
  unfold ystart
  omega
theorem next_date {day y m d : Int} (hy : 0 ≤ y ∧ y ≤ 99) (hm : 1 ≤ m ∧ m ≤ 12) (hd : 1 ≤ d ∧ d ≤ mlen m y) (h : day = ystart y + cum m y + d - 1) (hl : day < 36524) :
    dig (day + 1) = 10000 * (d + 1) + 100 * m + y ∨ (dig (day + 1) = 10000 + 100 * (m + 1) + y ∧ m < 12 ∧ 28 ≤ d) ∨ (dig (day + 1) = 10101 + y ∧ m = 12 ∧ 28 ≤ d ∧ y ≤ 98) := by
  have hr := mlen_rng m y
  have hs := cum_s hm y
  by_cases h1 : d < mlen m y
  · left
    have h2 := dig_at (y := y) hm (d := d + 1) (by omega)
    rw [← h2]
    exact congrArg dig (by omega)
  by_cases h2 : m < 12
  · right; left
    have hr2 := mlen_rng (m + 1) y
    have h3 := dig_at (y := y) (m := m + 1) (by omega) (d := 1) (by omega)
    refine ⟨?_, h2, by omega⟩
    have h4 : day + 1 = ystart y + cum (m + 1) y + 1 - 1 := by omega
    rw [h4, h3]
    omega
  · right; right
    have hm12 : m = 12 := by omega
    have hr2 := mlen_rng 1 (y + 1)
    have h3 := dig_at (y := y + 1) (m := 1) (by omega) (d := 1) (by omega)
    have h5 := ystart_s y
    have h6 : cum (m + 1) y = cum 13 y := by rw [hm12]; rfl
    have h7 : cum 1 (y + 1) = 0 := cum_1 _
    have h4 : day + 1 = ystart (y + 1) + cum 1 (y + 1) + 1 - 1 := by omega
    refine ⟨?_, hm12, by omega, ?_⟩
    · rw [h4, h3]
      omega
    · have h8 : ystart (y + 1) = day + 1 := by omega
      unfold ystart at h8
      omega
theorem mlen_2 (y : Int) : mlen 2 y = if y % 4 = 0 then 29 else 28 := rfl
theorem leap_day {y : Int} (hy : 0 ≤ y ∧ y ≤ 99) : (y % 4 = 0 ∧ 0 ≤ dday (290200 + y) ∧ dday (290200 + y) ≤ 40000) ∨ (y % 4 ≠ 0 ∧ dday (290200 + y) = -5) := by
  have h := dday_at (y := y) (m := 2) (d := 29) hy (by omega) (by omega)
  have h2 : 290200 + y = 10000 * 29 + 100 * 2 + y := by omega
  have h3 := ystart_rng hy
  have h4 := cum_rng 2 y
  rw [h2, h, mlen_2]
  by_cases h0 : y % 4 = 0
  · left
    rw [if_pos h0, if_pos (by omega)]
    omega
  · right
    rw [if_neg h0, if_neg (by omega)]
    exact ⟨h0, rfl⟩
theorem no_30 {y : Int} (hy : 0 ≤ y ∧ y ≤ 99) : dday (300200 + y) = -5 := by
  have h := dday_at (y := y) (m := 2) (d := 30) hy (by omega) (by omega)
  rw [show 300200 + y = 10000 * 30 + 100 * 2 + y by omega, h, mlen_2, if_neg]
  split <;> omega
theorem no_31 {y : Int} (hy : 0 ≤ y ∧ y ≤ 99) : dday (310400 + y) = -5 := by
  have h := dday_at (y := y) (m := 4) (d := 31) hy (by omega) (by omega)
  rw [show 310400 + y = 10000 * 31 + 100 * 4 + y by omega, h, show mlen 4 y = 30 from rfl, if_neg (by omega)]
theorem is_31 {y : Int} (hy : 0 ≤ y ∧ y ≤ 99) : 0 ≤ dday (311200 + y) ∧ dday (311200 + y) ≤ 40000 := by
  have h := dday_at (y := y) (m := 12) (d := 31) hy (by omega) (by omega)
  have h3 := ystart_rng hy
  have h4 := cum_rng 12 y
  rw [show 311200 + y = 10000 * 31 + 100 * 12 + y by omega, h, show mlen 12 y = 31 from rfl, if_pos (by omega)]
  omega
/-- one day alone agrees with all its digits -/
theorem agx_one {a x : Int} (ha : 0 ≤ a ∧ a ≤ 36524) (hx : 0 ≤ x ∧ x ≤ 36524) : agx (dig a) 63 x = if x = a then 1 else 0 := by
  have h1 := dig_rng ha
  have h2 := dig_rng hx
  unfold agx pag
  by_cases h : x = a
  · subst h
    simp
  · have hne : dig x ≠ dig a := fun q => h (dig_inj hx ha q)
    rw [if_neg h, if_neg]
    intro ⟨q1, q2, q3⟩
    apply hne
    generalize dig x = X at *
    generalize dig a = A at *
    have k1 : ∀ c : Prop, ∀ [Decidable c], (if c then (1 : Int) else 0) = 1 → c := fun c _ q => by
      by_cases hc : c
      · exact hc
      · rw [if_neg hc] at q; omega
    have p1 := k1 _ q1
    have p2 := k1 _ q2
    have p3 := k1 _ q3
    omega
theorem acnt_one {a : Int} (ha : 0 ≤ a ∧ a ≤ 36524) : ∀ n : Nat, (n : Int) ≤ 36525 → acnt (dig a) 63 n = if a < n then 1 else 0 := by
  intro n
  induction n with
  | zero => intro _; rw [if_neg (by omega)]; rfl
  | succ n ih =>
    intro hn
    show acnt (dig a) 63 n + agx (dig a) 63 n = _
    rw [ih (by omega), agx_one ha (by omega)]
    by_cases h : a < n
    · rw [if_pos h, if_neg (by omega), if_pos (by omega)]; rfl
    · by_cases h2 : (n : Int) = a
      · rw [if_neg h, if_pos h2, if_pos (by omega)]; rfl
      · rw [if_neg h, if_neg h2, if_neg (by omega)]; rfl
theorem days_one {a : Int} (ha : 0 ≤ a ∧ a ≤ 36524) : acnt (dig a) 63 36525 = 1 ∧ afst (dig a) 63 36525 = a := by
  refine ⟨?_, ?_⟩
  · rw [acnt_one ha 36525 (by decide), if_pos (by omega)]
  · obtain ⟨n, hn⟩ : ∃ n : Nat, a = (n : Int) := ⟨a.toNat, by omega⟩
    have h := afst_y (D := dig a) (P := 63) (x := n) (fun j hj => by rw [agx_one ha (by omega), if_neg (by omega)]) (by rw [agx_one ha (by omega), if_pos hn.symm]) 36525 (by omega)
    rw [h, hn]
