/-! days that agree with some digits in some places -/
theorem cum13 {m y : Int} (h : 1 ≤ m ∧ m ≤ 12) : cum m y + mlen m y ≤ 337 + feb y ∧ 0 ≤ cum m y := by
  have hf := feb_rng y
  rcases m12 h with rfl | rfl | rfl | rfl | rfl | rfl | rfl | rfl | rfl | rfl | rfl | rfl <;> simp [cum, mlen, feb] <;> (try split) <;> omega
theorem ystart_s (y : Int) : ystart (y + 1) = ystart y + cum 13 y := by
  have hs := cum_s (m := 12) (by omega) y
  have e1 : cum 12 y = feb y + 306 := by simp [cum]
  have e2 : mlen 12 y = 31 := by simp [mlen]
  have hf := feb_rng y
  have e3 : cum 13 y = feb y + 337 := by
    have : cum (12 + 1) y = cum 13 y := rfl
    omega
  rw [e3, hf]
  unfold ystart
  split <;> omega
theorem cum_13 (y : Int) : cum 13 y = 337 + feb y := by
  have hs := cum_s (m := 12) (by omega) y
  have e1 : cum 12 y = feb y + 306 := by simp [cum]
  have e2 : mlen 12 y = 31 := by simp [mlen]
  have : cum (12 + 1) y = cum 13 y := rfl
  omega
theorem dig_at {y m d : Int} (hm : 1 ≤ m ∧ m ≤ 12) (hd : 1 ≤ d ∧ d ≤ mlen m y) : dig (ystart y + cum m y + d - 1) = 10000 * d + 100 * m + y := by
  have h13 := cum13 (y := y) hm
  have hys := ystart_s y
  rw [cum_13] at hys
  have hy : yearOf (ystart y + cum m y + d - 1) = y := year_eq (by omega) (by omega)
  have hs := cum_s hm y
  have hr : restOf (ystart y + cum m y + d - 1) = cum m y + d - 1 := by
    unfold restOf
    rw [hy]
    omega
  have hmo : monthOf (cum m y + d - 1) y = m := monthOf_eq hm (by omega) (fun _ => by omega)
  unfold dig
  rw [hr, hy, hmo]
  omega
/-- whether a day agrees -/
def agx (D : Int) (P : Nat) (x : Int) : Int := if pag (dig x / 10000) (D / 10000) P = 1 ∧ pag (dig x / 100 % 100) (D / 100 % 100) (P / 4) = 1 ∧ pag (dig x % 100) (D % 100) (P / 16) = 1 then 1 else 0
theorem agx_at {D : Int} {P : Nat} {y m d : Int} (hy : 0 ≤ y ∧ y ≤ 99) (hm : 1 ≤ m ∧ m ≤ 12) (hd : 1 ≤ d ∧ d ≤ mlen m y) : agx D P (ystart y + cum m y + d - 1) = if pag d (D / 10000) P = 1 ∧ pag m (D / 100 % 100) (P / 4) = 1 ∧ pag y (D % 100) (P / 16) = 1 then 1 else 0 := by
  have hr := mlen_rng m y
  unfold agx
  rw [dig_at hm hd, show (10000 * d + 100 * m + y) / 10000 = d by omega, show (10000 * d + 100 * m + y) / 100 % 100 = m by omega, show (10000 * d + 100 * m + y) % 100 = y by omega]
def acnt (D : Int) (P : Nat) : Nat → Int
  | 0 => 0
  | x + 1 => acnt D P x + agx D P x
def afst (D : Int) (P : Nat) : Nat → Int
  | 0 => -5
  | x + 1 => if afst D P x = -5 ∧ agx D P x = 1 then (x : Int) else afst D P x
theorem agx_rng (D : Int) (P : Nat) (x : Int) : 0 ≤ agx D P x ∧ agx D P x ≤ 1 := by
  unfold agx
  split <;> omega
theorem acnt_rng (D : Int) (P : Nat) : ∀ n : Nat, 0 ≤ acnt D P n ∧ acnt D P n ≤ n := by
  intro n
  induction n with
  | zero => simp [acnt]
  | succ n ih =>
    have := agx_rng D P n
    simp only [acnt]
    omega
theorem acnt_0 {D : Int} {P : Nat} : ∀ n : Nat, acnt D P n = 0 → ∀ j : Nat, j < n → agx D P j = 0 := by
  intro n
  induction n with
  | zero => intro _ j hj; omega
  | succ n ih =>
    intro h j hj
    have h1 := acnt_rng D P n
    have h2 := agx_rng D P n
    simp only [acnt] at h
    by_cases e : j = n
    · subst e; omega
    · exact ih (by omega) j (by omega)
theorem afst_n {D : Int} {P : Nat} : ∀ n : Nat, (∀ j : Nat, j < n → agx D P j = 0) → afst D P n = -5 := by
  intro n
  induction n with
  | zero => intro _; rfl
  | succ n ih =>
    intro h
    have h1 := h n (by omega)
    simp only [afst]
    rw [if_neg (by omega)]
    exact ih (fun j hj => h j (by omega))
theorem afst_y {D : Int} {P : Nat} {x : Nat} (h : ∀ j : Nat, j < x → agx D P j = 0) (hx : agx D P x = 1) : ∀ n : Nat, x < n → afst D P n = x := by
  intro n
  induction n with
  | zero => intro h; omega
  | succ n ih =>
    intro hn
    simp only [afst]
    by_cases e : x = n
    · subst e
      rw [if_pos ⟨afst_n x h, hx⟩]
    · rw [ih (by omega), if_neg (by omega)]
theorem afst_rng (D : Int) (P : Nat) : ∀ n : Nat, -5 ≤ afst D P n ∧ afst D P n ≤ n := by
  intro n
  induction n with
  | zero => simp [afst]
  | succ n ih =>
    simp only [afst]
    split <;> omega
/-- how many days of a month agree, of so many -/
def dcn (D : Int) (P : Nat) : Nat → Int
  | 0 => 0
  | n + 1 => dcn D P n + pag ((n : Int) + 1) (D / 10000) P
theorem dcn_rng (D : Int) (P : Nat) : ∀ n : Nat, 0 ≤ dcn D P n ∧ dcn D P n ≤ n := by
  intro n
  induction n with
  | zero => simp [dcn]
  | succ n ih =>
    have := pag_rng ((n : Int) + 1) (D / 10000) P
    simp only [dcn]
    omega
def agm (D : Int) (P : Nat) (m : Int) : Int := if pag m (D / 100 % 100) (P / 4) = 0 then 0 else dcn D P (lgst m).toNat
theorem agm_rng (D : Int) (P : Nat) (m : Int) : 0 ≤ agm D P m ∧ agm D P m ≤ 31 := by
  have h1 := dcn_rng D P (lgst m).toNat
  have h2 := lgst_rng m
  unfold agm
  split <;> omega
/-- the years that agree, and the leap years among them -/
def ycn (D : Int) (P : Nat) : Nat → Int
  | 0 => 0
  | n + 1 => ycn D P n + pag n (D % 100) (P / 16)
def lyc (D : Int) (P : Nat) : Nat → Int
  | 0 => 0
  | n + 1 => lyc D P n + (if pag n (D % 100) (P / 16) = 1 ∧ (n : Int) % 4 = 0 then 1 else 0)
theorem ycn_rng (D : Int) (P : Nat) : ∀ n : Nat, (0 ≤ lyc D P n ∧ lyc D P n ≤ ycn D P n) ∧ ycn D P n ≤ n := by
  intro n
  induction n with
  | zero => simp [ycn, lyc]
  | succ n ih =>
    have := pag_rng n (D % 100) (P / 16)
    simp only [ycn, lyc]
    split <;> omega
/-- what the months bring, over so many years -/
def msm (D : Int) (P : Nat) (Y W : Int) : Nat → Int
  | 0 => 0
  | n + 1 => msm D P Y W n + agm D P ((n : Int) + 1) * Y - (if n = 1 ∧ 0 < agm D P 2 ∧ pag 29 (D / 10000) P = 1 then Y - W else 0)
/-- the days of the months of one year -/
def mcn (D : Int) (P : Nat) (y : Int) : Nat → Int
  | 0 => 0
  | n + 1 => mcn D P y n + (if pag ((n : Int) + 1) (D / 100 % 100) (P / 4) = 0 then 0 else dcn D P (mlen ((n : Int) + 1) y).toNat)
theorem mcn_m (D : Int) (P : Nat) (y : Int) : ∀ n : Nat, n ≤ 12 → mcn D P y n = msm D P 1 (if y % 4 = 0 then 1 else 0) n := by
  intro n
  induction n with
  | zero => intro _; rfl
  | succ n ih =>
    intro hn
    have hlm := lgst_m (m := (n : Int) + 1) (by omega)
    have hp := pag_rng ((n : Int) + 1) (D / 100 % 100) (P / 4)
    simp only [mcn, msm]
    rw [ih (by omega)]
    by_cases e : n = 1
    · subst e
      have hl : lgst 2 = 29 := by decide
      have h29 : dcn D P 29 = dcn D P 28 + pag 29 (D / 10000) P := rfl
      have h28 := dcn_rng D P 28
      have hp9 := pag_rng 29 (D / 10000) P
      have hag : agm D P 2 = if pag 2 (D / 100 % 100) (P / 4) = 0 then 0 else dcn D P 29 := by unfold agm; rw [hl]; rfl
      have hml : mlen 2 y = if y % 4 = 0 then 29 else 28 := by simp [mlen, feb]
      have hp2 := pag_rng 2 (D / 100 % 100) (P / 4)
      show msm D P 1 (if y % 4 = 0 then 1 else 0) 1 + (if pag 2 (D / 100 % 100) (P / 4) = 0 then 0 else dcn D P (mlen 2 y).toNat) = msm D P 1 (if y % 4 = 0 then 1 else 0) 1 + agm D P 2 * 1 - (if 1 = 1 ∧ 0 < agm D P 2 ∧ pag 29 (D / 10000) P = 1 then 1 - (if y % 4 = 0 then 1 else 0) else 0)
      rw [hag, hml]
      by_cases c1 : pag 2 (D / 100 % 100) (P / 4) = 0
      · rw [if_pos c1, if_pos c1, if_neg (show ¬ (1 = 1 ∧ (0 : Int) < 0 ∧ pag 29 (D / 10000) P = 1) from fun h => absurd h.2.1 (by omega))]; omega
      · rw [if_neg c1, if_neg c1]
        by_cases c2 : y % 4 = 0
        · rw [if_pos c2, if_pos c2]
          have e29 : (29 : Int).toNat = 29 := rfl
          rw [e29]
          split <;> omega
        · rw [if_neg c2, if_neg c2]
          have e28 : (28 : Int).toNat = 28 := rfl
          rw [e28]
          by_cases c3 : pag 29 (D / 10000) P = 1
          · rw [if_pos ⟨rfl, by omega, c3⟩]; omega
          · rw [if_neg (fun h => c3 h.2.2)]; omega
    · have hml : mlen ((n : Int) + 1) y = lgst ((n : Int) + 1) := by
        rw [hlm]
        unfold mlen
        rw [if_neg (show ¬ (n : Int) + 1 = 2 by omega), if_neg (show ¬ (n : Int) + 1 = 2 by omega)]
      rw [if_neg (show ¬ (n = 1 ∧ 0 < agm D P 2 ∧ pag 29 (D / 10000) P = 1) from fun h => e h.1), hml]
      unfold agm
      omega
theorem msm_lin (D : Int) (P : Nat) (Y W : Int) : ∀ n : Nat, msm D P Y W n = (msm D P 1 1 n) * Y - (msm D P 1 1 n - msm D P 1 0 n) * (Y - W) := by
  intro n
  induction n with
  | zero => simp [msm]
  | succ n ih =>
    simp only [msm]
    rw [ih]
    generalize msm D P 1 1 n = a
    generalize msm D P 1 0 n = b
    generalize agm D P ((n : Int) + 1) = g
    by_cases c : n = 1 ∧ 0 < agm D P 2 ∧ pag 29 (D / 10000) P = 1
    · rw [if_pos c, if_pos c, if_pos c]
      have e1 : (a + g * 1 - (1 - 1)) * Y = a * Y + g * Y := by rw [show a + g * 1 - (1 - 1) = a + g by omega]; exact Int.add_mul a g Y
      have e2 : (a + g * 1 - (1 - 1) - (b + g * 1 - (1 - 0))) * (Y - W) = (a - b) * (Y - W) + (Y - W) := by
        rw [show a + g * 1 - (1 - 1) - (b + g * 1 - (1 - 0)) = (a - b) + 1 by omega, Int.add_mul, Int.one_mul]
      rw [e1, e2]
      omega
    · rw [if_neg c, if_neg c, if_neg c]
      have e1 : (a + g * 1 - 0) * Y = a * Y + g * Y := by rw [show a + g * 1 - 0 = a + g by omega]; exact Int.add_mul a g Y
      have e2 : (a + g * 1 - 0 - (b + g * 1 - 0)) * (Y - W) = (a - b) * (Y - W) := by rw [show a + g * 1 - 0 - (b + g * 1 - 0) = a - b by omega]
      rw [e1, e2]
      omega
theorem acnt_mo {D : Int} {P : Nat} {y m : Int} (hy : 0 ≤ y ∧ y ≤ 99) (hm : 1 ≤ m ∧ m ≤ 12) : ∀ k : Nat, (k : Int) ≤ mlen m y → acnt D P ((ystart y + cum m y).toNat + k) = acnt D P (ystart y + cum m y).toNat + (if pag m (D / 100 % 100) (P / 4) = 1 ∧ pag y (D % 100) (P / 16) = 1 then dcn D P k else 0) := by
  intro k
  have hys : 0 ≤ ystart y := by unfold ystart; omega
  have hc := (cum13 (y := y) hm).2
  induction k with
  | zero => intro _; simp [dcn]
  | succ k ih =>
    intro hk
    have ha := agx_at (D := D) (P := P) hy hm (d := (k : Int) + 1) (by omega)
    have e : acnt D P ((ystart y + cum m y).toNat + (k + 1)) = acnt D P ((ystart y + cum m y).toNat + k) + agx D P (((ystart y + cum m y).toNat + k : Nat) : Int) := rfl
    rw [e, ih (by omega), show ((((ystart y + cum m y).toNat + k : Nat)) : Int) = ystart y + cum m y + ((k : Int) + 1) - 1 by omega, ha]
    have hp := pag_rng ((k : Int) + 1) (D / 10000) P
    by_cases c : pag m (D / 100 % 100) (P / 4) = 1 ∧ pag y (D % 100) (P / 16) = 1
    · rw [if_pos c, if_pos c]
      simp only [dcn]
      by_cases c2 : pag ((k : Int) + 1) (D / 10000) P = 1
      · rw [if_pos ⟨c2, c⟩]; omega
      · rw [if_neg (fun h => c2 h.1)]; omega
    · rw [if_neg c, if_neg c, if_neg (fun h => c h.2)]; omega
theorem acnt_ye {D : Int} {P : Nat} {y : Int} (hy : 0 ≤ y ∧ y ≤ 99) : ∀ k : Nat, k ≤ 12 → acnt D P (ystart y + cum ((k : Int) + 1) y).toNat = acnt D P (ystart y).toNat + (if pag y (D % 100) (P / 16) = 1 then mcn D P y k else 0) := by
  intro k
  have hys : 0 ≤ ystart y := by unfold ystart; omega
  induction k with
  | zero => intro _; rw [show ((0 : Nat) : Int) + 1 = 1 from rfl, cum_1]; simp [mcn]
  | succ k ih =>
    intro hk
    have hm : 1 ≤ (k : Int) + 1 ∧ (k : Int) + 1 ≤ 12 := by omega
    have hs := cum_s hm y
    have hc := (cum13 (y := y) hm).2
    have hr := mlen_rng ((k : Int) + 1) y
    have h1 := acnt_mo (D := D) (P := P) hy hm (mlen ((k : Int) + 1) y).toNat (by omega)
    rw [show (((k + 1 : Nat)) : Int) + 1 = (k : Int) + 1 + 1 by omega, hs, show (ystart y + (cum ((k : Int) + 1) y + mlen ((k : Int) + 1) y)).toNat = (ystart y + cum ((k : Int) + 1) y).toNat + (mlen ((k : Int) + 1) y).toNat by omega, h1, ih (by omega)]
    have hp := pag_rng ((k : Int) + 1) (D / 100 % 100) (P / 4)
    simp only [mcn]
    by_cases c : pag y (D % 100) (P / 16) = 1
    · rw [if_pos c, if_pos c]
      by_cases c2 : pag ((k : Int) + 1) (D / 100 % 100) (P / 4) = 1
      · rw [if_pos ⟨c2, c⟩, if_neg (by omega)]; omega
      · rw [if_neg (fun h => c2 h.1), if_pos (by omega)]; omega
    · rw [if_neg c, if_neg c, if_neg (fun h => c h.2)]; omega
theorem acnt_all {D : Int} {P : Nat} : ∀ n : Nat, n ≤ 100 → acnt D P (ystart n).toNat = msm D P (ycn D P n) (lyc D P n) 12 := by
  intro n
  induction n with
  | zero => 
    intro _
    rw [msm_lin]
    have e1 : ycn D P 0 = 0 := rfl
    have e2 : lyc D P 0 = 0 := rfl
    rw [e1, e2]
    simp [acnt, ystart]
  | succ n ih =>
    intro hn
    have h1 := acnt_ye (D := D) (P := P) (y := n) (by omega) 12 (by omega)
    have h13 : cum (((12 : Nat) : Int) + 1) n = cum 13 n := rfl
    have hys := ystart_s n
    rw [show (((n + 1 : Nat)) : Int) = (n : Int) + 1 by omega, hys, ← h13, h1, ih (by omega), mcn_m D P n 12 (by omega)]
    have hp := pag_rng n (D % 100) (P / 16)
    have l1 := msm_lin D P (ycn D P n) (lyc D P n) 12
    have l2 := msm_lin D P (ycn D P (n + 1)) (lyc D P (n + 1)) 12
    have l3 := msm_lin D P 1 (if (n : Int) % 4 = 0 then 1 else 0) 12
    have ey : ycn D P (n + 1) = ycn D P n + pag n (D % 100) (P / 16) := rfl
    have el : lyc D P (n + 1) = lyc D P n + (if pag n (D % 100) (P / 16) = 1 ∧ (n : Int) % 4 = 0 then 1 else 0) := rfl
    rw [l1, l2, l3, ey, el]
    generalize msm D P 1 1 12 = A
    generalize msm D P 1 1 12 - msm D P 1 0 12 = B at *
    generalize ycn D P n = Y
    generalize lyc D P n = W
    by_cases c : pag n (D % 100) (P / 16) = 1
    · rw [if_pos c, c]
      by_cases c2 : (n : Int) % 4 = 0
      · rw [if_pos c2, if_pos ⟨rfl, c2⟩, Int.mul_add A Y 1, show Y + 1 - (W + 1) = Y - W by omega]
        simp only [Int.sub_self, Int.mul_zero]
        omega
      · rw [if_neg c2, if_neg (fun h => c2 h.2), Int.mul_add A Y 1, show Y + 1 - (W + 0) = (Y - W) + 1 by omega]
        rw [Int.mul_add _ (Y - W) 1]
        omega
    · rw [if_neg c, if_neg (fun h => c h.1), show pag n (D % 100) (P / 16) = 0 by omega, Int.add_zero, Int.add_zero, Int.add_zero]
