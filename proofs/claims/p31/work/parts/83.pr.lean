/-! one print, number by number -/
def ucl (σ : Nat → Int) (k : Int) : Nat → Int
  | 0 => 0
  | p + 1 => ucl σ k p + (if drk σ p k < σ 0 ∨ σ 1 < drk σ p k then 1 else 0)
theorem pc6_add : ∀ p : Nat, p < 6 → ∀ a : Nat, a < 2 ^ p → pc6 (a + 2 ^ p) = pc6 a + 1 := by decide +kernel
theorem pc6_z : ∀ a : Nat, a < 64 → pc6 a = 0 → a = 0 := by decide +kernel
theorem ucl_pc {σ : Nat → Int} {k : Int} (h : σ 0 ≤ σ 1) : ∀ p, p ≤ 6 → ucl σ k p = (pc6 (fbN σ k p) : Int) + (pc6 (sbN σ k p) : Int) := by
  intro p
  induction p with
  | zero => intro _; show (0 : Int) = ((pc6 0 : Nat) : Int) + ((pc6 0 : Nat) : Int); decide
  | succ p ih =>
    intro hp
    have hi := ih (by omega)
    have f1 := pc6_add p (by omega) _ (fbN_lt σ k p)
    have s1 := pc6_add p (by omega) _ (sbN_lt σ k p)
    show ucl σ k p + (if drk σ p k < σ 0 ∨ σ 1 < drk σ p k then 1 else 0) = _
    by_cases hf : drk σ p k < σ 0
    · rw [if_pos (Or.inl hf), fbN_y hf, sbN_n (by omega), f1, hi]; omega
    · by_cases hs : σ 1 < drk σ p k
      · rw [if_pos (Or.inr hs), fbN_n hf, sbN_y hs, s1, hi]; omega
      · rw [if_neg (by omega), fbN_n hf, sbN_n hs, hi]; omega
theorem ucl_rng (σ : Nat → Int) (k : Int) : ∀ p : Nat, 0 ≤ ucl σ k p ∧ ucl σ k p ≤ p := by
  intro p
  induction p with
  | zero => exact ⟨Int.le_refl _, Int.le_refl _⟩
  | succ p ih =>
    show 0 ≤ ucl σ k p + (if drk σ p k < σ 0 ∨ σ 1 < drk σ p k then 1 else 0) ∧ ucl σ k p + (if drk σ p k < σ 0 ∨ σ 1 < drk σ p k then 1 else 0) ≤ ((p + 1 : Nat) : Int)
    split <;> omega
theorem fb64 (σ : Nat → Int) (k : Int) : fbN σ k 6 < 64 ∧ sbN σ k 6 < 64 := ⟨fbN_lt σ k 6, sbN_lt σ k 6⟩
theorem ucl_0 {σ : Nat → Int} {k : Int} (h : σ 0 ≤ σ 1) : ucl σ k 6 = 0 ↔ fbN σ k 6 = 0 ∧ sbN σ k 6 = 0 := by
  have h1 := ucl_pc (k := k) h 6 (Nat.le_refl _)
  have h2 := fb64 σ k
  refine ⟨fun q => ⟨pc6_z _ h2.1 (by omega), pc6_z _ h2.2 (by omega)⟩, fun q => ?_⟩
  rw [h1, q.1, q.2]
  rfl
theorem rtF_ucl {σ : Nat → Int} {D k : Int} (h : σ 0 ≤ σ 1) : rtF σ D k = if shw σ 6 = D ∧ ucl σ k 6 = 0 then 1 else 0 := by
  unfold rtF
  by_cases h1 : shw σ 6 = D
  · by_cases h2 : ucl σ k 6 = 0
    · have h3 := (ucl_0 h).mp h2
      rw [if_pos ⟨h1, h3⟩, if_pos ⟨h1, h2⟩]
    · rw [if_neg (fun q => h2 ((ucl_0 h).mpr q.2)), if_neg (fun q => h2 q.2)]
  · rw [if_neg (fun q => h1 q.1), if_neg (fun q => h1 q.1)]
theorem once_4 {σ : Nat → Int} (h : OkS σ) (k : Int) : onceF σ k 4 = max 0 (σ 4 - k) := by
  have h1 : inkF σ k 4 = max 0 (σ 4 - k) := by
    unfold inkF
    rw [fu_s, wear_ot h k (by omega) 6 (by omega)]
  unfold onceF
  split
  · rw [slip_ot _ (by omega) 6 (by omega)]; exact h1
  · exact h1
theorem slip_w (σ : Nat → Int) {p d : Nat} (hp : p < 6) (hd : d < 10) : ∀ r, r ≤ 6 → slipF σ r (88 + 13 * p + d) = σ (88 + 13 * p + d) := by
  intro r
  induction r with
  | zero => intro _; rfl
  | succ r ih =>
    intro hr
    have hi := ih (by omega)
    show (if slipF σ r 2 ≤ slipF σ r (87 + 13 * r) then fu (bset (slipF σ r) r (slipF σ r (85 + 13 * r)) ((slipF σ r (86 + 13 * r) + 1) % 10) 0) 10 (slipF σ r 10 + 1) else slipF σ r) (88 + 13 * p + d) = _
    split
    · rw [fu_n (by omega), bset_n (by omega) (by omega) (by omega)]; exact hi
    · exact hi
theorem wear_put {σ : Nat → Int} (h : OkS σ) (k : Int) {p : Nat} (hp : p < 6) : ∀ r, p < r → r ≤ 6 → wearF σ k r (88 + 13 * p + (σ (86 + 13 * p)).toNat) = min 99 (σ (88 + 13 * p + (σ (86 + 13 * p)).toNat) + (1 + k / 4)) := by
  intro r
  induction r with
  | zero => intro h1; omega
  | succ r ih =>
    intro h1 h2
    have hd := (h.2.2.2.2 p hp).2.1
    have hdr := (h.2.2.2.2 r (by omega)).2.1
    show fu (wearF σ k r) (88 + 13 * r + (σ (86 + 13 * r)).toNat) (min 99 (wearF σ k r (88 + 13 * r + (σ (86 + 13 * r)).toNat) + (1 + k / 4))) (88 + 13 * p + (σ (86 + 13 * p)).toNat) = _
    by_cases e : r = p
    · subst e
      rw [fu_s, wear_hi h k r (by omega) (by omega)]
    · rw [fu_n (by omega)]
      exact ih (by omega) (by omega)
theorem once_w {σ : Nat → Int} (h : OkS σ) (k : Int) {p : Nat} (hp : p < 6) : onceF σ k (88 + 13 * p + (σ (86 + 13 * p)).toNat) = min 99 (σ (88 + 13 * p + (σ (86 + 13 * p)).toNat) + (1 + k / 4)) := by
  have hd := (h.2.2.2.2 p hp).2.1
  have h1 : inkF σ k (88 + 13 * p + (σ (86 + 13 * p)).toNat) = min 99 (σ (88 + 13 * p + (σ (86 + 13 * p)).toNat) + (1 + k / 4)) := by
    unfold inkF
    rw [fu_n (by omega)]
    exact wear_put h k hp 6 hp (Nat.le_refl _)
  unfold onceF
  split
  · rw [slip_w _ hp (by omega) 6 (Nat.le_refl _)]; exact h1
  · exact h1
theorem slip_at (τ : Nat → Int) {p : Nat} (hp : p < 6) : ∀ r, r ≤ 6 → slipF τ r (86 + 13 * p) = (if p < r ∧ τ 2 ≤ τ (87 + 13 * p) then (τ (86 + 13 * p) + 1) % 10 else τ (86 + 13 * p)) ∧ slipF τ r (87 + 13 * p) = (if p < r ∧ τ 2 ≤ τ (87 + 13 * p) then 0 else τ (87 + 13 * p)) := by
  intro r
  induction r with
  | zero => intro _; rw [if_neg (by omega), if_neg (by omega)]; exact ⟨rfl, rfl⟩
  | succ r ih =>
    intro hr
    have hi := ih (by omega)
    have h2 : slipF τ r 2 = τ 2 := slip_ot τ (by omega) r (by omega)
    show (if slipF τ r 2 ≤ slipF τ r (87 + 13 * r) then fu (bset (slipF τ r) r (slipF τ r (85 + 13 * r)) ((slipF τ r (86 + 13 * r) + 1) % 10) 0) 10 (slipF τ r 10 + 1) else slipF τ r) (86 + 13 * p) = _ ∧ (if slipF τ r 2 ≤ slipF τ r (87 + 13 * r) then fu (bset (slipF τ r) r (slipF τ r (85 + 13 * r)) ((slipF τ r (86 + 13 * r) + 1) % 10) 0) 10 (slipF τ r 10 + 1) else slipF τ r) (87 + 13 * p) = _
    by_cases e : p = r
    · subst e
      rw [if_neg (by omega), if_neg (by omega)] at hi
      rw [h2, hi.1, hi.2]
      by_cases hc : τ 2 ≤ τ (87 + 13 * p)
      · rw [if_pos hc, if_pos ⟨by omega, hc⟩, if_pos ⟨by omega, hc⟩, fu_n (by omega), fu_n (by omega), bset_1, bset_2]
        exact ⟨rfl, rfl⟩
      · rw [if_neg hc, if_neg (fun q => hc q.2), if_neg (fun q => hc q.2)]
        exact hi
    · have ec : (p < r + 1 ∧ τ 2 ≤ τ (87 + 13 * p)) ↔ (p < r ∧ τ 2 ≤ τ (87 + 13 * p)) := ⟨fun q => ⟨by omega, q.2⟩, fun q => ⟨by omega, q.2⟩⟩
      have e1 : (if p < r + 1 ∧ τ 2 ≤ τ (87 + 13 * p) then (τ (86 + 13 * p) + 1) % 10 else τ (86 + 13 * p)) = (if p < r ∧ τ 2 ≤ τ (87 + 13 * p) then (τ (86 + 13 * p) + 1) % 10 else τ (86 + 13 * p)) := by
        by_cases hc : p < r ∧ τ 2 ≤ τ (87 + 13 * p)
        · rw [if_pos hc, if_pos (ec.mpr hc)]
        · rw [if_neg hc, if_neg (fun q => hc (ec.mp q))]
      have e2 : (if p < r + 1 ∧ τ 2 ≤ τ (87 + 13 * p) then 0 else τ (87 + 13 * p)) = (if p < r ∧ τ 2 ≤ τ (87 + 13 * p) then 0 else τ (87 + 13 * p)) := by
        by_cases hc : p < r ∧ τ 2 ≤ τ (87 + 13 * p)
        · rw [if_pos hc, if_pos (ec.mpr hc)]
        · rw [if_neg hc, if_neg (fun q => hc (ec.mp q))]
      rw [e1, e2]
      split
      · rw [fu_n (by omega), fu_n (by omega), bset_n (by omega) (by omega) (by omega), bset_n (by omega) (by omega) (by omega)]
        exact hi
      · exact hi
theorem once_b {σ : Nat → Int} (h : OkS σ) (k : Int) {p : Nat} (hp : p < 6) : onceF σ k (86 + 13 * p) = (if 7 ≤ k ∧ σ 2 ≤ σ (87 + 13 * p) then (σ (86 + 13 * p) + 1) % 10 else σ (86 + 13 * p)) ∧ onceF σ k (87 + 13 * p) = (if 7 ≤ k ∧ σ 2 ≤ σ (87 + 13 * p) then 0 else σ (87 + 13 * p)) := by
  have h2 : inkF σ k 2 = σ 2 := by
    unfold inkF
    rw [fu_n (by omega)]
    exact wear_ot h k (by omega) 6 (by omega)
  have h6 : inkF σ k (86 + 13 * p) = σ (86 + 13 * p) := by
    unfold inkF
    rw [fu_n (by omega)]
    exact wear_ot h k (by omega) 6 (by omega)
  have h7 : inkF σ k (87 + 13 * p) = σ (87 + 13 * p) := by
    unfold inkF
    rw [fu_n (by omega)]
    exact wear_ot h k (by omega) 6 (by omega)
  have hs := slip_at (inkF σ k) hp 6 (Nat.le_refl _)
  rw [h2, h6, h7] at hs
  unfold onceF
  by_cases hk : 7 ≤ k
  · rw [if_pos hk]
    by_cases hc : σ 2 ≤ σ (87 + 13 * p)
    · rw [if_pos ⟨hk, hc⟩, if_pos ⟨hk, hc⟩]
      rw [if_pos ⟨hp, hc⟩, if_pos ⟨hp, hc⟩] at hs
      exact hs
    · rw [if_neg (fun q => hc q.2), if_neg (fun q => hc q.2)]
      rw [if_neg (fun q => hc q.2), if_neg (fun q => hc q.2)] at hs
      exact hs
  · rw [if_neg hk, if_neg (fun q => hk q.1), if_neg (fun q => hk q.1)]
    exact ⟨h6, h7⟩
/-- pressed once -/
theorem press_1 {u : aS} {k : Int} (hk : 1 ≤ k ∧ k ≤ 9) : a_press u k 1 = (aAct u (prF (aD u).1 k, chAdd (aD u).2 ((aD u).1 3) (rtF (aD u).1 (dig ((aD u).1 3)) k)), rtF (aD u).1 (dig ((aD u).1 3)) k) := by
  have e : nRt (aD u).1 k 1 = rtF (aD u).1 (dig ((aD u).1 3)) k := by
    show 0 + rtF (aD u).1 (dig ((aD u).1 3)) k = _
    exact Int.zero_add _
  unfold a_press
  rw [if_pos ⟨hk, by omega, by omega⟩]
  show (aAct u (nPr (aD u).1 k 1, chAdd (aD u).2 ((aD u).1 3) (nRt (aD u).1 k 1)), nRt (aD u).1 k 1) = _
  rw [e]
  rfl
theorem pr_of {σ : Nat → Int} (h5 : 0 ≤ σ 5) (k : Int) : a_print (prF σ k) 0 0 = shw σ 6 ∧ a_print (prF σ k) 0 1 = σ 3 ∧ a_print (prF σ k) 0 2 = (fbN σ k 6 : Int) ∧ a_print (prF σ k) 0 3 = (sbN σ k 6 : Int) ∧ a_print (prF σ k) 0 4 = rtF σ (dig (σ 3)) k ∧ a_print (prF σ k) 0 5 = k := by
  have e5 : prF σ k 5 = σ 5 + 1 := rfl
  have hc : (0 : Int) ≤ 0 ∧ (0 : Int) < 12 ∧ (0 : Int) < prF σ k 5 := ⟨by omega, by omega, by omega⟩
  unfold a_print
  rw [if_pos hc, if_pos hc, if_pos hc, if_pos hc, if_pos hc, if_pos hc]
  exact ⟨rfl, rfl, rfl, rfl, rfl, rfl⟩
theorem pr_one {σ : Nat → Int} (h5 : 0 ≤ σ 5) (h3 : 0 ≤ σ 3 ∧ σ 3 ≤ 36524) {k : Int} (hr : rtF σ (dig (σ 3)) k = 1) : a_print (prF σ k) 0 6 = 1 ∧ a_print (prF σ k) 0 7 = σ 3 := by
  have hq : shw σ 6 = dig (σ 3) ∧ fbN σ k 6 = 0 ∧ sbN σ k 6 = 0 := by
    unfold rtF at hr
    by_cases hc : shw σ 6 = dig (σ 3) ∧ fbN σ k 6 = 0 ∧ sbN σ k 6 = 0
    · exact hc
    · rw [if_neg hc] at hr; omega
  have e5 : prF σ k 5 = σ 5 + 1 := rfl
  have hc : (0 : Int) ≤ 0 ∧ (0 : Int) < 12 ∧ (0 : Int) < prF σ k 5 := ⟨by omega, by omega, by omega⟩
  have e13 : prF σ k 13 = dig (σ 3) := hq.1
  have e15 : prF σ k 15 = 0 := by show (fbN σ k 6 : Int) = 0; rw [hq.2.1]; rfl
  have e16 : prF σ k 16 = 0 := by show (sbN σ k 6 : Int) = 0; rw [hq.2.2]; rfl
  have ec : clr (prF σ k) 0 = 63 := by
    show 63 - ((prF σ k 15).toNat ||| (prF σ k 16).toNat) = 63
    rw [e15, e16]
    rfl
  have h1 := days_one h3
  have z0 : (0 : Int).toNat = 0 := rfl
  have z1 : 13 + 6 * 0 = 13 := rfl
  constructor
  · unfold a_print
    rw [if_pos hc, if_neg (by decide), if_neg (by decide), if_neg (by decide), if_neg (by decide), if_neg (by decide), if_neg (by decide), if_pos rfl, z0, z1, e13, ec]
    exact h1.1
  · unfold a_print
    rw [if_pos hc, if_neg (by decide), if_neg (by decide), if_neg (by decide), if_neg (by decide), if_neg (by decide), if_neg (by decide), if_neg (by decide), if_pos rfl, z0, z1, e13, ec]
    exact h1.2
