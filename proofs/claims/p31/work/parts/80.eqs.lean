/-! likeness of stamps (as in whole) -/
def EqS (τ σ : Nat → Int) : Prop := ∀ j, (j < 3 ∨ j = 4 ∨ j = 9 ∨ j = 10 ∨ (85 ≤ j ∧ j < 163)) → τ j = σ j
theorem EqS.rf {σ : Nat → Int} : EqS σ σ := fun _ _ => rfl
theorem EqS.fuE {τ σ : Nat → Int} (h : EqS τ σ) (i : Nat) (v : Int) : EqS (fu τ i v) (fu σ i v) := by
  intro j hj
  by_cases e : j = i
  · rw [e, fu_s, fu_s]
  · rw [fu_n e, fu_n e]; exact h j hj
theorem EqS.fl {τ σ : Nat → Int} (h : EqS τ σ) {i : Nat} (hi : ¬ (i < 3 ∨ i = 4 ∨ i = 9 ∨ i = 10 ∨ (85 ≤ i ∧ i < 163))) (v : Int) : EqS (fu τ i v) σ := by
  intro j hj
  rw [fu_n (show j ≠ i from fun e => by subst e; exact hi hj)]; exact h j hj
theorem EqS.ok {τ σ : Nat → Int} (h : EqS τ σ) (hs : OkS σ) : OkS τ := okS_cg hs (fun j hj => h j (by omega))
theorem EqS.drkE {τ σ : Nat → Int} (h : EqS τ σ) (hs : OkS σ) {p : Nat} (hp : p < 6) (k : Int) : drk τ p k = drk σ p k := by
  have h1 := (hs.2.2.2.2 p hp).2.1
  unfold drk
  rw [h 4 (by omega), h (86 + 13 * p) (by omega), h (88 + 13 * p + (σ (86 + 13 * p)).toNat) (by omega)]
theorem EqS.shwE {τ σ : Nat → Int} (h : EqS τ σ) : ∀ k, k ≤ 6 → shw τ k = shw σ k := by
  intro k
  induction k with
  | zero => intro _; rfl
  | succ k ih =>
    intro hk
    show 10 * shw τ k + τ (86 + 13 * k) = 10 * shw σ k + σ (86 + 13 * k)
    rw [ih (by omega), h (86 + 13 * k) (by omega)]
theorem EqS.fbE {τ σ : Nat → Int} (h : EqS τ σ) (hs : OkS σ) (k : Int) : ∀ p, p ≤ 6 → fbN τ k p = fbN σ k p := by
  intro p
  induction p with
  | zero => intro _; rfl
  | succ p ih =>
    intro hp
    show fbN τ k p + (if drk τ p k < τ 0 then 2 ^ p else 0) = fbN σ k p + (if drk σ p k < σ 0 then 2 ^ p else 0)
    rw [ih (by omega), h.drkE hs (by omega), h 0 (by omega)]
theorem EqS.sbE {τ σ : Nat → Int} (h : EqS τ σ) (hs : OkS σ) (k : Int) : ∀ p, p ≤ 6 → sbN τ k p = sbN σ k p := by
  intro p
  induction p with
  | zero => intro _; rfl
  | succ p ih =>
    intro hp
    show sbN τ k p + (if τ 1 < drk τ p k then 2 ^ p else 0) = sbN σ k p + (if σ 1 < drk σ p k then 2 ^ p else 0)
    rw [ih (by omega), h.drkE hs (by omega), h 1 (by omega)]
theorem EqS.rtE {τ σ : Nat → Int} (h : EqS τ σ) (hs : OkS σ) (D k : Int) : rtF τ D k = rtF σ D k := by
  unfold rtF
  rw [h.shwE 6 (by omega), h.fbE hs k 6 (by omega), h.sbE hs k 6 (by omega)]
theorem EqS.wear {τ σ : Nat → Int} (h : EqS τ σ) (hs : OkS σ) (k : Int) : ∀ p, p ≤ 6 → EqS (wearF τ k p) (wearF σ k p) := by
  intro p
  induction p with
  | zero => intro _; exact h
  | succ p ih =>
    intro hp
    have hi := ih (by omega)
    have h1 := (hs.2.2.2.2 p (by omega)).2.1
    show EqS (fu (wearF τ k p) (88 + 13 * p + (τ (86 + 13 * p)).toNat) (min 99 (wearF τ k p (88 + 13 * p + (τ (86 + 13 * p)).toNat) + (1 + k / 4)))) (fu (wearF σ k p) (88 + 13 * p + (σ (86 + 13 * p)).toNat) (min 99 (wearF σ k p (88 + 13 * p + (σ (86 + 13 * p)).toNat) + (1 + k / 4))))
    rw [h (86 + 13 * p) (by omega), hi (88 + 13 * p + (σ (86 + 13 * p)).toNat) (by omega)]
    exact hi.fuE _ _
theorem EqS.ink {τ σ : Nat → Int} (h : EqS τ σ) (hs : OkS σ) (k : Int) : EqS (inkF τ k) (inkF σ k) := by
  have hw := h.wear hs k 6 (by omega)
  unfold inkF
  rw [hw 4 (by omega)]
  exact hw.fuE _ _
theorem EqS.bsetE {τ σ : Nat → Int} (h : EqS τ σ) (p : Nat) (a b c : Int) : EqS (bset τ p a b c) (bset σ p a b c) := by
  intro j hj
  unfold bset
  split
  · rfl
  · split
    · rfl
    · split
      · rfl
      · exact h j hj
theorem EqS.slip {τ σ : Nat → Int} (h : EqS τ σ) : ∀ p, p ≤ 6 → EqS (slipF τ p) (slipF σ p) := by
  intro p
  induction p with
  | zero => intro _; exact h
  | succ p ih =>
    intro hp
    have hi := ih (by omega)
    show EqS (if slipF τ p 2 ≤ slipF τ p (87 + 13 * p) then fu (bset (slipF τ p) p (slipF τ p (85 + 13 * p)) ((slipF τ p (86 + 13 * p) + 1) % 10) 0) 10 (slipF τ p 10 + 1) else slipF τ p) (if slipF σ p 2 ≤ slipF σ p (87 + 13 * p) then fu (bset (slipF σ p) p (slipF σ p (85 + 13 * p)) ((slipF σ p (86 + 13 * p) + 1) % 10) 0) 10 (slipF σ p 10 + 1) else slipF σ p)
    rw [hi 2 (by omega), hi (87 + 13 * p) (by omega), hi (85 + 13 * p) (by omega), hi (86 + 13 * p) (by omega), hi 10 (by omega)]
    split
    · exact (hi.bsetE p _ _ _).fuE _ _
    · exact hi
theorem EqS.once {τ σ : Nat → Int} (h : EqS τ σ) (hs : OkS σ) (k : Int) : EqS (onceF τ k) (onceF σ k) := by
  unfold onceF
  split
  · exact (h.ink hs k).slip 6 (by omega)
  · exact h.ink hs k
theorem EqS.n {τ σ : Nat → Int} (h : EqS τ σ) (hs : OkS σ) {k : Int} (hk : 0 ≤ k ∧ k ≤ 9) : ∀ j, EqS (nOnce τ k j) (nOnce σ k j) := by
  intro j
  induction j with
  | zero => exact h
  | succ j ih => exact ih.once (okS_n hs hk j) k
theorem EqS.okE {τ σ : Nat → Int} (h : EqS τ σ) (hs : OkS σ) (D : Int) {k : Int} (hk : 0 ≤ k ∧ k ≤ 9) : ∀ j, okN τ D k j = okN σ D k j := by
  intro j
  induction j with
  | zero => rfl
  | succ j ih =>
    show (if okN τ D k j = 1 ∧ rtF (nOnce τ k j) D k = 1 then 1 else 0) = (if okN σ D k j = 1 ∧ rtF (nOnce σ k j) D k = 1 then (1 : Int) else 0)
    rw [ih, (h.n hs hk j).rtE (okS_n hs hk j)]
theorem EqS.wayE {τ σ : Nat → Int} (h : EqS τ σ) {p : Nat} (hp : p < 6) (d : Int) : way τ p d = way σ p d := by
  unfold way
  rw [h (86 + 13 * p) (by omega)]
theorem EqS.wsmE {τ σ : Nat → Int} (h : EqS τ σ) (D lo hi : Int) : wsm τ D lo hi = wsm σ D lo hi := by
  unfold wsm
  rw [h.wayE (p := 0) (by omega), h.wayE (p := 1) (by omega), h.wayE (p := 2) (by omega), h.wayE (p := 3) (by omega), h.wayE (p := 4) (by omega), h.wayE (p := 5) (by omega)]
theorem EqS.adjE {τ σ : Nat → Int} (h : EqS τ σ) (D : Int) : EqS (adj τ D) (adj σ D) := by
  intro j hj
  unfold adj adjF
  split
  · rw [h 9 (by omega), h.wsmE]
  · split
    · rfl
    · split
      · rename_i h1 h2 h3
        rw [h j hj, h.wayE (by omega)]
      · exact h j hj
