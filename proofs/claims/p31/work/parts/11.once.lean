/-! one print -/
def wearF (σ : Nat → Int) (k : Int) : Nat → (Nat → Int)
  | 0 => σ
  | p + 1 => fu (wearF σ k p) (88 + 13 * p + (σ (86 + 13 * p)).toNat) (min 99 (wearF σ k p (88 + 13 * p + (σ (86 + 13 * p)).toNat) + (1 + k / 4)))
theorem wear_ot {σ : Nat → Int} (h : OkS σ) (k : Int) {j : Nat} (hj : j < 88 ∨ 163 ≤ j ∨ (j - 85) % 13 < 3) : ∀ p, p ≤ 6 → wearF σ k p j = σ j := by
  intro p
  induction p with
  | zero => intro _; rfl
  | succ p ih =>
    intro hp
    have hd := (h.2.2.2.2 p (by omega)).2.1
    show fu (wearF σ k p) _ _ j = σ j
    rw [fu_n (by omega)]
    exact ih (by omega)
theorem wear_hi {σ : Nat → Int} (h : OkS σ) (k : Int) {j : Nat} : ∀ p, p ≤ 6 → 85 + 13 * p ≤ j → wearF σ k p j = σ j := by
  intro p
  induction p with
  | zero => intro _ _; rfl
  | succ p ih =>
    intro hp hj
    have hd := (h.2.2.2.2 p (by omega)).2.1
    show fu (wearF σ k p) _ _ j = σ j
    rw [fu_n (by omega)]
    exact ih (by omega) (by omega)
theorem okS_wear {σ : Nat → Int} (h : OkS σ) {k : Int} (hk : 0 ≤ k ∧ k ≤ 9) : ∀ p, p ≤ 6 → OkS (wearF σ k p) := by
  intro p
  induction p with
  | zero => intro _; exact h
  | succ p ih =>
    intro hp
    have hi := ih (by omega)
    obtain ⟨-, hd, -, -⟩ := h.2.2.2.2 p (by omega)
    have hw := (hi.2.2.2.2 p (by omega)).2.2.2 (σ (86 + 13 * p)).toNat (by omega)
    obtain ⟨h0, h1, h2, h4, hq⟩ := hi
    show OkS (fu (wearF σ k p) _ _)
    refine ⟨?_, ?_, ?_, ?_, fun q hqq => ?_⟩
    · rw [fu_n (by omega)]; exact h0
    · rw [fu_n (by omega)]; exact h1
    · rw [fu_n (by omega)]; exact h2
    · rw [fu_n (by omega)]; exact h4
    · obtain ⟨q1, q2, q3, q4⟩ := hq q hqq
      refine ⟨?_, ?_, ?_, fun e he => ?_⟩
      · rw [fu_n (by omega)]; exact q1
      · rw [fu_n (by omega)]; exact q2
      · rw [fu_n (by omega)]; exact q3
      · by_cases hj : 88 + 13 * q + e = 88 + 13 * p + (σ (86 + 13 * p)).toNat
        · rw [hj, fu_s]; omega
        · rw [fu_n hj]; exact q4 e he
theorem drk_wear {σ : Nat → Int} (h : OkS σ) (k : Int) {p : Nat} (hp : p < 6) : drk (wearF σ k p) p k = drk σ p k := by
  obtain ⟨-, hd, -, -⟩ := h.2.2.2.2 p hp
  unfold drk
  rw [wear_ot h k (j := 4) (by omega) p (by omega), wear_ot h k (j := 86 + 13 * p) (by omega) p (by omega), wear_hi h k (j := 88 + 13 * p + (σ (86 + 13 * p)).toNat) p (by omega) (by omega)]
theorem wear_step {σ : Nat → Int} (h : OkS σ) (k : Int) {p : Nat} (hp : p < 6) : fu (wearF σ k p) (88 + 13 * p + (wearF σ k p (86 + 13 * p)).toNat) (min 99 (roww (wearF σ k p) p (wearF σ k p (86 + 13 * p)).toNat + (1 + k / 4))) = wearF σ k (p + 1) := by
  obtain ⟨-, hd, -, -⟩ := h.2.2.2.2 p hp
  rw [wear_ot h k (j := 86 + 13 * p) (by omega) p (by omega), roww_at (by omega)]
  rfl
def fbN (σ : Nat → Int) (k : Int) : Nat → Nat
  | 0 => 0
  | p + 1 => fbN σ k p + (if drk σ p k < σ 0 then 2 ^ p else 0)
def sbN (σ : Nat → Int) (k : Int) : Nat → Nat
  | 0 => 0
  | p + 1 => sbN σ k p + (if σ 1 < drk σ p k then 2 ^ p else 0)
theorem fbN_lt (σ : Nat → Int) (k : Int) : ∀ p, fbN σ k p < 2 ^ p := by
  intro p
  induction p with
  | zero => exact Nat.one_pos
  | succ p ih =>
    show fbN σ k p + (if drk σ p k < σ 0 then 2 ^ p else 0) < 2 ^ (p + 1)
    rw [Nat.pow_succ]
    split <;> omega
theorem sbN_lt (σ : Nat → Int) (k : Int) : ∀ p, sbN σ k p < 2 ^ p := by
  intro p
  induction p with
  | zero => exact Nat.one_pos
  | succ p ih =>
    show sbN σ k p + (if σ 1 < drk σ p k then 2 ^ p else 0) < 2 ^ (p + 1)
    rw [Nat.pow_succ]
    split <;> omega
theorem fbN_y {σ : Nat → Int} {k : Int} {p : Nat} (h : drk σ p k < σ 0) : fbN σ k (p + 1) = fbN σ k p + 2 ^ p := by
  show fbN σ k p + (if drk σ p k < σ 0 then 2 ^ p else 0) = _
  rw [if_pos h]
theorem fbN_n {σ : Nat → Int} {k : Int} {p : Nat} (h : ¬ drk σ p k < σ 0) : fbN σ k (p + 1) = fbN σ k p := by
  show fbN σ k p + (if drk σ p k < σ 0 then 2 ^ p else 0) = _
  rw [if_neg h]
  rfl
theorem sbN_y {σ : Nat → Int} {k : Int} {p : Nat} (h : σ 1 < drk σ p k) : sbN σ k (p + 1) = sbN σ k p + 2 ^ p := by
  show sbN σ k p + (if σ 1 < drk σ p k then 2 ^ p else 0) = _
  rw [if_pos h]
theorem sbN_n {σ : Nat → Int} {k : Int} {p : Nat} (h : ¬ σ 1 < drk σ p k) : sbN σ k (p + 1) = sbN σ k p := by
  show sbN σ k p + (if σ 1 < drk σ p k then 2 ^ p else 0) = _
  rw [if_neg h]
  rfl
theorem fbN_mono {σ : Nat → Int} {k : Int} {p q : Nat} (h : p ≤ q) : fbN σ k p ≤ fbN σ k q := by
  induction q with
  | zero => rw [show p = 0 by omega]; exact Nat.le_refl _
  | succ q ih =>
    by_cases e : p = q + 1
    · rw [e]; exact Nat.le_refl _
    · exact Nat.le_trans (ih (by omega)) (Nat.le_add_right _ _)
theorem sbN_mono {σ : Nat → Int} {k : Int} {p q : Nat} (h : p ≤ q) : sbN σ k p ≤ sbN σ k q := by
  induction q with
  | zero => rw [show p = 0 by omega]; exact Nat.le_refl _
  | succ q ih =>
    by_cases e : p = q + 1
    · rw [e]; exact Nat.le_refl _
    · exact Nat.le_trans (ih (by omega)) (Nat.le_add_right _ _)
theorem two_pow_pos6 (p : Nat) : 0 < 2 ^ p := Nat.two_pow_pos p
theorem bit_or : ∀ p : Nat, p < 6 → ∀ a : Nat, a < 2 ^ p → iv (a : Int) ||| iv ((2 ^ p : Nat) : Int) = iv ((a + 2 ^ p : Nat) : Int) := by decide +kernel
theorem bit_or0 : ∀ a : Nat, a < 64 → iv (a : Int) ||| iv 0 = iv (a : Int) := by decide +kernel
theorem bit_shl : ∀ p : Nat, p < 6 → iv 1 <<< (iv (p : Int) &&& 31) = iv ((2 ^ p : Nat) : Int) := by decide +kernel
theorem pow6 : ∀ p : Nat, p ≤ 6 → 2 ^ p ≤ 64 := by decide +kernel
/-- loose bands slip -/
def slipF (σ : Nat → Int) : Nat → (Nat → Int)
  | 0 => σ
  | p + 1 => if slipF σ p 2 ≤ slipF σ p (87 + 13 * p) then fu (bset (slipF σ p) p (slipF σ p (85 + 13 * p)) ((slipF σ p (86 + 13 * p) + 1) % 10) 0) 10 (slipF σ p 10 + 1) else slipF σ p
theorem slip_y {σ : Nat → Int} {p : Nat} (hp : p < 6) (h : slipF σ p 2 ≤ slipF σ p (87 + 13 * p)) : fu (bset (slipF σ p) p (slipF σ p (85 + 13 * p)) ((slipF σ p (86 + 13 * p) + 1) % 10) 0) 10 (bset (slipF σ p) p (slipF σ p (85 + 13 * p)) ((slipF σ p (86 + 13 * p) + 1) % 10) 0 10 + 1) = slipF σ (p + 1) := by
  rw [bset_n (j := 10) (by omega) (by omega) (by omega)]
  exact (if_pos h).symm
theorem slip_n {σ : Nat → Int} {p : Nat} (h : ¬ slipF σ p 2 ≤ slipF σ p (87 + 13 * p)) : slipF σ p = slipF σ (p + 1) := (if_neg h).symm
theorem okS_slip {σ : Nat → Int} (h : OkS σ) : ∀ p, p ≤ 6 → OkS (slipF σ p) := by
  intro p
  induction p with
  | zero => intro _; exact h
  | succ p ih =>
    intro hp
    have hi := ih (by omega)
    by_cases hc : slipF σ p 2 ≤ slipF σ p (87 + 13 * p)
    · rw [← slip_y (by omega) hc]
      generalize slipF σ p = τ at hi hc ⊢
      obtain ⟨h0, h1, h2, h4, hq⟩ := hi
      obtain ⟨p1, p2, p3, p4⟩ := hq p (by omega)
      refine ⟨?_, ?_, ?_, ?_, fun q hqq => ?_⟩
      · rw [fu_n (by omega), bset_n (by omega) (by omega) (by omega)]; exact h0
      · rw [fu_n (by omega), bset_n (by omega) (by omega) (by omega)]; exact h1
      · rw [fu_n (by omega), bset_n (by omega) (by omega) (by omega)]; exact h2
      · rw [fu_n (by omega), bset_n (by omega) (by omega) (by omega)]; exact h4
      · obtain ⟨q1, q2, q3, q4⟩ := hq q hqq
        refine ⟨?_, ?_, ?_, fun e he => ?_⟩
        · rw [fu_n (by omega)]
          by_cases e : q = p
          · rw [e, bset_0]; exact p1
          · rw [bset_n (by omega) (by omega) (by omega)]; exact q1
        · rw [fu_n (by omega)]
          by_cases e : q = p
          · rw [e, bset_1]; omega
          · rw [bset_n (by omega) (by omega) (by omega)]; exact q2
        · rw [fu_n (by omega)]
          by_cases e : q = p
          · rw [e, bset_2]; omega
          · rw [bset_n (by omega) (by omega) (by omega)]; exact q3
        · rw [fu_n (by omega), bset_n (by omega) (by omega) (by omega)]; exact q4 e he
    · rw [← slip_n hc]; exact hi
def inkF (σ : Nat → Int) (k : Int) : Nat → Int := fu (wearF σ k 6) 4 (max 0 (wearF σ k 6 4 - k))
def onceF (σ : Nat → Int) (k : Int) : Nat → Int := if 7 ≤ k then slipF (inkF σ k) 6 else inkF σ k
/-- whether a print would be right -/
def rtF (σ : Nat → Int) (D k : Int) : Int := if shw σ 6 = D ∧ fbN σ k 6 = 0 ∧ sbN σ k 6 = 0 then 1 else 0
theorem okS_ink {σ : Nat → Int} (h : OkS σ) {k : Int} (hk : 0 ≤ k ∧ k ≤ 9) : OkS (inkF σ k) := by
  have hw := okS_wear h hk 6 (by omega)
  unfold inkF
  generalize wearF σ k 6 = τ at hw ⊢
  obtain ⟨h0, h1, h2, h4, hq⟩ := hw
  refine ⟨?_, ?_, ?_, ?_, fun q hqq => ?_⟩
  · rw [fu_n (by omega)]; exact h0
  · rw [fu_n (by omega)]; exact h1
  · rw [fu_n (by omega)]; exact h2
  · rw [fu_s]; omega
  · obtain ⟨q1, q2, q3, q4⟩ := hq q hqq
    refine ⟨?_, ?_, ?_, fun e he => ?_⟩
    · rw [fu_n (by omega)]; exact q1
    · rw [fu_n (by omega)]; exact q2
    · rw [fu_n (by omega)]; exact q3
    · rw [fu_n (by omega)]; exact q4 e he
theorem okS_once {σ : Nat → Int} (h : OkS σ) {k : Int} (hk : 0 ≤ k ∧ k ≤ 9) : OkS (onceF σ k) := by
  unfold onceF
  split
  · exact okS_slip (okS_ink h hk) 6 (by omega)
  · exact okS_ink h hk
def nOnce (σ : Nat → Int) (k : Int) : Nat → (Nat → Int)
  | 0 => σ
  | j + 1 => onceF (nOnce σ k j) k
theorem okS_n {σ : Nat → Int} (h : OkS σ) {k : Int} (hk : 0 ≤ k ∧ k ≤ 9) : ∀ j, OkS (nOnce σ k j) := by
  intro j
  induction j with
  | zero => exact h
  | succ j ih => exact okS_once ih hk
/-- whether so many prints are all right -/
def okN (σ : Nat → Int) (D k : Int) : Nat → Int
  | 0 => 1
  | j + 1 => if okN σ D k j = 1 ∧ rtF (nOnce σ k j) D k = 1 then 1 else 0
theorem okN_01 (σ : Nat → Int) (D k : Int) : ∀ j, okN σ D k j = 0 ∨ okN σ D k j = 1 := by
  intro j
  cases j with
  | zero => exact Or.inr rfl
  | succ j =>
    show (if okN σ D k j = 1 ∧ rtF (nOnce σ k j) D k = 1 then 1 else 0) = (0 : Int) ∨ (if okN σ D k j = 1 ∧ rtF (nOnce σ k j) D k = 1 then 1 else 0) = (1 : Int)
    split
    · exact Or.inr rfl
    · exact Or.inl rfl
theorem okN_0 {σ : Nat → Int} {D k : Int} {i j : Nat} (h : i ≤ j) (h0 : okN σ D k i = 0) : okN σ D k j = 0 := by
  induction j with
  | zero => rw [show i = 0 by omega] at h0; exact h0
  | succ j ih =>
    by_cases e : i = j + 1
    · rw [← e]; exact h0
    · show (if okN σ D k j = 1 ∧ rtF (nOnce σ k j) D k = 1 then 1 else 0) = (0 : Int)
      rw [if_neg (by rw [ih (by omega)]; omega)]
theorem rtF_01 (σ : Nat → Int) (D k : Int) : rtF σ D k = 0 ∨ rtF σ D k = 1 := by
  unfold rtF
  split
  · exact Or.inr rfl
  · exact Or.inl rfl
/-- bands change places -/
def tpl (a b p : Nat) : Nat := if p = b then a else if p = a then b else p
def swp (π : Nat → Nat) (a b : Nat) : Nat → Nat := fun p => π (tpl a b p)
def swpS (σ : Nat → Int) (a b : Nat) : Nat → Int := fun j => if 85 ≤ j ∧ j < 163 then σ (85 + 13 * tpl a b ((j - 85) / 13) + (j - 85) % 13) else σ j
theorem tpl_lt {a b p : Nat} (ha : a < 6) (hb : b < 6) (hp : p < 6) : tpl a b p < 6 := by
  unfold tpl
  split
  · exact ha
  · split
    · exact hb
    · exact hp
theorem tpl_inj {a b p q : Nat} (h : tpl a b p = tpl a b q) : p = q := by
  unfold tpl at h
  repeat' (split at h)
  all_goals omega
theorem swpS_at {σ : Nat → Int} {a b p r : Nat} (hp : p < 6) (hr : r < 13) : swpS σ a b (85 + 13 * p + r) = σ (85 + 13 * tpl a b p + r) := by
  unfold swpS
  rw [if_pos (by omega), show (85 + 13 * p + r - 85) / 13 = p by omega, show (85 + 13 * p + r - 85) % 13 = r by omega]
theorem swpS_ot {σ : Nat → Int} {a b j : Nat} (h : j < 85 ∨ 163 ≤ j) : swpS σ a b j = σ j := if_neg (by omega)
theorem okS_swp {σ : Nat → Int} (h : OkS σ) {a b : Nat} (ha : a < 6) (hb : b < 6) : OkS (swpS σ a b) := by
  obtain ⟨h0, h1, h2, h4, hq⟩ := h
  refine ⟨?_, ?_, ?_, ?_, fun q hqq => ?_⟩
  · rw [swpS_ot (by omega)]; exact h0
  · rw [swpS_ot (by omega)]; exact h1
  · rw [swpS_ot (by omega)]; exact h2
  · rw [swpS_ot (by omega)]; exact h4
  · obtain ⟨q1, q2, q3, q4⟩ := hq (tpl a b q) (tpl_lt ha hb hqq)
    have e0 := swpS_at (σ := σ) (a := a) (b := b) (p := q) (r := 0) hqq (by omega)
    have e1 := swpS_at (σ := σ) (a := a) (b := b) (p := q) (r := 1) hqq (by omega)
    have e2 := swpS_at (σ := σ) (a := a) (b := b) (p := q) (r := 2) hqq (by omega)
    rw [show 85 + 13 * q + 1 = 86 + 13 * q by omega, show 85 + 13 * tpl a b q + 1 = 86 + 13 * tpl a b q by omega] at e1
    rw [show 85 + 13 * q + 2 = 87 + 13 * q by omega, show 85 + 13 * tpl a b q + 2 = 87 + 13 * tpl a b q by omega] at e2
    refine ⟨by rw [show 85 + 13 * q = 85 + 13 * q + 0 from rfl, e0]; exact q1, by rw [e1]; exact q2, by rw [e2]; exact q3, fun e he => ?_⟩
    have e3 := swpS_at (σ := σ) (a := a) (b := b) (p := q) (r := 3 + e) hqq (by omega)
    rw [show 85 + 13 * q + (3 + e) = 88 + 13 * q + e by omega, show 85 + 13 * tpl a b q + (3 + e) = 88 + 13 * tpl a b q + e by omega] at e3
    rw [e3]
    exact q4 e he
theorem IsSt.sw {G : wG} {μ : hM} {st : Nat} {π : Nat → Nat} {σ : Nat → Int} {fp sp : Int} (h : IsSt G μ st π σ fp sp) {a b : Nat} (ha : a < 6) (hb : b < 6) : IsSt G (hu μ (st + 1) (.inl (G.2.1 2, 6, .inr (.inr (.inr (.inr (qu (qu (fun p => some (st + 2 + 2 * π p)) a (st + 2 + 2 * π b)) b (st + 2 + 2 * π a)))))))) st (swp π a b) (swpS σ a b) fp sp := by
  obtain ⟨h1, h2, h3, h4, h5, h6, h7⟩ := h
  have hq : (qu (qu (fun p => some (st + 2 + 2 * π p)) a (st + 2 + 2 * π b)) b (st + 2 + 2 * π a)) = fun p => some (st + 2 + 2 * swp π a b p) := by
    funext p
    unfold qu swp tpl
    by_cases e1 : p = b
    · simp [e1]
    · by_cases e2 : p = a
      · have e3 : ¬ a = b := by omega
        simp [e2, e3]
      · simp [e1, e2]
  rw [hq]
  refine ⟨?_, hu_s, ?_, fun p hp => ?_, fun p hp => ?_, fun p hp => h6 _ (tpl_lt ha hb hp), fun p q hp hq e => tpl_inj (h7 _ _ (tpl_lt ha hb hp) (tpl_lt ha hb hq) e)⟩
  · rw [swpS_ot (by omega), swpS_ot (by omega), swpS_ot (by omega)]; exact hu_n' (by omega) h1
  · rw [row3_cg (fun j hj => swpS_ot (by omega))]; exact hu_n' (by omega) h3
  · have hbd := h4 _ (tpl_lt ha hb hp)
    have hlt := h6 _ (tpl_lt ha hb hp)
    have e0 := swpS_at (σ := σ) (a := a) (b := b) (p := p) (r := 0) hp (by omega)
    have e1 := swpS_at (σ := σ) (a := a) (b := b) (p := p) (r := 1) hp (by omega)
    have e2 := swpS_at (σ := σ) (a := a) (b := b) (p := p) (r := 2) hp (by omega)
    rw [show 85 + 13 * p + 1 = 86 + 13 * p by omega, show 85 + 13 * tpl a b p + 1 = 86 + 13 * tpl a b p by omega] at e1
    rw [show 85 + 13 * p + 2 = 87 + 13 * p by omega, show 85 + 13 * tpl a b p + 2 = 87 + 13 * tpl a b p by omega] at e2
    rw [e1, e2, show swpS σ a b (85 + 13 * p) = _ from e0]
    exact hu_n' (by unfold swp; omega) hbd
  · have hw := h5 _ (tpl_lt ha hb hp)
    have hlt := h6 _ (tpl_lt ha hb hp)
    rw [roww_cg (τ := swpS σ a b) (σ := σ) (p := p) (q := tpl a b p) (fun j hj => by
      have e3 := swpS_at (σ := σ) (a := a) (b := b) (p := p) (r := 3 + j) hp (by omega)
      rw [show 85 + 13 * p + (3 + j) = 88 + 13 * p + j by omega, show 85 + 13 * tpl a b p + (3 + j) = 88 + 13 * tpl a b p + j by omega] at e3
      exact e3)]
    exact hu_n' (by unfold swp; omega) hw
theorem cp_at {σ τ : Nat → Int} {k : Int} {p r : Nat} (hr : r < 13) : cpF σ τ k (85 + 13 * p + r) = if (p : Int) < k then τ (85 + 13 * p + r) else σ (85 + 13 * p + r) := by
  unfold cpF
  by_cases h : (p : Int) < k
  · rw [if_pos (by omega), if_pos h]
  · rw [if_neg (by omega), if_neg h]
def cp3 (σ τ : Nat → Int) : Nat → Int := fun j => if j < 3 then τ j else σ j
theorem row3_cp3 (σ τ : Nat → Int) (j : Nat) : (if j < 3 then row3 τ j else row3 σ j) = row3 (cp3 σ τ) j := by
  unfold row3 cp3
  by_cases hj : j < 3 <;> simp [hj]
theorem cp_all (σ τ : Nat → Int) (j : Nat) (hj : j < 3 ∨ j = 4 ∨ j = 9 ∨ j = 10 ∨ (85 ≤ j ∧ j < 163)) : fu (fu (fu (cp3 (cpF σ τ 6) τ) 4 (τ 4)) 9 (τ 9)) 10 (τ 10) j = τ j := by
  by_cases h10 : j = 10
  · rw [h10, fu_s]
  · rw [fu_n h10]
    by_cases h9 : j = 9
    · rw [h9, fu_s]
    · rw [fu_n h9]
      by_cases h4 : j = 4
      · rw [h4, fu_s]
      · rw [fu_n h4]
        unfold cp3 cpF
        by_cases h3 : j < 3
        · rw [if_pos h3]
        · rw [if_neg h3, if_pos (by omega)]
