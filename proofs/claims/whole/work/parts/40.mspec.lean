/-! the model: one object and six rows of numbers -/
def IsMM (G : wG) (μ : hM) (yy : Nat) (σ α β κ χ ω : Nat → Int) (kn ik ln en fr pl wr : Int) : Prop :=
  μ yy = some (.inr (8, [.ref (yy + 1), .ref (yy + 2), .ref (yy + 3), .int (iv kn), .ref (yy + 4), .int (iv ik), .ref (yy + 5), .int (iv ln), .ref (yy + 6), .int (iv en), .int (iv fr), .int (iv pl), .int (iv wr)])) ∧
  μ (yy + 1) = some (.inl (G.2.1 0, 163, .inl (fun j => iv (σ j)))) ∧
  μ (yy + 2) = some (.inl (G.2.1 0, 163, .inl (fun j => iv (α j)))) ∧
  μ (yy + 3) = some (.inl (G.2.1 0, 652, .inl (fun j => iv (β j)))) ∧
  μ (yy + 4) = some (.inl (G.2.1 0, 163, .inl (fun j => iv (κ j)))) ∧
  μ (yy + 5) = some (.inl (G.2.1 0, 60, .inl (fun j => iv (χ j)))) ∧
  μ (yy + 6) = some (.inl (G.2.1 0, 24000, .inl (fun j => iv (ω j))))
/-- what stays: all but the model's own cells -/
def MFr (yy : Nat) (μ ν : hM) : Prop := ∀ q, (q < yy ∨ yy + 7 ≤ q) → ν q = μ q
theorem MFr.rf {yy : Nat} {μ : hM} : MFr yy μ μ := fun _ _ => rfl
theorem MFr.tr {yy : Nat} {μ ν ξ : hM} (h : MFr yy μ ν) (h2 : MFr yy ν ξ) : MFr yy μ ξ := fun q hq => (h2 q hq).trans (h q hq)
theorem MFr.hu {yy a : Nat} {μ ν : hM} {e : va_E} (h : MFr yy μ ν) (ha : yy ≤ a ∧ a < yy + 7) : MFr yy μ (hu ν a e) := fun q hq => (hu_n (by omega)).trans (h q hq)
section MM
variable {G : wG} {μ ν : hM} {n yy : Nat} {H : Heap} {σ α β κ χ ω : Nat → Int} {kn ik ln en fr pl wr : Int}
theorem IsMM.mn (h : IsMM G μ yy σ α β κ χ ω kn ik ln en fr pl wr) (hq : ∀ q e, yy ≤ q → q < yy + 7 → μ q = some e → ν q = some e) : IsMM G ν yy σ α β κ χ ω kn ik ln en fr pl wr := by
  obtain ⟨h0, h1, h2, h3, h4, h5, h6⟩ := h
  exact ⟨hq _ _ (by omega) (by omega) h0, hq _ _ (by omega) (by omega) h1, hq _ _ (by omega) (by omega) h2, hq _ _ (by omega) (by omega) h3, hq _ _ (by omega) (by omega) h4, hq _ _ (by omega) (by omega) h5, hq _ _ (by omega) (by omega) h6⟩
theorem IsMM.w0 (h : IsMM G ν yy σ α β κ χ ω kn ik ln en fr pl wr) (hf : MFr yy μ ν) {kn2 ik2 ln2 en2 fr2 pl2 wr2 : Int} (hH : gP G (hu ν yy (.inr (8, [.ref (yy + 1), .ref (yy + 2), .ref (yy + 3), .int (iv kn2), .ref (yy + 4), .int (iv ik2), .ref (yy + 5), .int (iv ln2), .ref (yy + 6), .int (iv en2), .int (iv fr2), .int (iv pl2), .int (iv wr2)]))) n H) : ∃ ξ : hM, IsMM G ξ yy σ α β κ χ ω kn2 ik2 ln2 en2 fr2 pl2 wr2 ∧ MFr yy μ ξ ∧ gP G ξ n H := by
  obtain ⟨h0, h1, h2, h3, h4, h5, h6⟩ := h
  exact ⟨_, ⟨hu_s, hu_n' (by omega) h1, hu_n' (by omega) h2, hu_n' (by omega) h3, hu_n' (by omega) h4, hu_n' (by omega) h5, hu_n' (by omega) h6⟩, hf.hu (by omega), hH⟩
theorem IsMM.w1 (h : IsMM G ν yy σ α β κ χ ω kn ik ln en fr pl wr) (hf : MFr yy μ ν) {τ : Nat → Int} (hH : gP G (hu ν (yy + 1) (.inl (G.2.1 0, 163, .inl (fun j => iv (τ j))))) n H) : ∃ ξ : hM, IsMM G ξ yy τ α β κ χ ω kn ik ln en fr pl wr ∧ MFr yy μ ξ ∧ gP G ξ n H := by
  obtain ⟨h0, h1, h2, h3, h4, h5, h6⟩ := h
  exact ⟨_, ⟨hu_n' (by omega) h0, hu_s, hu_n' (by omega) h2, hu_n' (by omega) h3, hu_n' (by omega) h4, hu_n' (by omega) h5, hu_n' (by omega) h6⟩, hf.hu (by omega), hH⟩
theorem IsMM.w2 (h : IsMM G ν yy σ α β κ χ ω kn ik ln en fr pl wr) (hf : MFr yy μ ν) {τ : Nat → Int} (hH : gP G (hu ν (yy + 2) (.inl (G.2.1 0, 163, .inl (fun j => iv (τ j))))) n H) : ∃ ξ : hM, IsMM G ξ yy σ τ β κ χ ω kn ik ln en fr pl wr ∧ MFr yy μ ξ ∧ gP G ξ n H := by
  obtain ⟨h0, h1, h2, h3, h4, h5, h6⟩ := h
  exact ⟨_, ⟨hu_n' (by omega) h0, hu_n' (by omega) h1, hu_s, hu_n' (by omega) h3, hu_n' (by omega) h4, hu_n' (by omega) h5, hu_n' (by omega) h6⟩, hf.hu (by omega), hH⟩
theorem IsMM.w3 (h : IsMM G ν yy σ α β κ χ ω kn ik ln en fr pl wr) (hf : MFr yy μ ν) {τ : Nat → Int} (hH : gP G (hu ν (yy + 3) (.inl (G.2.1 0, 652, .inl (fun j => iv (τ j))))) n H) : ∃ ξ : hM, IsMM G ξ yy σ α τ κ χ ω kn ik ln en fr pl wr ∧ MFr yy μ ξ ∧ gP G ξ n H := by
  obtain ⟨h0, h1, h2, h3, h4, h5, h6⟩ := h
  exact ⟨_, ⟨hu_n' (by omega) h0, hu_n' (by omega) h1, hu_n' (by omega) h2, hu_s, hu_n' (by omega) h4, hu_n' (by omega) h5, hu_n' (by omega) h6⟩, hf.hu (by omega), hH⟩
theorem IsMM.w4 (h : IsMM G ν yy σ α β κ χ ω kn ik ln en fr pl wr) (hf : MFr yy μ ν) {τ : Nat → Int} (hH : gP G (hu ν (yy + 4) (.inl (G.2.1 0, 163, .inl (fun j => iv (τ j))))) n H) : ∃ ξ : hM, IsMM G ξ yy σ α β τ χ ω kn ik ln en fr pl wr ∧ MFr yy μ ξ ∧ gP G ξ n H := by
  obtain ⟨h0, h1, h2, h3, h4, h5, h6⟩ := h
  exact ⟨_, ⟨hu_n' (by omega) h0, hu_n' (by omega) h1, hu_n' (by omega) h2, hu_n' (by omega) h3, hu_s, hu_n' (by omega) h5, hu_n' (by omega) h6⟩, hf.hu (by omega), hH⟩
theorem IsMM.w5 (h : IsMM G ν yy σ α β κ χ ω kn ik ln en fr pl wr) (hf : MFr yy μ ν) {τ : Nat → Int} (hH : gP G (hu ν (yy + 5) (.inl (G.2.1 0, 60, .inl (fun j => iv (τ j))))) n H) : ∃ ξ : hM, IsMM G ξ yy σ α β κ τ ω kn ik ln en fr pl wr ∧ MFr yy μ ξ ∧ gP G ξ n H := by
  obtain ⟨h0, h1, h2, h3, h4, h5, h6⟩ := h
  exact ⟨_, ⟨hu_n' (by omega) h0, hu_n' (by omega) h1, hu_n' (by omega) h2, hu_n' (by omega) h3, hu_n' (by omega) h4, hu_s, hu_n' (by omega) h6⟩, hf.hu (by omega), hH⟩
theorem IsMM.w6 (h : IsMM G ν yy σ α β κ χ ω kn ik ln en fr pl wr) (hf : MFr yy μ ν) {τ : Nat → Int} (hH : gP G (hu ν (yy + 6) (.inl (G.2.1 0, 24000, .inl (fun j => iv (τ j))))) n H) : ∃ ξ : hM, IsMM G ξ yy σ α β κ χ τ kn ik ln en fr pl wr ∧ MFr yy μ ξ ∧ gP G ξ n H := by
  obtain ⟨h0, h1, h2, h3, h4, h5, h6⟩ := h
  exact ⟨_, ⟨hu_n' (by omega) h0, hu_n' (by omega) h1, hu_n' (by omega) h2, hu_n' (by omega) h3, hu_n' (by omega) h4, hu_n' (by omega) h5, hu_s⟩, hf.hu (by omega), hH⟩
/-- a row of numbers restated where it is told -/
theorem IsMM.c1 (h : IsMM G ν yy σ α β κ χ ω kn ik ln en fr pl wr) (hf : MFr yy μ ν) (hH : gP G ν n H) (τ : Nat → Int) (ht : ∀ j, j < 163 → σ j = τ j) : ∃ ξ : hM, IsMM G ξ yy τ α β κ χ ω kn ik ln en fr pl wr ∧ MFr yy μ ξ ∧ gP G ξ n H := h.w1 hf (hH.cgi h.2.1 (fun j hj => by rw [ht j hj]))
theorem IsMM.c2 (h : IsMM G ν yy σ α β κ χ ω kn ik ln en fr pl wr) (hf : MFr yy μ ν) (hH : gP G ν n H) (τ : Nat → Int) (ht : ∀ j, j < 163 → α j = τ j) : ∃ ξ : hM, IsMM G ξ yy σ τ β κ χ ω kn ik ln en fr pl wr ∧ MFr yy μ ξ ∧ gP G ξ n H := h.w2 hf (hH.cgi h.2.2.1 (fun j hj => by rw [ht j hj]))
end MM
/-- where two rows of numbers must be alike for the stamp to be -/
def EqS (τ σ : Nat → Int) : Prop := ∀ j, (j < 3 ∨ j = 4 ∨ j = 9 ∨ j = 10 ∨ (85 ≤ j ∧ j < 163)) → τ j = σ j
theorem EqS.rf {σ : Nat → Int} : EqS σ σ := fun _ _ => rfl
theorem EqS.fuE {τ σ : Nat → Int} (h : EqS τ σ) (i : Nat) (v : Int) : EqS (fu τ i v) (fu σ i v) := by
  intro j hj
  by_cases e : j = i
  · rw [e, fu_s, fu_s]
  · rw [fu_n e, fu_n e]; exact h j hj
theorem EqS.fl {τ σ : Nat → Int} (h : EqS τ σ) {i : Nat} (hi : ¬ (i < 3 ∨ i = 4 ∨ i = 9 ∨ i = 10 ∨ (85 ≤ i ∧ i < 163))) (v : Int) : EqS (fu τ i v) σ := by
  intro j hj
  rw [fu_n (show j ≠ i from fun e => by subst e; exact hi hj)]; exact h j hj
theorem EqS.ok {τ σ : Nat → Int} (h : EqS τ σ) (hs : OkS σ) : OkS τ := okS_cg hs (fun j hj => h j (by omega))
theorem EqS.drkE {τ σ : Nat → Int} (h : EqS τ σ) (hs : OkS σ) {p : Nat} (hp : p < 6) (k : Int) : drk τ p k = drk σ p k := by
  have h1 := (hs.2.2.2.2 p hp).2.1
  unfold drk
  rw [h 4 (by omega), h (86 + 13 * p) (by omega), h (88 + 13 * p + (σ (86 + 13 * p)).toNat) (by omega)]
theorem EqS.shwE {τ σ : Nat → Int} (h : EqS τ σ) : ∀ k, k ≤ 6 → shw τ k = shw σ k := by
  intro k
  induction k with
  | zero => intro _; rfl
  | succ k ih =>
    intro hk
    show 10 * shw τ k + τ (86 + 13 * k) = 10 * shw σ k + σ (86 + 13 * k)
    rw [ih (by omega), h (86 + 13 * k) (by omega)]
theorem EqS.fbE {τ σ : Nat → Int} (h : EqS τ σ) (hs : OkS σ) (k : Int) : ∀ p, p ≤ 6 → fbN τ k p = fbN σ k p := by
  intro p
  induction p with
  | zero => intro _; rfl
  | succ p ih =>
    intro hp
    show fbN τ k p + (if drk τ p k < τ 0 then 2 ^ p else 0) = fbN σ k p + (if drk σ p k < σ 0 then 2 ^ p else 0)
    rw [ih (by omega), h.drkE hs (by omega), h 0 (by omega)]
theorem EqS.sbE {τ σ : Nat → Int} (h : EqS τ σ) (hs : OkS σ) (k : Int) : ∀ p, p ≤ 6 → sbN τ k p = sbN σ k p := by
  intro p
  induction p with
  | zero => intro _; rfl
  | succ p ih =>
    intro hp
    show sbN τ k p + (if τ 1 < drk τ p k then 2 ^ p else 0) = sbN σ k p + (if σ 1 < drk σ p k then 2 ^ p else 0)
    rw [ih (by omega), h.drkE hs (by omega), h 1 (by omega)]
theorem EqS.rtE {τ σ : Nat → Int} (h : EqS τ σ) (hs : OkS σ) (D k : Int) : rtF τ D k = rtF σ D k := by
  unfold rtF
  rw [h.shwE 6 (by omega), h.fbE hs k 6 (by omega), h.sbE hs k 6 (by omega)]
theorem EqS.wear {τ σ : Nat → Int} (h : EqS τ σ) (hs : OkS σ) (k : Int) : ∀ p, p ≤ 6 → EqS (wearF τ k p) (wearF σ k p) := by
  intro p
  induction p with
  | zero => intro _; exact h
  | succ p ih =>
    intro hp
    have hi := ih (by omega)
    have h1 := (hs.2.2.2.2 p (by omega)).2.1
    show EqS (fu (wearF τ k p) (88 + 13 * p + (τ (86 + 13 * p)).toNat) (min 99 (wearF τ k p (88 + 13 * p + (τ (86 + 13 * p)).toNat) + (1 + k / 4)))) (fu (wearF σ k p) (88 + 13 * p + (σ (86 + 13 * p)).toNat) (min 99 (wearF σ k p (88 + 13 * p + (σ (86 + 13 * p)).toNat) + (1 + k / 4))))
    rw [h (86 + 13 * p) (by omega), hi (88 + 13 * p + (σ (86 + 13 * p)).toNat) (by omega)]
    exact hi.fuE _ _
theorem EqS.ink {τ σ : Nat → Int} (h : EqS τ σ) (hs : OkS σ) (k : Int) : EqS (inkF τ k) (inkF σ k) := by
  have hw := h.wear hs k 6 (by omega)
  unfold inkF
  rw [hw 4 (by omega)]
  exact hw.fuE _ _
theorem EqS.bsetE {τ σ : Nat → Int} (h : EqS τ σ) (p : Nat) (a b c : Int) : EqS (bset τ p a b c) (bset σ p a b c) := by
  intro j hj
  unfold bset
  split
  · rfl
  · split
    · rfl
    · split
      · rfl
      · exact h j hj
theorem EqS.slip {τ σ : Nat → Int} (h : EqS τ σ) : ∀ p, p ≤ 6 → EqS (slipF τ p) (slipF σ p) := by
  intro p
  induction p with
  | zero => intro _; exact h
  | succ p ih =>
    intro hp
    have hi := ih (by omega)
    show EqS (if slipF τ p 2 ≤ slipF τ p (87 + 13 * p) then fu (bset (slipF τ p) p (slipF τ p (85 + 13 * p)) ((slipF τ p (86 + 13 * p) + 1) % 10) 0) 10 (slipF τ p 10 + 1) else slipF τ p) (if slipF σ p 2 ≤ slipF σ p (87 + 13 * p) then fu (bset (slipF σ p) p (slipF σ p (85 + 13 * p)) ((slipF σ p (86 + 13 * p) + 1) % 10) 0) 10 (slipF σ p 10 + 1) else slipF σ p)
    rw [hi 2 (by omega), hi (87 + 13 * p) (by omega), hi (85 + 13 * p) (by omega), hi (86 + 13 * p) (by omega), hi 10 (by omega)]
    split
    · exact (hi.bsetE p _ _ _).fuE _ _
    · exact hi
theorem EqS.once {τ σ : Nat → Int} (h : EqS τ σ) (hs : OkS σ) (k : Int) : EqS (onceF τ k) (onceF σ k) := by
  unfold onceF
  split
  · exact (h.ink hs k).slip 6 (by omega)
  · exact h.ink hs k
theorem EqS.n {τ σ : Nat → Int} (h : EqS τ σ) (hs : OkS σ) {k : Int} (hk : 0 ≤ k ∧ k ≤ 9) : ∀ j, EqS (nOnce τ k j) (nOnce σ k j) := by
  intro j
  induction j with
  | zero => exact h
  | succ j ih => exact ih.once (okS_n hs hk j) k
theorem EqS.okE {τ σ : Nat → Int} (h : EqS τ σ) (hs : OkS σ) (D : Int) {k : Int} (hk : 0 ≤ k ∧ k ≤ 9) : ∀ j, okN τ D k j = okN σ D k j := by
  intro j
  induction j with
  | zero => rfl
  | succ j ih =>
    show (if okN τ D k j = 1 ∧ rtF (nOnce τ k j) D k = 1 then 1 else 0) = (if okN σ D k j = 1 ∧ rtF (nOnce σ k j) D k = 1 then (1 : Int) else 0)
    rw [ih, (h.n hs hk j).rtE (okS_n hs hk j)]
theorem EqS.wayE {τ σ : Nat → Int} (h : EqS τ σ) {p : Nat} (hp : p < 6) (d : Int) : way τ p d = way σ p d := by
  unfold way
  rw [h (86 + 13 * p) (by omega)]
theorem EqS.wsmE {τ σ : Nat → Int} (h : EqS τ σ) (D lo hi : Int) : wsm τ D lo hi = wsm σ D lo hi := by
  unfold wsm
  rw [h.wayE (p := 0) (by omega), h.wayE (p := 1) (by omega), h.wayE (p := 2) (by omega), h.wayE (p := 3) (by omega), h.wayE (p := 4) (by omega), h.wayE (p := 5) (by omega)]
theorem EqS.adjE {τ σ : Nat → Int} (h : EqS τ σ) (D : Int) : EqS (adj τ D) (adj σ D) := by
  intro j hj
  unfold adj adjF
  split
  · rw [h 9 (by omega), h.wsmE]
  · split
    · rfl
    · split
      · rename_i h1 h2 h3
        rw [h j hj, h.wayE (by omega)]
      · exact h j hj
/-- a number beside the stamp's goes through -/
theorem wsm_fu {σ : Nat → Int} {i : Nat} (hi : ¬ (i < 3 ∨ i = 4 ∨ i = 9 ∨ i = 10 ∨ (85 ≤ i ∧ i < 163))) (v D lo hi' : Int) : wsm (fu σ i v) D lo hi' = wsm σ D lo hi' := (EqS.rf.fl hi v).wsmE D lo hi'
theorem adj_fu {σ : Nat → Int} {i : Nat} (hi : ¬ (i < 3 ∨ i = 4 ∨ i = 9 ∨ i = 10 ∨ (85 ≤ i ∧ i < 163))) (hi2 : i < 163) (v D : Int) : adj (fu σ i v) D = fu (adj σ D) i v := by
  funext j
  by_cases e : j = i
  · rw [e, fu_s]
    unfold adj
    rw [adj_ot (by omega) (by omega), fu_s]
  · rw [fu_n e]
    by_cases hj : (j < 3 ∨ j = 4 ∨ j = 9 ∨ j = 10 ∨ (85 ≤ j ∧ j < 163))
    · exact (EqS.rf.fl hi v).adjE D j hj
    · unfold adj
      rw [adj_ot (by omega) (by omega), adj_ot (by omega) (by omega), fu_n e]
theorem once_fu {σ : Nat → Int} (hs : OkS σ) {i : Nat} (hi : ¬ (i < 3 ∨ i = 4 ∨ i = 9 ∨ i = 10 ∨ (85 ≤ i ∧ i < 163))) (hi2 : i < 163) (v k : Int) : onceF (fu σ i v) k = fu (onceF σ k) i v := by
  have hE : EqS (fu σ i v) σ := EqS.rf.fl hi v
  funext j
  by_cases e : j = i
  · rw [e, fu_s, once_ot (hE.ok hs) k (by omega), fu_s]
  · rw [fu_n e]
    by_cases hj : (j < 3 ∨ j = 4 ∨ j = 9 ∨ j = 10 ∨ (85 ≤ j ∧ j < 163))
    · exact hE.once hs k j hj
    · by_cases h9 : j = 9
      · omega
      · rw [once_ot (hE.ok hs) k (by omega), once_ot hs k (by omega), fu_n e]
theorem pr_fu {σ : Nat → Int} (hs : OkS σ) (v k : Int) : prF (fu σ 11 v) k = fu (prF σ k) 11 v := by
  have hE : EqS (fu σ 11 v) σ := EqS.rf.fl (by omega) v
  have h3 : fu σ 11 v 3 = σ 3 := fu_n (by omega)
  have hon := once_fu hs (i := 11) (by omega) (by omega) v k
  funext j
  unfold prF
  rw [hE.shwE 6 (by omega), hE.fbE hs k 6 (by omega), hE.sbE hs k 6 (by omega), h3, hE.rtE hs, hon, fu_n (f := σ) (k := 11) (j := 12) (by omega), fu_n (f := σ) (k := 11) (j := 5) (by omega), fu_n (f := σ) (k := 11) (j := 6) (by omega), fu_n (f := σ) (k := 11) (j := 7) (by omega), fu_n (f := σ) (k := 11) (j := 8) (by omega)]
  by_cases e : j = 11
  · subst e
    rw [fu_s, if_neg (by omega), if_neg (by omega), if_neg (by omega), if_neg (by omega), if_neg (by omega), if_neg (by omega), if_neg (by omega), if_neg (by omega), if_neg (by omega), if_neg (by omega), if_neg (by omega), if_neg (by omega), fu_s]
  · rw [fu_n (k := 11) e, fu_n (k := 11) e]
    by_cases h1 : 19 ≤ j ∧ j < 85
    · rw [if_pos h1, if_pos h1, fu_n (by omega)]
    · rw [if_neg h1, if_neg h1]
theorem nPr_fu {σ : Nat → Int} (hs : OkT σ) {k : Int} (hk : 1 ≤ k ∧ k ≤ 9) (v : Int) : ∀ j : Nat, σ 5 + j ≤ 2000000000 → nPr (fu σ 11 v) k j = fu (nPr σ k j) 11 v := by
  intro j
  induction j with
  | zero => intro _; rfl
  | succ j ih =>
    intro h5
    show prF (nPr (fu σ 11 v) k j) k = fu (prF (nPr σ k j) k) 11 v
    rw [ih (by omega), pr_fu (okT_n hs hk j (by omega)).1]
theorem nRt_fu {σ : Nat → Int} (hs : OkT σ) {k : Int} (hk : 1 ≤ k ∧ k ≤ 9) (v : Int) : ∀ j : Nat, σ 5 + j ≤ 2000000000 → nRt (fu σ 11 v) k j = nRt σ k j := by
  intro j
  induction j with
  | zero => intro _; rfl
  | succ j ih =>
    intro h5
    show nRt (fu σ 11 v) k j + rtF (nPr (fu σ 11 v) k j) (dig (nPr (fu σ 11 v) k j 3)) k = nRt σ k j + rtF (nPr σ k j) (dig (nPr σ k j 3)) k
    have hE : EqS (fu (nPr σ k j) 11 v) (nPr σ k j) := EqS.rf.fl (by omega) v
    rw [ih (by omega), nPr_fu hs hk v j (by omega), fu_n (by omega), hE.rtE (okT_n hs hk j (by omega)).1]
theorem fu_c {σ : Nat → Int} {i j : Nat} (h : i ≠ j) (a b : Int) : fu (fu σ i a) j b = fu (fu σ j b) i a := by
  funext q
  unfold fu
  by_cases h1 : q = i
  · subst h1; simp [h]
  · simp [h1]
theorem fu_u {σ : Nat → Int} {i : Nat} (a b : Int) : fu (fu σ i a) i b = fu σ i b := by
  funext q
  unfold fu
  by_cases h1 : q = i <;> simp [h1]
theorem fu_i {σ : Nat → Int} {i : Nat} {v : Int} (h : v = σ i) : fu σ i v = σ := by
  funext q
  unfold fu
  split
  · rename_i e; rw [e, h]
  · rfl
theorem nPr_11 {σ : Nat → Int} (hs : OkT σ) {k : Int} (hk : 1 ≤ k ∧ k ≤ 9) : ∀ j : Nat, σ 5 + j ≤ 2000000000 → nPr σ k j 11 = σ 11 := by
  intro j
  induction j with
  | zero => intro _; rfl
  | succ j ih =>
    intro h5
    show prF (nPr σ k j) k 11 = σ 11
    have h1 : prF (nPr σ k j) k 11 = onceF (nPr σ k j) k 11 := rfl
    rw [h1, once_ot (okT_n hs hk j (by omega)).1 k (by omega)]
    exact ih (by omega)
/-- the way by which a band is turned forward -/
def fwd (σ : Nat → Int) (D : Int) (p : Nat) : Int := (dAt D p - σ (86 + 13 * p)) % 10
theorem fwd_rng (σ : Nat → Int) (D : Int) (p : Nat) : 0 ≤ fwd σ D p ∧ fwd σ D p ≤ 9 := by
  unfold fwd
  omega
theorem fwd_ab (σ : Nat → Int) (D : Int) (p : Nat) : min (fwd σ D p) (10 - fwd σ D p) = ab (way σ p (dAt D p)) := by
  have hx := fwd_rng σ D p
  unfold way wayf ab
  unfold fwd at *
  generalize (dAt D p - σ (86 + 13 * p)) % 10 = x at *
  by_cases h : x ≤ 5
  · rw [if_pos h, if_pos (by omega)]; omega
  · rw [if_neg h, if_neg (by omega)]; omega
theorem fwd_way (σ : Nat → Int) (D : Int) (p : Nat) : (if fwd σ D p ≤ 5 then min (fwd σ D p) (10 - fwd σ D p) else -(min (fwd σ D p) (10 - fwd σ D p))) = way σ p (dAt D p) := by
  have hx := fwd_rng σ D p
  unfold way wayf
  unfold fwd at *
  generalize (dAt D p - σ (86 + 13 * p)) % 10 = x at *
  by_cases h : x ≤ 5
  · rw [if_pos h, if_pos h]; omega
  · rw [if_neg h, if_neg h]; omega
/-- one band turned, as the model does -/
theorem trn_m {σ : Nat → Int} {p : Nat} (hp : p < 6) {k t x y z : Int} (hk : 0 ≤ k ∧ k ≤ 9) (ht : t = k ∨ t = -k) (hx : x = (σ (86 + 13 * p) + t) % 10) (hy : y = min (σ (87 + 13 * p) + k) 99) (hz : z = σ 9 + k) : fu (fu (fu σ (86 + 13 * p) x) (87 + 13 * p) y) 9 z = trn σ p t := by
  have hab : ab t = k := by unfold ab; split <;> omega
  funext j
  unfold trn fu
  rw [hab, hx, hy, hz]
  by_cases e1 : j = 86 + 13 * p
  · rw [if_neg (by omega), if_neg (by omega), if_pos e1, if_pos e1, e1]
  · rw [if_neg (c := j = 86 + 13 * p) e1, if_neg (c := j = 86 + 13 * p) e1]
    by_cases e2 : j = 87 + 13 * p
    · rw [if_neg (by omega), if_pos e2, if_pos e2, e2]; exact Int.min_comm _ _
    · rw [if_neg (c := j = 87 + 13 * p) e2, if_neg (c := j = 87 + 13 * p) e2]
/-- bands of two places, changed so far -/
def swK (σ : Nat → Int) (p q k : Nat) : Nat → Int := fun j => if 85 + 13 * p ≤ j ∧ j < 85 + 13 * p + k then σ (85 + 13 * q + (j - (85 + 13 * p))) else if 85 + 13 * q ≤ j ∧ j < 85 + 13 * q + k then σ (85 + 13 * p + (j - (85 + 13 * q))) else σ j
theorem swK_0 (σ : Nat → Int) (p q : Nat) : swK σ p q 0 = σ := by
  funext j
  unfold swK
  rw [if_neg (by omega), if_neg (by omega)]
theorem swK_s {σ : Nat → Int} {p q k : Nat} (hpq : p ≠ q) (hk : k < 13) : fu (fu (swK σ p q k) (85 + 13 * p + k) (swK σ p q k (85 + 13 * q + k))) (85 + 13 * q + k) (swK σ p q k (85 + 13 * p + k)) = swK σ p q (k + 1) := by
  have hp : swK σ p q k (85 + 13 * p + k) = σ (85 + 13 * p + k) := by
    unfold swK; rw [if_neg (by omega), if_neg (by omega)]
  have hq : swK σ p q k (85 + 13 * q + k) = σ (85 + 13 * q + k) := by
    unfold swK; rw [if_neg (by omega), if_neg (by omega)]
  rw [hp, hq]
  funext j
  by_cases h1 : j = 85 + 13 * q + k
  · subst h1
    rw [fu_s]
    unfold swK
    rw [if_neg (by omega), if_pos (by omega)]
    congr 1; omega
  · rw [fu_n h1]
    by_cases h2 : j = 85 + 13 * p + k
    · subst h2
      rw [fu_s]
      unfold swK
      rw [if_pos (by omega)]
      congr 1; omega
    · rw [fu_n h2]
      unfold swK
      by_cases h3 : 85 + 13 * p ≤ j ∧ j < 85 + 13 * p + k
      · rw [if_pos h3, if_pos (by omega)]
      · rw [if_neg h3, if_neg (c := 85 + 13 * p ≤ j ∧ j < 85 + 13 * p + (k + 1)) (by omega)]
        by_cases h4 : 85 + 13 * q ≤ j ∧ j < 85 + 13 * q + k
        · rw [if_pos h4, if_pos (by omega)]
        · rw [if_neg h4, if_neg (by omega)]
theorem swK_13 {σ : Nat → Int} {p q : Nat} (hp : p < 6) (hq : q < 6) : swK σ p q 13 = swpS σ p q := by
  funext j
  by_cases h : 85 ≤ j ∧ j < 163
  · have e : j = 85 + 13 * ((j - 85) / 13) + (j - 85) % 13 := by omega
    have hr : (j - 85) % 13 < 13 := by omega
    have hb : (j - 85) / 13 < 6 := by omega
    generalize (j - 85) / 13 = b at e hb
    generalize (j - 85) % 13 = r at e hr
    subst e
    rw [swpS_at hb hr]
    unfold swK tpl
    by_cases h1 : b = p
    · subst h1
      rw [if_pos (by omega)]
      by_cases h2 : b = q
      · rw [if_pos h2]; congr 1; omega
      · rw [if_neg h2, if_pos rfl]; congr 1; omega
    · rw [if_neg (by omega)]
      by_cases h2 : b = q
      · subst h2
        rw [if_pos (by omega), if_pos rfl]; congr 1; omega
      · rw [if_neg (by omega), if_neg h2, if_neg h1]
  · rw [swpS_ot (by omega)]
    unfold swK
    rw [if_neg (by omega), if_neg (by omega)]
/-- the least of some numbers, the first one that is -/
def bleix (f : Nat → Int) : Nat → Nat
  | 0 => 0
  | k + 1 => if f (k + 1) < f (bleix f k) then k + 1 else bleix f k
theorem bleix_le (f : Nat → Int) : ∀ k, bleix f k ≤ k := by
  intro k
  induction k with
  | zero => exact Nat.le_refl _
  | succ k ih =>
    show (if f (k + 1) < f (bleix f k) then k + 1 else bleix f k) ≤ k + 1
    split <;> omega
theorem bleix_v {f : Nat → Int} (h0 : f 0 ≤ 99) : ∀ k, bleast f (k + 1) = f (bleix f k) := by
  intro k
  induction k with
  | zero =>
    show min 99 (f 0) = f 0
    omega
  | succ k ih =>
    show min (bleast f (k + 1)) (f (k + 1)) = f (if f (k + 1) < f (bleix f k) then k + 1 else bleix f k)
    rw [ih]
    split <;> omega
/-- the prints moved, down to a row -/
def shK (σ : Nat → Int) (k : Int) : Nat → Int := fun j => if (13 + k : Int) < j ∧ j < 85 then σ (j - 6) else σ j
theorem shK_s {σ : Nat → Int} {k : Int} (hk : 6 ≤ k ∧ k ≤ 71) : fu (shK σ k) (13 + k).toNat (shK σ k (13 + k - 6).toNat) = shK σ (k - 1) := by
  have h1 : shK σ k (13 + k - 6).toNat = σ ((13 + k).toNat - 6) := by
    unfold shK
    rw [if_neg (by omega)]
    congr 1
    omega
  rw [h1]
  funext j
  by_cases e : j = (13 + k).toNat
  · subst e
    rw [fu_s]
    unfold shK
    rw [if_pos (by omega)]
  · rw [fu_n e]
    unfold shK
    by_cases h : (13 + k : Int) < j ∧ j < 85
    · rw [if_pos h, if_pos (by omega)]
    · rw [if_neg h, if_neg (by omega)]
theorem shK_71 (σ : Nat → Int) : shK σ 71 = σ := by
  funext j
  unfold shK
  rw [if_neg (by omega)]
theorem shK_e {σ : Nat → Int} {k : Int} (hk : 5 ≤ k) : EqS (shK σ k) σ := by
  intro j hj
  unfold shK
  rw [if_neg (by omega)]
theorem shK_n {σ : Nat → Int} {j : Nat} (h : j < 19) : shK σ 5 j = σ j := by
  unfold shK
  rw [if_neg (by omega)]
/-- a print, as the model keeps it -/
theorem pr_m {σ : Nat → Int} (hs : OkS σ) {k : Int} {v12 v6 v7 v8 rt f s : Int} (h12 : v12 = min 12 (σ 12 + 1)) (hrt : rt = rtF σ (dig (σ 3)) k) (hf : f = (fbN σ k 6 : Int)) (hsb : s = (sbN σ k 6 : Int)) (h6 : v6 = σ 6 + rt) (h7 : v7 = σ 7 + (pc6 (fbN σ k 6) : Int)) (h8 : v8 = σ 8 + (pc6 (sbN σ k 6) : Int)) : onceF (fu (fu (fu (fu (fu (fu (fu (fu (fu (fu (fu (shK σ 5) 13 (shw σ 6)) 14 (σ 3)) 15 f) 16 s) 17 rt) 18 k) 12 v12) 5 (σ 5 + 1)) 6 v6) 7 v7) 8 v8) k = prF σ k := by
  have hE : EqS (fu (fu (fu (fu (fu (fu (fu (fu (fu (fu (fu (shK σ 5) 13 (shw σ 6)) 14 (σ 3)) 15 f) 16 s) 17 rt) 18 k) 12 v12) 5 (σ 5 + 1)) 6 v6) 7 v7) 8 v8) σ := ((((((((((((shK_e (by omega)).fl (by omega) _).fl (by omega) _).fl (by omega) _).fl (by omega) _).fl (by omega) _).fl (by omega) _).fl (by omega) _).fl (by omega) _).fl (by omega) _).fl (by omega) _).fl (by omega) _)
  have hO := hE.ok hs
  funext j
  by_cases hj : (j < 3 ∨ j = 4 ∨ j = 9 ∨ j = 10 ∨ (85 ≤ j ∧ j < 163))
  · rw [hE.once hs k j hj, prF_st σ k (by omega)]
  · rw [once_ot hO k (by omega)]
    unfold prF
    by_cases h1 : 19 ≤ j ∧ j < 85
    · rw [if_pos h1, fu_n (by omega), fu_n (by omega), fu_n (by omega), fu_n (by omega), fu_n (by omega), fu_n (by omega), fu_n (by omega), fu_n (by omega), fu_n (by omega), fu_n (by omega), fu_n (by omega)]
      unfold shK
      rw [if_pos (by omega)]
    · rw [if_neg h1]
      by_cases e13 : j = 13
      · subst e13; rw [if_pos rfl]; rfl
      rw [if_neg e13]
      by_cases e14 : j = 14
      · subst e14; rw [if_pos rfl]; rfl
      rw [if_neg e14]
      by_cases e15 : j = 15
      · subst e15; rw [if_pos rfl, ← hf]; rfl
      rw [if_neg e15]
      by_cases e16 : j = 16
      · subst e16; rw [if_pos rfl, ← hsb]; rfl
      rw [if_neg e16]
      by_cases e17 : j = 17
      · subst e17; rw [if_pos rfl, ← hrt]; rfl
      rw [if_neg e17]
      by_cases e18 : j = 18
      · subst e18; rw [if_pos rfl]; rfl
      rw [if_neg e18]
      by_cases e12 : j = 12
      · subst e12; rw [if_pos rfl, ← h12]; rfl
      rw [if_neg e12]
      by_cases e5 : j = 5
      · subst e5; rw [if_pos rfl]; rfl
      rw [if_neg e5]
      by_cases e6 : j = 6
      · subst e6; rw [if_pos rfl, ← hrt, ← h6]; rfl
      rw [if_neg e6]
      by_cases e7 : j = 7
      · subst e7; rw [if_pos rfl, ← h7]; rfl
      rw [if_neg e7]
      by_cases e8 : j = 8
      · subst e8; rw [if_pos rfl, ← h8]; rfl
      rw [if_neg e8, fu_n e8, fu_n e7, fu_n e6, fu_n e5, fu_n e12, fu_n e18, fu_n e17, fu_n e16, fu_n e15, fu_n e14, fu_n e13, once_ot hs k (by omega)]
      unfold shK
      rw [if_neg (by omega)]
theorem bit_shk : ∀ k : Nat, k < 6 → ∀ P : Nat, P < 64 → iv (P : Int) >>> (iv (k : Int) &&& 31) = iv ((P / 2 ^ k : Nat) : Int) := by decide +kernel
theorem bit_or6 : ∀ a : Nat, a < 64 → ∀ b : Nat, b < 64 → iv (a : Int) ||| iv (b : Int) = iv ((a ||| b : Nat) : Int) := by decide +kernel
theorem or_0 : ∀ a : Nat, a < 64 → ∀ b : Nat, b < 64 → (a ||| b = 0 ↔ a = 0 ∧ b = 0) := by decide +kernel
theorem or_lt : ∀ a : Nat, a < 64 → ∀ b : Nat, b < 64 → a ||| b < 64 := by decide +kernel
theorem slip_m {τ : Nat → Int} {p : Nat} {x : Int} : fu (fu (fu τ (86 + 13 * p) x) (87 + 13 * p) 0) 10 (τ 10 + 1) = fu (bset τ p (τ (85 + 13 * p)) x 0) 10 (τ 10 + 1) := by
  congr 1
  funext j
  unfold bset fu
  by_cases h2 : j = 87 + 13 * p
  · subst h2
    rw [if_pos rfl, if_neg (by omega), if_neg (by omega), if_pos rfl]
  · rw [if_neg h2]
    by_cases h1 : j = 86 + 13 * p
    · subst h1
      rw [if_pos rfl, if_neg (by omega), if_pos rfl]
    · rw [if_neg h1]
      by_cases h0 : j = 85 + 13 * p
      · subst h0; rw [if_pos rfl]
      · rw [if_neg h0, if_neg h1, if_neg h2]
