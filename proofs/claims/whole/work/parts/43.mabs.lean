/-- a row copied so far -/
def cpK (σ α : Nat → Int) (k : Nat) : Nat → Int := fun j => if j < k then σ j else α j
theorem cpK_0 (σ α : Nat → Int) : cpK σ α 0 = α := by
  funext j
  exact if_neg (by omega)
theorem cpK_s {σ α : Nat → Int} {k : Nat} : fu (cpK σ α k) k (σ k) = cpK σ α (k + 1) := by
  funext j
  unfold fu cpK
  by_cases e : j = k
  · subst e; rw [if_pos rfl, if_pos (by omega)]
  · rw [if_neg e]
    by_cases h : j < k
    · rw [if_pos h, if_pos (by omega)]
    · rw [if_neg h, if_neg (by omega)]
theorem cpK_at {σ α : Nat → Int} {k j : Nat} (h : j < k) : cpK σ α k j = σ j := if_pos h
/-- the remembered states moved ahead so far -/
def shB (β : Nat → Int) (k : Nat) : Nat → Int := fun j => if j < k then β (163 + j) else β j
theorem shB_0 (β : Nat → Int) : shB β 0 = β := by
  funext j
  exact if_neg (by omega)
theorem shB_s {β : Nat → Int} {k : Nat} : fu (shB β k) k (shB β k (163 + k)) = shB β (k + 1) := by
  have h1 : shB β k (163 + k) = β (163 + k) := if_neg (by omega)
  rw [h1]
  funext j
  unfold fu shB
  by_cases e : j = k
  · subst e; rw [if_pos rfl, if_pos (by omega)]
  · rw [if_neg e]
    by_cases h : j < k
    · rw [if_pos h, if_pos (by omega)]
    · rw [if_neg h, if_neg (by omega)]
/-- a state put behind the others so far -/
def putK (β α : Nat → Int) (q k : Nat) : Nat → Int := fun j => if 163 * q ≤ j ∧ j < 163 * q + k then α (j - 163 * q) else β j
theorem putK_0 (β α : Nat → Int) (q : Nat) : putK β α q 0 = β := by
  funext j
  exact if_neg (by omega)
theorem putK_s {β α : Nat → Int} {q k : Nat} : fu (putK β α q k) (163 * q + k) (α k) = putK β α q (k + 1) := by
  funext j
  unfold fu putK
  by_cases e : j = 163 * q + k
  · subst e; rw [if_pos rfl, if_pos (by omega)]; congr 1; omega
  · rw [if_neg e]
    by_cases h : 163 * q ≤ j ∧ j < 163 * q + k
    · rw [if_pos h, if_pos (by omega)]
    · rw [if_neg h, if_neg (by omega)]
theorem act_rel {α β βb : Nat → Int} {kn : Int} {q : Nat} (hq : (kn = 4 ∧ q = 3 ∧ (∀ j, j < 489 → βb j = β (163 + j))) ∨ (kn ≠ 4 ∧ (q : Int) = kn ∧ βb = β)) : ∀ r j, r < 4 → j < 163 → putK βb α q 163 (163 * r + j) = hiS kn (fun r j => β (163 * r + j)) α r j := by
  intro r j hr hj
  unfold hiS
  rcases hq with ⟨h4, rfl, hb⟩ | ⟨h4, hq, rfl⟩
  · rw [if_pos h4]
    unfold putK
    by_cases e : r = 3
    · subst e
      rw [if_pos (by omega)]
      try dsimp only
      rw [if_pos rfl]
      show α (163 * 3 + j - 163 * 3) = α j
      rw [show 163 * 3 + j - 163 * 3 = j by omega]
    · rw [if_neg (by omega)]
      try dsimp only
      rw [if_neg e, rot_lt _ (by omega), hb _ (by omega)]
      congr 1; omega
  · rw [if_neg h4]
    unfold putK
    try dsimp only
    by_cases e : r = kn.toNat
    · rw [if_pos e, if_pos (by omega)]
      congr 1; omega
    · rw [if_neg e, if_neg (by omega)]
/-! chains of days with right prints, in the pool -/
def SrtL : Int → List (Int × Int) → Prop
  | _, [] => True
  | b, (d, _) :: t => d ≤ b ∧ SrtL (d - 1) t
def PCh (ω : Nat → Int) : Int → List (Int × Int) → Prop
  | h, [] => h = 0
  | h, (d, c) :: t => 0 < h ∧ ω (4 * h - 4).toNat = d ∧ ω (4 * h - 3).toNat = c ∧ ω (4 * h - 1).toNat = (t.length : Int) + 1 ∧ ω (4 * h - 2).toNat < h ∧ PCh ω (ω (4 * h - 2).toNat) t
theorem PCh.pos {ω : Nat → Int} {h : Int} {ch : List (Int × Int)} (hc : PCh ω h ch) : 0 ≤ h := by
  cases ch with
  | nil => have q : h = 0 := hc; omega
  | cons x t => obtain ⟨d, c⟩ := x; have q : 0 < h := hc.1; omega
theorem PCh.fr {ω ω1 : Nat → Int} {e : Int} (hw : ∀ j : Nat, (j : Int) < 4 * e → ω1 j = ω j) : ∀ {ch : List (Int × Int)} {h : Int}, h ≤ e → PCh ω h ch → PCh ω1 h ch := by
  intro ch
  induction ch with
  | nil => intro h _ hc; exact hc
  | cons x t ih =>
    obtain ⟨d, c⟩ := x
    intro h he hc
    obtain ⟨h0, h1, h2, h3, h4, h5⟩ := hc
    have e4 := hw (4 * h - 4).toNat (by omega)
    have e3 := hw (4 * h - 3).toNat (by omega)
    have e2 := hw (4 * h - 2).toNat (by omega)
    have e1 := hw (4 * h - 1).toNat (by omega)
    refine ⟨h0, e4.trans h1, e3.trans h2, e1.trans h3, by rw [e2]; exact h4, ?_⟩
    rw [e2]
    exact ih (by omega) h5
def PD (ω : Nat → Int) (e : Int) (d : dT) : Prop := PCh ω (d.1 11) d.2 ∧ d.1 11 ≤ e ∧ SrtL (d.1 3) d.2
theorem SrtL.mono {a b : Int} {ch : List (Int × Int)} (h : SrtL a ch) (hab : a ≤ b) : SrtL b ch := by
  cases ch with
  | nil => exact True.intro
  | cons x t => obtain ⟨d, c⟩ := x; exact ⟨Int.le_trans h.1 hab, h.2⟩
theorem PD.st {ω : Nat → Int} {e : Int} {d : dT} (h : PD ω e d) {τ : Nat → Int} (h11 : τ 11 = d.1 11) (h3 : d.1 3 ≤ τ 3) : PD ω e (τ, d.2) := ⟨by show PCh ω (τ 11) d.2; rw [h11]; exact h.1, by show τ 11 ≤ e; rw [h11]; exact h.2.1, h.2.2.mono h3⟩
theorem PD.fr {ω ω1 : Nat → Int} {e e1 : Int} {d : dT} (h : PD ω e d) (hw : ∀ j : Nat, (j : Int) < 4 * e → ω1 j = ω j) (he : e ≤ e1) : PD ω1 e1 d := ⟨h.1.fr hw h.2.1, Int.le_trans h.2.1 he, h.2.2⟩
/-- what the model's numbers are -/
def IsMR (ω κ β : Nat → Int) (en : Int) (u : aS) : Prop :=
  PD ω en (aD u) ∧ (∀ r : Nat, r < 4 → (r : Int) < aN u → (∀ j, j < 163 → β (163 * r + j) = (aH u r).1 j) ∧ PD ω en (aH u r)) ∧ (aT u = 1 → (∀ j, j < 163 → κ j = (aK u).1 j) ∧ PD ω en (aK u)) ∧ 0 ≤ en ∧ (0 ≤ aN u ∧ aN u ≤ 4) ∧ (0 ≤ aT u ∧ aT u ≤ 1) ∧ OkC (aC u) (aL u)
def IsM (G : wG) (μ : hM) (yy : Nat) (u : aS) (en : Int) : Prop := ∃ (α β κ ω : Nat → Int) (fr pl wr : Int), IsMM G μ yy (aD u).1 α β κ (aC u) ω (aN u) (aT u) (aL u) en fr pl wr ∧ IsMR ω κ β en u
/-- a row at the state's place of its chain's head -/
def hd11 (u : aS) (h : Int) : aS := ((fu (aD u).1 11 h, (aD u).2), u.2)
theorem IsM.mn {G : wG} {μ ν : hM} {yy : Nat} {u : aS} {en : Int} (h : IsM G μ yy u en) (hq : ∀ q e, yy ≤ q → q < yy + 7 → μ q = some e → ν q = some e) : IsM G ν yy u en := by
  obtain ⟨α, β, κ, ω, fr, pl, wr, h1, h2⟩ := h
  exact ⟨α, β, κ, ω, fr, pl, wr, h1.mn hq, h2⟩
theorem IsMR.act {ω ω1 κ β β1 : Nat → Int} {u : aS} {en e1 : Int} {d : dT} (h : IsMR ω κ β en u) (hrel : ∀ r j, r < 4 → j < 163 → β1 (163 * r + j) = hiS (aN u) (fun r j => β (163 * r + j)) (aD u).1 r j) (he : en ≤ e1) (hw : ∀ j : Nat, (j : Int) < 4 * en → ω1 j = ω j) (hd : PD ω1 e1 d) : IsMR ω1 κ β1 e1 (aAct u d) := by
  obtain ⟨h1, h2, h3, h4, h5, h6, h7⟩ := h
  refine ⟨hd, fun r hr hrn => ?_, fun ht => ⟨(h3 ht).1, (h3 ht).2.fr hw he⟩, by omega, ?_, h6, h7⟩
  · have hrn2 : (r : Int) < min 4 (aN u + 1) := hrn
    show (∀ j, j < 163 → β1 (163 * r + j) = (hiS (aN u) (aH u) (aD u) r).1 j) ∧ PD ω1 e1 (hiS (aN u) (aH u) (aD u) r)
    have key : (∀ j, j < 163 → hiS (aN u) (fun r j => β (163 * r + j)) (aD u).1 r j = (hiS (aN u) (aH u) (aD u) r).1 j) ∧ PD ω en (hiS (aN u) (aH u) (aD u) r) := by
      unfold hiS
      by_cases e4 : aN u = 4
      · rw [if_pos e4, if_pos e4]
        try dsimp only
        by_cases e : r = 3
        · rw [if_pos e, if_pos e]
          exact ⟨fun j _ => rfl, h1⟩
        · rw [if_neg e, if_neg e, rot_lt _ (by omega), rot_lt _ (by omega)]
          exact h2 (r + 1) (by omega) (by omega)
      · rw [if_neg e4, if_neg e4]
        try dsimp only
        by_cases e : r = (aN u).toNat
        · rw [if_pos e, if_pos e]
          exact ⟨fun j _ => rfl, h1⟩
        · rw [if_neg e, if_neg e]
          exact h2 r hr (by omega)
    exact ⟨fun j hj => (hrel r j hr hj).trans (key.1 j hj), key.2.fr hw he⟩
  · show 0 ≤ min 4 (aN u + 1) ∧ min 4 (aN u + 1) ≤ 4
    omega
/-- the state itself, changed with nothing remembered -/
theorem IsMR.tx {ω κ β : Nat → Int} {u : aS} {en : Int} (h : IsMR ω κ β en u) {c : Nat → Int} {L : Int} (hc : OkC c L) : IsMR ω κ β en (aText u c L) := ⟨h.1, h.2.1, h.2.2.1, h.2.2.2.1, h.2.2.2.2.1, h.2.2.2.2.2.1, hc⟩
theorem IsMR.keep {ω κ κ1 β : Nat → Int} {u : aS} {en : Int} (h : IsMR ω κ β en u) (hk : ∀ j, j < 163 → κ1 j = (aD u).1 j) : IsMR ω κ1 β en (u.1, u.2.1, u.2.2.1, 1, u.1, u.2.2.2.2.2) := ⟨h.1, h.2.1, fun _ => ⟨hk, h.1⟩, h.2.2.2.1, h.2.2.2.2.1, by show (0 : Int) ≤ 1 ∧ (1 : Int) ≤ 1; omega, h.2.2.2.2.2.2⟩
theorem IsMR.und {ω κ β : Nat → Int} {u : aS} {en : Int} (h : IsMR ω κ β en u) (hn : 1 ≤ aN u) : IsMR ω κ β en (aH u (aN u - 1).toNat, aN u - 1, u.2.2) := by
  obtain ⟨h1, h2, h3, h4, h5, h6, h7⟩ := h
  refine ⟨(h2 (aN u - 1).toNat (by omega) (by omega)).2, fun r hr hrn => ?_, h3, h4, ?_, h6, h7⟩
  · have q : (r : Int) < aN u - 1 := hrn
    exact h2 r hr (by omega)
  · show 0 ≤ aN u - 1 ∧ aN u - 1 ≤ 4
    omega
