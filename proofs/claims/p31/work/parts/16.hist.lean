/-! what the history is: from h on the history, its row of states, four states -/
def IsHist (G : wG) (μ : hM) (h : Nat) (ρ : Nat → Nat) (sz : Int) (πs : Nat → Nat → Nat) (σs : Nat → Nat → Int) (fps sps : Nat → Int) (rds : Nat → Option Nat) : Prop :=
  μ h = some (.inr (1, [.ref (h + 1), .int (iv sz)])) ∧
  μ (h + 1) = some (.inl (G.2.1 4, 4, .inr (.inr (.inr (.inr (fun r => some (h + 2 + 29 * ρ r))))))) ∧
  (∀ r, r < 4 → IsState G μ (h + 2 + 29 * ρ r) (πs r) (σs r) (fps r) (sps r) (rds r)) ∧
  (∀ r, r < 4 → ρ r < 4) ∧ (∀ r q, r < 4 → q < 4 → ρ r = ρ q → r = q) ∧ ∀ r, r < 4 → OkT (σs r)
theorem IsHist.fr {G : wG} {μ ν : hM} {h : Nat} {ρ : Nat → Nat} {sz : Int} {πs : Nat → Nat → Nat} {σs : Nat → Nat → Int} {fps sps : Nat → Int} {rds : Nat → Option Nat} (hh : IsHist G μ h ρ sz πs σs fps sps rds) (hq : ∀ q, h ≤ q → q < h + 118 → ν q = μ q) : IsHist G ν h ρ sz πs σs fps sps rds := by
  obtain ⟨h1, h2, h3, h4, h5, h6⟩ := hh
  refine ⟨(hq h (by omega) (by omega)).trans h1, (hq (h + 1) (by omega) (by omega)).trans h2, fun r hr => (h3 r hr).fr (fun q a b => hq q (by have := h4 r hr; omega) (by have := h4 r hr; omega)), h4, h5, h6⟩
theorem IsHist.mn {G : wG} {μ ν : hM} {h : Nat} {ρ : Nat → Nat} {sz : Int} {πs : Nat → Nat → Nat} {σs : Nat → Nat → Int} {fps sps : Nat → Int} {rds : Nat → Option Nat} (hh : IsHist G μ h ρ sz πs σs fps sps rds) (hq : ∀ q e, h ≤ q → q < h + 118 → μ q = some e → ν q = some e) : IsHist G ν h ρ sz πs σs fps sps rds := by
  obtain ⟨h1, h2, h3, h4, h5, h6⟩ := hh
  refine ⟨hq h _ (by omega) (by omega) h1, hq (h + 1) _ (by omega) (by omega) h2, fun r hr => (h3 r hr).mn (fun q e a b => hq q e (by have := h4 r hr; omega) (by have := h4 r hr; omega)), h4, h5, h6⟩
theorem IsHist.sz {G : wG} {μ : hM} {h : Nat} {ρ : Nat → Nat} {sz : Int} {πs : Nat → Nat → Nat} {σs : Nat → Nat → Int} {fps sps : Nat → Int} {rds : Nat → Option Nat} (hh : IsHist G μ h ρ sz πs σs fps sps rds) (sz2 : Int) : IsHist G (hu μ h (.inr (1, [.ref (h + 1), .int (iv sz2)]))) h ρ sz2 πs σs fps sps rds := by
  obtain ⟨h1, h2, h3, h4, h5, h6⟩ := hh
  exact ⟨hu_s, hu_n' (by omega) h2, fun r hr => (h3 r hr).fr (fun q a b => hu_n (by omega)), h4, h5, h6⟩
theorem IsHist.cp {G : wG} {μ ν : hM} {h : Nat} {ρ : Nat → Nat} {sz : Int} {πs : Nat → Nat → Nat} {σs : Nat → Nat → Int} {fps sps : Nat → Int} {rds : Nat → Option Nat} (hh : IsHist G μ h ρ sz πs σs fps sps rds) {j : Nat} (hj : j < 4) {τ : Nat → Int} {rd : Option Nat} (hs : IsState G ν (h + 2 + 29 * ρ j) (πs j) τ (fps j) (sps j) rd) (hT : OkT τ) (hq : ∀ q, (q < h + 2 + 29 * ρ j ∨ h + 2 + 29 * ρ j + 29 ≤ q) → ν q = μ q) : IsHist G ν h ρ sz πs (fun r => if r = j then τ else σs r) fps sps (fun r => if r = j then rd else rds r) := by
  obtain ⟨h1, h2, h3, h4, h5, h6⟩ := hh
  have hjl := h4 j hj
  refine ⟨(hq h (by omega)).trans h1, (hq (h + 1) (by omega)).trans h2, fun r hr => ?_, h4, h5, fun r hr => ?_⟩
  · by_cases e : r = j
    · subst e
      simp only [if_pos]
      exact hs
    · simp only [if_neg e]
      have hrl := h4 r hr
      have hne : ρ r ≠ ρ j := fun z => e (h5 r j hr hj z)
      exact (h3 r hr).fr (fun q a b => hq q (by omega))
  · by_cases e : r = j
    · simp only [if_pos e]; exact hT
    · simp only [if_neg e]; exact h6 r hr
def rot {α : Type} (f : Nat → α) : Nat → α := fun r => if r = 3 then f 0 else if r < 3 then f (r + 1) else f r
theorem rot_lt {α : Type} (f : Nat → α) {r : Nat} (h : r < 3) : rot f r = f (r + 1) := by
  unfold rot
  rw [if_neg (by omega), if_pos h]
theorem rot_3 {α : Type} (f : Nat → α) : rot f 3 = f 0 := rfl
theorem rot_all {α : Type} {P : α → Prop} {f : Nat → α} (h : ∀ r, r < 4 → P (f r)) : ∀ r, r < 4 → P (rot f r) := by
  intro r hr
  by_cases h3 : r < 3
  · rw [rot_lt f h3]; exact h _ (by omega)
  · rw [show r = 3 by omega]; exact h 0 (by omega)
theorem IsHist.ro {G : wG} {μ : hM} {h : Nat} {ρ : Nat → Nat} {sz : Int} {πs : Nat → Nat → Nat} {σs : Nat → Nat → Int} {fps sps : Nat → Int} {rds : Nat → Option Nat} (hh : IsHist G μ h ρ sz πs σs fps sps rds) (sz2 : Int) : IsHist G (hu (hu μ (h + 1) (.inl (G.2.1 4, 4, .inr (.inr (.inr (.inr (fun r => some (h + 2 + 29 * rot ρ r)))))))) h (.inr (1, [.ref (h + 1), .int (iv sz2)]))) h (rot ρ) sz2 (rot πs) (rot σs) (rot fps) (rot sps) (rot rds) := by
  obtain ⟨h1, h2, h3, h4, h5, h6⟩ := hh
  refine ⟨hu_s, hu_n' (by omega) hu_s, fun r hr => ?_, rot_all (P := fun x => x < 4) h4, fun r q hr hq e => ?_, rot_all (P := OkT) h6⟩
  · have fr : ∀ {a : Nat} {π : Nat → Nat} {σ : Nat → Int} {fp sp : Int} {rd : Option Nat}, h + 2 ≤ a → IsState G μ a π σ fp sp rd → IsState G (hu (hu μ (h + 1) (.inl (G.2.1 4, 4, .inr (.inr (.inr (.inr (fun r => some (h + 2 + 29 * rot ρ r)))))))) h (.inr (1, [.ref (h + 1), .int (iv sz2)]))) a π σ fp sp rd := fun ha hs => hs.fr (fun q a b => (hu_n (by omega)).trans (hu_n (by omega)))
    by_cases h3' : r < 3
    · rw [rot_lt ρ h3', rot_lt πs h3', rot_lt σs h3', rot_lt fps h3', rot_lt sps h3', rot_lt rds h3']
      exact fr (by omega) (h3 (r + 1) (by omega))
    · rw [show r = 3 by omega, rot_3, rot_3, rot_3, rot_3, rot_3, rot_3]
      exact fr (by omega) (h3 0 (by omega))
  · by_cases r3 : r < 3 <;> by_cases q3 : q < 3
    · rw [rot_lt ρ r3, rot_lt ρ q3] at e
      have := h5 _ _ (by omega) (by omega) e
      omega
    · rw [rot_lt ρ r3, show q = 3 by omega, rot_3] at e
      have := h5 _ _ (by omega) (by omega) e
      omega
    · rw [rot_lt ρ q3, show r = 3 by omega, rot_3] at e
      have := h5 _ _ (by omega) (by omega) e
      omega
    · omega
theorem rot_qu (h : Nat) (ρ : Nat → Nat) : qu (qu (qu (qu (fun r => some (h + 2 + 29 * ρ r)) 0 (h + 2 + 29 * ρ 1)) 1 (h + 2 + 29 * ρ 2)) 2 (h + 2 + 29 * ρ 3)) 3 (h + 2 + 29 * ρ 0) = fun r => some (h + 2 + 29 * rot ρ r) := by
  funext r
  by_cases h0 : r = 0
  · subst h0; rfl
  · by_cases h1 : r = 1
    · subst h1; rfl
    · by_cases h2 : r = 2
      · subst h2; rfl
      · by_cases h3 : r = 3
        · subst h3; rfl
        · rw [qu_n h3, qu_n h2, qu_n h1, qu_n h0]
          unfold rot
          rw [if_neg h3, if_neg (by omega)]
/-- the history's rows behind one more -/
def hiS {α : Type} (sz : Int) (f : Nat → α) (x : α) : Nat → α := if sz = 4 then (fun r => if r = 3 then x else rot f r) else fun r => if r = sz.toNat then x else f r
