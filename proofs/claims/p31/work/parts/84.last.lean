/-! how long a stamp lasts, day by day -/
theorem EqS.trans {a b c : Nat → Int} (h : EqS a b) (h2 : EqS b c) : EqS a c := fun j hj => (h j hj).trans (h2 j hj)
theorem nPr_eqs {σ : Nat → Int} (h : OkT σ) {k : Int} (hk : 1 ≤ k ∧ k ≤ 9) : ∀ j : Nat, σ 5 + j ≤ 2000000000 → EqS (nPr σ k j) (nOnce σ k j) := by
  intro j
  induction j with
  | zero => intro _; exact EqS.rf
  | succ j ih =>
    intro hj
    have hi := ih (by omega)
    have ho := hi.once (okS_n h.1 (by omega) j) k
    exact fun i hi2 => (prF_st (nPr σ k j) k (by omega)).trans (ho i hi2)
theorem nRt_ok {σ : Nat → Int} (h : OkT σ) {k : Int} (hk : 1 ≤ k ∧ k ≤ 9) : ∀ j : Nat, σ 5 + j ≤ 2000000000 → (nRt σ k j = j ↔ okN σ (dig (σ 3)) k j = 1) := by
  intro j
  induction j with
  | zero => intro _; exact ⟨fun _ => rfl, fun _ => rfl⟩
  | succ j ih =>
    intro hj
    have hi := ih (by omega)
    have h3 := nPr_3 h hk j (by omega)
    have he := (nPr_eqs h hk j (by omega)).rtE (okS_n h.1 (by omega) j) (dig (σ 3)) k
    have hr := nRt_rng σ k j
    have h01 := rtF_01 (nOnce σ k j) (dig (σ 3)) k
    show nRt σ k j + rtF (nPr σ k j) (dig (nPr σ k j 3)) k = ((j + 1 : Nat) : Int) ↔ (if okN σ (dig (σ 3)) k j = 1 ∧ rtF (nOnce σ k j) (dig (σ 3)) k = 1 then (1 : Int) else 0) = 1
    rw [h3, he]
    by_cases hc : okN σ (dig (σ 3)) k j = 1 ∧ rtF (nOnce σ k j) (dig (σ 3)) k = 1
    · rw [if_pos hc]
      have := hi.mpr hc.1
      exact ⟨fun _ => rfl, fun _ => by omega⟩
    · rw [if_neg hc]
      refine ⟨fun q => ?_, fun q => by omega⟩
      exfalso
      have q1 : nRt σ k j = j := by omega
      exact hc ⟨hi.mp q1, by omega⟩
theorem nOnce_4 {σ : Nat → Int} (h : OkS σ) {k : Int} (hk : 0 ≤ k ∧ k ≤ 9) : ∀ j : Nat, 0 ≤ nOnce σ k j 4 ∧ nOnce σ k j 4 ≤ σ 4 := by
  intro j
  induction j with
  | zero => exact ⟨h.2.2.2.1.1, Int.le_refl _⟩
  | succ j ih =>
    have e : nOnce σ k (j + 1) 4 = max 0 (nOnce σ k j 4 - k) := once_4 (okS_n h hk j) k
    rw [e]
    omega
theorem lsF_ge {td k t ink : Int} : ∀ (f : Nat) (n : Int) (τ : Nat → Int), n + f ≤ 200 → n ≤ lsF td k t ink f n τ := by
  intro f
  induction f with
  | zero => intro n τ h; show n ≤ 200; omega
  | succ f ih =>
    intro n τ h
    by_cases h1 : td + n ≤ 36524
    · by_cases h2 : okN (adj τ (dig (td + n))) (dig (td + n)) k t.toNat = 1
      · rw [lsF_y h1 h2]
        have := ih (n + 1) (fu (nOnce (adj τ (dig (td + n))) k t.toNat) 4 ink) (by omega)
        omega
      · rw [lsF_n h1 h2]
        exact Int.le_refl _
    · rw [lsF_e h1]; omega
/-- a stamp n days on, as the trial has it -/
def LJ (σ0 : Nat → Int) (k t n : Int) (σ : Nat → Int) : Prop := ∃ τ : Nat → Int, EqS σ τ ∧ OkS τ ∧ lasF σ0 k t = lsF (σ0 3) k t (σ0 4) (200 - n).toNat n τ
theorem LJ.start {σ0 : Nat → Int} (h : OkS σ0) (k t : Int) : LJ σ0 k t 0 σ0 := ⟨σ0, EqS.rf, h, rfl⟩
theorem okT_adj {σ : Nat → Int} (h : OkT σ) (D : Int) : OkT (adj σ D) := okT_st h (okS_adj h.1 D 0 6) (fun j hj => adj_st (by omega))
theorem LJ.step {σ0 σ : Nat → Int} {k t n : Int} (hJ : LJ σ0 k t n σ) (hT : OkT σ) (hk : 1 ≤ k ∧ k ≤ 9) (ht : 1 ≤ t ∧ t ≤ 20) (h3 : σ 3 = σ0 3 + n) (hn : 0 ≤ n ∧ n ≤ 6) (h36 : σ 3 ≤ 36524) (h5 : σ 5 ≤ 1900000000) (h4 : 0 ≤ σ0 4 ∧ σ0 4 ≤ 200) :
    (nRt (adj σ (dig (σ 3))) k t.toNat = t ∧ n + 1 ≤ lasF σ0 k t ∧ ∀ ρ : Nat → Int, EqS ρ (fu (nPr (adj σ (dig (σ 3))) k t.toNat) 4 (σ0 4)) → LJ σ0 k t (n + 1) ρ) ∨ (nRt (adj σ (dig (σ 3))) k t.toNat ≠ t ∧ lasF σ0 k t = n) := by
  obtain ⟨τ, hE, hO, hL⟩ := hJ
  have hTa := okT_adj hT (dig (σ 3))
  have ha3 : adj σ (dig (σ 3)) 3 = σ 3 := adj_st (by omega)
  have ha5 : adj σ (dig (σ 3)) 5 = σ 5 := adj_st (by omega)
  have hEa := hE.adjE (dig (σ 3))
  have hOa : OkS (adj τ (dig (σ 3))) := okS_adj hO _ 0 6
  have hr := nRt_ok hTa hk t.toNat (by omega)
  rw [ha3, hEa.okE hOa (dig (σ 3)) (by omega)] at hr
  have htn : ((t.toNat : Nat) : Int) = t := by omega
  rw [htn] at hr
  have h36n : σ0 3 + n ≤ 36524 := by omega
  have hf : (200 - n).toNat = (200 - (n + 1)).toNat + 1 := by omega
  rw [hf] at hL
  by_cases hc : okN (adj τ (dig (σ 3))) (dig (σ 3)) k t.toNat = 1
  · left
    rw [h3] at hc
    rw [lsF_y h36n hc, ← h3] at hL
    refine ⟨hr.mpr (by rw [h3]; exact hc), ?_, fun ρ hρ => ?_⟩
    · rw [hL]
      exact lsF_ge _ _ _ (by omega)
    · refine ⟨fu (nOnce (adj τ (dig (σ 3))) k t.toNat) 4 (σ0 4), ?_, okS_4 (okS_n hOa (by omega) _) h4, hL⟩
      exact hρ.trans (((nPr_eqs hTa hk t.toNat (by omega)).trans (hEa.n hOa (by omega) t.toNat)).fuE 4 (σ0 4))
  · right
    refine ⟨fun q => hc (hr.mp q), ?_⟩
    rw [h3] at hc
    rw [hL]
    exact lsF_n h36n hc
