/-! the state, changed in a part -/
theorem okT_st {σ τ : Nat → Int} (h : OkT σ) (hs : OkS τ) (hq : ∀ j, (j = 3 ∨ j = 5 ∨ (11 ≤ j ∧ j < 85)) → τ j = σ j) : OkT τ := by
  obtain ⟨-, h1, h2, h3, h4⟩ := h
  refine ⟨hs, by rw [hq 3 (by omega)]; exact h1, by rw [hq 5 (by omega)]; exact h2, by rw [hq 12 (by omega), hq 5 (by omega)]; exact h3, fun i hi => ?_⟩
  rw [hq _ (by omega), hq _ (by omega), hq _ (by omega), hq _ (by omega), hq _ (by omega), hq _ (by omega)]
  exact h4 i hi
theorem pix_cg {σ τ : Nat → Int} (h : τ 5 = σ 5) (r : Nat) : pix τ r = pix σ r := by
  unfold pix
  rw [h]
theorem prow_cg {σ τ : Nat → Int} (hq : ∀ j, 11 ≤ j ∧ j < 85 → τ j = σ j) {i : Nat} (hi : i < 12) : prow τ i = prow σ i := by
  unfold prow
  rw [hq _ (by omega), hq _ (by omega), hq _ (by omega), hq _ (by omega), hq _ (by omega), hq _ (by omega)]
/-- the stamp of a state, changed -/
theorem IsState.pst {G : wG} {μ ν : hM} {sa : Nat} {π π2 : Nat → Nat} {σ τ : Nat → Int} {fp sp fp2 sp2 : Int} {rd : Option Nat} (h : IsState G μ sa π σ fp sp rd) (hs : IsSt G ν (sa + 1) π2 τ fp2 sp2) (hq : ∀ q, (q < sa + 1 ∨ sa + 1 + 15 ≤ q) → ν q = μ q) (ht : ∀ j, (j = 3 ∨ (5 ≤ j ∧ j ≤ 8) ∨ (11 ≤ j ∧ j < 85)) → τ j = σ j) : IsState G ν sa π2 τ fp2 sp2 rd := by
  obtain ⟨a1, a2, a3, a4⟩ := h
  refine ⟨?_, hs, (hq _ (by omega)).trans a3, fun r hr => ?_⟩
  · rw [hq sa (by omega), ht 3 (by omega), ht 5 (by omega), ht 6 (by omega), ht 7 (by omega), ht 8 (by omega)]
    exact a1
  · rw [pix_cg (ht 5 (by omega)), prow_cg (fun j hj => ht j (by omega)) (pix_lt σ r)]
    exact (hq _ (by omega)).trans (a4 r hr)
/-- today, changed -/
theorem IsState.ptd {G : wG} {μ : hM} {sa : Nat} {π : Nat → Nat} {σ : Nat → Int} {fp sp : Int} {rd : Option Nat} (h : IsState G μ sa π σ fp sp rd) (v : Int) : IsState G (hu μ sa (.inr (5, [.ref (sa + 1), .ref (sa + 16), .int (iv v), .int (iv (σ 5)), .int (iv (σ 6)), .int (iv (σ 7)), .int (iv (σ 8)), va_rf rd]))) sa π (fu σ 3 v) fp sp rd := by
  obtain ⟨a1, a2, a3, a4⟩ := h
  have hn : ∀ j, j ≠ 3 → fu σ 3 v j = σ j := fun j hj => fu_n hj
  refine ⟨?_, (a2.fr (fun q b c => hu_n (by omega))).cg (fun j hj => hn j (by omega)), hu_n' (by omega) a3, fun r hr => ?_⟩
  · rw [hn 5 (by omega), hn 6 (by omega), hn 7 (by omega), hn 8 (by omega)]
    exact hu_s
  · rw [pix_cg (hn 5 (by omega)), prow_cg (fun j hj => hn j (by omega)) (pix_lt σ r)]
    exact hu_n' (by omega) (a4 r hr)
theorem okT_td {σ : Nat → Int} (h : OkT σ) {v : Int} (hv : 0 ≤ v ∧ v ≤ 36524) : OkT (fu σ 3 v) := by
  have hn : ∀ j, j ≠ 3 → fu σ 3 v j = σ j := fun j hj => fu_n hj
  obtain ⟨h0, h1, h2, h3, h4⟩ := h
  refine ⟨okS_cg h0 (fun j hj => hn j (by omega)), hv, by rw [hn 5 (by omega)]; exact h2, by rw [hn 12 (by omega), hn 5 (by omega)]; exact h3, fun i hi => ?_⟩
  rw [hn _ (by omega), hn _ (by omega), hn _ (by omega), hn _ (by omega), hn _ (by omega), hn _ (by omega)]
  exact h4 i hi
/-- the whole, its state's stamp changed -/
theorem IsD.pst {G : wG} {μ ν : hM} {x rb : Nat} {s : aS} {π π2 : Nat → Nat} {τ : Nat → Int} {fp sp fp2 sp2 : Int} {rd : Option Nat} (h : IsD G μ x rb s) (hZ : IsState G μ (x + 1) π (aD s).1 fp sp rd) (hC : Chn μ rb rd (aD s).2) (hs : IsSt G ν (x + 1 + 1) π2 τ fp2 sp2) (hq : ∀ q, (q < x + 1 + 1 ∨ x + 1 + 1 + 15 ≤ q) → ν q = μ q) (hk : OkS τ) (ht : ∀ j, (j = 3 ∨ (5 ≤ j ∧ j ≤ 8) ∨ (11 ≤ j ∧ j < 85)) → τ j = (aD s).1 j) : IsD G ν x rb ((τ, (aD s).2), s.2) ∧ DFr x μ ν := by
  have hrb := h.2.2.2.2.2.2.2.2.2.1
  have hOk : OkD (aD s) := by obtain ⟨π, fp, sp, rd2, b1, b2, b3⟩ := h.2.1; exact b3
  exact h.pS ⟨π2, fp2, sp2, rd, hZ.pst hs (fun q a => hq q (by omega)) ht, hC.fr (fun q e a b => (hq q (by omega)).trans b), okT_st hOk.1 hk (fun j hj => ht j (by omega)), hOk.2⟩ (fun q e a b => (hq q (by omega)).trans b)
/-- today goes on -/
theorem IsD.ptd {G : wG} {μ : hM} {x rb : Nat} {s : aS} {π : Nat → Nat} {fp sp : Int} {rd : Option Nat} (h : IsD G μ x rb s) (hZ : IsState G μ (x + 1) π (aD s).1 fp sp rd) (hC : Chn μ rb rd (aD s).2) {v : Int} (hv : 0 ≤ v ∧ v ≤ 36524) : IsD G (hu μ (x + 1) (.inr (5, [.ref (x + 1 + 1), .ref (x + 1 + 16), .int (iv v), .int (iv ((aD s).1 5)), .int (iv ((aD s).1 6)), .int (iv ((aD s).1 7)), .int (iv ((aD s).1 8)), va_rf rd]))) x rb ((fu (aD s).1 3 v, (aD s).2), s.2) ∧ DFr x μ (hu μ (x + 1) (.inr (5, [.ref (x + 1 + 1), .ref (x + 1 + 16), .int (iv v), .int (iv ((aD s).1 5)), .int (iv ((aD s).1 6)), .int (iv ((aD s).1 7)), .int (iv ((aD s).1 8)), va_rf rd]))) := by
  have hrb := h.2.2.2.2.2.2.2.2.2.1
  have hOk : OkD (aD s) := by obtain ⟨π, fp, sp, rd2, b1, b2, b3⟩ := h.2.1; exact b3
  exact h.pS ⟨π, fp, sp, rd, hZ.ptd v, hC.fr (fun q e a b => hu_n' (by omega) b), okT_td hOk.1 hv, hOk.2⟩ (fun q e a b => hu_n' (by omega) b)
theorem adj_st {σ : Nat → Int} {D : Int} {j : Nat} (h : j = 3 ∨ (5 ≤ j ∧ j ≤ 8) ∨ (11 ≤ j ∧ j < 85)) : adj σ D j = σ j := adj_ot (by omega) (by omega)
theorem okS_trn {σ : Nat → Int} (h : OkS σ) {p : Nat} (hp : p < 6) (t : Int) (ht : -9 ≤ t ∧ t ≤ 9) : OkS (trn σ p t) := by
  obtain ⟨h0, h1, h2, h4, hb⟩ := h
  refine ⟨by rw [trn_ot hp (by omega) (by omega)]; exact h0, by rw [trn_ot hp (by omega) (by omega)]; exact h1, by rw [trn_ot hp (by omega) (by omega)]; exact h2, by rw [trn_ot hp (by omega) (by omega)]; exact h4, fun q hq => ?_⟩
  obtain ⟨b1, b2, b3, b4⟩ := hb q hq
  have hab : 0 ≤ ab t := by unfold ab; split <;> omega
  refine ⟨by rw [trn_ot hp (by omega) (by omega)]; exact b1, ?_, ?_, fun k hk => by rw [trn_ot hp (by omega) (by omega)]; exact b4 k hk⟩
  · rw [trn_at]; split <;> omega
  · rw [trn_sl]; split <;> omega
theorem okS_4 {σ : Nat → Int} (h : OkS σ) {v : Int} (hv : 0 ≤ v ∧ v ≤ 200) : OkS (fu σ 4 v) := by
  have hn : ∀ j, j ≠ 4 → fu σ 4 v j = σ j := fun j hj => fu_n hj
  obtain ⟨h0, h1, h2, h4, hb⟩ := h
  refine ⟨by rw [hn _ (by omega)]; exact h0, by rw [hn _ (by omega)]; exact h1, by rw [hn _ (by omega)]; exact h2, hv, fun q hq => ?_⟩
  obtain ⟨b1, b2, b3, b4⟩ := hb q hq
  exact ⟨by rw [hn _ (by omega)]; exact b1, by rw [hn _ (by omega)]; exact b2, by rw [hn _ (by omega)]; exact b3, fun k hk => by rw [hn _ (by omega)]; exact b4 k hk⟩
