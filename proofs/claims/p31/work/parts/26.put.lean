/-! the state, changed in a part -/
theorem okT_st {σ τ : Nat → Int} (h : OkT σ) (hs : OkS τ) (hq : ∀ j, (j = 3 ∨ j = 5 ∨ (11 ≤ j ∧ j < 85)) → τ j = σ j) : OkT τ := by
  obtain ⟨-, h1, h2, h3, h4⟩ := h
  refine ⟨hs, by rw [hq 3 (by omega)]; exact h1, by rw [hq 5 (by omega)]; exact h2, by rw [hq 12 (by omega), hq 5 (by omega)]; exact h3, fun i hi => ?_⟩
  rw [hq _ (by omega), hq _ (by omega), hq _ (by omega), hq _ (by omega), hq _ (by omega), hq _ (by omega)]
  exact h4 i hi
theorem pix_cg {σ τ : Nat → Int} (h : τ 5 = σ 5) (r : Nat) : pix τ r = pix σ r := by
  unfold pix
  rw [h]
theorem prow_cg {σ τ : Nat → Int} (hq : ∀ j, 11 ≤ j ∧ j < 85 → τ j = σ j) {i : Nat} (hi : i < 12) : prow τ i = prow σ i := by
  unfold prow
  rw [hq _ (by omega), hq _ (by omega), hq _ (by omega), hq _ (by omega), hq _ (by omega), hq _ (by omega)]
/-- the stamp of a state, changed -/
theorem IsState.pst {G : wG} {μ ν : hM} {sa : Nat} {π π2 : Nat → Nat} {σ τ : Nat → Int} {fp sp fp2 sp2 : Int} {rd : Option Nat} (h : IsState G μ sa π σ fp sp rd) (hs : IsSt G ν (sa + 1) π2 τ fp2 sp2) (hq : ∀ q, (q < sa + 1 ∨ sa + 1 + 15 ≤ q) → ν q = μ q) (ht : ∀ j, (j = 3 ∨ (5 ≤ j ∧ j ≤ 8) ∨ (11 ≤ j ∧ j < 85)) → τ j = σ j) : IsState G ν sa π2 τ fp2 sp2 rd := by
  obtain ⟨a1, a2, a3, a4⟩ := h
  refine ⟨?_, hs, (hq _ (by omega)).trans a3, fun r hr => ?_⟩
  · rw [hq sa (by omega), ht 3 (by omega), ht 5 (by omega), ht 6 (by omega), ht 7 (by omega), ht 8 (by omega)]
    exact a1
  · rw [pix_cg (ht 5 (by omega)), prow_cg (fun j hj => ht j (by omega)) (pix_lt σ r)]
    exact (hq _ (by omega)).trans (a4 r hr)
/-- today, changed -/
theorem IsState.ptd {G : wG} {μ : hM} {sa : Nat} {π : Nat → Nat} {σ : Nat → Int} {fp sp : Int} {rd : Option Nat} (h : IsState G μ sa π σ fp sp rd) (v : Int) : IsState G (hu μ sa (.inr (5, [.ref (sa + 1), .ref (sa + 16), .int (iv v), .int (iv (σ 5)), .int (iv (σ 6)), .int (iv (σ 7)), .int (iv (σ 8)), va_rf rd]))) sa π (fu σ 3 v) fp sp rd := by
  obtain ⟨a1, a2, a3, a4⟩ := h
  have hn : ∀ j, j ≠ 3 → fu σ 3 v j = σ j := fun j hj => fu_n hj
  refine ⟨?_, (a2.fr (fun q b c => hu_n (by omega))).cg (fun j hj => hn j (by omega)), hu_n' (by omega) a3, fun r hr => ?_⟩
  · rw [hn 5 (by omega), hn 6 (by omega), hn 7 (by omega), hn 8 (by omega)]
    exact hu_s
  · rw [pix_cg (hn 5 (by omega)), prow_cg (fun j hj => hn j (by omega)) (pix_lt σ r)]
    exact hu_n' (by omega) (a4 r hr)
theorem okT_td {σ : Nat → Int} (h : OkT σ) {v : Int} (hv : 0 ≤ v ∧ v ≤ 36524) : OkT (fu σ 3 v) := by
  have hn : ∀ j, j ≠ 3 → fu σ 3 v j = σ j := fun j hj => fu_n hj
  obtain ⟨h0, h1, h2, h3, h4⟩ := h
  refine ⟨okS_cg h0 (fun j hj => hn j (by omega)), hv, by rw [hn 5 (by omega)]; exact h2, by rw [hn 12 (by omega), hn 5 (by omega)]; exact h3, fun i hi => ?_⟩
  rw [hn _ (by omega), hn _ (by omega), hn _ (by omega), hn _ (by omega), hn _ (by omega), hn _ (by omega)]
  exact h4 i hi
/-- the whole, its state's stamp changed -/
theorem IsD.pst {G : wG} {μ ν : hM} {x rb : Nat} {s : aS} {π π2 : Nat → Nat} {τ : Nat → Int} {fp sp fp2 sp2 : Int} {rd : Option Nat} (h : IsD G μ x rb s) (hZ : IsState G μ (x + 1) π (aD s).1 fp sp rd) (hC : Chn μ rb rd (aD s).2) (hs : IsSt G ν (x + 1 + 1) π2 τ fp2 sp2) (hq : ∀ q, (q < x + 1 + 1 ∨ x + 1 + 1 + 15 ≤ q) → ν q = μ q) (hk : OkS τ) (ht : ∀ j, (j = 3 ∨ (5 ≤ j ∧ j ≤ 8) ∨ (11 ≤ j ∧ j < 85)) → τ j = (aD s).1 j) : IsD G ν x rb ((τ, (aD s).2), s.2) ∧ DFr x μ ν := by
  have hrb := h.2.2.2.2.2.2.2.2.2.1
  have hOk : OkD (aD s) := by obtain ⟨π, fp, sp, rd2, b1, b2, b3⟩ := h.2.1; exact b3
  exact h.pS ⟨π2, fp2, sp2, rd, hZ.pst hs (fun q a => hq q (by omega)) ht, hC.fr (fun q e a b => (hq q (by omega)).trans b), okT_st hOk.1 hk (fun j hj => ht j (by omega)), hOk.2⟩ (fun q e a b => (hq q (by omega)).trans b)
/-- today goes on -/
theorem IsD.ptd {G : wG} {μ : hM} {x rb : Nat} {s : aS} {π : Nat → Nat} {fp sp : Int} {rd : Option Nat} (h : IsD G μ x rb s) (hZ : IsState G μ (x + 1) π (aD s).1 fp sp rd) (hC : Chn μ rb rd (aD s).2) {v : Int} (hv : 0 ≤ v ∧ v ≤ 36524) : IsD G (hu μ (x + 1) (.inr (5, [.ref (x + 1 + 1), .ref (x + 1 + 16), .int (iv v), .int (iv ((aD s).1 5)), .int (iv ((aD s).1 6)), .int (iv ((aD s).1 7)), .int (iv ((aD s).1 8)), va_rf rd]))) x rb ((fu (aD s).1 3 v, (aD s).2), s.2) ∧ DFr x μ (hu μ (x + 1) (.inr (5, [.ref (x + 1 + 1), .ref (x + 1 + 16), .int (iv v), .int (iv ((aD s).1 5)), .int (iv ((aD s).1 6)), .int (iv ((aD s).1 7)), .int (iv ((aD s).1 8)), va_rf rd]))) := by
  have hrb := h.2.2.2.2.2.2.2.2.2.1
  have hOk : OkD (aD s) := by obtain ⟨π, fp, sp, rd2, b1, b2, b3⟩ := h.2.1; exact b3
  exact h.pS ⟨π, fp, sp, rd, hZ.ptd v, hC.fr (fun q e a b => hu_n' (by omega) b), okT_td hOk.1 hv, hOk.2⟩ (fun q e a b => hu_n' (by omega) b)
theorem adj_st {σ : Nat → Int} {D : Int} {j : Nat} (h : j = 3 ∨ (5 ≤ j ∧ j ≤ 8) ∨ (11 ≤ j ∧ j < 85)) : adj σ D j = σ j := adj_ot (by omega) (by omega)
theorem okS_trn {σ : Nat → Int} (h : OkS σ) {p : Nat} (hp : p < 6) (t : Int) (ht : -9 ≤ t ∧ t ≤ 9) : OkS (trn σ p t) := by
  obtain ⟨h0, h1, h2, h4, hb⟩ := h
  refine ⟨by rw [trn_ot hp (by omega) (by omega)]; exact h0, by rw [trn_ot hp (by omega) (by omega)]; exact h1, by rw [trn_ot hp (by omega) (by omega)]; exact h2, by rw [trn_ot hp (by omega) (by omega)]; exact h4, fun q hq => ?_⟩
  obtain ⟨b1, b2, b3, b4⟩ := hb q hq
  have hab : 0 ≤ ab t := by unfold ab; split <;> omega
  refine ⟨by rw [trn_ot hp (by omega) (by omega)]; exact b1, ?_, ?_, fun k hk => by rw [trn_ot hp (by omega) (by omega)]; exact b4 k hk⟩
  · rw [trn_at]; split <;> omega
  · rw [trn_sl]; split <;> omega
theorem okS_4 {σ : Nat → Int} (h : OkS σ) {v : Int} (hv : 0 ≤ v ∧ v ≤ 200) : OkS (fu σ 4 v) := by
  have hn : ∀ j, j ≠ 4 → fu σ 4 v j = σ j := fun j hj => fu_n hj
  obtain ⟨h0, h1, h2, h4, hb⟩ := h
  refine ⟨by rw [hn _ (by omega)]; exact h0, by rw [hn _ (by omega)]; exact h1, by rw [hn _ (by omega)]; exact h2, hv, fun q hq => ?_⟩
  obtain ⟨b1, b2, b3, b4⟩ := hb q hq
  exact ⟨by rw [hn _ (by omega)]; exact b1, by rw [hn _ (by omega)]; exact b2, by rw [hn _ (by omega)]; exact b3, fun k hk => by rw [hn _ (by omega)]; exact b4 k hk⟩
theorem bset_sl {σ : Nat → Int} {p : Nat} : bset σ p (σ (85 + 13 * p)) (σ (86 + 13 * p)) 0 = fu σ (87 + 13 * p) 0 := by
  funext j
  unfold bset fu
  by_cases h1 : j = 85 + 13 * p
  · rw [if_pos h1, if_neg (by omega), h1]
  · rw [if_neg h1]
    by_cases h2 : j = 86 + 13 * p
    · rw [if_pos h2, if_neg (by omega), h2]
    · rw [if_neg h2]
theorem okS_87 {σ : Nat → Int} (h : OkS σ) {p : Nat} (hp : p < 6) : OkS (fu σ (87 + 13 * p) 0) := by
  have hn : ∀ j, j ≠ 87 + 13 * p → fu σ (87 + 13 * p) 0 j = σ j := fun j hj => fu_n hj
  obtain ⟨h0, h1, h2, h4, hb⟩ := h
  refine ⟨by rw [hn _ (by omega)]; exact h0, by rw [hn _ (by omega)]; exact h1, by rw [hn _ (by omega)]; exact h2, by rw [hn _ (by omega)]; exact h4, fun q hq => ?_⟩
  obtain ⟨b1, b2, b3, b4⟩ := hb q hq
  refine ⟨by rw [hn _ (by omega)]; exact b1, by rw [hn _ (by omega)]; exact b2, ?_, fun k hk => by rw [hn _ (by omega)]; exact b4 k hk⟩
  by_cases e : q = p
  · subst e
    have : fu σ (87 + 13 * q) 0 (87 + 13 * q) = 0 := if_pos rfl
    omega
  · rw [hn _ (by omega)]; exact b3
theorem okS_rnw {σ : Nat → Int} (h : OkS σ) {p : Nat} (hp : p < 6) : OkS (rnw σ p) := by
  have hn : ∀ j, ¬ (86 + 13 * p ≤ j ∧ j ≤ 97 + 13 * p) → rnw σ p j = σ j := fun j hj => if_neg hj
  have hz : ∀ j, (86 + 13 * p ≤ j ∧ j ≤ 97 + 13 * p) → rnw σ p j = 0 := fun j hj => if_pos hj
  obtain ⟨h0, h1, h2, h4, hb⟩ := h
  refine ⟨by rw [hn _ (by omega)]; exact h0, by rw [hn _ (by omega)]; exact h1, by rw [hn _ (by omega)]; exact h2, by rw [hn _ (by omega)]; exact h4, fun q hq => ?_⟩
  obtain ⟨b1, b2, b3, b4⟩ := hb q hq
  by_cases e : q = p
  · subst e
    refine ⟨by rw [hn _ (by omega)]; exact b1, by rw [hz _ (by omega)]; omega, by rw [hz _ (by omega)]; omega, fun k hk => by rw [hz _ (by omega)]; omega⟩
  · exact ⟨by rw [hn _ (by omega)]; exact b1, by rw [hn _ (by omega)]; exact b2, by rw [hn _ (by omega)]; exact b3, fun k hk => by rw [hn _ (by omega)]; exact b4 k hk⟩
theorem okS_set {σ : Nat → Int} (h : OkS σ) {w : Nat} (hw : w < 3) {v : Int} (hv : loSet (w : Int) ≤ v ∧ v ≤ hiSet (w : Int)) : OkS (fu σ w v) := by
  have hn : ∀ j, j ≠ w → fu σ w v j = σ j := fun j hj => fu_n hj
  have hs : fu σ w v w = v := if_pos rfl
  obtain ⟨h0, h1, h2, h4, hb⟩ := h
  have hc : w = 0 ∨ w = 1 ∨ w = 2 := by omega
  refine ⟨?_, ?_, ?_, by rw [hn _ (by omega)]; exact h4, fun q hq => ?_⟩
  · rcases hc with rfl | rfl | rfl
    · rw [hs]; simpa [loSet, hiSet] using hv
    · rw [hn _ (by omega)]; exact h0
    · rw [hn _ (by omega)]; exact h0
  · rcases hc with rfl | rfl | rfl
    · rw [hn _ (by omega)]; exact h1
    · rw [hs]; simpa [loSet, hiSet] using hv
    · rw [hn _ (by omega)]; exact h1
  · rcases hc with rfl | rfl | rfl
    · rw [hn _ (by omega)]; exact h2
    · rw [hn _ (by omega)]; exact h2
    · rw [hs]; simpa [loSet, hiSet] using hv
  · obtain ⟨b1, b2, b3, b4⟩ := hb q hq
    exact ⟨by rw [hn _ (by omega)]; exact b1, by rw [hn _ (by omega)]; exact b2, by rw [hn _ (by omega)]; exact b3, fun k hk => by rw [hn _ (by omega)]; exact b4 k hk⟩
theorem loSet_rng (w : Int) : (1 ≤ loSet w ∧ loSet w ≤ 60) ∧ 60 ≤ hiSet w ∧ hiSet w ≤ 150 := by
  unfold loSet hiSet
  (repeat' split) <;> omega
theorem arr_cgi {c : ClassId} {N : Nat} {f g : Nat → Int32} (h : ∀ j, j < N → f j = g j) : vp_cell c (N, .inl f) = vp_cell c (N, .inl g) := by
  show arrV c N (fun j => .int (f j)) = arrV c N (fun j => .int (g j))
  unfold arrV
  congr 2
  funext j
  show Value.int (f j.val) = Value.int (g j.val)
  rw [h j.val j.isLt]
theorem gP.cgi {G : wG} {μ : hM} {n a N : Nat} {c : ClassId} {H : Heap} {f g : Nat → Int32} (h : gP G μ n H) (ha : μ a = some (.inl (c, N, .inl f))) (hfg : ∀ j, j < N → f j = g j) : gP G (hu μ a (.inl (c, N, .inl g))) n H :=
  h.cg ha (fun (q : H[a]? = _) => q.trans (congrArg some (arr_cgi hfg)))
theorem chAdd_rng {ch : List (Int × Int)} (h : ∀ x ∈ ch, 0 ≤ x.1 ∧ x.1 ≤ 40000) {td mo : Int} (ht : 0 ≤ td ∧ td ≤ 36524) : ∀ x ∈ chAdd ch td mo, 0 ≤ x.1 ∧ x.1 ≤ 40000 := by
  unfold chAdd
  split
  · exact h
  · split
    · intro x hx
      rcases List.mem_cons.mp hx with rfl | hx
      · exact ⟨by omega, by omega⟩
      · cases hx
    · rename_i d n t
      split
      · intro x hx
        rcases List.mem_cons.mp hx with rfl | hx
        · exact ⟨by omega, by omega⟩
        · exact h x (List.mem_cons_of_mem _ hx)
      · intro x hx
        rcases List.mem_cons.mp hx with rfl | hx
        · exact ⟨by omega, by omega⟩
        · exact h x hx
/-- the latest state is taken back -/
theorem IsD.und {G : wG} {μ ν : hM} {x rb : Nat} {s : aS} {ρ : Nat → Nat} {πs : Nat → Nat → Nat} {fps sps : Nat → Int} {rds : Nat → Option Nat} {π : Nat → Nat} {fp sp : Int} (h : IsD G μ x rb s) (hsz : 1 ≤ aN s) (hCs : ∀ r, r < 4 → Chn μ rb (rds r) (aH s r).2 ∧ OkD (aH s r)) (hL : IsHist G ν (x + 30) ρ (aN s - 1) πs (fun r => (aH s r).1) fps sps rds) (hZ : IsState G ν (x + 1) π (aH s (aN s - 1).toNat).1 fp sp (rds (aN s - 1).toNat)) (hq : ∀ q, (q < x + 30 ∨ x + 30 + 118 ≤ q) → (q < x + 1 ∨ x + 1 + 29 ≤ q) → ν q = μ q) : IsD G ν x rb (aH s (aN s - 1).toNat, aN s - 1, s.2.2) ∧ DFr x μ ν := by
  obtain ⟨a1, a2, a3, a4, a5, a6, a7, a8, a9, a10, e, a11⟩ := h
  have hr := hCs (aN s - 1).toNat (by omega)
  exact ⟨⟨(hq _ (by omega) (by omega)).trans a1, ⟨π, fp, sp, _, hZ, hr.1.fr (fun q e a b => (hq q (by omega) (by omega)).trans b), hr.2⟩, ⟨ρ, πs, fps, sps, rds, hL, fun r hr => ⟨(hCs r hr).1.fr (fun q e a b => (hq q (by omega) (by omega)).trans b), (hCs r hr).2⟩⟩, a4.mn (fun q e b c d => (hq q (by omega) (by omega)).trans d) (fun q e b d => (hq q (by omega) (by omega)).trans d), a5.mn (fun q e b c d => (hq q (by omega) (by omega)).trans d), a6.mn (fun q e b c d => (hq q (by omega) (by omega)).trans d), ⟨by show 0 ≤ aN s - 1; omega, by show aN s - 1 ≤ 4; omega⟩, a8, a9, a10, e, (hq _ (by omega) (by omega)).trans a11⟩, fun q e b c => (hq q (by omega) (by omega)).trans c⟩
