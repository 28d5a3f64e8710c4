/-! what is made -/
theorem gP.cg {G : wG} {μ : hM} {n a : Nat} {H : Heap} {e e1 : va_E} (h : gP G μ n H) (ha : μ a = some e) (hc : va_at G.1 vwCl (a, e) H → va_at G.1 vwCl (a, e1) H) : gP G (hu μ a e1) n H := by
  obtain ⟨hn, ws, hP, hD, hm⟩ := h
  obtain ⟨k, hk⟩ := hm a e ha
  exact gP.upd hn (hP.set hD hk (hc (hP k _ hk)) (fun q _ => rfl)) (hD.set hk) hk hm
theorem arr_cg {c : ClassId} {N : Nat} {f g : Nat → Option Nat} (h : ∀ j, j < N → f j = g j) : vp_cell c (N, .inr (.inr (.inr (.inr f)))) = vp_cell c (N, .inr (.inr (.inr (.inr g)))) := by
  show arrV c N (fun j => va_rf (f j)) = arrV c N (fun j => va_rf (g j))
  unfold arrV
  congr 2
  funext j
  show va_rf (f j.val) = va_rf (g j.val)
  rw [h j.val j.isLt]
theorem gP.cgq {G : wG} {μ : hM} {n a N : Nat} {c : ClassId} {H : Heap} {f g : Nat → Option Nat} (h : gP G μ n H) (ha : μ a = some (.inl (c, N, .inr (.inr (.inr (.inr f)))))) (hfg : ∀ j, j < N → f j = g j) : gP G (hu μ a (.inl (c, N, .inr (.inr (.inr (.inr g)))))) n H :=
  h.cg ha (fun (q : H[a]? = _) => q.trans (congrArg some (arr_cg hfg)))
/-- the numbers of a new state -/
def s0 : Nat → Int := fun j => if j = 0 then 30 else if j = 1 ∨ j = 4 then 100 else if j = 2 then 40 else if 85 ≤ j ∧ j < 163 ∧ (j - 85) % 13 = 0 then (((j - 85) / 13 : Nat) : Int) else 0
theorem s0_z {j : Nat} (h : 3 ≤ j ∧ j ≠ 4 ∧ (j < 85 ∨ (j - 85) % 13 ≠ 0)) : s0 j = 0 := by
  unfold s0
  rw [if_neg (by omega), if_neg (by omega), if_neg (by omega), if_neg (by omega)]
theorem s0_b {p : Nat} (h : p < 6) : s0 (85 + 13 * p) = (p : Int) := by
  unfold s0
  rw [if_neg (by omega), if_neg (by omega), if_neg (by omega), if_pos (by omega), show (85 + 13 * p - 85) / 13 = p by omega]
theorem row3_s0 : fu (fu (fu (fun _ => 0) 0 30) 1 100) 2 40 = row3 s0 := by
  funext j
  rcases j with _ | _ | _ | j
  · rfl
  · rfl
  · rfl
  · unfold fu row3
    rw [if_neg (by omega), if_neg (by omega), if_neg (by omega), if_neg (by omega)]
theorem roww_s0 {p : Nat} (h : p < 6) : roww s0 p = fun _ => 0 := by
  funext j
  unfold roww
  split
  · exact s0_z (by omega)
  · rfl
/-- a stamp being made: so many bands are there -/
def StP (G : wG) (μ : hM) (st k : Nat) : Prop :=
  μ st = some (.inr (4, [.ref (st + 1), .null, .int (iv 0), .int (iv 0), .int (iv 0), .int (iv 0), .int (iv 0)])) ∧
  μ (st + 1) = some (.inl (G.2.1 2, 6, .inr (.inr (.inr (.inr (fun r => if r < k then some (st + 2 + 2 * r) else none)))))) ∧
  (∀ p, p < k → μ (st + 2 + 2 * p) = some (.inr (0, [.int (iv (p : Int)), .int (iv 0), .int (iv 0), .ref (st + 3 + 2 * p)]))) ∧
  ∀ p, p < k → μ (st + 3 + 2 * p) = some (.inl (G.2.1 0, 10, .inl (fun _ => iv 0)))
theorem qu_row {f : Nat → Nat} (k : Nat) : qu (fun r => if r < k then some (f r) else none) k (f k) = fun r => if r < k + 1 then some (f r) else none := by
  funext r
  unfold qu
  by_cases h : r = k
  · subst h; rw [if_pos rfl, if_pos (by omega)]
  · rw [if_neg h]
    dsimp only
    by_cases h2 : r < k
    · rw [if_pos h2, if_pos (by omega)]
    · rw [if_neg h2, if_neg (by omega)]
theorem StP.step {G : wG} {μ ν : hM} {st k : Nat} {z : Int} (h : StP G μ st k) (hz : z = (k : Int)) (hq : ∀ q, st ≤ q → q < st + 2 + 2 * k → ν q = μ q) (h1 : ν (st + 2 + 2 * k) = some (.inr (0, [.int (iv z), .int (iv 0), .int (iv 0), .ref (st + 3 + 2 * k)]))) (h2 : ν (st + 3 + 2 * k) = some (.inl (G.2.1 0, 10, .inl (fun _ => iv 0)))) : StP G (hu ν (st + 1) (.inl (G.2.1 2, 6, .inr (.inr (.inr (.inr (qu (fun r => if r < k then some (st + 2 + 2 * r) else none) k (st + 2 + 2 * k)))))))) st (k + 1) := by
  obtain ⟨a1, a2, a3, a4⟩ := h
  subst hz
  refine ⟨hu_n' (by omega) ((hq st (by omega) (by omega)).trans a1), ?_, fun p hp => ?_, fun p hp => ?_⟩
  · rw [qu_row (f := fun r => st + 2 + 2 * r)]; exact hu_s
  · by_cases e : p = k
    · subst e; exact hu_n' (by omega) h1
    · exact hu_n' (by omega) ((hq _ (by omega) (by omega)).trans (a3 p (by omega)))
  · by_cases e : p = k
    · subst e; exact hu_n' (by omega) h2
    · exact hu_n' (by omega) ((hq _ (by omega) (by omega)).trans (a4 p (by omega)))
theorem IsSt.of {G : wG} {μ ν : hM} {st : Nat} (h : StP G μ st 6) (hq : ∀ q, st + 1 < q → q < st + 14 → ν q = μ q) (h1 : ν st = some (.inr (4, [.ref (st + 1), .ref (st + 14), .int (iv 100), .int (iv 0), .int (iv 0), .int (iv 0), .int (iv 0)]))) (h2 : ν (st + 1) = some (.inl (G.2.1 2, 6, .inr (.inr (.inr (.inr (fun r => some (st + 2 + 2 * r)))))))) (h3 : ν (st + 14) = some (.inl (G.2.1 0, 3, .inl (fun j => iv (row3 s0 j))))) : IsSt G ν st (fun p => p) s0 0 0 := by
  obtain ⟨a1, a2, a3, a4⟩ := h
  refine ⟨h1, h2, h3, fun p hp => ?_, fun p hp => ?_, fun p hp => hp, fun p q _ _ e => e⟩
  · rw [s0_b hp, s0_z (by omega), s0_z (by omega)]
    exact (hq (st + 2 + 2 * p) (by omega) (by omega)).trans (a3 p hp)
  · rw [roww_s0 hp]
    exact (hq (st + 3 + 2 * p) (by omega) (by omega)).trans (a4 p hp)
/-- a state being made: so many prints are there -/
def SaP (G : wG) (μ : hM) (sa k : Nat) : Prop :=
  μ sa = some (.inr (5, [.ref (sa + 1), .ref (sa + 16), .int (iv 0), .int (iv 0), .int (iv 0), .int (iv 0), .int (iv 0), .null])) ∧
  IsSt G μ (sa + 1) (fun p => p) s0 0 0 ∧
  μ (sa + 16) = some (.inl (G.2.1 3, 12, .inr (.inr (.inr (.inr (fun r => if r < k then some (sa + 17 + r) else none)))))) ∧
  ∀ r, r < k → μ (sa + 17 + r) = some (.inr (2, [.int (iv 0), .int (iv 0), .int (iv 0), .int (iv 0), .int (iv 0), .int (iv 0)]))
theorem SaP.step {G : wG} {μ ν : hM} {sa k : Nat} (h : SaP G μ sa k) (hq : ∀ q, sa ≤ q → q < sa + 17 + k → ν q = μ q) (h1 : ν (sa + 17 + k) = some (.inr (2, [.int (iv 0), .int (iv 0), .int (iv 0), .int (iv 0), .int (iv 0), .int (iv 0)]))) : SaP G (hu ν (sa + 16) (.inl (G.2.1 3, 12, .inr (.inr (.inr (.inr (qu (fun r => if r < k then some (sa + 17 + r) else none) k (sa + 17 + k)))))))) sa (k + 1) := by
  obtain ⟨a1, a2, a3, a4⟩ := h
  refine ⟨hu_n' (by omega) ((hq sa (by omega) (by omega)).trans a1), a2.fr (fun q b c => (hu_n (by omega)).trans (hq q (by omega) (by omega))), ?_, fun p hp => ?_⟩
  · rw [qu_row (f := fun r => sa + 17 + r)]; exact hu_s
  · by_cases e : p = k
    · subst e; exact hu_n' (by omega) h1
    · exact hu_n' (by omega) ((hq _ (by omega) (by omega)).trans (a4 p (by omega)))
theorem prow_s0 {i : Nat} (h : i < 12) : prow s0 i = [.int (iv 0), .int (iv 0), .int (iv 0), .int (iv 0), .int (iv 0), .int (iv 0)] := by
  unfold prow
  rw [s0_z (by omega), s0_z (by omega), s0_z (by omega), s0_z (by omega), s0_z (by omega), s0_z (by omega)]
theorem IsState.of {G : wG} {μ : hM} {sa : Nat} (h : SaP G μ sa 12) : IsState G (hu μ (sa + 16) (.inl (G.2.1 3, 12, .inr (.inr (.inr (.inr (fun r => some (sa + 17 + r)))))))) sa (fun p => p) s0 0 0 none := by
  obtain ⟨a1, a2, a3, a4⟩ := h
  refine ⟨hu_n' (by omega) ?_, a2.fr (fun q b c => hu_n (by omega)), hu_s, fun r hr => ?_⟩
  · rw [s0_z (by omega), s0_z (by omega), s0_z (by omega), s0_z (by omega), s0_z (by omega)]; exact a1
  · rw [prow_s0 (pix_lt _ _)]
    exact hu_n' (by omega) (a4 r hr)
theorem okT_s0 : OkT s0 := by
  have hz : ∀ j : Nat, 3 ≤ j ∧ j ≠ 4 ∧ (j < 85 ∨ (j - 85) % 13 ≠ 0) → s0 j = 0 := fun j h => s0_z h
  refine ⟨?_, ?_, ?_, ?_, ?_⟩
  · unfold OkS
    refine ⟨?_, ?_, ?_, ?_, ?_⟩
    · decide
    · decide
    · decide
    · decide
    · intro p hp
      have h1 := s0_b hp
      have h2 := hz (86 + 13 * p) (by omega)
      have h3 := hz (87 + 13 * p) (by omega)
      refine ⟨by omega, by omega, by omega, fun d hd => ?_⟩
      have h4 := hz (88 + 13 * p + d) (by omega)
      omega
  · decide
  · decide
  · decide
  · intro i hi
    rw [hz _ (by omega), hz _ (by omega), hz _ (by omega), hz _ (by omega), hz _ (by omega), hz _ (by omega)]
    omega
/-- a history being made -/
def HiP (G : wG) (μ : hM) (h k : Nat) : Prop :=
  μ h = some (.inr (1, [.ref (h + 1), .int (iv 0)])) ∧
  μ (h + 1) = some (.inl (G.2.1 4, 4, .inr (.inr (.inr (.inr (fun r => if r < k then some (h + 2 + 29 * r) else none)))))) ∧
  ∀ r, r < k → IsState G μ (h + 2 + 29 * r) (fun p => p) s0 0 0 none
theorem HiP.step {G : wG} {μ ν : hM} {h k : Nat} (hh : HiP G μ h k) (hq : ∀ q, h ≤ q → q < h + 2 + 29 * k → ν q = μ q) (h1 : IsState G ν (h + 2 + 29 * k) (fun p => p) s0 0 0 none) : HiP G (hu ν (h + 1) (.inl (G.2.1 4, 4, .inr (.inr (.inr (.inr (qu (fun r => if r < k then some (h + 2 + 29 * r) else none) k (h + 2 + 29 * k)))))))) h (k + 1) := by
  obtain ⟨a1, a2, a3⟩ := hh
  refine ⟨hu_n' (by omega) ((hq h (by omega) (by omega)).trans a1), ?_, fun p hp => ?_⟩
  · rw [qu_row (f := fun r => h + 2 + 29 * r)]; exact hu_s
  · by_cases e : p = k
    · subst e; exact h1.fr (fun q b c => hu_n (by omega))
    · exact (a3 p (by omega)).fr (fun q b c => (hu_n (by omega)).trans (hq _ (by omega) (by omega)))
theorem IsHist.of {G : wG} {μ : hM} {h : Nat} (hh : HiP G μ h 4) : IsHist G (hu μ (h + 1) (.inl (G.2.1 4, 4, .inr (.inr (.inr (.inr (fun r => some (h + 2 + 29 * r)))))))) h (fun r => r) 0 (fun _ p => p) (fun _ => s0) (fun _ => 0) (fun _ => 0) (fun _ => none) := by
  obtain ⟨a1, a2, a3⟩ := hh
  exact ⟨hu_n' (by omega) a1, hu_s, fun r hr => (a3 r hr).fr (fun q b c => hu_n (by omega)), fun r hr => hr, fun r q _ _ e => e, fun _ _ => okT_s0⟩
