/-! for the law's walks -/
theorem and_le (w k : Int32) (M : Int) (h : (k.toBitVec.toNat : Int) = M) : ∃ z : Int, w &&& k = iv z ∧ 0 ≤ z ∧ z ≤ M := by
  have h1 : (w &&& k).toBitVec.toNat ≤ k.toBitVec.toNat := by
    rw [Int32.toBitVec_and, BitVec.toNat_and]
    exact Nat.and_le_right
  refine ⟨((w &&& k).toBitVec.toNat : Int), ?_, by omega, by omega⟩
  rw [← iv_nI]
  apply Int32.toBitVec_inj.mp
  generalize (w &&& k) = y at *
  show y.toBitVec = (Int32.ofNat y.toBitVec.toNat).toBitVec
  simp
theorem hu_f {μ : hM} {a q : Nat} {e e2 : va_E} (hn : μ a = none) (h : μ q = some e) : hu μ a e2 q = some e := hu_n' (fun h2 => by rw [h2, hn] at h; cases h) h
theorem IsD.ext {G : wG} {μ ν : hM} {x rb : Nat} {u : aS} (h : IsD G μ x rb u) (hq : ∀ q e, μ q = some e → ν q = some e) : IsD G ν x rb u := by
  obtain ⟨a1, a2, a3, a4, a5, a6, a7, a8, a9, a10, e, a11⟩ := h
  exact ⟨hq _ _ a1, a2.mn (fun q e _ _ => hq q e) (fun q e _ => hq q e), a3.mn (fun q e _ _ => hq q e) (fun q e _ => hq q e), a4.mn (fun q e _ _ => hq q e) (fun q e _ => hq q e), a5.mn (fun q e _ _ => hq q e), a6.mn (fun q e _ _ => hq q e), a7, a8, a9, a10, e, hq _ _ a11⟩
theorem Chn.arr {μ : hM} {rb a : Nat} {y : ClassId × vp_A} {e : va_E} (ha : μ a = some (.inl y)) : ∀ {ch : List (Int × Int)} {rd : Option Nat}, Chn μ rb rd ch → Chn (hu μ a e) rb rd ch := by
  intro ch
  induction ch with
  | nil =>
    intro rd h
    cases rd with
    | none => exact True.intro
    | some b => exact h.elim
  | cons q t ih =>
    intro rd h
    obtain ⟨d, n⟩ := q
    cases rd with
    | none => exact h.elim
    | some b =>
      obtain ⟨e2, h1, h2, h3⟩ := h
      exact ⟨e2, h1, hu_n' (fun q => by rw [q, ha] at h2; cases h2) h2, ih h3⟩
theorem IsDT.arr {G : wG} {μ : hM} {sa rb a : Nat} {d : dT} {y : ClassId × vp_A} {e : va_E} (h : IsDT G μ sa rb d) (ha : μ a = some (.inl y)) (hr : a < sa ∨ sa + 29 ≤ a) : IsDT G (hu μ a e) sa rb d := by
  obtain ⟨π, fp, sp, rd, q1, q2, q3⟩ := h
  exact ⟨π, fp, sp, rd, q1.mn (fun q f h1 h2 h3 => hu_n' (by omega) h3), q2.arr ha, q3⟩
theorem IsDH.arr {G : wG} {μ : hM} {h rb a : Nat} {sz : Int} {ds : Nat → dT} {y : ClassId × vp_A} {e : va_E} (hh : IsDH G μ h rb sz ds) (ha : μ a = some (.inl y)) (hr : a < h ∨ h + 118 ≤ a) : IsDH G (hu μ a e) h rb sz ds := by
  obtain ⟨ρ, πs, fps, sps, rds, q1, q2⟩ := hh
  exact ⟨ρ, πs, fps, sps, rds, q1.mn (fun q f h1 h2 h3 => hu_n' (by omega) h3), fun r hr => ⟨(q2 r hr).1.arr ha, (q2 r hr).2⟩⟩
/-- an array that is no part of the stamp dater is written -/
theorem IsD.arr {G : wG} {μ : hM} {x rb a : Nat} {u : aS} {y : ClassId × vp_A} {e : va_E} (h : IsD G μ x rb u) (ha : μ a = some (.inl y)) (hr : a < x ∨ x + 194 ≤ a) : IsD G (hu μ a e) x rb u := by
  obtain ⟨a1, a2, a3, a4, a5, a6, a7, a8, a9, a10, f, a11⟩ := h
  refine ⟨hu_n' (by omega) a1, a2.arr ha (by omega), a3.arr ha (by omega), a4.arr ha (by omega), a5.mn (fun q f h1 h2 h3 => hu_n' (by omega) h3), a6.mn (fun q f h1 h2 h3 => hu_n' (by omega) h3), a7, a8, a9, a10, ?_⟩
  by_cases h9 : rb - 1 = a
  · exact ⟨e, by rw [h9]; exact hu_s⟩
  · exact ⟨f, hu_n' h9 a11⟩
/-- a row, filled so far -/
def pfx (f : Nat → Int) (k : Nat) : Nat → Int := fun j => if j < k then f j else 0
theorem pfx_z (f : Nat → Int) : (fun j : Nat => iv (pfx f 0 j)) = fun _ => iv 0 := by
  funext j
  rw [show pfx f 0 j = 0 from if_neg (Nat.not_lt_zero j)]
theorem pfx_s (f : Nat → Int) (k : Nat) : fu (pfx f k) k (f k) = pfx f (k + 1) := by
  funext j
  by_cases h : j = k
  · subst h
    rw [fu_s]
    exact (if_pos (Nat.lt_succ_self j)).symm
  · rw [fu_n h]
    unfold pfx
    by_cases h2 : j < k
    · rw [if_pos h2, if_pos (by omega)]
    · rw [if_neg h2, if_neg (by omega)]
theorem pfx_at {f : Nat → Int} {k j : Nat} (h : j < k) : pfx f k j = f j := if_pos h
/-- what lies in a place of the bands -/
def atD (σ : Nat → Int) : Nat → Int := fun p => σ (86 + 13 * p)
def atL (σ : Nat → Int) : Nat → Int := fun p => σ (87 + 13 * p)
def atW (σ : Nat → Int) : Nat → Int := fun p => σ (88 + 13 * p + (σ (86 + 13 * p)).toNat)
theorem drk_atW (σ : Nat → Int) (p : Nat) (k : Int) : drk σ p k = 8 * k + σ 4 / 4 - atW σ p := rfl
theorem v_press2 {u : aS} {k t : Int} (hk : 1 ≤ k ∧ k ≤ 9) (ht : 1 ≤ t ∧ t ≤ 99) : a_press u k t = (aAct u (nPr (aD u).1 k t.toNat, chAdd (aD u).2 ((aD u).1 3) (nRt (aD u).1 k t.toNat)), nRt (aD u).1 k t.toNat) := if_pos ⟨hk, ht⟩
theorem v_fill2 {u : aS} {k : Int} (hk : 1 ≤ k ∧ k ≤ 200) (h : (aD u).1 4 + k ≤ 200) : a_fill u k = (aAct u (fu (aD u).1 4 ((aD u).1 4 + k), (aD u).2), (aD u).1 4 + k) := by
  unfold a_fill
  rw [if_pos hk, if_neg (by omega), show min 200 ((aD u).1 4 + k) = (aD u).1 4 + k by omega]
theorem v_pass2 {u : aS} {k : Int} (hk : 1 ≤ k ∧ k ≤ 999) (h : (aD u).1 3 + k ≤ 36524) : a_pass u k = (aAct u (fu (aD u).1 3 ((aD u).1 3 + k), (aD u).2), (aD u).1 3 + k) := by
  unfold a_pass
  rw [if_pos hk, if_pos h]
theorem v_restore {u : aS} (h : aT u = 1) : a_restore u = (aAct u (aK u), (aK u).1 3) := by
  unfold a_restore
  rw [if_neg (by omega)]
theorem nPr_4 {σ : Nat → Int} (h : OkT σ) {k : Int} (hk : 1 ≤ k ∧ k ≤ 9) (j : Nat) (h5 : σ 5 + j ≤ 2000000000) : 0 ≤ nPr σ k j 4 ∧ nPr σ k j 4 ≤ σ 4 := by
  rw [nPr_eqs h hk j h5 4 (by omega)]
  exact nOnce_4 h.1 (by omega) j
/-- a day on, filled up or not -/
theorem day_on {σ : Nat → Int} {v w q : Int} (h : w = q) : EqS (fu (fu σ 4 w) 3 v) (fu σ 4 q) := by
  rw [h]
  exact EqS.rf.fl (by omega) v
theorem day_on2 {σ : Nat → Int} {v q : Int} (h : σ 4 = q) : EqS (fu σ 3 v) (fu σ 4 q) := by
  intro j hj
  rw [fu_n (show j ≠ 3 by omega)]
  by_cases e : j = 4
  · rw [e, fu_s, h]
  · rw [fu_n e]
theorem or_z {f g : Nat} : f ||| g = 0 ↔ f = 0 ∧ g = 0 := Nat.or_eq_zero_iff
theorem ev_le {E V : UInt64} (op : CmpOp) (h : Jvm.FP.Core.dcmp E V = some .lt ∨ Jvm.FP.Core.dcmp E V = some .eq) : ∃ q : Int, Op.cmpValue (FP.dcmp E V) op = iv q ∧ -1 ≤ q ∧ q ≤ 0 := by
  rcases h with h | h
  · exact ⟨-1, by rw [show FP.dcmp E V = some .lt from h]; rfl, by omega, by omega⟩
  · exact ⟨0, by rw [show FP.dcmp E V = some .eq from h]; rfl, by omega, by omega⟩
theorem ev_eq {E V : UInt64} (op : CmpOp) (h : Jvm.FP.Core.dcmp E V = some .eq) : Op.cmpValue (FP.dcmp E V) op = iv 0 := by
  rw [show FP.dcmp E V = some .eq from h]; rfl
theorem ev_gt {E V : UInt64} (op : CmpOp) (h : Jvm.FP.Core.dcmp E V = some .gt) : Op.cmpValue (FP.dcmp E V) op = iv 1 := by
  rw [show FP.dcmp E V = some .gt from h]; rfl
theorem ite_or {c : Prop} [Decidable c] {a b z : Int} (h : z = if c then a else b) : (c ∧ z = a) ∨ (¬ c ∧ z = b) := by
  by_cases q : c
  · rw [if_pos q] at h; exact Or.inl ⟨q, h⟩
  · rw [if_neg q] at h; exact Or.inr ⟨q, h⟩
theorem ite_of {c : Prop} [Decidable c] {a b z : Int} (h : (c ∧ z = a) ∨ (¬ c ∧ z = b)) : (if c then a else b) = z := by
  rcases h with h | h
  · rw [if_pos h.1]; exact h.2.symm
  · rw [if_neg h.1]; exact h.2.symm
