/-! how even the wear is: above 0, at most 1 -/
abbrev fV (a : UInt64) : Jvm.FP.Core.Datum := Jvm.FP.Core.val64 a
abbrev fB : Jvm.FP.Core.Fmt := Jvm.FP.Core.b64
theorem fB_qmin : fB.qmin = -1074 := by decide +kernel
theorem q_eq {c d : Nat} {q r : Int} (hd : 0 < d) : Jvm.FP.Core.quotient fB (.fin false c q) (.fin false d r) = Jvm.FP.Core.roundRatio fB false c d (q - r) := by
  show (if d = 0 then _ else Jvm.FP.Core.roundRatio fB (false != false) c d (q - r)) = _
  rw [if_neg (by omega)]
  rfl
theorem q_le {c d cv : Nat} {q r qv : Int} (hd : 0 < d) (hV : Jvm.FP.Core.fits fB (.fin false cv qv)) (h : ∀ e0 : Int, e0 ≤ -1074 → e0 ≤ q - r → c * 2 ^ (q - r - e0).toNat ≤ cv * 2 ^ (qv - e0).toNat * d) :
    Jvm.FP.Core.zmag fB (Jvm.FP.Core.roundRatio fB false c d (q - r)) ≤ Jvm.FP.Core.zmag fB (.fin false cv qv) := by
  obtain ⟨e0, he⟩ : ∃ e0 : Int, e0 = min (-1074) (q - r) := ⟨_, rfl⟩
  have h0 : e0 ≤ fB.qmin := by rw [fB_qmin]; omega
  refine Jvm.FP.Core.zmag_roundRatio_le Jvm.FP.Core.good_b64 hd hV (fun q => by cases q) h0 (by omega) ?_
  rw [← Jvm.FP.Core.units_fin hV h0]
  exact h e0 (by omega) (by omega)
theorem q_ge {c d cv : Nat} {q r qv : Int} (hd : 0 < d) (hV : Jvm.FP.Core.fits fB (.fin false cv qv)) (h : ∀ e0 : Int, e0 ≤ -1074 → e0 ≤ q - r → cv * 2 ^ (qv - e0).toNat * d ≤ c * 2 ^ (q - r - e0).toNat) :
    Jvm.FP.Core.zmag fB (.fin false cv qv) ≤ Jvm.FP.Core.zmag fB (Jvm.FP.Core.roundRatio fB false c d (q - r)) := by
  obtain ⟨e0, he⟩ : ∃ e0 : Int, e0 = min (-1074) (q - r) := ⟨_, rfl⟩
  have h0 : e0 ≤ fB.qmin := by rw [fB_qmin]; omega
  refine Jvm.FP.Core.zmag_roundRatio_ge Jvm.FP.Core.good_b64 hd hV h0 (by omega) ?_
  rw [← Jvm.FP.Core.units_fin hV h0]
  exact h e0 (by omega) (by omega)
theorem z_fin (c : Nat) (q : Int) : Jvm.FP.Core.zmag fB (.fin false c q) = c * 2 ^ (q + 1074).toNat := by
  show c * 2 ^ (q - fB.qmin).toNat = _
  rw [fB_qmin, show q - -1074 = q + 1074 by omega]
/-- two powers of two together -/
theorem pw2 {a b c : Nat} (h : a + b = c) : 2 ^ a * 2 ^ b = 2 ^ c := by rw [← Nat.pow_add, h]
theorem pos_int {i : Nat} {a : UInt64} (hi : 0 < i ∧ i < 2 ^ 52) (h : Jvm.FP.Core.DInt (i : Int) a) : ∃ (c : Nat) (q : Int), fV a = .fin false c q ∧ (-1074 ≤ q ∧ q ≤ 0) ∧ c = i * 2 ^ (-q).toNat ∧ Jvm.FP.Core.fits fB (.fin false c q) := by
  have hf := Jvm.FP.Core.val64_fits a
  unfold Jvm.FP.Core.DInt at h
  show ∃ (c : Nat) (q : Int), Jvm.FP.Core.val64 a = .fin false c q ∧ _
  generalize Jvm.FP.Core.val64 a = x at *
  cases x with
  | nan => exact h.elim
  | inf => exact h.elim
  | fin s c q =>
    have hs := Jvm.FP.Core.whole_sign h (by omega)
    have hs2 : s = false := by rw [hs]; exact decide_eq_false (by omega)
    subst hs2
    have h1 : Jvm.FP.Core.signed false (c * 2 ^ q.toNat) = (i : Int) * ((2 ^ (-q).toNat : Nat) : Int) := h
    have h2 : ((c * 2 ^ q.toNat : Nat) : Int) = (i : Int) * ((2 ^ (-q).toNat : Nat) : Int) := h1
    have h3 : c * 2 ^ q.toNat = i * 2 ^ (-q).toNat := by
      rw [← Int.natCast_mul] at h2
      exact Int.ofNat.inj h2
    have hq1 : fB.qmin ≤ q := hf.2.1
    rw [fB_qmin] at hq1
    have hq2 : q ≤ 0 := by
      refine Int.not_lt.mp (fun hlt => ?_)
      have h4 : (-q).toNat = 0 := by omega
      rw [h4, Nat.pow_zero, Nat.mul_one] at h3
      have h5 : Jvm.FP.Core.b64.tails ≤ c := by
        rcases hf.2.2.2 with h6 | h6
        · have h7 : q = -1074 := h6.trans fB_qmin
          omega
        · exact h6
      have h6 : Jvm.FP.Core.b64.tails = 2 ^ 52 := by decide +kernel
      have h7 := Nat.le_mul_of_pos_right c (Nat.two_pow_pos q.toNat)
      omega
    refine ⟨c, q, rfl, ⟨hq1, hq2⟩, ?_, hf⟩
    have h4 : q.toNat = 0 := by omega
    rw [h4, Nat.pow_zero, Nat.mul_one] at h3
    exact h3
theorem v_60 : fV 4633641066610819072 = .fin false (60 * 2 ^ 47) (-47) := by decide +kernel
theorem v_1 : fV FP.dconst1 = .fin false (2 ^ 52) (-52) := by decide +kernel
theorem f_1 : Jvm.FP.Core.fits fB (.fin false (2 ^ 52) (-52)) := by
  have := Jvm.FP.Core.val64_fits FP.dconst1
  rw [show Jvm.FP.Core.val64 FP.dconst1 = .fin false (2 ^ 52) (-52) from v_1] at this
  exact this
theorem v_m20 : fV 4517110426252607488 = .fin false (2 ^ 52) (-72) := by decide +kernel
theorem f_m20 : Jvm.FP.Core.fits fB (.fin false (2 ^ 52) (-72)) := by
  have := Jvm.FP.Core.val64_fits 4517110426252607488
  rw [show Jvm.FP.Core.val64 4517110426252607488 = .fin false (2 ^ 52) (-72) from v_m20] at this
  exact this
theorem v_m40 : fV 4427038433705197568 = .fin false (2 ^ 52) (-92) := by decide +kernel
theorem f_m40 : Jvm.FP.Core.fits fB (.fin false (2 ^ 52) (-92)) := by
  have := Jvm.FP.Core.val64_fits 4427038433705197568
  rw [show Jvm.FP.Core.val64 4427038433705197568 = .fin false (2 ^ 52) (-92) from v_m40] at this
  exact this
theorem big_inf (s : Bool) : 99 * 2 ^ 1074 < Jvm.FP.Core.zmag fB (.inf s) := by
  cases s <;> decide +kernel
theorem q1_le {c cg : Nat} {q qg : Int} {s g : Nat} (hq : -1074 ≤ q ∧ q ≤ 0) (hg : -1074 ≤ qg ∧ qg ≤ 0) (hc : c = s * 2 ^ (-q).toNat) (hcg : cg = g * 2 ^ (-qg).toNat) (h : s ≤ 60 * g) : ∀ e0 : Int, e0 ≤ -1074 → e0 ≤ q - -47 → c * 2 ^ (q - -47 - e0).toNat ≤ cg * 2 ^ (qg - e0).toNat * (60 * 2 ^ 47) := by
  intro e0 h1 h2
  rw [hc, hcg, Nat.mul_assoc, pw2 (show (-q).toNat + (q - -47 - e0).toNat = (47 - e0).toNat by omega), Nat.mul_assoc g, pw2 (show (-qg).toNat + (qg - e0).toNat = (-e0).toNat by omega)]
  rw [show g * 2 ^ (-e0).toNat * (60 * 2 ^ 47) = 60 * g * (2 ^ (-e0).toNat * 2 ^ 47) by ac_rfl, pw2 (show (-e0).toNat + 47 = (47 - e0).toNat by omega)]
  exact Nat.mul_le_mul_right _ h
theorem q1_ge {c : Nat} {q : Int} {s : Nat} (hq : -1074 ≤ q ∧ q ≤ 0) (hc : c = s * 2 ^ (-q).toNat) (h : 1 ≤ s) : ∀ e0 : Int, e0 ≤ -1074 → e0 ≤ q - -47 → 2 ^ 52 * 2 ^ (-72 - e0).toNat * (60 * 2 ^ 47) ≤ c * 2 ^ (q - -47 - e0).toNat := by
  intro e0 h1 h2
  rw [hc, Nat.mul_assoc s, pw2 (show (-q).toNat + (q - -47 - e0).toNat = (47 - e0).toNat by omega)]
  rw [show 2 ^ 52 * 2 ^ (-72 - e0).toNat * (60 * 2 ^ 47) = 60 * (2 ^ 52 * 2 ^ (-72 - e0).toNat * 2 ^ 47) by ac_rfl, pw2 (show 52 + (-72 - e0).toNat = (-20 - e0).toNat by omega), pw2 (show (-20 - e0).toNat + 47 = (27 - e0).toNat by omega)]
  rw [← pw2 (show 20 + (27 - e0).toNat = (47 - e0).toNat by omega), ← Nat.mul_assoc s]
  exact Nat.mul_le_mul_right _ (by omega)
theorem q2_le {c1 cg : Nat} {q1 qg : Int} {g : Nat} (hq : -1074 ≤ q1) (hg : -1074 ≤ qg ∧ qg ≤ 0) (hcg : cg = g * 2 ^ (-qg).toNat) (h : c1 * 2 ^ (q1 + 1074).toNat ≤ g * 2 ^ 1074) : ∀ e0 : Int, e0 ≤ -1074 → e0 ≤ q1 - qg → c1 * 2 ^ (q1 - qg - e0).toNat ≤ 2 ^ 52 * 2 ^ (-52 - e0).toNat * cg := by
  intro e0 h1 h2
  have h3 := Nat.mul_le_mul_right (2 ^ (-qg - 1074 - e0).toNat) h
  rw [Nat.mul_assoc, pw2 (show (q1 + 1074).toNat + (-qg - 1074 - e0).toNat = (q1 - qg - e0).toNat by omega), Nat.mul_assoc, pw2 (show 1074 + (-qg - 1074 - e0).toNat = (-qg - e0).toNat by omega)] at h3
  rw [hcg, pw2 (show 52 + (-52 - e0).toNat = (-e0).toNat by omega), show 2 ^ (-e0).toNat * (g * 2 ^ (-qg).toNat) = g * (2 ^ (-e0).toNat * 2 ^ (-qg).toNat) by ac_rfl, pw2 (show (-e0).toNat + (-qg).toNat = (-qg - e0).toNat by omega)]
  exact h3
theorem q2_ge {c1 cg : Nat} {q1 qg : Int} {g : Nat} (hq : -1074 ≤ q1) (hg : -1074 ≤ qg ∧ qg ≤ 0) (hcg : cg = g * 2 ^ (-qg).toNat) (hg9 : g ≤ 99) (h : 2 ^ 52 * 2 ^ 1002 ≤ c1 * 2 ^ (q1 + 1074).toNat) : ∀ e0 : Int, e0 ≤ -1074 → e0 ≤ q1 - qg → 2 ^ 52 * 2 ^ (-92 - e0).toNat * cg ≤ c1 * 2 ^ (q1 - qg - e0).toNat := by
  intro e0 h1 h2
  have h3 := Nat.mul_le_mul_right (2 ^ (-qg - 1074 - e0).toNat) h
  rw [Nat.mul_assoc c1, pw2 (show (q1 + 1074).toNat + (-qg - 1074 - e0).toNat = (q1 - qg - e0).toNat by omega), Nat.mul_assoc, pw2 (show 1002 + (-qg - 1074 - e0).toNat = (-qg - 72 - e0).toNat by omega), pw2 (show 52 + (-qg - 72 - e0).toNat = (-qg - 20 - e0).toNat by omega)] at h3
  refine Nat.le_trans ?_ h3
  rw [hcg, pw2 (show 52 + (-92 - e0).toNat = (-40 - e0).toNat by omega), show 2 ^ (-40 - e0).toNat * (g * 2 ^ (-qg).toNat) = g * (2 ^ (-40 - e0).toNat * 2 ^ (-qg).toNat) by ac_rfl, pw2 (show (-40 - e0).toNat + (-qg).toNat = (-qg - 40 - e0).toNat by omega), ← pw2 (show 20 + (-qg - 40 - e0).toNat = (-qg - 20 - e0).toNat by omega)]
  exact Nat.mul_le_mul_right _ (by omega)
theorem even_of {s g : Nat} (hs : 1 ≤ s ∧ s ≤ 60 * g) (hg : 1 ≤ g ∧ g ≤ 99) :
    (Jvm.FP.Core.dcmp (FP.ddiv (FP.ddiv (FP.i2d (iv (s : Int))) 4633641066610819072) (FP.i2d (iv (g : Int)))) FP.dconst1 = some .lt ∨ Jvm.FP.Core.dcmp (FP.ddiv (FP.ddiv (FP.i2d (iv (s : Int))) 4633641066610819072) (FP.i2d (iv (g : Int)))) FP.dconst1 = some .eq) ∧
    Jvm.FP.Core.dcmp (FP.ddiv (FP.ddiv (FP.i2d (iv (s : Int))) 4633641066610819072) (FP.i2d (iv (g : Int)))) 0 = some .gt := by
  have hds : Jvm.FP.Core.DInt (s : Int) (FP.i2d (iv (s : Int))) := by
    have := Jvm.FP.Core.i2d_int (iv (s : Int))
    rw [iv_toInt (by omega)] at this
    exact this
  have hdg : Jvm.FP.Core.DInt (g : Int) (FP.i2d (iv (g : Int))) := by
    have := Jvm.FP.Core.i2d_int (iv (g : Int))
    rw [iv_toInt (by omega)] at this
    exact this
  obtain ⟨c, q, e1, hq, hc, hf1⟩ := pos_int (by omega) hds
  obtain ⟨cg, qg, e2, hqg, hcg, hf2⟩ := pos_int (by omega) hdg
  generalize FP.i2d (iv (s : Int)) = x at *
  generalize FP.i2d (iv (g : Int)) = y at *
  have ha : fV (FP.ddiv x 4633641066610819072) = Jvm.FP.Core.roundRatio fB false c (60 * 2 ^ 47) (q - -47) := by
    rw [← q_eq (by decide)]
    have := Jvm.FP.Core.val64_ddiv x 4633641066610819072
    rw [show Jvm.FP.Core.val64 x = .fin false c q from e1, show Jvm.FP.Core.val64 4633641066610819072 = .fin false (60 * 2 ^ 47) (-47) from v_60] at this
    exact this
  have hcg0 : 0 < cg := by rw [hcg]; exact Nat.mul_pos (by omega) (Nat.two_pow_pos _)
  have u1 := q_le (c := c) (d := 60 * 2 ^ 47) (q := q) (r := -47) (by decide) hf2 (q1_le hq hqg hc hcg hs.2)
  have l1 := q_ge (c := c) (d := 60 * 2 ^ 47) (q := q) (r := -47) (by decide) f_m20 (q1_ge hq hc hs.1)
  rw [← ha] at u1 l1
  rw [z_fin, hcg, Nat.mul_assoc, pw2 (show (-qg).toNat + (qg + 1074).toNat = 1074 by omega)] at u1
  rw [z_fin, show ((-72 : Int) + 1074).toNat = 1002 from rfl] at l1
  obtain ⟨c1, q1, e3⟩ : ∃ (c1 : Nat) (q1 : Int), fV (FP.ddiv x 4633641066610819072) = .fin false c1 q1 := by
    rcases Jvm.FP.Core.roundRatio_cases fB false c (60 * 2 ^ 47) (q - -47) with ⟨c1, q1, h⟩ | h
    · exact ⟨c1, q1, ha.trans h⟩
    · exfalso
      rw [ha, h] at u1
      have := big_inf false
      have h99 : g * 2 ^ 1074 ≤ 99 * 2 ^ 1074 := Nat.mul_le_mul_right _ hg.2
      exact absurd (Nat.lt_of_lt_of_le this (Nat.le_trans u1 h99)) (Nat.lt_irrefl _)
  have hf3 : Jvm.FP.Core.fits fB (.fin false c1 q1) := by
    have := Jvm.FP.Core.val64_fits (FP.ddiv x 4633641066610819072)
    rw [show Jvm.FP.Core.val64 (FP.ddiv x 4633641066610819072) = .fin false c1 q1 from e3] at this
    exact this
  have hq1 : -1074 ≤ q1 := by have h9 : fB.qmin ≤ q1 := hf3.2.1; rw [fB_qmin] at h9; exact h9
  rw [e3, z_fin] at u1 l1
  generalize FP.ddiv x 4633641066610819072 = z at *
  have hb : fV (FP.ddiv z y) = Jvm.FP.Core.roundRatio fB false c1 cg (q1 - qg) := by
    rw [← q_eq hcg0]
    have := Jvm.FP.Core.val64_ddiv z y
    rw [show Jvm.FP.Core.val64 z = .fin false c1 q1 from e3, show Jvm.FP.Core.val64 y = .fin false cg qg from e2] at this
    exact this
  have u2 := q_le (c := c1) (d := cg) (q := q1) (r := qg) hcg0 f_1 (q2_le hq1 hqg hcg u1)
  have l2 := q_ge (c := c1) (d := cg) (q := q1) (r := qg) hcg0 f_m40 (q2_ge hq1 hqg hcg hg.2 l1)
  have sg := Jvm.FP.Core.sgn_roundRatio fB false c1 cg (q1 - qg)
  have nn := Jvm.FP.Core.roundRatio_ne_nan fB false c1 cg (q1 - qg)
  rw [← hb] at u2 l2 sg nn
  generalize FP.ddiv z y = w at *
  have zv : Jvm.FP.Core.zval fB (fV w) = (Jvm.FP.Core.zmag fB (fV w) : Int) := by
    unfold Jvm.FP.Core.zval
    rw [sg]
    rfl
  have z1 : Jvm.FP.Core.zval fB (fV FP.dconst1) = (Jvm.FP.Core.zmag fB (.fin false (2 ^ 52) (-52)) : Int) := by
    rw [v_1]
    rfl
  constructor
  · refine Jvm.FP.Core.dcmp_le.mpr ⟨nn, ?_, ?_⟩
    · show fV FP.dconst1 ≠ .nan
      rw [v_1]
      intro h; cases h
    · show Jvm.FP.Core.zval fB (fV w) ≤ Jvm.FP.Core.zval fB (fV FP.dconst1)
      rw [zv, z1]
      exact Int.ofNat_le.mpr u2
  · refine Jvm.FP.Core.dcmp_gt.mpr ⟨nn, ?_, ?_⟩
    · rw [Jvm.FP.Core.val64_zero]
      intro h; cases h
    · rw [Jvm.FP.Core.zval64_zero]
      show 0 < Jvm.FP.Core.zval fB (fV w)
      rw [zv]
      have h40 : 0 < Jvm.FP.Core.zmag fB (.fin false (2 ^ 52) (-92)) := by
        rw [z_fin]
        exact Nat.mul_pos (by decide) (Nat.two_pow_pos _)
      exact Int.ofNat_lt.mpr (Nat.lt_of_lt_of_le h40 l2)
