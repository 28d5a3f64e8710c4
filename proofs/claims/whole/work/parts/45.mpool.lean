theorem PCh.nil_ {ω : Nat → Int} {h : Int} {ch : List (Int × Int)} (hc : PCh ω h ch) (h0 : h ≤ 0) : ch = [] ∧ h = 0 := by
  cases ch with
  | nil => exact ⟨rfl, hc⟩
  | cons x t => obtain ⟨d, c⟩ := x; have q : 0 < h := hc.1; omega
theorem PCh.cons_ {ω : Nat → Int} {h : Int} {ch : List (Int × Int)} (hc : PCh ω h ch) (h0 : 0 < h) : ∃ (d c : Int) (t : List (Int × Int)), ch = (d, c) :: t ∧ ω (4 * h - 4).toNat = d ∧ ω (4 * h - 3).toNat = c ∧ ω (4 * h - 1).toNat = (t.length : Int) + 1 ∧ ω (4 * h - 2).toNat < h ∧ PCh ω (ω (4 * h - 2).toNat) t := by
  cases ch with
  | nil => have q : h = 0 := hc; omega
  | cons x t => obtain ⟨d, c⟩ := x; exact ⟨d, c, t, rfl, hc.2⟩
/-- an entry written -/
def putE (ω : Nat → Int) (at_ d c ah dy : Int) : Nat → Int := fu (fu (fu (fu ω (4 * at_ - 4).toNat d) (4 * at_ - 3).toNat c) (4 * at_ - 2).toNat ah) (4 * at_ - 1).toNat dy
theorem putE_lo {ω : Nat → Int} {at_ d c ah dy : Int} {j : Nat} (h : (j : Int) < 4 * (at_ - 1)) : putE ω at_ d c ah dy j = ω j := by
  unfold putE
  rw [fu_n (by omega), fu_n (by omega), fu_n (by omega), fu_n (by omega)]
theorem PCh.new {ω : Nat → Int} {at_ d c ah dy : Int} {t : List (Int × Int)} (h0 : 0 < at_) (hc : PCh ω ah t) (hah : ah < at_) (hdy : dy = (t.length : Int) + 1) : PCh (putE ω at_ d c ah dy) at_ ((d, c) :: t) := by
  have e1 : putE ω at_ d c ah dy (4 * at_ - 1).toNat = dy := by unfold putE; rw [fu_s]
  have e2 : putE ω at_ d c ah dy (4 * at_ - 2).toNat = ah := by unfold putE; rw [fu_n (by omega), fu_s]
  have e3 : putE ω at_ d c ah dy (4 * at_ - 3).toNat = c := by unfold putE; rw [fu_n (by omega), fu_n (by omega), fu_s]
  have e4 : putE ω at_ d c ah dy (4 * at_ - 4).toNat = d := by unfold putE; rw [fu_n (by omega), fu_n (by omega), fu_n (by omega), fu_s]
  refine ⟨h0, e4, e3, e1.trans hdy, by rw [e2]; exact hah, ?_⟩
  rw [e2]
  exact hc.fr (e := at_ - 1) (fun j hj => putE_lo hj) (by omega)
theorem chAdd_0 {ch : List (Int × Int)} {td mo : Int} (h : mo = 0) : chAdd ch td mo = ch := if_pos h
theorem chAdd_n {td mo : Int} (h : mo ≠ 0) : chAdd [] td mo = [(td, mo)] := if_neg h
theorem chAdd_s {td mo c : Int} {t : List (Int × Int)} (h : mo ≠ 0) : chAdd ((td, c) :: t) td mo = (td, c + mo) :: t := (if_neg h).trans (if_pos rfl)
theorem chAdd_o {td mo d c : Int} {t : List (Int × Int)} (h : mo ≠ 0) (hd : d ≠ td) : chAdd ((d, c) :: t) td mo = (td, mo) :: (d, c) :: t := (if_neg h).trans (if_neg hd)
theorem srt_add {ch : List (Int × Int)} {td mo : Int} (h : SrtL td ch) : SrtL td (chAdd ch td mo) := by
  by_cases h0 : mo = 0
  · rw [chAdd_0 h0]; exact h
  · cases ch with
    | nil => rw [chAdd_n h0]; exact ⟨Int.le_refl _, True.intro⟩
    | cons x t =>
      obtain ⟨d, c⟩ := x
      have h1 : d ≤ td := h.1
      by_cases hd : d = td
      · subst hd; rw [chAdd_s h0]; exact ⟨Int.le_refl _, h.2⟩
      · rw [chAdd_o h0 hd]; exact ⟨Int.le_refl _, by omega, h.2⟩
/-- the head's entry is one of today's, made since the numbers were put aside -/
def Frh (ω : Nat → Int) (h td fr : Int) : Prop := fr ≤ h ∧ ω (4 * h - 4).toNat = td
/-- what presses do to the pool -/
def PrP (ω ω1 : Nat → Int) (en e1 h h1 fr td mo : Int) (ch : List (Int × Int)) : Prop :=
  PCh ω1 h1 (chAdd ch td mo) ∧ h1 ≤ e1 ∧ (en ≤ e1 ∧ e1 ≤ en + 1) ∧ (∀ j : Nat, (j : Int) < 4 * (fr - 1) → ω1 j = ω j) ∧ ((ω1 = ω ∧ e1 = en ∧ h1 = h) ∨ (Frh ω1 h1 td fr ∧ (Frh ω h td fr → e1 = en)))
theorem putE_4 {ω : Nat → Int} {at_ d c ah dy : Int} (h : 0 < at_) : putE ω at_ d c ah dy (4 * at_ - 4).toNat = d := by unfold putE; rw [fu_n (by omega), fu_n (by omega), fu_n (by omega), fu_s]
theorem PrP.no {ω : Nat → Int} {en h fr td mo : Int} {ch : List (Int × Int)} (hc : PCh ω h ch) (hl : h ≤ en) (h0 : mo = 0) : PrP ω ω en en h h fr td mo ch := ⟨by rw [chAdd_0 h0]; exact hc, hl, by omega, fun _ _ => rfl, Or.inl ⟨rfl, rfl, rfl⟩⟩
/-- a new day's entry -/
theorem PrP.mk {ω : Nat → Int} {en h fr td mo dy : Int} {ch : List (Int × Int)} (hc : PCh ω h ch) (hl : h ≤ en) (hen : 0 ≤ en) (h0 : mo ≠ 0) (hf : 1 ≤ fr ∧ fr ≤ en + 1) (hn : ∀ d c t, ch = (d, c) :: t → d ≠ td) (hdy : dy = (ch.length : Int) + 1) : PrP ω (putE ω (en + 1) td (0 + mo) h dy) en (en + 1) h (en + 1) fr td mo ch := by
  refine ⟨?_, by omega, by omega, fun j hj => putE_lo (by omega), Or.inr ⟨⟨by omega, putE_4 (by omega)⟩, fun hF => ?_⟩⟩
  · have e : chAdd ch td mo = (td, mo) :: ch := by
      cases ch with
      | nil => exact chAdd_n h0
      | cons x t => obtain ⟨d, c⟩ := x; exact chAdd_o h0 (hn d c t rfl)
    rw [e, Int.zero_add]
    exact PCh.new (by omega) hc (by omega) hdy
  · have h1 := hF.1
    obtain ⟨d, c, t, e, h4, -⟩ := hc.cons_ (by omega)
    exact absurd (h4.symm.trans hF.2) (hn d c t e)
/-- today's entry again, written over or written anew -/
theorem PrP.up {ω : Nat → Int} {en at_ e1 h fr td mo dy ah c0 d0 : Int} {t : List (Int × Int)} {ch : List (Int × Int)} (hce : ch = (d0, c0) :: t) (hc : PCh ω h ch) (hp : 0 < h) (hl : h ≤ en) (h0 : mo ≠ 0) (hf : 1 ≤ fr ∧ fr ≤ en + 1) (hd : d0 = td) (hah : ah = ω (4 * h - 2).toNat) (hdy : dy = ω (4 * h - 1).toNat) (hat : (fr ≤ h ∧ at_ = h ∧ e1 = en) ∨ (h < fr ∧ at_ = en + 1 ∧ e1 = en + 1)) : PrP ω (putE ω at_ td (ω (4 * h - 3).toNat + mo) ah dy) en e1 h at_ fr td mo ch := by
  obtain ⟨d, c, t2, e2, h4, h3, h1, h2, h5⟩ := hc.cons_ hp
  rw [e2] at hce
  cases hce
  refine ⟨?_, by omega, by omega, fun j hj => putE_lo (by omega), Or.inr ⟨⟨by omega, putE_4 (by omega)⟩, fun hF => ?_⟩⟩
  · subst hd
    rw [e2, chAdd_s h0, h3]
    refine PCh.new (by omega) ?_ ?_ ?_
    · rw [hah]; exact h5
    · rw [hah]; omega
    · rw [hdy]; exact h1
  · have q := hF.1
    omega
