/-- the orders so far: fl what was found of the text, d0 the state ahead, d now, i how many, bp the place, dd the days -/
def DoI (c : Nat → Int) (L : Int) (fl : Int × Int × Int) (d0 d : dT) (i bp dd : Int) : Prop :=
  allD c L fl.2.1.toNat 0 d0 = allD c L (fl.2.1 - i).toNat bp d ∧ (i < fl.2.1 → (0 ≤ bp ∧ bp ≤ L) ∧ fltF c L (61 - i).toNat bp i dd = (-5, fl.2.1, fl.2.2)) ∧ (0 ≤ dd ∧ d.1 3 = d0.1 3 + dd) ∧ (d0.1 5 ≤ d.1 5 ∧ d.1 5 ≤ d0.1 5 + 99 * i)
theorem DoI.init {c : Nat → Int} {L : Int} {fl : Int × Int × Int} {d0 : dT} (hL : 0 ≤ L ∧ L ≤ 60) (hf : fl = fltF c L 61 0 0 0) (h5 : fl.1 = -5) : DoI c L fl d0 d0 0 0 0 := by
  refine ⟨by rw [Int.sub_zero], fun _ => ⟨by omega, ?_⟩, by omega, by omega⟩
  show fltF c L 61 0 0 0 = _
  rw [← hf]
  exact Prod.ext h5 rfl
theorem DoI.fin {c : Nat → Int} {L : Int} {fl : Int × Int × Int} {d0 d : dT} {i bp dd : Int} (h : DoI c L fl d0 d i bp dd) (hi : fl.2.1 ≤ i) : d = allD c L fl.2.1.toNat 0 d0 := by
  rw [h.1, show (fl.2.1 - i).toNat = 0 by omega]
  rfl
theorem DoI.at_ {c : Nat → Int} {L : Int} {fl : Int × Int × Int} {d0 d : dT} {i bp dd : Int} (h : DoI c L fl d0 d i bp dd) (hi : 0 ≤ i ∧ i < fl.2.1) (hN : fl.2.1 ≤ 61) : (0 ≤ bp ∧ bp ≤ L) ∧ (ordF c L bp).1 = 1 ∧ (bp ≤ (ordF c L bp).2.1 ∧ (ordF c L bp).2.1 ≤ L) ∧ d.1 5 ≤ d0.1 5 + 6100 ∧ fltF c L ((61 - (i + 1)).toNat + 1) bp i dd = (-5, fl.2.1, fl.2.2) := by
  obtain ⟨h1, h2, h3, h4⟩ := h
  obtain ⟨q1, q2⟩ := h2 hi.2
  rw [show (61 - i).toNat = (61 - (i + 1)).toNat + 1 by omega] at q2
  have hst := flt_st q1 q2
  have hr := ordF_rng (c := c) (L := L) q1
  exact ⟨q1, hst.1, ⟨hr.2.1, hr.2.2.1⟩, by omega, q2⟩
/-- what an order needs -/
theorem DoI.pre {c : Nat → Int} {L : Int} {fl : Int × Int × Int} {d0 d : dT} {i bp dd nu ti : Int} (h : DoI c L fl d0 d i bp dd) (hi : 0 ≤ i ∧ i < fl.2.1) (hN : fl.2.1 ≤ 61) (hT : OkT d.1) (hDD : d0.1 3 + fl.2.2 ≤ 36524) (hn : (nxt c L bp ≠ 97 → nu = (ordF c L bp).2.2.1) ∧ (nxt c L bp = 112 → ti = (ordF c L bp).2.2.2)) : (nxt c L bp = 100 → 0 ≤ nu ∧ nu ≤ 999999) ∧ (nxt c L bp = 112 → (1 ≤ nu ∧ nu ≤ 9) ∧ (1 ≤ ti ∧ ti ≤ 99)) ∧ (nxt c L bp = 43 → 0 ≤ nu ∧ d.1 3 + nu ≤ 36524) ∧ (nxt c L bp = 105 → 0 ≤ nu ∧ nu ≤ 1000) := by
  obtain ⟨q1, q2, q3, q4, q5⟩ := h.at_ hi hN
  obtain ⟨h1, h2, h3, h4⟩ := h
  have hst := flt_st q1 q5
  have hro := ord_rng q1 q2
  have hpl := plus_rng (c := c) (L := L) q1
  have hle : dd + (if nxt c L bp = 43 then (ordF c L bp).2.2.1 else 0) ≤ fl.2.2 := by
    rcases hst.2 with ⟨e1, e2, e3⟩ | ⟨e1, e2, e3⟩
    · omega
    · have hFr2 := fltF_rng (c := c) (L := L) (61 - (i + 1)).toNat ((ordF c L bp).2.1 + 1) (i + 1) (dd + (if nxt c L bp = 43 then (ordF c L bp).2.2.1 else 0)) (by omega) (by omega) (by omega)
      rw [e3] at hFr2
      exact hFr2.2.2.2.1
  refine ⟨fun q => ?_, fun q => ?_, fun q => ?_, fun q => ?_⟩
  · rw [hn.1 (by omega)]; exact hro.1 q
  · rw [hn.1 (by omega), hn.2 q]; exact hro.2.1 q
  · rw [if_pos q] at hpl hle
    rw [hn.1 (by omega)]
    omega
  · rw [hn.1 (by omega)]
    have := hro.2.2.1 q
    omega
theorem DoI.step {c : Nat → Int} {L : Int} {fl : Int × Int × Int} {d0 d : dT} {i bp dd nu ti : Int} (h : DoI c L fl d0 d i bp dd) (hi : 0 ≤ i ∧ i < fl.2.1) (hN : fl.2.1 ≤ 61) (hT : OkT d.1) (hDD : d0.1 3 + fl.2.2 ≤ 36524) (h5 : d0.1 5 + 6200 ≤ 2000000000) (hn : (nxt c L bp ≠ 97 → nu = (ordF c L bp).2.2.1) ∧ (nxt c L bp = 112 → ti = (ordF c L bp).2.2.2)) : DoI c L fl d0 (ordD (nxt c L bp) nu ti d) (i + 1) (if nxt c L (ordF c L bp).2.1 = 59 then (ordF c L bp).2.1 + 1 else (ordF c L bp).2.1) (dd + (if nxt c L bp = 43 then (ordF c L bp).2.2.1 else 0)) := by
  have hpre := h.pre hi hN hT hDD hn
  obtain ⟨q1, q2, q3, q4, q5⟩ := h.at_ hi hN
  obtain ⟨h1, h2, h3, h4⟩ := h
  have hst := flt_st q1 q5
  have hpl := plus_rng (c := c) (L := L) q1
  have h35 := ordD_35 (k := nxt c L bp) (nu := nu) (ti := ti) hT hpre.2.1 (by omega)
  have e9 : (if nxt c L bp = 43 then nu else 0) = (if nxt c L bp = 43 then (ordF c L bp).2.2.1 else 0) := by
    by_cases q9 : nxt c L bp = 43
    · rw [if_pos q9, if_pos q9]; exact hn.1 (by omega)
    · rw [if_neg q9, if_neg q9]
  have h3d := h35.1
  rw [e9] at h3d
  have h5d := h35.2
  clear h35 hpre
  refine ⟨?_, fun q => ?_, ⟨by omega, by rw [h3d]; omega⟩, by omega⟩
  · rw [h1, ordD_cg hn.1 hn.2, show (fl.2.1 - i).toNat = (fl.2.1 - (i + 1)).toNat + 1 by omega, allD_s]
    rcases hst.2 with ⟨e1, e2, e3⟩ | ⟨e1, e2, e3⟩
    · rw [show (fl.2.1 - (i + 1)).toNat = 0 by omega, allD_0, allD_0]
    · rw [if_pos e2]
  · rcases hst.2 with ⟨e1, e2, e3⟩ | ⟨e1, e2, e3⟩
    · omega
    · rw [if_pos e2]
      exact ⟨by omega, e3⟩
