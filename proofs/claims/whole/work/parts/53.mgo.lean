theorem okT_11 {σ : Nat → Int} (h : OkT σ) (v : Int) : OkT (fu σ 11 v) := by
  have hE : EqS (fu σ 11 v) σ := EqS.rf.fl (by omega) v
  obtain ⟨h0, h3, h5, h12, hp⟩ := h
  refine ⟨hE.ok h0, ?_, ?_, ?_, fun i hi => ?_⟩
  · rw [fu_n (by omega)]; exact h3
  · rw [fu_n (by omega)]; exact h5
  · rw [fu_n (by omega), fu_n (by omega)]; exact h12
  · obtain ⟨q0, q1, q2, q3, q4, q5⟩ := hp i hi
    refine ⟨?_, ?_, ?_, ?_, ?_, ?_⟩
    · rw [fu_n (by omega)]; exact q0
    · rw [fu_n (by omega)]; exact q1
    · rw [fu_n (by omega)]; exact q2
    · rw [fu_n (by omega)]; exact q3
    · rw [fu_n (by omega)]; exact q4
    · rw [fu_n (by omega)]; exact q5
/-- an order, beside the chain's head -/
theorem ordD_fu {d : dT} {k nu ti h : Int} (hT : OkT d.1) (h112 : k = 112 → (1 ≤ nu ∧ nu ≤ 9) ∧ (1 ≤ ti ∧ ti ≤ 99)) (h5 : d.1 5 + 99 ≤ 2000000000) : ordD k nu ti (fu d.1 11 h, d.2) = (fu (ordD k nu ti d).1 11 h, (ordD k nu ti d).2) := by
  unfold ordD
  dsimp only
  by_cases h1 : k = 100
  · rw [if_pos h1, if_pos h1, adj_fu (by omega) (by omega)]
  rw [if_neg h1, if_neg h1]
  by_cases h2 : k = 97
  · rw [if_pos h2, if_pos h2, adj_fu (by omega) (by omega), fu_n (by omega)]
  rw [if_neg h2, if_neg h2]
  by_cases h3 : k = 112
  · have hq := h112 h3
    rw [if_pos h3, if_pos h3, nPr_fu hT hq.1 h _ (by omega), nRt_fu hT hq.1 h _ (by omega), fu_n (by omega)]
  rw [if_neg h3, if_neg h3]
  by_cases h4 : k = 43
  · rw [if_pos h4, if_pos h4, fu_n (by omega), fu_c (by omega)]
  rw [if_neg h4, if_neg h4]
  by_cases h6 : k = 105
  · rw [if_pos h6, if_pos h6, fu_n (by omega), fu_c (by omega)]
  rw [if_neg h6, if_neg h6]
/-- what holds of a state's numbers holds behind an order -/
theorem okD_ord {d : dT} {k nu ti : Int} (hO : OkD d) (hs : SrtL (d.1 3) d.2) (h112 : k = 112 → (1 ≤ nu ∧ nu ≤ 9) ∧ (1 ≤ ti ∧ ti ≤ 99)) (h43 : k = 43 → 0 ≤ nu ∧ d.1 3 + nu ≤ 36524) (h105 : k = 105 → 0 ≤ nu ∧ nu ≤ 1000) (h5 : d.1 5 + 99 ≤ 2000000000) : OkD (ordD k nu ti d) ∧ SrtL ((ordD k nu ti d).1 3) (ordD k nu ti d).2 := by
  obtain ⟨hT, hch⟩ := hO
  unfold ordD
  by_cases h1 : k = 100
  · rw [if_pos h1]
    exact ⟨⟨okT_st hT (okS_adj hT.1 _ _ _) (fun j hj => adj_ot (by omega) (by omega)), hch⟩, by show SrtL (adj d.1 nu 3) _; rw [show adj d.1 nu 3 = d.1 3 from adj_ot (by omega) (by omega)]; exact hs⟩
  rw [if_neg h1]
  by_cases h2 : k = 97
  · rw [if_pos h2]
    exact ⟨⟨okT_st hT (okS_adj hT.1 _ _ _) (fun j hj => adj_ot (by omega) (by omega)), hch⟩, by show SrtL (adj d.1 (dig (d.1 3)) 3) _; rw [show adj d.1 (dig (d.1 3)) 3 = d.1 3 from adj_ot (by omega) (by omega)]; exact hs⟩
  rw [if_neg h2]
  by_cases h3 : k = 112
  · have hq := h112 h3
    rw [if_pos h3]
    exact ⟨⟨okT_n hT hq.1 _ (by omega), chAdd_rng hch hT.2.1⟩, by show SrtL (nPr d.1 nu ti.toNat 3) _; rw [nPr_3 hT hq.1 _ (by omega)]; exact srt_add hs⟩
  rw [if_neg h3]
  by_cases h4 : k = 43
  · have hq := h43 h4
    have ht := hT.2.1
    rw [if_pos h4]
    exact ⟨⟨okT_td hT (by omega), hch⟩, by show SrtL (fu d.1 3 (d.1 3 + nu) 3) d.2; rw [fu_s]; exact hs.mono (by omega)⟩
  rw [if_neg h4]
  by_cases h6 : k = 105
  · have hq := h105 h6
    have hi := hT.1.2.2.2.1
    rw [if_pos h6]
    exact ⟨⟨okT_st hT (okS_4 hT.1 (by omega)) (fun j hj => fu_n (by omega)), hch⟩, by show SrtL (fu d.1 4 (min 200 (d.1 4 + nu)) 3) d.2; rw [fu_n (by omega)]; exact hs⟩
  rw [if_neg h6]
  exact ⟨⟨hT, hch⟩, hs⟩
/-- how many entries a text has needed so far: it has had three signs for each half -/
def Pot (ω : Nat → Int) (h td fr e en p : Int) : Prop := 6 * (e - en) ≤ p + 3 ∧ (¬ Frh ω h td fr → 6 * (e - en) ≤ p)
theorem Pot.step {ω ω1 : Nat → Int} {e e1 h h1 fr td td1 k en a b : Int} {ch : List (Int × Int)} (hp : Pot ω h td fr e en a) (ho : OrP ω ω1 e e1 h h1 fr td k ch) (ht : k ≠ 43 → td1 = td) (hab : a < b) (hl : k = 112 ∨ k = 43 → a + 2 ≤ b) : Pot ω1 h1 td1 fr e1 en (b + 1) := by
  obtain ⟨p1, p2⟩ := hp
  obtain ⟨-, -, he, -, hc⟩ := ho
  rcases hc with ⟨rfl, rfl, rfl⟩ | ⟨hk, hF, hFe⟩
  · by_cases h43 : k = 43
    · have := hl (Or.inr h43)
      exact ⟨by omega, fun _ => by omega⟩
    · rw [ht h43]
      exact ⟨by omega, fun q => by have := p2 q; omega⟩
  · have := hl (Or.inl hk)
    have e2 := ht (by omega)
    rw [e2]
    refine ⟨?_, fun q => absurd hF q⟩
    by_cases hq : Frh ω h td fr
    · have := hFe hq; omega
    · have := p2 hq; omega
theorem allD_0 {c : Nat → Int} {L a : Int} {d : dT} : allD c L 0 a d = d := rfl
theorem allD_s {c : Nat → Int} {L a : Int} {f : Nat} {d : dT} : allD c L (f + 1) a d = allD c L f ((ordF c L a).2.1 + 1) (ordD (nxt c L a) (ordF c L a).2.2.1 (ordF c L a).2.2.2 d) := rfl
