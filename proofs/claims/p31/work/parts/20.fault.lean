theorem ordF_num {c : Nat → Int} {L a : Int} (ha : 0 ≤ a ∧ a ≤ L) (h : nxt c L a = 43) : 0 ≤ (ordF c L a).2.2.1 ∧ (ordF c L a).2.2.1 ≤ 999 := by
  have hin := nxt_in (c := c) (L := L) (a := a) (by omega)
  have hr := rnum_rng (c := c) (L := L) (mx := 999) 60 0 (a + 1) (by omega) (by omega) (by omega)
  unfold ordF
  rw [if_neg (by omega), if_neg (by omega), if_neg (by omega), if_pos (by omega)]
  exact ⟨hr.1, hr.2.1⟩
theorem plus_rng {c : Nat → Int} {L a : Int} (ha : 0 ≤ a ∧ a ≤ L) : 0 ≤ (if nxt c L a = 43 then (ordF c L a).2.2.1 else 0) ∧ (if nxt c L a = 43 then (ordF c L a).2.2.1 else 0) ≤ 999 := by
  split
  · exact ordF_num ha (by assumption)
  · omega
theorem fltF_0 {c : Nat → Int} {L a o d : Int} {f : Nat} (h : (ordF c L a).1 = 0) : fltF c L (f + 1) a o d = ((ordF c L a).2.1, o, d) := if_pos h
theorem fltF_e {c : Nat → Int} {L a o d : Int} {f : Nat} (h : ¬ (ordF c L a).1 = 0) (h2 : L ≤ (ordF c L a).2.1) : fltF c L (f + 1) a o d = (-5, o + 1, d + (if nxt c L a = 43 then (ordF c L a).2.2.1 else 0)) := (if_neg h).trans (if_pos h2)
theorem fltF_s {c : Nat → Int} {L a o d : Int} {f : Nat} (h : ¬ (ordF c L a).1 = 0) (h2 : ¬ L ≤ (ordF c L a).2.1) (h3 : nxt c L (ordF c L a).2.1 = 59) : fltF c L (f + 1) a o d = fltF c L f ((ordF c L a).2.1 + 1) (o + 1) (d + (if nxt c L a = 43 then (ordF c L a).2.2.1 else 0)) := (if_neg h).trans ((if_neg h2).trans (if_pos h3))
theorem fltF_n {c : Nat → Int} {L a o d : Int} {f : Nat} (h : ¬ (ordF c L a).1 = 0) (h2 : ¬ L ≤ (ordF c L a).2.1) (h3 : ¬ nxt c L (ordF c L a).2.1 = 59) : fltF c L (f + 1) a o d = ((ordF c L a).2.1, o + 1, d + (if nxt c L a = 43 then (ordF c L a).2.2.1 else 0)) := (if_neg h).trans ((if_neg h2).trans (if_neg h3))
theorem fltF_rng {c : Nat → Int} {L : Int} : ∀ (f : Nat) (a o d : Int), 0 ≤ a ∧ a ≤ L → 0 ≤ o → 0 ≤ d → ((fltF c L f a o d).1 = -5 ∨ (0 ≤ (fltF c L f a o d).1 ∧ (fltF c L f a o d).1 ≤ L)) ∧ o ≤ (fltF c L f a o d).2.1 ∧ (fltF c L f a o d).2.1 ≤ o + f ∧ d ≤ (fltF c L f a o d).2.2 ∧ (fltF c L f a o d).2.2 ≤ d + 999 * f := by
  intro f
  induction f with
  | zero => intro a o d h1 h2 h3; simp [fltF]; omega
  | succ f ih =>
    intro a o d h1 h2 h3
    have ho := ordF_rng (c := c) (L := L) h1
    have hp := plus_rng (c := c) (L := L) h1
    by_cases c1 : (ordF c L a).1 = 0
    · rw [fltF_0 c1]; dsimp only; omega
    · by_cases c2 : L ≤ (ordF c L a).2.1
      · rw [fltF_e c1 c2]; dsimp only; omega
      · by_cases c3 : nxt c L (ordF c L a).2.1 = 59
        · rw [fltF_s c1 c2 c3]
          have := ih ((ordF c L a).2.1 + 1) (o + 1) (d + (if nxt c L a = 43 then (ordF c L a).2.2.1 else 0)) (by omega) (by omega) (by omega)
          omega
        · rw [fltF_n c1 c2 c3]; dsimp only; omega
abbrev rm_c_X7_findFault : Room := { frames := 5, cells := 0, slots := 0, locals := 107 }
