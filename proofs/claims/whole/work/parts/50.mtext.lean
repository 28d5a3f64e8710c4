theorem nxt_or {c : Nat → Int} {L a : Int} (h : 0 ≤ a) : (a < L ∧ nxt c L a = c a.toNat) ∨ (L ≤ a ∧ nxt c L a = -1) := by
  unfold nxt
  by_cases q : a < L
  · rw [if_pos ⟨h, q⟩]; exact Or.inl ⟨q, rfl⟩
  · rw [if_neg (fun z => q z.2)]; exact Or.inr ⟨by omega, rfl⟩
theorem dgt_y {c : Nat → Int} {L a : Int} (h : 48 ≤ nxt c L a ∧ nxt c L a ≤ 57) : dgt c L a = nxt c L a - 48 := if_pos h
theorem dgt_n {c : Nat → Int} {L a : Int} (h : ¬ (48 ≤ nxt c L a ∧ nxt c L a ≤ 57)) : dgt c L a = -1 := if_neg h
theorem num_first {c : Nat → Int} {L a mx : Int} (h : 49 ≤ nxt c L a ∧ nxt c L a ≤ 57) (hm : 9 ≤ mx) : rnum c L mx 60 0 a = rnum c L mx 59 (nxt c L a - 48) (a + 1) := by
  have hd := dgt_y (c := c) (L := L) (a := a) (by omega)
  rw [rnum_y (f := 59) (by omega), hd]
  congr 1
  omega
theorem num_none {c : Nat → Int} {L a mx : Int} (h : ¬ (49 ≤ nxt c L a ∧ nxt c L a ≤ 57)) : rnum c L mx 60 0 a = (0, a) := by
  refine rnum_n (fun q => ?_)
  by_cases hq : 48 ≤ nxt c L a ∧ nxt c L a ≤ 57
  · have hd := dgt_y hq; omega
  · have hd := dgt_n hq; omega
theorem num_step {c : Nat → Int} {L b mx v : Int} {f : Nat} (h : 48 ≤ nxt c L b ∧ nxt c L b ≤ 57) (hv : 0 < v) (hm : 10 * v + nxt c L b - 48 ≤ mx) : rnum c L mx (f + 1) v b = rnum c L mx f (10 * v + nxt c L b - 48) (b + 1) := by
  have hd := dgt_y h
  rw [rnum_y (by omega), hd]
  congr 1
  omega
theorem num_end {c : Nat → Int} {L b mx v : Int} {f : Nat} (h : ¬ (48 ≤ nxt c L b ∧ nxt c L b ≤ 57 ∧ 10 * v + nxt c L b - 48 ≤ mx)) : rnum c L mx f v b = (v, b) := by
  refine rnum_n (fun q => ?_)
  by_cases hq : 48 ≤ nxt c L b ∧ nxt c L b ≤ 57
  · have hd := dgt_y hq; omega
  · have hd := dgt_n hq; omega
theorem num_9 {c : Nat → Int} {L a : Int} : (49 ≤ nxt c L a ∧ nxt c L a ≤ 57 ∧ rnum c L 9 60 0 a = (nxt c L a - 48, a + 1)) ∨ (¬ (49 ≤ nxt c L a ∧ nxt c L a ≤ 57) ∧ rnum c L 9 60 0 a = (0, a)) := by
  by_cases h : 49 ≤ nxt c L a ∧ nxt c L a ≤ 57
  · exact Or.inl ⟨h.1, h.2, by rw [num_first h (by omega)]; exact num_end (by omega)⟩
  · exact Or.inr ⟨h, num_none h⟩
/-- what was read of a date ahead of its digit k may stand there -/
def PrfV (v k : Int) : Prop := if k = 1 then v = 0 else if k = 2 then 0 ≤ v ∧ v ≤ 3 else if k = 3 then 1 ≤ v ∧ v ≤ 31 else if k = 4 then (1 ≤ v / 10 ∧ v / 10 ≤ 31) ∧ v % 10 ≤ 1 else if k = 5 then 1 ≤ v / 100 ∧ v / 100 ≤ lgst (v % 100) else if k = 6 then 1 ≤ v / 1000 ∧ v / 1000 ≤ lgst (v / 10 % 100) else 1 ≤ v / 10000 ∧ v / 10000 ≤ clen (v / 100 % 100) (v % 100)
theorem PrfV.s {v d k : Int} (hk : 1 ≤ k ∧ k ≤ 6) (h : PrfV v k) (hd : 0 ≤ d ∧ d ≤ 9) (hs : ¬ sbg (10 * v + d) k = 0) : PrfV (10 * v + d) (k + 1) := by
  unfold sbg at hs
  have hc : k = 1 ∨ k = 2 ∨ k = 3 ∨ k = 4 ∨ k = 5 ∨ k = 6 := by omega
  rcases hc with rfl | rfl | rfl | rfl | rfl | rfl
  · have h1 : v = 0 := h
    simp at hs
    show 0 ≤ 10 * v + d ∧ 10 * v + d ≤ 3
    omega
  · simp at hs
    show 1 ≤ 10 * v + d ∧ 10 * v + d ≤ 31
    omega
  · have h1 : 1 ≤ v ∧ v ≤ 31 := h
    simp at hs
    show (1 ≤ (10 * v + d) / 10 ∧ (10 * v + d) / 10 ≤ 31) ∧ (10 * v + d) % 10 ≤ 1
    omega
  · have h1 : (1 ≤ v / 10 ∧ v / 10 ≤ 31) ∧ v % 10 ≤ 1 := h
    simp at hs
    show 1 ≤ (10 * v + d) / 100 ∧ (10 * v + d) / 100 ≤ lgst ((10 * v + d) % 100)
    omega
  · have h1 : 1 ≤ v / 100 ∧ v / 100 ≤ lgst (v % 100) := h
    show 1 ≤ (10 * v + d) / 1000 ∧ (10 * v + d) / 1000 ≤ lgst ((10 * v + d) / 10 % 100)
    rw [show (10 * v + d) / 10 = v by omega]
    omega
  · have h1 : 1 ≤ v / 1000 ∧ v / 1000 ≤ lgst (v / 10 % 100) := h
    simp at hs
    show 1 ≤ (10 * v + d) / 10000 ∧ (10 * v + d) / 10000 ≤ clen ((10 * v + d) / 100 % 100) ((10 * v + d) % 100)
    omega
theorem PrfV.rng {v k : Int} (hk : 1 ≤ k ∧ k ≤ 7) (h : PrfV v k) : 0 ≤ v ∧ v ≤ 319999 ∧ (k ≤ 6 → v ≤ 31999) := by
  have hc : k = 1 ∨ k = 2 ∨ k = 3 ∨ k = 4 ∨ k = 5 ∨ k = 6 ∨ k = 7 := by omega
  rcases hc with rfl | rfl | rfl | rfl | rfl | rfl | rfl
  · have h1 : v = 0 := h; omega
  · have h1 : 0 ≤ v ∧ v ≤ 3 := h; omega
  · have h1 : 1 ≤ v ∧ v ≤ 31 := h; omega
  · have h1 : (1 ≤ v / 10 ∧ v / 10 ≤ 31) ∧ v % 10 ≤ 1 := h; omega
  · have h1 : 1 ≤ v / 100 ∧ v / 100 ≤ lgst (v % 100) := h
    have h2 := lgst_rng (v % 100); omega
  · have h1 : 1 ≤ v / 1000 ∧ v / 1000 ≤ lgst (v / 10 % 100) := h
    have h2 := lgst_rng (v / 10 % 100); omega
  · have h1 : 1 ≤ v / 10000 ∧ v / 10000 ≤ clen (v / 100 % 100) (v % 100) := h
    have h2 := clen_rng (v / 100 % 100) (v % 100); omega
/-- a date that there is -/
theorem PrfV.day {v : Int} (h : PrfV v 7) : (0 ≤ dday v ∧ dday v ≤ 36524) ∧ dig (dday v) = v := by
  have h1 : 1 ≤ v / 10000 ∧ v / 10000 ≤ clen (v / 100 % 100) (v % 100) := h
  have hm : 1 ≤ v / 100 % 100 ∧ v / 100 % 100 ≤ 12 := by
    refine Decidable.byContradiction (fun hn => ?_)
    have h0 := clen_0 (m := v / 100 % 100) (by omega) (v % 100)
    omega
  rw [clen_m hm] at h1
  have hc := cum13 hm (y := v % 100)
  have hy := ystart_s (v % 100)
  have h13 := cum_13 (v % 100)
  have hy2 : ystart (v % 100 + 1) ≤ 36525 ∧ 0 ≤ ystart (v % 100) := by unfold ystart; omega
  have hd := dig_at (y := v % 100) hm h1
  have e : dday v = ystart (v % 100) + cum (v / 100 % 100) (v % 100) + v / 10000 - 1 := if_pos ⟨hm, h1⟩
  rw [e, hd]
  omega
theorem dday_v {x : Int} (h : dday x ≠ -5) : (1 ≤ x / 100 % 100 ∧ x / 100 % 100 ≤ 12) ∧ (1 ≤ x / 10000 ∧ x / 10000 ≤ mlen (x / 100 % 100) (x % 100)) := by
  unfold dday at h
  refine Decidable.byContradiction (fun hn => h (if_neg hn))
theorem dday_ok {x : Int} (h : (1 ≤ x / 100 % 100 ∧ x / 100 % 100 ≤ 12) ∧ (1 ≤ x / 10000 ∧ x / 10000 ≤ mlen (x / 100 % 100) (x % 100))) : dday x ≠ -5 := by
  have hc := cum_rng (x / 100 % 100) (x % 100)
  have hy : 0 ≤ ystart (x % 100) := by unfold ystart; omega
  unfold dday
  rw [if_pos h]
  omega
/-- orders, by their letters -/
theorem ordF_d {c : Nat → Int} {L a : Int} (h : nxt c L a = 100) : ordF c L a = ((rdat c L 6 1 0 (a + 1)).1, (rdat c L 6 1 0 (a + 1)).2.2, (rdat c L 6 1 0 (a + 1)).2.1, 1) := if_pos h
theorem ordF_a {c : Nat → Int} {L a : Int} (h : nxt c L a = 97) : ordF c L a = (1, a + 1, 0, 1) := (if_neg (by omega)).trans (if_pos h)
theorem ordF_pn {c : Nat → Int} {L a : Int} (h : nxt c L a = 112) (h1 : rnum c L 9 60 0 (a + 1) = (0, a + 1)) : ordF c L a = (0, a + 1, 0, 1) := by
  unfold ordF
  rw [if_neg (by omega), if_neg (by omega), if_pos h, h1]
  rfl
theorem ordF_p1 {c : Nat → Int} {L a v b : Int} (h : nxt c L a = 112) (h1 : rnum c L 9 60 0 (a + 1) = (v, b)) (hv : 1 ≤ v) (h2 : ¬ nxt c L b = 120) : ordF c L a = (1, b, v, 1) := by
  unfold ordF
  rw [if_neg (by omega), if_neg (by omega), if_pos h, h1]
  dsimp only
  rw [if_pos (by omega), if_neg h2]
theorem ordF_px {c : Nat → Int} {L a v b w e : Int} (h : nxt c L a = 112) (h1 : rnum c L 9 60 0 (a + 1) = (v, b)) (hv : 1 ≤ v) (h2 : nxt c L b = 120) (h3 : rnum c L 99 60 0 (b + 1) = (w, e)) : ordF c L a = ((if 0 < w then 1 else 0), e, v, w) := by
  unfold ordF
  rw [if_neg (by omega), if_neg (by omega), if_pos h, h1]
  dsimp only
  rw [if_pos (by omega), if_pos h2, h3]
theorem ordF_plus {c : Nat → Int} {L a w e : Int} (h : nxt c L a = 43) (h3 : rnum c L 999 60 0 (a + 1) = (w, e)) : ordF c L a = ((if 0 < w then 1 else 0), e, w, 1) := by
  unfold ordF
  rw [if_neg (by omega), if_neg (by omega), if_neg (by omega), if_pos h, h3]
theorem ordF_i {c : Nat → Int} {L a w e : Int} (h : nxt c L a = 105) (h3 : rnum c L 200 60 0 (a + 1) = (w, e)) : ordF c L a = ((if 0 < w then 1 else 0), e, w, 1) := by
  unfold ordF
  rw [if_neg (by omega), if_neg (by omega), if_neg (by omega), if_neg (by omega), if_pos h, h3]
theorem ordF_x {c : Nat → Int} {L a : Int} (h1 : nxt c L a ≠ 100) (h2 : nxt c L a ≠ 97) (h3 : nxt c L a ≠ 112) (h4 : nxt c L a ≠ 43) (h5 : nxt c L a ≠ 105) : (ordF c L a).1 = 0 ∧ (ordF c L a).2.1 = a := by
  unfold ordF
  rw [if_neg h1, if_neg h2, if_neg h3, if_neg h4, if_neg h5]
  exact ⟨rfl, rfl⟩
/-- one order of a text without faults -/
theorem flt_st {c : Nat → Int} {L b i dd N DD : Int} {f : Nat} (hb : 0 ≤ b ∧ b ≤ L) (h : fltF c L (f + 1) b i dd = (-5, N, DD)) : (ordF c L b).1 = 1 ∧ ((L ≤ (ordF c L b).2.1 ∧ N = i + 1 ∧ DD = dd + (if nxt c L b = 43 then (ordF c L b).2.2.1 else 0)) ∨ ((ordF c L b).2.1 < L ∧ nxt c L (ordF c L b).2.1 = 59 ∧ fltF c L f ((ordF c L b).2.1 + 1) (i + 1) (dd + (if nxt c L b = 43 then (ordF c L b).2.2.1 else 0)) = (-5, N, DD))) := by
  have hr := ordF_rng (c := c) (L := L) (a := b) hb
  by_cases h0 : (ordF c L b).1 = 0
  · rw [fltF_0 h0] at h
    have q := congrArg Prod.fst h
    dsimp only at q
    omega
  · refine ⟨by omega, ?_⟩
    by_cases hL : L ≤ (ordF c L b).2.1
    · rw [fltF_e h0 hL] at h
      have q1 := congrArg (fun x => x.2.1) h
      have q2 := congrArg (fun x => x.2.2) h
      exact Or.inl ⟨hL, q1.symm, q2.symm⟩
    · by_cases h59 : nxt c L (ordF c L b).2.1 = 59
      · rw [fltF_s h0 hL h59] at h
        exact Or.inr ⟨by omega, h59, h⟩
      · rw [fltF_n h0 hL h59] at h
        have q := congrArg Prod.fst h
        dsimp only at q
        omega
/-- how long an order is, at least -/
theorem ord_len {c : Nat → Int} {L a : Int} (h : (ordF c L a).1 = 1) (hk : nxt c L a = 112 ∨ nxt c L a = 43) : a + 2 ≤ (ordF c L a).2.1 := by
  have aux : ∀ mx b : Int, (rnum c L mx 60 0 b).2 = b → ¬ 0 < (rnum c L mx 60 0 b).1 ∨ True := fun _ _ _ => Or.inr True.intro
  have key : ∀ mx b : Int, 9 ≤ mx → 0 ≤ b → 0 < (rnum c L mx 60 0 b).1 → b + 1 ≤ (rnum c L mx 60 0 b).2 := by
    intro mx b hm hb hp
    by_cases hq : 49 ≤ nxt c L b ∧ nxt c L b ≤ 57
    · rw [num_first hq hm]
      have hin := nxt_in (c := c) (L := L) (a := b) (by omega)
      by_cases h9 : nxt c L b - 48 ≤ mx
      · have hr := rnum_rng (c := c) (L := L) (mx := mx) 59 (nxt c L b - 48) (b + 1) (by omega) h9 (by omega)
        omega
      · omega
    · rw [num_none hq] at hp
      exact absurd hp (by show ¬ (0 : Int) < 0; omega)
  have ha := nxt_in (c := c) (L := L) (a := a) (by omega)
  rcases hk with hk | hk
  · rcases num_9 (c := c) (L := L) (a := a + 1) with ⟨q1, q2, q3⟩ | ⟨q1, q3⟩
    · by_cases h2 : nxt c L (a + 1 + 1) = 120
      · have e := ordF_px hk q3 (by omega) h2 rfl
        rw [e] at h ⊢
        have hr := rnum_rng (c := c) (L := L) (mx := 99) 60 0 (a + 1 + 1 + 1) (by omega) (by omega) (by have := nxt_in (c := c) (L := L) (a := a + 1 + 1) (by omega); omega)
        show a + 2 ≤ (rnum c L 99 60 0 (a + 1 + 1 + 1)).2
        omega
      · have e := ordF_p1 hk q3 (by omega) h2
        rw [e]
        show a + 2 ≤ a + 1 + 1
        omega
    · have e := ordF_pn hk q3
      rw [e] at h
      exact absurd h (by show ¬ (0 : Int) = 1; omega)
  · have e := ordF_plus hk (w := (rnum c L 999 60 0 (a + 1)).1) (e := (rnum c L 999 60 0 (a + 1)).2) rfl
    rw [e] at h ⊢
    have hp : 0 < (rnum c L 999 60 0 (a + 1)).1 := by
      refine Decidable.byContradiction (fun hn => ?_)
      have q : (if 0 < (rnum c L 999 60 0 (a + 1)).1 then (1 : Int) else 0) = 1 := h
      rw [if_neg hn] at q
      omega
    have := key 999 (a + 1) (by omega) (by omega) hp
    show a + 2 ≤ (rnum c L 999 60 0 (a + 1)).2
    omega
