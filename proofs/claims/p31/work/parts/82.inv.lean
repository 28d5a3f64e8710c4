/-! what holds of every state of a law's run -/
def mk6 (f : Nat → Nat) : Nat := f 0 ||| f 1 ||| f 2 ||| f 3 ||| f 4 ||| f 5
theorem mk6_cg {f g : Nat → Nat} (h : ∀ p, p < 6 → f p = g p) : mk6 f = mk6 g := by
  unfold mk6
  rw [h 0 (by omega), h 1 (by omega), h 2 (by omega), h 3 (by omega), h 4 (by omega), h 5 (by omega)]
theorem mk6_swp (f : Nat → Nat) {a b : Nat} (ha : a < 6) (hb : b < 6) : mk6 (fun p => f (tpl a b p)) = mk6 f := by
  have hca : a = 0 ∨ a = 1 ∨ a = 2 ∨ a = 3 ∨ a = 4 ∨ a = 5 := by omega
  have hcb : b = 0 ∨ b = 1 ∨ b = 2 ∨ b = 3 ∨ b = 4 ∨ b = 5 := by omega
  rcases hca with rfl | rfl | rfl | rfl | rfl | rfl <;> rcases hcb with rfl | rfl | rfl | rfl | rfl | rfl <;> (simp [mk6, tpl] <;> try ac_rfl)
/-- the numbers of the bands, as a set of bits -/
def msk (σ : Nat → Int) : Nat → Nat
  | 0 => 0
  | k + 1 => msk σ k ||| 2 ^ (σ (85 + 13 * k)).toNat
theorem msk_6 (σ : Nat → Int) : msk σ 6 = mk6 (fun p => 2 ^ (σ (85 + 13 * p)).toNat) := by
  show ((((((0 ||| 2 ^ (σ (85 + 13 * 0)).toNat) ||| 2 ^ (σ (85 + 13 * 1)).toNat) ||| 2 ^ (σ (85 + 13 * 2)).toNat) ||| 2 ^ (σ (85 + 13 * 3)).toNat) ||| 2 ^ (σ (85 + 13 * 4)).toNat) ||| 2 ^ (σ (85 + 13 * 5)).toNat) = _
  rw [Nat.zero_or]
  rfl
theorem msk_cg {σ τ : Nat → Int} (h : ∀ p, p < 6 → τ (85 + 13 * p) = σ (85 + 13 * p)) : msk τ 6 = msk σ 6 := by
  rw [msk_6, msk_6]
  exact mk6_cg (fun p hp => by rw [h p hp])
theorem msk_swp {σ : Nat → Int} {a b : Nat} (ha : a < 6) (hb : b < 6) : msk (swpS σ a b) 6 = msk σ 6 := by
  rw [msk_6, msk_6]
  refine Eq.trans ?_ (mk6_swp (fun p => 2 ^ (σ (85 + 13 * p)).toNat) ha hb)
  refine mk6_cg (fun p hp => ?_)
  have h := swpS_at (σ := σ) (a := a) (b := b) hp (r := 0) (by omega)
  rw [Nat.add_zero, Nat.add_zero] at h
  show 2 ^ (swpS σ a b (85 + 13 * p)).toNat = 2 ^ (σ (85 + 13 * tpl a b p)).toNat
  rw [h]
theorem msk_lt {σ : Nat → Int} (h : OkS σ) : ∀ k, k ≤ 6 → msk σ k < 64 := by
  intro k
  induction k with
  | zero => intro _; exact (by decide : 0 < 64)
  | succ k ih =>
    intro hk
    have h1 := (h.2.2.2.2 k (by omega)).1
    have h2 : 2 ^ (σ (85 + 13 * k)).toNat < 2 ^ 6 := Nat.pow_lt_pow_right (by omega) (by omega)
    exact Nat.or_lt_two_pow (n := 6) (ih (by omega)) h2
theorem bit_or2 : ∀ f : Nat, f < 64 → ∀ g : Nat, g < 64 → iv (f : Int) ||| iv (g : Int) = iv ((f ||| g : Nat) : Int) := clA
/-- the chain of days with right prints: the latest first, none later than so -/
def cOk : List (Int × Int) → Int → Prop
  | [], _ => True
  | (d, n) :: t, top => d ≤ top ∧ 1 ≤ n ∧ cOk t (d - 1)
def csum : List (Int × Int) → Int
  | [] => 0
  | (_, n) :: t => n + csum t
theorem cOk.mono : ∀ {ch : List (Int × Int)} {a b : Int}, cOk ch a → a ≤ b → cOk ch b := by
  intro ch
  cases ch with
  | nil => intro a b _ _; exact True.intro
  | cons q t => intro a b h hab; exact ⟨Int.le_trans h.1 hab, h.2⟩
theorem cOk.no : ∀ {ch : List (Int × Int)} {a x : Int}, cOk ch a → a < x → chOf ch x = 0 := by
  intro ch
  induction ch with
  | nil => intro a x _ _; rfl
  | cons q t ih =>
    intro a x h hx
    obtain ⟨d, n⟩ := q
    have h1 : d ≤ a := h.1
    show (if d = x then n else chOf t x) = 0
    rw [if_neg (by omega)]
    exact ih h.2.2 (by omega)
theorem cOk.sum : ∀ {ch : List (Int × Int)} {a : Int}, cOk ch a → (ch.length : Int) ≤ csum ch ∧ 0 ≤ csum ch := by
  intro ch
  induction ch with
  | nil => intro a _; exact ⟨Int.le_refl _, Int.le_refl _⟩
  | cons q t ih =>
    intro a h
    obtain ⟨d, n⟩ := q
    have h1 : 1 ≤ n := h.2.1
    have h2 := ih h.2.2
    show ((t.length + 1 : Nat) : Int) ≤ n + csum t ∧ 0 ≤ n + csum t
    omega
theorem cOk.of : ∀ {ch : List (Int × Int)} {a : Int} (x : Int), cOk ch a → 0 ≤ chOf ch x ∧ chOf ch x ≤ csum ch := by
  intro ch
  induction ch with
  | nil => intro a x _; exact ⟨Int.le_refl _, Int.le_refl _⟩
  | cons q t ih =>
    intro a x h
    obtain ⟨d, n⟩ := q
    have h1 : 1 ≤ n := h.2.1
    have h2 := ih x h.2.2
    have h3 := (cOk.sum h.2.2).2
    show 0 ≤ (if d = x then n else chOf t x) ∧ (if d = x then n else chOf t x) ≤ n + csum t
    split <;> omega
theorem cOk.add {ch : List (Int × Int)} {td mo : Int} (h : cOk ch td) (hm : 0 ≤ mo) : cOk (chAdd ch td mo) td ∧ csum (chAdd ch td mo) = csum ch + mo ∧ chOf (chAdd ch td mo) td = chOf ch td + mo := by
  unfold chAdd
  by_cases h0 : mo = 0
  · rw [if_pos h0]
    exact ⟨h, by omega, by omega⟩
  · rw [if_neg h0]
    cases ch with
    | nil =>
      refine ⟨⟨Int.le_refl _, by omega, True.intro⟩, ?_, ?_⟩
      · show mo + 0 = 0 + mo
        omega
      · show (if td = td then mo else 0) = 0 + mo
        rw [if_pos rfl]
        omega
    | cons q t =>
      obtain ⟨d, n⟩ := q
      have h1 : d ≤ td := h.1
      have h2 : 1 ≤ n := h.2.1
      have h3 : cOk t (d - 1) := h.2.2
      show cOk (if d = td then (td, n + mo) :: t else (td, mo) :: (d, n) :: t) td ∧ csum (if d = td then (td, n + mo) :: t else (td, mo) :: (d, n) :: t) = n + csum t + mo ∧ chOf (if d = td then (td, n + mo) :: t else (td, mo) :: (d, n) :: t) td = (if d = td then n else chOf t td) + mo
      by_cases hd : d = td
      · rw [if_pos hd, if_pos hd]
        refine ⟨⟨Int.le_refl _, by omega, by rw [← hd]; exact h3⟩, ?_, ?_⟩
        · show n + mo + csum t = n + csum t + mo
          omega
        · show (if td = td then n + mo else chOf t td) = n + mo
          rw [if_pos rfl]
      · rw [if_neg hd, if_neg hd]
        refine ⟨⟨Int.le_refl _, by omega, by omega, h2, h3⟩, ?_, ?_⟩
        · show mo + (n + csum t) = n + csum t + mo
          omega
        · show (if td = td then mo else chOf ((d, n) :: t) td) = chOf t td + mo
          rw [if_pos rfl, cOk.no h3 (by omega)]
          omega
/-- what holds of a state's numbers, its counts below so many -/
def DI (d : dT) (b : Int) : Prop := msk d.1 6 = 63 ∧ cOk d.2 (d.1 3) ∧ csum d.2 ≤ d.1 6 ∧ (d.1 6 ≤ d.1 5 ∧ d.1 5 ≤ b) ∧ (0 ≤ d.1 7 ∧ d.1 7 ≤ b) ∧ (0 ≤ d.1 8 ∧ d.1 8 ≤ b) ∧ (0 ≤ d.1 9 ∧ d.1 9 ≤ b)
def UI (u : aS) (b : Int) : Prop := DI (aD u) b ∧ (∀ r, r < 4 → DI (aH u r) b) ∧ DI (aK u) b
theorem DI.mono {d : dT} {b c : Int} (h : DI d b) (hb : b ≤ c) : DI d c := by
  obtain ⟨h1, h2, h3, h4, h5, h6, h7⟩ := h
  exact ⟨h1, h2, h3, by omega, by omega, by omega, by omega⟩
theorem UI.mono {u : aS} {b c : Int} (h : UI u b) (hb : b ≤ c) : UI u c := ⟨h.1.mono hb, fun r hr => (h.2.1 r hr).mono hb, h.2.2.mono hb⟩
theorem DI.cg {d : dT} {b : Int} {τ : Nat → Int} (h : DI d b) (h3 : d.1 3 ≤ τ 3) (hq : ∀ j, 5 ≤ j ∧ j ≤ 8 → τ j = d.1 j) (h9 : 0 ≤ τ 9 ∧ τ 9 ≤ d.1 9 + 100) (hm : msk τ 6 = msk d.1 6) : DI (τ, d.2) (b + 1000) := by
  obtain ⟨k1, k2, k3, k4, k5, k6, k7⟩ := h
  have e5 := hq 5 (by omega)
  have e6 := hq 6 (by omega)
  have e7 := hq 7 (by omega)
  have e8 := hq 8 (by omega)
  refine ⟨hm.trans k1, cOk.mono k2 h3, ?_, ?_, ?_, ?_, ?_⟩
  · show csum d.2 ≤ τ 6
    omega
  · show τ 6 ≤ τ 5 ∧ τ 5 ≤ b + 1000
    omega
  · show 0 ≤ τ 7 ∧ τ 7 ≤ b + 1000
    omega
  · show 0 ≤ τ 8 ∧ τ 8 ≤ b + 1000
    omega
  · show 0 ≤ τ 9 ∧ τ 9 ≤ b + 1000
    omega
theorem UI.act {u : aS} {b : Int} {d : dT} (h : UI u b) (hd : DI d (b + 1000)) : UI (aAct u d) (b + 1000) := by
  have h1 := h.mono (c := b + 1000) (by omega)
  exact ⟨hd, hiS_all (P := fun d : dT => DI d (b + 1000)) h1.2.1 h1.1, h1.2.2⟩
theorem UI.pass {u : aS} {b k : Int} (h : UI u b) : UI (a_pass u k).1 (b + 1000) := by
  unfold a_pass
  split
  · split
    · rename_i h1 h2
      refine h.act (h.1.cg ?_ (fun j hj => fu_n (by omega)) ?_ (msk_cg (fun p hp => fu_n (by omega))))
      · rw [fu_s]; omega
      · have := h.1.2.2.2.2.2.2; rw [fu_n (by omega)]; omega
    · exact h.mono (by omega)
  · exact h.mono (by omega)
theorem adj_9 (σ : Nat → Int) (D : Int) : adj σ D 9 = σ 9 + wsm σ D 0 6 := by
  show adjF σ D 0 6 9 = _
  exact if_pos rfl
theorem UI.adjust {u : aS} {b k : Int} (h : UI u b) : UI (a_adjust u k).1 (b + 1000) := by
  unfold a_adjust
  split
  · refine h.act (h.1.cg ?_ (fun j hj => adj_st (by omega)) ?_ (msk_cg (fun p hp => adj_ot (by omega) (by omega))))
    · rw [adj_st (by omega)]; exact Int.le_refl _
    · have h9 := h.1.2.2.2.2.2.2
      have hw := wsm_rng (aD u).1 (dig k) 0 6
      have e : adj (aD u).1 (dig k) 9 = (aD u).1 9 + wsm (aD u).1 (dig k) 0 6 := adj_9 _ _
      rw [e]; omega
  · exact h.mono (by omega)
theorem UI.turn {u : aS} {b p k : Int} (h : UI u b) : UI (a_turn u p k).1 (b + 1000) := by
  unfold a_turn
  split
  · split
    · rename_i h1 h2
      have hp : p.toNat < 6 := by omega
      refine h.act (h.1.cg ?_ (fun j hj => trn_ot hp (by omega) (by omega)) ?_ (msk_cg (fun p hp2 => trn_ot hp (by omega) (by omega))))
      · rw [trn_ot hp (by omega) (by omega)]; exact Int.le_refl _
      · have h9 := h.1.2.2.2.2.2.2
        have hw := ab_rng h2.2
        rw [trn_9]; omega
    · exact h.mono (by omega)
  · exact h.mono (by omega)
theorem UI.fill {u : aS} {b k : Int} (h : UI u b) : UI (a_fill u k).1 (b + 1000) := by
  unfold a_fill
  split
  · split
    · exact h.mono (by omega)
    · refine h.act (h.1.cg ?_ (fun j hj => fu_n (by omega)) ?_ (msk_cg (fun p hp => fu_n (by omega))))
      · rw [fu_n (by omega)]; exact Int.le_refl _
      · have := h.1.2.2.2.2.2.2; rw [fu_n (by omega)]; omega
  · exact h.mono (by omega)
theorem UI.exchange {u : aS} {b p q : Int} (h : UI u b) : UI (a_exchange u p q).1 (b + 1000) := by
  unfold a_exchange
  split
  · split
    · exact h.mono (by omega)
    · rename_i h1 h2
      refine h.act (h.1.cg ?_ (fun j hj => swpS_ot (by omega)) ?_ (msk_swp (by omega) (by omega)))
      · rw [swpS_ot (by omega)]; exact Int.le_refl _
      · have := h.1.2.2.2.2.2.2; rw [swpS_ot (by omega)]; omega
  · exact h.mono (by omega)
theorem UI.tighten {u : aS} {b p : Int} (h : UI u b) : UI (a_tighten u p).1 (b + 1000) := by
  unfold a_tighten
  split
  · split
    · exact h.mono (by omega)
    · rename_i h1 h2
      refine h.act (h.1.cg ?_ (fun j hj => fu_n (by omega)) ?_ (msk_cg (fun q hq => fu_n (by omega))))
      · rw [fu_n (by omega)]; exact Int.le_refl _
      · have := h.1.2.2.2.2.2.2; rw [fu_n (by omega)]; omega
  · exact h.mono (by omega)
theorem UI.replace {u : aS} {b p : Int} (h : UI u b) : UI (a_replace u p).1 (b + 1000) := by
  unfold a_replace
  split
  · refine h.act (h.1.cg ?_ (fun j hj => if_neg (by omega)) ?_ (msk_cg (fun q hq => if_neg (by omega))))
    · rw [show rnw (aD u).1 p.toNat 3 = (aD u).1 3 from if_neg (by omega)]; exact Int.le_refl _
    · have := h.1.2.2.2.2.2.2; rw [show rnw (aD u).1 p.toNat 9 = (aD u).1 9 from if_neg (by omega)]; omega
  · exact h.mono (by omega)
theorem UI.set {u : aS} {b w v : Int} (h : UI u b) : UI (a_set u w v).1 (b + 1000) := by
  unfold a_set
  split
  · split
    · exact h.mono (by omega)
    · rename_i h1 h2
      refine h.act (h.1.cg ?_ (fun j hj => fu_n (by omega)) ?_ (msk_cg (fun q hq => fu_n (by omega))))
      · rw [fu_n (by omega)]; exact Int.le_refl _
      · have := h.1.2.2.2.2.2.2; rw [fu_n (by omega)]; omega
  · exact h.mono (by omega)
theorem UI.undo {u : aS} {b : Int} (h : UI u b) (hn : 0 ≤ aN u ∧ aN u ≤ 4) : UI (a_undo u).1 b := by
  unfold a_undo
  split
  · exact h
  · exact ⟨h.2.1 (aN u - 1).toNat (by omega), h.2.1, h.2.2⟩
theorem UI.keep {u : aS} {b : Int} (h : UI u b) : UI (a_keep u).1 b := ⟨h.1, h.2.1, h.1⟩
theorem UI.restore {u : aS} {b : Int} (h : UI u b) : UI (a_restore u).1 (b + 1000) := by
  unfold a_restore
  split
  · exact h.mono (by omega)
  · exact h.act (h.2.2.mono (by omega))
/-! a print's numbers -/
theorem slip_85 (σ : Nat → Int) {q : Nat} (hq : q < 6) : ∀ p, p ≤ 6 → slipF σ p (85 + 13 * q) = σ (85 + 13 * q) := by
  intro p
  induction p with
  | zero => intro _; rfl
  | succ p ih =>
    intro hp
    have hi := ih (by omega)
    show (if slipF σ p 2 ≤ slipF σ p (87 + 13 * p) then fu (bset (slipF σ p) p (slipF σ p (85 + 13 * p)) ((slipF σ p (86 + 13 * p) + 1) % 10) 0) 10 (slipF σ p 10 + 1) else slipF σ p) (85 + 13 * q) = _
    split
    · rw [fu_n (by omega)]
      by_cases e : q = p
      · subst e
        rw [bset_0]; exact hi
      · rw [bset_n (by omega) (by omega) (by omega)]; exact hi
    · exact hi
theorem once_85 {σ : Nat → Int} (h : OkS σ) (k : Int) {q : Nat} (hq : q < 6) : onceF σ k (85 + 13 * q) = σ (85 + 13 * q) := by
  have h1 : inkF σ k (85 + 13 * q) = σ (85 + 13 * q) := by
    unfold inkF
    rw [fu_n (by omega)]
    exact wear_ot h k (by omega) 6 (by omega)
  unfold onceF
  split
  · rw [slip_85 _ hq 6 (by omega)]; exact h1
  · exact h1
theorem prF_85 {σ : Nat → Int} (h : OkS σ) (k : Int) {q : Nat} (hq : q < 6) : prF σ k (85 + 13 * q) = σ (85 + 13 * q) := (prF_st σ k (by omega)).trans (once_85 h k hq)
theorem prF_9 {σ : Nat → Int} (h : OkS σ) (k : Int) : prF σ k 9 = σ 9 := (prF_st σ k (by omega)).trans (once_ot h k (by omega))
theorem prF_7 (σ : Nat → Int) (k : Int) : prF σ k 7 = σ 7 + (pc6 (fbN σ k 6) : Int) := rfl
theorem prF_8 (σ : Nat → Int) (k : Int) : prF σ k 8 = σ 8 + (pc6 (sbN σ k 6) : Int) := rfl
theorem nPr_di {σ : Nat → Int} (h : OkT σ) {k : Int} (hk : 1 ≤ k ∧ k ≤ 9) : ∀ j : Nat, σ 5 + j ≤ 2000000000 → msk (nPr σ k j) 6 = msk σ 6 ∧ nPr σ k j 9 = σ 9 ∧ (σ 7 ≤ nPr σ k j 7 ∧ nPr σ k j 7 ≤ σ 7 + 6 * j) ∧ (σ 8 ≤ nPr σ k j 8 ∧ nPr σ k j 8 ≤ σ 8 + 6 * j) := by
  intro j
  induction j with
  | zero => intro _; exact ⟨rfl, rfl, ⟨Int.le_refl _, by show σ 7 ≤ _; omega⟩, ⟨Int.le_refl _, by show σ 8 ≤ _; omega⟩⟩
  | succ j ih =>
    intro hj
    obtain ⟨i1, i2, i3, i4⟩ := ih (by omega)
    have hT := okT_n h hk j (by omega)
    have p1 := pc6_rng (fbN (nPr σ k j) k 6)
    have p2 := pc6_rng (sbN (nPr σ k j) k 6)
    refine ⟨(msk_cg (fun p hp => prF_85 hT.1 k hp)).trans i1, (prF_9 hT.1 k).trans i2, ?_, ?_⟩
    · show σ 7 ≤ prF (nPr σ k j) k 7 ∧ prF (nPr σ k j) k 7 ≤ _
      rw [prF_7]; omega
    · show σ 8 ≤ prF (nPr σ k j) k 8 ∧ prF (nPr σ k j) k 8 ≤ _
      rw [prF_8]; omega
theorem UI.press {u : aS} {b k t : Int} (h : UI u b) (hO : OkD (aD u)) (hb : b ≤ 1900000000) : UI (a_press u k t).1 (b + 1000) := by
  unfold a_press
  split
  · rename_i hkt
    obtain ⟨k1, k2, k3, k4, k5, k6, k7⟩ := h.1
    have h5 : (aD u).1 5 + (t.toNat : Int) ≤ 2000000000 := by omega
    have hd := nPr_di hO.1 hkt.1 t.toNat h5
    have hr := nRt_rng (aD u).1 k t.toNat
    have h3 := nPr_3 hO.1 hkt.1 t.toNat h5
    have h6 := nPr_6 (aD u).1 k t.toNat
    have h55 := nPr_5 (aD u).1 k t.toNat
    have hc := cOk.add k2 hr.1
    refine h.act ⟨hd.1.trans k1, ?_, ?_, ?_, ?_, ?_, ?_⟩
    · show cOk (chAdd (aD u).2 ((aD u).1 3) (nRt (aD u).1 k t.toNat)) (nPr (aD u).1 k t.toNat 3)
      rw [h3]; exact hc.1
    · show csum (chAdd (aD u).2 ((aD u).1 3) (nRt (aD u).1 k t.toNat)) ≤ nPr (aD u).1 k t.toNat 6
      rw [h6, hc.2.1]; omega
    · show nPr (aD u).1 k t.toNat 6 ≤ nPr (aD u).1 k t.toNat 5 ∧ nPr (aD u).1 k t.toNat 5 ≤ b + 1000
      rw [h6, h55]; omega
    · show 0 ≤ nPr (aD u).1 k t.toNat 7 ∧ nPr (aD u).1 k t.toNat 7 ≤ b + 1000
      omega
    · show 0 ≤ nPr (aD u).1 k t.toNat 8 ∧ nPr (aD u).1 k t.toNat 8 ≤ b + 1000
      omega
    · show 0 ≤ nPr (aD u).1 k t.toNat 9 ∧ nPr (aD u).1 k t.toNat 9 ≤ b + 1000
      omega
  · exact h.mono (by omega)
theorem DI_s0 : DI (s0, []) 0 := ⟨by decide, True.intro, by decide, by decide, by decide, by decide, by decide⟩
theorem UI_start : UI aStart 0 := ⟨DI_s0, fun _ _ => DI_s0, DI_s0⟩
/-- what is undone is as it was -/
theorem undo_act {u : aS} {d : dT} (h : 0 ≤ aN u ∧ aN u ≤ 4) : aD (a_undo (aAct u d)).1 = aD u ∧ 0 ≤ (a_undo (aAct u d)).2 ∧ (a_undo (aAct u d)).2 ≤ 4 := by
  have e : aN (aAct u d) = min 4 (aN u + 1) := rfl
  unfold a_undo
  rw [if_neg (by rw [e]; omega)]
  refine ⟨?_, ?_, ?_⟩
  · show hiS (aN u) (aH u) (aD u) (min 4 (aN u + 1) - 1).toNat = aD u
    unfold hiS
    by_cases h4 : aN u = 4
    · rw [if_pos h4]
      exact if_pos (by omega)
    · rw [if_neg h4]
      exact if_pos (by omega)
  · show 0 ≤ min 4 (aN u + 1) - 1
    omega
  · show min 4 (aN u + 1) - 1 ≤ 4
    omega
