/-! the law: what holds at its loop's head -/
theorem chr_of (x : Int32) : ∃ z : Int, (x.toUInt32 % 65536).toInt32 = iv z ∧ 0 ≤ z ∧ z ≤ 65535 := ⟨((x.toBitVec.toNat % 65536 : Nat) : Int), by rw [pk_char, iv_nI], by omega, by omega⟩
theorem IsD.okD {G : wG} {μ : hM} {x rb : Nat} {u : aS} (h : IsD G μ x rb u) : OkD (aD u) := by
  obtain ⟨π, fp, sp, rd, a, b, c⟩ := h.2.1
  exact c
theorem IsD.okK {G : wG} {μ : hM} {x rb : Nat} {u : aS} (h : IsD G μ x rb u) : OkD (aK u) := by
  obtain ⟨π, fp, sp, rd, a, b, c⟩ := h.2.2.2.1
  exact c
theorem IsD.mv {G : wG} {μ ν : hM} {x : Nat} {u : aS} (h : IsD G μ x (x + 201) u) (hq : ∀ q e, ((x ≤ q ∧ q < x + 194) ∨ x + 201 ≤ q) → μ q = some e → ν q = some e) (hp : ∃ e, ν (x + 200) = some e) : IsD G ν x (x + 201) u := by
  obtain ⟨a1, a2, a3, a4, a5, a6, a7, a8, a9, a10, -⟩ := h
  exact ⟨hq _ _ (by omega) a1, a2.mn (fun q e b c => hq q e (by omega)) (fun q e b => hq q e (by omega)), a3.mn (fun q e b c => hq q e (by omega)) (fun q e b => hq q e (by omega)), a4.mn (fun q e b c => hq q e (by omega)) (fun q e b => hq q e (by omega)), a5.mn (fun q e b c => hq q e (by omega)), a6.mn (fun q e b c => hq q e (by omega)), a7, a8, a9, a10, hp⟩
theorem prow_11 {σ : Nat → Int} (h : Int) (i : Nat) : prow (fu σ 11 h) i = prow σ i := by
  unfold prow
  rw [fu_n (by omega), fu_n (by omega), fu_n (by omega), fu_n (by omega), fu_n (by omega), fu_n (by omega)]
theorem IsState.h11 {G : wG} {μ : hM} {sa : Nat} {π : Nat → Nat} {σ : Nat → Int} {fp sp : Int} {rd : Option Nat} (h : IsState G μ sa π σ fp sp rd) (v : Int) : IsState G μ sa π (fu σ 11 v) fp sp rd := by
  obtain ⟨h1, h2, h3, h4⟩ := h
  refine ⟨?_, h2.cg (fun j hj => fu_n (by omega)), h3, fun r hr => ?_⟩
  · rw [fu_n (by omega), fu_n (by omega), fu_n (by omega), fu_n (by omega), fu_n (by omega)]; exact h1
  · rw [prow_11, pix_cg (fu_n (by omega))]; exact h4 r hr
theorem IsD.h11 {G : wG} {μ : hM} {x rb : Nat} {u : aS} (h : IsD G μ x rb u) (v : Int) : IsD G μ x rb (hd11 u v) := by
  obtain ⟨a1, ⟨π, fp, sp, rd, b1, b2, b3⟩, a3, a4, a5, a6, a7⟩ := h
  exact ⟨a1, ⟨π, fp, sp, rd, b1.h11 v, b2, okT_11 b3.1 v, b3.2⟩, a3, a4, a5, a6, a7⟩
theorem IsM.pool_ {G : wG} {μ : hM} {yy : Nat} {u : aS} {en : Int} (h : IsM G μ yy u en) : ∃ e, μ (yy + 6) = some e := by
  obtain ⟨α, β, κ, ω, fr, pl, wr, h1, h2⟩ := h
  exact ⟨_, h1.2.2.2.2.2.2⟩
theorem IsM.obj {G : wG} {μ : hM} {yy : Nat} {u : aS} {en : Int} (h : IsM G μ yy u en) : ∃ fs, μ yy = some (.inr (8, fs)) := by
  obtain ⟨α, β, κ, ω, fr, pl, wr, h1, h2⟩ := h
  exact ⟨_, h1.1⟩
theorem IsD.bk {G : wG} {μ ν : hM} {x : Nat} {u w : aS} {en : Int} (h : IsD G μ x (x + 201) u) (hf : MFr (x + 194) μ ν) (hM : IsM G ν (x + 194) w en) : IsD G ν x (x + 201) u := by
  refine h.mv (fun q e a b => (hf q (by omega)).trans b) ?_
  have := hM.pool_
  rw [show x + 194 + 6 = x + 200 by omega] at this
  exact this
/-- the prints that the states tell of -/
def B6 (u : aS) (b : Int) : Prop := (aD u).1 5 ≤ b ∧ (∀ r, r < 4 → (aH u r).1 5 ≤ b) ∧ (aK u).1 5 ≤ b
theorem B6.mono {u : aS} {b b1 : Int} (h : B6 u b) (hb : b ≤ b1) : B6 u b1 := ⟨Int.le_trans h.1 hb, fun r hr => Int.le_trans (h.2.1 r hr) hb, Int.le_trans h.2.2 hb⟩
theorem B6.act {u : aS} {b b1 : Int} {d : dT} (h : B6 u b) (hb : b ≤ b1) (hd : d.1 5 ≤ b1) : B6 (aAct u d) b1 := by
  refine ⟨hd, ?_, Int.le_trans h.2.2 hb⟩
  exact hiS_all (P := fun d : dT => d.1 5 ≤ b1) (fun r hr => Int.le_trans (h.2.1 r hr) hb) (Int.le_trans h.1 hb)
theorem B6.h11 {u : aS} {b : Int} (h : B6 u b) (v : Int) : B6 (hd11 u v) b := ⟨by show fu (aD u).1 11 v 5 ≤ b; rw [fu_n (by omega)]; exact h.1, h.2⟩
theorem b6_pass {u : aS} {b k : Int} (h : B6 u b) : B6 (a_pass u k).1 (b + 6200) := by
  have h0 := h.1
  unfold a_pass
  split
  · split
    · exact h.act (by omega) (by show fu (aD u).1 3 ((aD u).1 3 + k) 5 ≤ _; rw [fu_n (by omega)]; omega)
    · exact h.mono (by omega)
  · exact h.mono (by omega)
theorem b6_adjust {u : aS} {b k : Int} (h : B6 u b) : B6 (a_adjust u k).1 (b + 6200) := by
  have h0 := h.1
  unfold a_adjust
  split
  · exact h.act (by omega) (by show adj (aD u).1 (dig k) 5 ≤ _; rw [show adj (aD u).1 (dig k) 5 = (aD u).1 5 from adj_ot (by omega) (by omega)]; omega)
  · exact h.mono (by omega)
theorem b6_turn {u : aS} {b p k : Int} (h : B6 u b) : B6 (a_turn u p k).1 (b + 6200) := by
  have h0 := h.1
  unfold a_turn
  split
  · split
    · exact h.act (by omega) (by show trn (aD u).1 p.toNat k 5 ≤ _; rw [trn_ot (by omega) (by omega) (by omega)]; omega)
    · exact h.mono (by omega)
  · exact h.mono (by omega)
theorem b6_press {u : aS} {b k t : Int} (h : B6 u b) : B6 (a_press u k t).1 (b + 6200) := by
  have h0 := h.1
  unfold a_press
  split
  · exact h.act (by omega) (by show nPr (aD u).1 k t.toNat 5 ≤ _; rw [nPr_5]; omega)
  · exact h.mono (by omega)
theorem b6_fill {u : aS} {b k : Int} (h : B6 u b) : B6 (a_fill u k).1 (b + 6200) := by
  have h0 := h.1
  unfold a_fill
  split
  · split
    · exact h.mono (by omega)
    · exact h.act (by omega) (by show fu (aD u).1 4 (min 200 ((aD u).1 4 + k)) 5 ≤ _; rw [fu_n (by omega)]; omega)
  · exact h.mono (by omega)
theorem b6_exchange {u : aS} {b p q : Int} (h : B6 u b) : B6 (a_exchange u p q).1 (b + 6200) := by
  have h0 := h.1
  unfold a_exchange
  split
  · split
    · exact h.mono (by omega)
    · exact h.act (by omega) (by show swpS (aD u).1 p.toNat q.toNat 5 ≤ _; rw [swpS_ot (by omega)]; omega)
  · exact h.mono (by omega)
theorem b6_tighten {u : aS} {b p : Int} (h : B6 u b) : B6 (a_tighten u p).1 (b + 6200) := by
  have h0 := h.1
  unfold a_tighten
  split
  · split
    · exact h.mono (by omega)
    · exact h.act (by omega) (by show fu (aD u).1 (87 + 13 * p.toNat) 0 5 ≤ _; rw [fu_n (by omega)]; omega)
  · exact h.mono (by omega)
theorem b6_replace {u : aS} {b p : Int} (h : B6 u b) : B6 (a_replace u p).1 (b + 6200) := by
  have h0 := h.1
  unfold a_replace
  split
  · exact h.act (by omega) (by show rnw (aD u).1 p.toNat 5 ≤ _; rw [show rnw (aD u).1 p.toNat 5 = (aD u).1 5 from if_neg (by omega)]; omega)
  · exact h.mono (by omega)
theorem b6_set {u : aS} {b p v : Int} (h : B6 u b) : B6 (a_set u p v).1 (b + 6200) := by
  have h0 := h.1
  unfold a_set
  split
  · split
    · exact h.mono (by omega)
    · exact h.act (by omega) (by show fu (aD u).1 p.toNat v 5 ≤ _; rw [fu_n (by omega)]; omega)
  · exact h.mono (by omega)
theorem b6_type {u : aS} {b k : Int} (h : B6 u b) : B6 (a_type u k).1 (b + 6200) := by
  unfold a_type
  split
  · exact (h.mono (by omega) : B6 u (b + 6200))
  · exact h.mono (by omega)
theorem b6_clear {u : aS} {b : Int} (h : B6 u b) : B6 (a_clear u).1 (b + 6200) := (h.mono (by omega) : B6 u (b + 6200))
theorem b6_fault {u : aS} {b : Int} (h : B6 u b) : B6 (a_fault u).1 (b + 6200) := h.mono (by omega)
theorem b6_undo {u : aS} {b : Int} (h : B6 u b) (hn : 0 ≤ aN u ∧ aN u ≤ 4) : B6 (a_undo u).1 (b + 6200) := by
  have h1 := h.mono (b1 := b + 6200) (by omega)
  unfold a_undo
  split
  · exact h1
  · exact ⟨h1.2.1 (aN u - 1).toNat (by omega), h1.2.1, h1.2.2⟩
theorem b6_keep {u : aS} {b : Int} (h : B6 u b) : B6 (a_keep u).1 (b + 6200) := by
  have h1 := h.mono (b1 := b + 6200) (by omega)
  exact ⟨h1.1, h1.2.1, h1.1⟩
theorem b6_restore {u : aS} {b : Int} (h : B6 u b) : B6 (a_restore u).1 (b + 6200) := by
  have h1 := h.mono (b1 := b + 6200) (by omega)
  unfold a_restore
  split
  · exact h1
  · exact h.act (by omega) h1.2.2
theorem rnum_le {c : Nat → Int} {L mx : Int} : ∀ (f : Nat) (v a : Int), v ≤ mx → (rnum c L mx f v a).1 ≤ mx := by
  intro f
  induction f with
  | zero => intro v a h; exact h
  | succ f ih =>
    intro v a h
    by_cases hc : 0 ≤ dgt c L a ∧ ¬ (dgt c L a = 0 ∧ v = 0) ∧ 10 * v + dgt c L a ≤ mx
    · rw [rnum_y hc]; exact ih _ _ hc.2.2
    · rw [rnum_n hc]; exact h
theorem ord_ti {c : Nat → Int} {L a : Int} : (ordF c L a).2.2.2 ≤ 99 := by
  have h1 := rnum_le (c := c) (L := L) (mx := 99) 60 0 ((rnum c L 9 60 0 (a + 1)).2 + 1) (by omega)
  unfold ordF
  split
  · show (1 : Int) ≤ 99; omega
  · split
    · show (1 : Int) ≤ 99; omega
    · split
      · split
        · split
          · exact h1
          · show (1 : Int) ≤ 99; omega
        · show (1 : Int) ≤ 99; omega
      · split
        · show (1 : Int) ≤ 99; omega
        · split
          · show (1 : Int) ≤ 99; omega
          · show (1 : Int) ≤ 99; omega
theorem ordD_5 {k nu ti : Int} {d : dT} (h : ti ≤ 99) : (ordD k nu ti d).1 5 ≤ d.1 5 + 99 := by
  unfold ordD
  split
  · show adj d.1 nu 5 ≤ _; rw [show adj d.1 nu 5 = d.1 5 from adj_ot (by omega) (by omega)]; omega
  · split
    · show adj d.1 (dig (d.1 3)) 5 ≤ _; rw [show adj d.1 (dig (d.1 3)) 5 = d.1 5 from adj_ot (by omega) (by omega)]; omega
    · split
      · show nPr d.1 nu ti.toNat 5 ≤ _; rw [nPr_5]; omega
      · split
        · show fu d.1 3 (d.1 3 + nu) 5 ≤ _; rw [fu_n (by omega)]; omega
        · split
          · show fu d.1 4 (min 200 (d.1 4 + nu)) 5 ≤ _; rw [fu_n (by omega)]; omega
          · omega
theorem allD_5 {c : Nat → Int} {L : Int} : ∀ (f : Nat) (a : Int) (d : dT), (allD c L f a d).1 5 ≤ d.1 5 + 99 * f := by
  intro f
  induction f with
  | zero => intro a d; rw [allD_0]; omega
  | succ f ih =>
    intro a d
    rw [allD_s]
    have h1 := ih ((ordF c L a).2.1 + 1) (ordD (nxt c L a) (ordF c L a).2.2.1 (ordF c L a).2.2.2 d)
    have h2 := ordD_5 (k := nxt c L a) (nu := (ordF c L a).2.2.1) (d := d) (ord_ti (c := c) (L := L) (a := a))
    omega
theorem b6_doAll {u : aS} {b : Int} (h : B6 u b) (hl : 0 ≤ aL u ∧ aL u ≤ 60) : B6 (a_doAll u).1 (b + 6200) := by
  have h0 := h.1
  have hN := (fltF_rng (c := aC u) (L := aL u) 61 0 0 0 (by omega) (by omega) (by omega)).2.2.1
  have h5 := allD_5 (c := aC u) (L := aL u) (fltF (aC u) (aL u) 61 0 0 0).2.1.toNat 0 (aD u)
  unfold a_doAll
  split
  · split
    · exact h.act (by omega) (by omega)
    · exact h.mono (by omega)
  · exact h.mono (by omega)
def LwJ (G : wG) (ν : hM) (x k : Nat) : Prop := ∃ (u : aS) (en : Int), IsD G ν x (x + 201) u ∧ IsM G ν (x + 194) u en ∧ (0 ≤ en ∧ en ≤ 10 * k) ∧ B6 u (6200 * k)
def LwC (p : Program) (s : State) (m : MethodId) (c : Code) (b L : Nat) (xs : Nat → Int32) (G : wG) : Prop := p.tables.exec = Jvm.exec ∧ c.code = cL_law ∧ c.maxLocals = 8 ∧ s.vm.findClass RL = some m.cls ∧ (∀ w ∈ wsL_law, w.before #[Value.ref b] s = true) ∧ va_X b L xs s s.heap ∧ b < s.heap.size ∧ gK G s ∧ G.2.2.1 = s.heap.size
abbrev lvL (x b k : Nat) : List (Nat × Value) := [(3, .int (iv (3 * (k : Int)))), (2, .ref (x + 194)), (1, .ref x), (0, .ref b)]
