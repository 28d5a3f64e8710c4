set_option maxHeartbeats 4000000 in
set_option maxRecDepth 100000 in
theorem whole_start {p : Program} {e : Env} {s : State} {m : MethodId} {below : List Frame} {meth : Method} {c : Code} (l : Launch) (hflags : l.flags = flags0) {b L : Nat} {xs : Nat → Int32} (hL : L ≤ 1536) (C0 : lw_At p s m meth c b L xs) : W p l e room_1 s m #[Value.ref b] below meth c s.heap [] 0 0 (lw_Z below #[Value.ref b] s) (entryFrame m ([Value.ref b] : List Value).toArray 8) := by
  obtain ⟨hx, hb, hr, hml, hown, hts0, hX, hbl, hlocks, hgv⟩ := id C0
  have hts : ∀ w ∈ wsL_law, w.before #[Value.ref b] s = true := fun w h => hts0 w (wsL_law_in w h)
  obtain ⟨c0, i0, hKn0⟩ := u_known (C := RX0) (T := TX0) (N := 4) (n := 4) hts inlX0 (hts (.instantiable RX0 4) (lawm_1 _ (List.mem_of_getElem? (i := 22) rfl)))
  obtain ⟨c1, i1, hKn1⟩ := u_known (C := RX2) (T := TX2) (N := 2) (n := 2) hts inlX2 (hts (.instantiable RX2 2) (lawm_0 _ (List.mem_of_getElem? (i := 17) rfl)))
  obtain ⟨c2, i2, hKn2⟩ := u_known (C := RX3) (T := TX3) (N := 6) (n := 6) hts inlX3 (hts (.instantiable RX3 6) (lawm_1 _ (List.mem_of_getElem? (i := 14) rfl)))
  obtain ⟨c3, i3, hKn3⟩ := u_known (C := RX4) (T := TX4) (N := 4) (n := 4) hts inlX4 (hts (.instantiable RX4 4) (lawm_15 _ (List.mem_of_getElem? (i := 0) rfl)))
  obtain ⟨c4, i4, hKn4⟩ := u_known (C := RX5) (T := TX5) (N := 7) (n := 7) hts inlX5 (hts (.instantiable RX5 7) (lawm_1 _ (List.mem_of_getElem? (i := 3) rfl)))
  obtain ⟨c5, i5, hKn5⟩ := u_known (C := RX6) (T := TX6) (N := 8) (n := 8) hts inlX6 (hts (.instantiable RX6 8) (lawm_0 _ (List.mem_of_getElem? (i := 13) rfl)))
  obtain ⟨c6, i6, hKn6⟩ := u_known (C := RX7) (T := TX7) (N := 8) (n := 8) hts inlX7 (hts (.instantiable RX7 8) (lawm_0 _ (List.mem_of_getElem? (i := 23) rfl)))
  obtain ⟨c7, i7, hKn7⟩ := u_known (C := RX8) (T := TX8) (N := 6) (n := 6) hts inlX8 (hts (.instantiable RX8 6) (lawm_0 _ (List.mem_of_getElem? (i := 1) rfl)))
  obtain ⟨c8, i8, hKn8⟩ := u_known (C := RX9) (T := TX9) (N := 13) (n := 13) hts inlX9 (hts (.instantiable RX9 13) (lawm_0 _ (List.mem_of_getElem? (i := 4) rfl)))
  obtain ⟨dC, dI, hKc⟩ : ∃ (dC : Nat → ClassId) (dI : Nat → Nat → Nat), ∀ (k : Nat) (q : vw_C), vwCl[k]? = some q → u_Kn s q.1 q.2.1 q.2.2 (dC k) (dI k) := by
    refine ⟨fun k => if k = 0 then c0 else if k = 1 then c1 else if k = 2 then c2 else if k = 3 then c3 else if k = 4 then c4 else if k = 5 then c5 else if k = 6 then c6 else if k = 7 then c7 else c8, fun k => if k = 0 then i0 else if k = 1 then i1 else if k = 2 then i2 else if k = 3 then i3 else if k = 4 then i4 else if k = 5 then i5 else if k = 6 then i6 else if k = 7 then i7 else i8, ?_⟩
    intro k q hq
    match k, hq with
    | 0, hq => cases hq; exact hKn0
    | 1, hq => cases hq; exact hKn1
    | 2, hq => cases hq; exact hKn2
    | 3, hq => cases hq; exact hKn3
    | 4, hq => cases hq; exact hKn4
    | 5, hq => cases hq; exact hKn5
    | 6, hq => cases hq; exact hKn6
    | 7, hq => cases hq; exact hKn7
    | 8, hq => cases hq; exact hKn8
    | k + 9, hq => simp [vwCl] at hq
  obtain ⟨ai, hai1, hai2⟩ := arr_K (hts (.arrayClass .int) (lawm_2 _ (List.mem_of_getElem? (i := 0) rfl)))
  obtain ⟨ac, hac1, hac2⟩ := arr_K (hts (.arrayClass .char) (lawm_2 _ (List.mem_of_getElem? (i := 23) rfl)))
  have hAO0 : va_AO RX0 s := va_AO.of (hts0 (.arrayOver (.object RX0)) (by decide +kernel))
  have hAO3 : va_AO RX3 s := va_AO.of (hts0 (.arrayOver (.object RX3)) (by decide +kernel))
  have hAO6 : va_AO RX6 s := va_AO.of (hts0 (.arrayOver (.object RX6)) (by decide +kernel))
  obtain ⟨a0, ha01, ha02⟩ := arr_O hAO0
  obtain ⟨a3, ha31, ha32⟩ := arr_O hAO3
  obtain ⟨a6, ha61, ha62⟩ := arr_O hAO6
  have hn1 : va_Nw (.methodLinkNest RX5 60 yX8_isPlace RX8) s := va_Nw.of rfl (hts0 (.methodLinkNest RX5 60 yX8_isPlace RX8) (by decide +kernel))
  have hn2 : va_Nw (.methodLinkNest RX6 24 yX3_init RX8) s := va_Nw.of rfl (hts0 (.methodLinkNest RX6 24 yX3_init RX8) (by decide +kernel))
  obtain ⟨t, ht1, ht2⟩ := long_T (A := fun q => s.heap.size ≤ q) hgv (fun a h => Nat.not_le.mpr h)
  have hZ := va_Zref (A := fun q => s.heap.size ≤ q) (hts0 (.laysStatic "StampDater$Dates" "LONGEST" "[I") (by decide +kernel)) (hts (.initialized RX1) (lawm_7 _ (List.mem_of_getElem? (i := 4) rfl))) ht1 (fun a h => Nat.not_le.mpr h)
  obtain ⟨G, hG⟩ : ∃ G : wG, G = ((dC, dI), (fun k => if k = 0 then ai else if k = 1 then ac else if k = 2 then a0 else if k = 3 then a3 else a6), s.heap.size, t) := ⟨_, rfl⟩
  have hGb : G.2.2.1 = s.heap.size := by rw [hG]
  have hK : gK G s := by
    rw [hG]
    refine ⟨⟨hKc, fun k q hq => ?_⟩, hZ, ht2, Nat.le_refl _, hn1, hn2, hAO0, hAO3, hAO6⟩
    match k, hq with
    | 0, hq => cases hq; exact ⟨hai2, hai1⟩
    | 1, hq => cases hq; exact ⟨hac2, hac1⟩
    | 2, hq => cases hq; exact ⟨ha01, ha02⟩
    | 3, hq => cases hq; exact ⟨ha31, ha32⟩
    | 4, hq => cases hq; exact ⟨ha61, ha62⟩
    | k + 5, hq => simp [gTys] at hq
  clear hG hKc hZ ht2 ht1
  have hS : va_S (gA G) s.heap s.heap [] := va_S.rf
  obtain ⟨x, hxe⟩ : ∃ x, x = s.heap.size := ⟨_, rfl⟩
  have hH : gP G (fun _ => none) x s.heap := ⟨hxe.symm, [], fun k q h => by simp at h, ⟨fun i j p q h => by simp at h, fun k q h => by simp at h⟩, fun a e h => by cases h⟩
  have hl := lv_entry ([.ref b]) (n := 8) (Nat.le_of_ble_eq_true rfl)
  rw [lg_entry_eq]
  generalize (lg_sl ([.ref b]) ++ List.replicate (8 - (lg_sl ([.ref b])).length) Slot.unset).toArray = ls at hl ⊢
  have hl : lv_has ls 8 [(0, .ref b)] := hl
  refine m_new (C := RX8) (T := TX8) (N := 6) (ci := 7) (fs := [.null, .null, .null, .int (iv 0), .null, .null]) hx hb hts inlX8 tyX8 tyX8_ok hown (hts (.classLink RL 7 RX8) (lawm_0 _ (List.mem_of_getElem? (i := 0) rfl))) (hts (.instantiable RX8 6) (lawm_0 _ (List.mem_of_getElem? (i := 1) rfl))) (hts (.initialized RX8) (lawm_0 _ (List.mem_of_getElem? (i := 2) rfl))) hK hH hS rfl (fun j hj => by rcases (show j = 0 ∨ j = 1 ∨ j = 2 ∨ j = 3 ∨ j = 4 ∨ j = 5 by omega) with rfl | rfl | rfl | rfl | rfl | rfl <;> rfl) dL_law_0 (Nat.le_of_ble_eq_true rfl) (Nat.le_of_ble_eq_true rfl) (fun H hH hS hnn => ?_)
  obtain ⟨μ1, hμ1⟩ : ∃ ν : hM, ν = hu (fun _ => none) x (.inr (7, [.null, .null, .null, .int (iv 0), .null, .null])) := ⟨_, rfl⟩
  have hB8 : μ1 x = some (.inr (7, [.null, .null, .null, .int (iv 0), .null, .null])) := by rw [hμ1]; exact hu_s
  rw [← hμ1] at hH
  refine lv_dup hx hb dL_law_3 rfl ?_
  refine m_callIv (As := []) (rest := [.ref x]) ⟨hx, hb, hml, hown, hts⟩ hK hH hS (c_X8_init l G μ1 (x + 1) x hB8 rfl) (cwI 0 hts gL_law_X8_init rfl rfl rfl (hts (.initialized RX8) (lawm_0 _ (List.mem_of_getElem? (i := 2) rfl))) (hts (.methodLink RL 9 yX8_init) (lawm_0 _ (List.mem_of_getElem? (i := 6) rfl))) (hts (.instanceMethod yX8_init) (lawm_0 _ (List.mem_of_getElem? (i := 7) rfl))) rfl (by decide +kernel) ⟨(Nat.le_of_ble_eq_true rfl), (Nat.le_of_ble_eq_true rfl)⟩) rfl rfl hl.1 (Nat.le_of_ble_eq_true rfl) dL_law_4 ⟨(Nat.le_of_ble_eq_true rfl), (Nat.le_of_ble_eq_true rfl)⟩ (fun μ2 n2 H locs hp hH hS => ?_)
  obtain ⟨q1, q2, q3, q4, q5, q6, hn2e, hfr2⟩ := hp
  rw [hn2e] at hH
  refine lv_astore_n (lv' := [(1, .ref x), (0, .ref b)]) hx hb dL_law_7 rfl hl (by decide) rfl (fun ls hl => ?_)
  refine m_new (C := RX9) (T := TX9) (N := 13) (ci := 8) (fs := [.null, .null, .null, .int (iv 0), .null, .int (iv 0), .null, .int (iv 0), .null, .int (iv 0), .int (iv 0), .int (iv 0), .int (iv 0)]) hx hb hts inlX9 tyX9 tyX9_ok hown (hts (.classLink RL 10 RX9) (lawm_0 _ (List.mem_of_getElem? (i := 3) rfl))) (hts (.instantiable RX9 13) (lawm_0 _ (List.mem_of_getElem? (i := 4) rfl))) (hts (.initialized RX9) (lawm_0 _ (List.mem_of_getElem? (i := 5) rfl))) hK hH hS rfl (fun j hj => by rcases (show j = 0 ∨ j = 1 ∨ j = 2 ∨ j = 3 ∨ j = 4 ∨ j = 5 ∨ j = 6 ∨ j = 7 ∨ j = 8 ∨ j = 9 ∨ j = 10 ∨ j = 11 ∨ j = 12 by omega) with rfl | rfl | rfl | rfl | rfl | rfl | rfl | rfl | rfl | rfl | rfl | rfl | rfl <;> rfl) dL_law_8 (Nat.le_of_ble_eq_true rfl) (Nat.le_of_ble_eq_true rfl) (fun H hH hS hnn => ?_)
  obtain ⟨μ3, hμ3⟩ : ∃ ν : hM, ν = hu μ2 (x + 194) (.inr (8, [.null, .null, .null, .int (iv 0), .null, .int (iv 0), .null, .int (iv 0), .null, .int (iv 0), .int (iv 0), .int (iv 0), .int (iv 0)])) := ⟨_, rfl⟩
  have hB9 : μ3 (x + 194) = some (.inr (8, [.null, .null, .null, .int (iv 0), .null, .int (iv 0), .null, .int (iv 0), .null, .int (iv 0), .int (iv 0), .int (iv 0), .int (iv 0)])) := by rw [hμ3]; exact hu_s
  have hfr3 : ∀ q, q < x + 194 → μ3 q = μ2 q := fun q hq => by rw [hμ3]; exact hu_n (by omega)
  rw [← hμ3] at hH
  refine lv_dup hx hb dL_law_11 rfl ?_
  refine m_callIv (As := []) (rest := [.ref (x + 194)]) ⟨hx, hb, hml, hown, hts⟩ hK hH hS (c_X9_init l G μ3 (x + 194 + 1) (x + 194) hB9 rfl) (cwI 0 hts gL_law_X9_init rfl rfl rfl (hts (.initialized RX9) (lawm_0 _ (List.mem_of_getElem? (i := 5) rfl))) (hts (.methodLink RL 12 yX9_init) (lawm_3 _ (List.mem_of_getElem? (i := 2) rfl))) (hts (.instanceMethod yX9_init) (lawm_3 _ (List.mem_of_getElem? (i := 3) rfl))) rfl (by decide +kernel) ⟨(Nat.le_of_ble_eq_true rfl), (Nat.le_of_ble_eq_true rfl)⟩) rfl rfl hl.1 (Nat.le_of_ble_eq_true rfl) dL_law_12 ⟨(Nat.le_of_ble_eq_true rfl), (Nat.le_of_ble_eq_true rfl)⟩ (fun μ4 n4 H locs hp hH hS => ?_)
  obtain ⟨hY, hn4e, hfr4⟩ := hp
  refine lv_astore_n (lv' := [(2, .ref (x + 194)), (1, .ref x), (0, .ref b)]) hx hb dL_law_15 rfl hl (by decide) rfl (fun ls hl => ?_)
  refine j_const hx hb dL_law_16 ?_
  refine lv_istore_n (lv' := [(3, .int (iv 0)), (2, .ref (x + 194)), (1, .ref x), (0, .ref b)]) hx hb dL_law_17 rfl hl (by decide) rfl (fun ls hl => ?_)
  have hfr : ∀ q, q < x + 194 → μ4 q = μ2 q := fun q hq => (hfr4 q hq).trans (hfr3 q hq)
  have hpool : ∃ e, μ4 (x + 200) = some e := by
    have := hY.2.2.2.2.2.2
    rw [show x + 194 + 6 = x + 200 by omega] at this
    exact ⟨_, this⟩
  have hD : IsD G μ4 x (x + 201) aStart := ⟨(hfr x (by omega)).trans q1, ⟨fun p => p, 0, 0, none, q2.fr (fun q a b => hfr q (by omega)), True.intro, okT_s0, fun y hy => by cases hy⟩, ⟨fun r => r, fun _ p => p, fun _ => 0, fun _ => 0, fun _ => none, q3.fr (fun q a b => hfr q (by omega)), fun r hr => ⟨True.intro, okT_s0, fun y hy => by cases hy⟩⟩, ⟨fun p => p, 0, 0, none, q4.fr (fun q a b => hfr q (by omega)), True.intro, okT_s0, fun y hy => by cases hy⟩, ⟨0, 0, 0, 0, 0, 0, q5.fr (fun q a b => hfr q (by omega))⟩, ⟨fun p => p, s0, 0, 0, q6.fr (fun q a b => hfr q (by omega)), okT_s0.1⟩, ⟨by show (0 : Int) ≤ 0 ∧ (0 : Int) ≤ 4; omega, by show (0 : Int) ≤ 0 ∧ (0 : Int) ≤ 1; omega, ⟨by show (0 : Int) ≤ 0 ∧ (0 : Int) ≤ 60; omega, fun j => by show (0 : Int) ≤ 0 ∧ (0 : Int) ≤ 65535; omega⟩, Nat.le_refl _, hpool⟩⟩
  have hPD0 : PD (fun _ => 0) 0 (s0, []) := ⟨rfl, Int.le_refl _, True.intro⟩
  have hM : IsM G μ4 (x + 194) aStart 0 := ⟨_, _, _, _, _, _, _, hY, hPD0, fun r hr hrn => absurd hrn (by show ¬ (r : Int) < 0; omega), fun h => absurd h (by show ¬ (0 : Int) = 1; omega), Int.le_refl _, by show (0 : Int) ≤ 0 ∧ (0 : Int) ≤ 4; omega, by show (0 : Int) ≤ 0 ∧ (0 : Int) ≤ 1; omega, ⟨by show (0 : Int) ≤ 0 ∧ (0 : Int) ≤ 60; omega, fun j => by show (0 : Int) ≤ 0 ∧ (0 : Int) ≤ 65535; omega⟩⟩
  refine W.widen (k := 201 + 62 * 0) (n := 27000 + 248 * 0) (by omega) (by omega) ?_
  exact law_loop ⟨hx, hb, hml, hown, hts, hX, hbl, hK, hGb⟩ hL hr hlocks 513 0 (Nat.zero_le _) (Nat.le_refl _) H locs μ4 n4 ls hH hS hl ⟨aStart, 0, hD, hM, by omega, Int.le_refl _, fun r hr => Int.le_refl _, Int.le_refl _⟩
set_option maxHeartbeats 4000000 in
theorem lw_walk (l : Launch) (hflags : l.flags = flags0) (b : Addr) (xs : List Int32) : MetFree l x (headSpec (Jvm.Cond.code x code maxLocals ret :: tables_1) room_1) (lw_P b xs) (fun _ _ _ _ _ => True) lw_Q := by
  refine MetFree.of_bodyS (code := code) (maxLocals := maxLocals) (ret := ret) (by decide) ?_ ?_
  · intro args s m h hn
    obtain ⟨meth, c, h1, h2, h3, h4, h5, h6, -, -⟩ := Cond.code_spec hn (atoms_spec (ws := Jvm.Cond.code x code maxLocals ret :: tables_1) h _ List.mem_cons_self)
    exact ⟨meth, c, h1, h2, h3, h4, h5, h6⟩
  · intro p e s m args below meth c s₁ B hml0 hP _
    obtain ⟨rfl, hx, hbd, hgv⟩ := hP
    obtain ⟨scr, harrAt, hlist, hof, hsmall⟩ := hx
    obtain ⟨hcb, hkn, -, -⟩ := State.arrayAt?_spec harrAt
    have hown : s.vm.findClass R_law = some m.cls := findClass_of_methodNamed B.named
    have hts0 : ∀ c ∈ (Jvm.Cond.code x code maxLocals ret :: tables_1), c.before #[Value.ref b] s = true := atoms_spec (ws := Jvm.Cond.code x code maxLocals ret :: tables_1) B.pre
    have hts : ∀ w ∈ lw_tbl, w.before #[Value.ref b] s = true := k2_hts_sels lw_privs (fun w hw => hts0 w (List.mem_cons_of_mem _ hw)) lw_privs_ok
    have hml : c.maxLocals = 8 := B.maxLocals_eq (hts0 _ List.mem_cons_self)
    have X₀ : Stand p l e room_1 s m #[Value.ref b] below meth c s₁ [] 0 0 := Stand.of_body B
    have hh0 : s₁.heap = s.heap := by rw [B.state]; rfl
    have hsz : scr.slots.size = xs.length := by rw [← Array.length_toList, hlist, List.length_map]
    have hval : ∀ j : Nat, j < xs.length → scr.slots[j]? = some (.int (xs.getD j 0)) := fun j hj => by
      rw [← Array.getElem?_toList, hlist]
      simp [hj]
    have hbl : b < s.heap.size := (Array.getElem?_eq_some_iff.mp hcb).1
    have hX : va_X b xs.length (fun j => xs.getD j 0) s s.heap := ⟨scr, hcb, hof, hkn, hsz, hval⟩
    have K : W p l e room_1 s m #[Value.ref b] below meth c s₁.heap [] 0 0 (lw_Z below #[Value.ref b] s) (entryFrame m ([Value.ref b] : List Value).toArray 8) := by
      rw [hh0]
      exact whole_start l hflags hbd ⟨B.exec, B.bytes, B.returns, hml, hown, hts, hX, hbl, B.notSynchronized, hgv⟩
    obtain ⟨t, a1, o, b1, b2, b3⟩ := K s₁ rfl X₀
    exact ⟨t, o, a1, b1, b2, b3⟩
theorem lw_pre_spec {args : Array Value} {s : State} (h : (Jvm.Cond.and given_1 narrow_1).before args s = true) (hr : rest_1_c.before args s = true) : ∃ (b : Addr) (xs : List Int32), lw_P b xs args s := by
  have hs := flat_of_before _ h
  have hq := flat_of_before _ hr
  have hc : (Cond.count 1).before args s = true := hs _ (by decide +kernel)
  have harr : (Cond.arrayOf (.arg 0) .int).before args s = true := hs _ (by decide +kernel)
  have hle : (Cond.le (.length (.arg 0)) (.int 1536)).before args s = true := hs _ (by decide +kernel)
  have hlen : (Cond.isInt (.length (.arg 0))).before args s = true := hq _ (by decide +kernel)
  have hall : (Cond.all (.arg 0) (.isInt (.elem (.arg 0) (.index 0)))).before args s = true := hq _ (by decide +kernel)
  obtain ⟨b, xs, hb, hx⟩ := State.ints_of_pre rfl harr hlen hall
  have hsm : xs.length < 2 ^ 31 := hx.choose_spec.2.2.2
  have hev : (Term.length (.arg 0)).eval args s none [] s = some (.int xs.length.toInt32) := hx.length_eval hb
  have hv := Cond.le_ints hev (show (Term.int 1536).eval args s none [] s = some (.int 1536) from rfl)
  have hd : xs.length.toInt32 ≤ 1536 := by
    simpa [Cond.before, Cond.holds, hv] using hle
  have hN : xs.length ≤ 1536 := (Int32.ofNat_le_ofNat hsm (by decide)).mp (show Int32.ofNat xs.length ≤ Int32.ofNat 1536 from hd)
  exact ⟨b, xs, Cond.one_arg hc (show args[0]? = some (.ref b) from hb), hx, hN, h⟩
theorem lw_comes (l : Launch) (hflags : l.flags = flags0) : Comes l x (Jvm.Cond.code x code maxLocals ret :: tables_1) room_1 (fun tb e args s => Calls_1 tb e args s ∧ rest_1 tb e args s ∧ Pre_1 tb e args s)
    (fun _ _ args s o t => lw_Q args s o t) := by
  intro p e ha hc hk s m args below hf hfit hheap happ hpre
  obtain ⟨b, xs, hP⟩ := lw_pre_spec hpre.2.2 hpre.2.1
  obtain ⟨k, o, h1, h2, h3, hQ⟩ := lw_walk l hflags b xs p e ha hc hk s m args below hf ((Spec.applies_iff_loose hf).mp happ).1 hP trivial
  exact ⟨k, o, h1, h2, h3, hQ⟩
theorem lw_frame {s t : State} {o : Outcome} {args : Array Value} (h : State.butDraws s t lw_cs (fun t1 => Framed s o t1 [] 600000 7302250)) :
    State.butDraws s t [Jvm.Choice.named "NaN.bits"] (fun t1 => Framed s o t1 (fieldLocs frame_1_writes args s ++ arrayLocs frame_1_arrays args s ++ staticLocs frame_1_statics s) 600000 7302250) := h
theorem lw_limb (L : Cond) (hL : ∀ (args : Array Value) (s t : State), L.after args s (.returned (some (.int 1))) t = true) :
    ArmFor flags0 classFile x code maxLocals ret World_1 tables_1 room_1 Calls_1 rest_1 Pre_1
      (fun tb e a s o t => postC L tb e a s o t ∧ State.butDraws s t [Jvm.Choice.named "NaN.bits"] (fun t1 => Framed s o t1 (fieldLocs frame_1_writes a s ++ arrayLocs frame_1_arrays a s ++ staticLocs frame_1_statics s) 600000 7302250)) := by
  intro l hflags _ _ p e ha hc hk s m args below hf hfit hheap happ hpre
  obtain ⟨k, o, h1, h2, h3, rfl, hF⟩ := lw_comes l hflags p e ha hc hk s m args below hf hfit hheap happ hpre
  exact ⟨k, _, h1, h2, h3, hL args s _, lw_frame hF⟩
theorem i_vc : Claimed_1_1 ∧ Claimed_1_2 := ⟨lw_limb limb_1_1 (fun args s t => by simp [limb_1_1, Cond.after, Cond.holds, Cond.value]), lw_limb limb_1_2 (fun args s t => Cond.after_iff.mpr (by
  first | (rw [show limb_1_2 = Cond.eq .result (.int 1) from rfl, Cond.eq_ints (x := 1) (y := 1) rfl rfl]; simp; done) | (simp [limb_1_2, Cond.value, Term.eval]; done)))⟩
