/-! THE CLAIM OUT OF ONE WALK OF THE LAW'S BODY. Your part is whole_start (and what it stands on); all else here is the same for every law, but numbers. -/
def R_law : String := "StampDaterLaw"
def lw_P (b : Addr) (xs : List Int32) (args : Array Value) (s : State) : Prop := args = #[.ref b] ∧ s.IntsAt b xs ∧ xs.length ≤ 260 ∧ (Jvm.Cond.and given_1 narrow_1).before args s = true
/-- what a walk over the start with the record d0 says of its end, said of the start itself -/
theorem lw_closed {s t : State} {o : Outcome} {d0 : Drawn} {L : List Loc} {k n : Nat} (hd0 : s.drawn.sameBut d0 lw_cs) (hv : ∃ v, o = .returned v) (hW : (s.setDrawn d0).WarmedH t.vm) (hs : (s.setDrawn d0).sameButNew ({ t with vm := s.vm } : State) L k n) : State.butDraws s t lw_cs (fun t1 => Framed s o t1 L k n) := by
  have h2 : t.drawn = d0 := congrArg State.drawn hs.1
  refine ⟨⟨hv, hW, State.sameButNew.setDrawn hs s.drawn⟩, ?_, by decide⟩
  rw [h2]
  exact hd0
def lw_Q (_ : Array Value) (s : State) (o : Outcome) (t : State) : Prop := o = .returned (some (.int 1)) ∧ State.butDraws s t lw_cs (fun t1 => Framed s o t1 [] 911287 6368388)
def lw_Z (below : List Frame) (a : Array Value) (s : State) : State → Prop := fun t => ∃ o, t.status = .running ∧ Ended t below o ∧ lw_Q a s o t
/-- the law's own end, with 1 on the stack, nothing written that was there before, its room as the claim has it; d0: the record of draws at this point (at the entry s.drawn: begin with 'refine W.base ?_' and 'have hd0 := Drawn.sameBut.refl s.drawn lw_cs') -/
theorem lw_ret {p : Program} {l : Launch} {e : Env} {s : State} {m : MethodId} {below : List Frame} {meth : Method} {c : Code} {b : Nat} {d0 : Drawn} (hd0 : s.drawn.sameBut d0 lw_cs) (hx : p.tables.exec = Jvm.exec) (hb : c.code = code) (hr : meth.sig.returnType = ret) (hlocks : meth.locks = false) {pc : Nat} {H : Heap} {ls : Array Slot} (hdg : decode code pc = .ok (.ireturn, 1)) : W p l e room_1 (s.setDrawn d0) m #[Value.ref b] below meth c H [] 911287 6368388 (lw_Z below #[Value.ref b] s) (F0 m pc ls [.int 1]) := by
  intro T hT X
  obtain ⟨fs, hret, hrun, hended, hW, hframe⟩ := X.leave (v := some (.int 1)) (hlocks := hlocks) (fun h => by rw [hr] at h; cases h)
  have hmeth' : T.vm.method? m = some meth := X.method'
  refine ⟨T.setFrames fs, ?_, .returned (some (.int 1)), hrun, hended, rfl, lw_closed hd0 ⟨_, rfl⟩ hW hframe⟩
  jvm_step X.here [X.here.top, hx, hb, hdg, hmeth', hr, ret, narrow_b1]
  (try refine ⟨rfl, ?_⟩); (try refine ⟨rfl, ?_⟩)
  first | (intro acts; rw [hret _ acts rfl rfl rfl]) | rw [hret _ _ rfl rfl rfl]
  exact Steps.refl _
/-- what holds at the law's entry: the machine, the code, the tables' words (any of lw_tbl by 'hts w (by decide +kernel)'), the script of L ints xs at the cell b, what the Statement gives of the start (any of its parts by flat_of_before) -/
def lw_At (p : Program) (s : State) (m : MethodId) (meth : Method) (c : Code) (b L : Nat) (xs : Nat → Int32) : Prop :=
  p.tables.exec = Jvm.exec ∧ c.code = code ∧ meth.sig.returnType = ret ∧ c.maxLocals = 5 ∧ s.vm.findClass R_law = some m.cls ∧ (∀ w ∈ lw_tbl, w.before #[Value.ref b] s = true) ∧ va_X b L xs s s.heap ∧ b < s.heap.size ∧ meth.locks = false ∧ (Jvm.Cond.and given_1 narrow_1).before #[Value.ref b] s = true
/-! where the law starts: the tables, LONGEST, the classes of arrays -/
theorem arr_K {args : Array Value} {s : State} {ty : FieldType} (h : (Cond.arrayClass ty).before args s = true) : ∃ cA : ClassId, s.vm.findClass ("[" ++ ty.toString) = some cA ∧ ArrOfT s cA ty := by
  obtain ⟨c, k, comp, h1, h2, h3⟩ := Cond.arrayClass_spec h
  exact ⟨c, h1, fun n z => ⟨fun k h => (by cases h), k, h2, comp, h3⟩⟩
theorem arr_O {C : String} {s : State} (h : va_AO C s) : ∃ cA : ClassId, ArrOfT s cA (.object C) ∧ va_RA s cA (.object C) := by
  obtain ⟨comp, c, k, h1, h2, h3, h4, h5⟩ := Cond.arrayOver_spec h
  exact ⟨c, fun n z => ⟨fun k h => (by cases h), k, h3, comp, h4⟩, k, comp, h3, h4, h1, h5⟩
theorem long_T {args : Array Value} {s : State} {A : Nat → Prop} (hg : (Jvm.Cond.and given_1 narrow_1).before args s = true) (hA : ∀ a : Nat, a < s.heap.size → ¬ A a) : ∃ t : Nat, (Term.static "StampDater$Dates" "LONGEST" "[I").eval args s none [] s = some (.ref t) ∧ va_T .int t 12 (fun j => .int (iv (longest j))) A s s.heap := by
  have hs := flat_of_before _ hg
  refine va_Tof (by decide) (hs (Cond.arrayOf (.static "StampDater$Dates" "LONGEST" "[I") .int) (by decide +kernel)) (va_eqt (hs (Cond.eq (.length (.static "StampDater$Dates" "LONGEST" "[I")) (.int 12)) (by decide +kernel))) ?_ hA
  intro j hj
  have hc : j = 0 ∨ j = 1 ∨ j = 2 ∨ j = 3 ∨ j = 4 ∨ j = 5 ∨ j = 6 ∨ j = 7 ∨ j = 8 ∨ j = 9 ∨ j = 10 ∨ j = 11 := by omega
  rcases hc with rfl | rfl | rfl | rfl | rfl | rfl | rfl | rfl | rfl | rfl | rfl | rfl
  · exact va_eqt (hs (Cond.eq (.elem (.static "StampDater$Dates" "LONGEST" "[I") (.int 0)) (.int 31)) (by decide +kernel))
  · exact va_eqt (hs (Cond.eq (.elem (.static "StampDater$Dates" "LONGEST" "[I") (.int 1)) (.int 29)) (by decide +kernel))
  · exact va_eqt (hs (Cond.eq (.elem (.static "StampDater$Dates" "LONGEST" "[I") (.int 2)) (.int 31)) (by decide +kernel))
  · exact va_eqt (hs (Cond.eq (.elem (.static "StampDater$Dates" "LONGEST" "[I") (.int 3)) (.int 30)) (by decide +kernel))
  · exact va_eqt (hs (Cond.eq (.elem (.static "StampDater$Dates" "LONGEST" "[I") (.int 4)) (.int 31)) (by decide +kernel))
  · exact va_eqt (hs (Cond.eq (.elem (.static "StampDater$Dates" "LONGEST" "[I") (.int 5)) (.int 30)) (by decide +kernel))
  · exact va_eqt (hs (Cond.eq (.elem (.static "StampDater$Dates" "LONGEST" "[I") (.int 6)) (.int 31)) (by decide +kernel))
  · exact va_eqt (hs (Cond.eq (.elem (.static "StampDater$Dates" "LONGEST" "[I") (.int 7)) (.int 31)) (by decide +kernel))
  · exact va_eqt (hs (Cond.eq (.elem (.static "StampDater$Dates" "LONGEST" "[I") (.int 8)) (.int 30)) (by decide +kernel))
  · exact va_eqt (hs (Cond.eq (.elem (.static "StampDater$Dates" "LONGEST" "[I") (.int 9)) (.int 31)) (by decide +kernel))
  · exact va_eqt (hs (Cond.eq (.elem (.static "StampDater$Dates" "LONGEST" "[I") (.int 10)) (.int 30)) (by decide +kernel))
  · exact va_eqt (hs (Cond.eq (.elem (.static "StampDater$Dates" "LONGEST" "[I") (.int 11)) (.int 31)) (by decide +kernel))
set_option maxHeartbeats 4000000 in
set_option maxRecDepth 100000 in
theorem whole_start {p : Program} {e : Env} {s : State} {m : MethodId} {below : List Frame} {meth : Method} {c : Code} (l : Launch) (hflags : l.flags = flags0) {b L : Nat} {xs : Nat → Int32} (hL : L ≤ 260) (C0 : lw_At p s m meth c b L xs) : W p l e room_1 s m #[Value.ref b] below meth c s.heap [] 0 0 (lw_Z below #[Value.ref b] s) (entryFrame m ([Value.ref b] : List Value).toArray 5) := by
  obtain ⟨hx, hb, hr, hml, hown, hts0, hX, hbl, hlocks, hgv⟩ := id C0
  have hts : ∀ w ∈ wsL_law, w.before #[Value.ref b] s = true := fun w h => hts0 w (wsL_law_in w h)
  obtain ⟨c0, i0, hKn0⟩ := u_known (C := RX0) (T := TX0) (N := 4) (n := 4) hts inlX0 (hts (.instantiable RX0 4) (lawm_1 _ (List.mem_of_getElem? (i := 20) rfl)))
  obtain ⟨c1, i1, hKn1⟩ := u_known (C := RX2) (T := TX2) (N := 2) (n := 2) hts inlX2 (hts (.instantiable RX2 2) (lawm_0 _ (List.mem_of_getElem? (i := 15) rfl)))
  obtain ⟨c2, i2, hKn2⟩ := u_known (C := RX3) (T := TX3) (N := 6) (n := 6) hts inlX3 (hts (.instantiable RX3 6) (lawm_1 _ (List.mem_of_getElem? (i := 12) rfl)))
  obtain ⟨c3, i3, hKn3⟩ := u_known (C := RX4) (T := TX4) (N := 4) (n := 4) hts inlX4 (hts (.instantiable RX4 4) (lawm_15 _ (List.mem_of_getElem? (i := 5) rfl)))
  obtain ⟨c4, i4, hKn4⟩ := u_known (C := RX5) (T := TX5) (N := 7) (n := 7) hts inlX5 (hts (.instantiable RX5 7) (lawm_1 _ (List.mem_of_getElem? (i := 1) rfl)))
  obtain ⟨c5, i5, hKn5⟩ := u_known (C := RX6) (T := TX6) (N := 8) (n := 8) hts inlX6 (hts (.instantiable RX6 8) (lawm_0 _ (List.mem_of_getElem? (i := 11) rfl)))
  obtain ⟨c6, i6, hKn6⟩ := u_known (C := RX7) (T := TX7) (N := 8) (n := 8) hts inlX7 (hts (.instantiable RX7 8) (lawm_0 _ (List.mem_of_getElem? (i := 21) rfl)))
  obtain ⟨c7, i7, hKn7⟩ := u_known (C := RX8) (T := TX8) (N := 6) (n := 6) hts inlX8 (hts (.instantiable RX8 6) (lawm_0 _ (List.mem_of_getElem? (i := 1) rfl)))
  obtain ⟨dC, dI, hKc⟩ : ∃ (dC : Nat → ClassId) (dI : Nat → Nat → Nat), ∀ (k : Nat) (q : vw_C), vwCl[k]? = some q → u_Kn s q.1 q.2.1 q.2.2 (dC k) (dI k) := by
    refine ⟨fun k => if k = 0 then c0 else if k = 1 then c1 else if k = 2 then c2 else if k = 3 then c3 else if k = 4 then c4 else if k = 5 then c5 else if k = 6 then c6 else c7, fun k => if k = 0 then i0 else if k = 1 then i1 else if k = 2 then i2 else if k = 3 then i3 else if k = 4 then i4 else if k = 5 then i5 else if k = 6 then i6 else i7, ?_⟩
    intro k q hq
    match k, hq with
    | 0, hq => cases hq; exact hKn0
    | 1, hq => cases hq; exact hKn1
    | 2, hq => cases hq; exact hKn2
    | 3, hq => cases hq; exact hKn3
    | 4, hq => cases hq; exact hKn4
    | 5, hq => cases hq; exact hKn5
    | 6, hq => cases hq; exact hKn6
    | 7, hq => cases hq; exact hKn7
    | k + 8, hq => simp [vwCl] at hq
  obtain ⟨ai, hai1, hai2⟩ := arr_K (hts (.arrayClass .int) (lawm_1 _ (List.mem_of_getElem? (i := 22) rfl)))
  obtain ⟨ac, hac1, hac2⟩ := arr_K (hts (.arrayClass .char) (lawm_2 _ (List.mem_of_getElem? (i := 21) rfl)))
  have hAO0 : va_AO RX0 s := va_AO.of (hts0 (.arrayOver (.object RX0)) (by decide +kernel))
  have hAO3 : va_AO RX3 s := va_AO.of (hts0 (.arrayOver (.object RX3)) (by decide +kernel))
  have hAO6 : va_AO RX6 s := va_AO.of (hts0 (.arrayOver (.object RX6)) (by decide +kernel))
  obtain ⟨a0, ha01, ha02⟩ := arr_O hAO0
  obtain ⟨a3, ha31, ha32⟩ := arr_O hAO3
  obtain ⟨a6, ha61, ha62⟩ := arr_O hAO6
  have hn1 : va_Nw (.methodLinkNest RX5 60 yX8_isPlace RX8) s := va_Nw.of rfl (hts0 (.methodLinkNest RX5 60 yX8_isPlace RX8) (by decide +kernel))
  have hn2 : va_Nw (.methodLinkNest RX6 24 yX3_init RX8) s := va_Nw.of rfl (hts0 (.methodLinkNest RX6 24 yX3_init RX8) (by decide +kernel))
  obtain ⟨t, ht1, ht2⟩ := long_T (A := fun q => s.heap.size ≤ q) hgv (fun a h => Nat.not_le.mpr h)
  have hZ := va_Zref (A := fun q => s.heap.size ≤ q) (hts0 (.laysStatic "StampDater$Dates" "LONGEST" "[I") (by decide +kernel)) (hts (.initialized RX1) (lawm_6 _ (List.mem_of_getElem? (i := 18) rfl))) ht1 (fun a h => Nat.not_le.mpr h)
  obtain ⟨G, hG⟩ : ∃ G : wG, G = ((dC, dI), (fun k => if k = 0 then ai else if k = 1 then ac else if k = 2 then a0 else if k = 3 then a3 else a6), s.heap.size, t) := ⟨_, rfl⟩
  have hGb : G.2.2.1 = s.heap.size := by rw [hG]
  have hK : gK G s := by
    rw [hG]
    refine ⟨⟨hKc, fun k q hq => ?_⟩, hZ, ht2, Nat.le_refl _, hn1, hn2, hAO0, hAO3, hAO6⟩
    match k, hq with
    | 0, hq => cases hq; exact ⟨hai2, hai1⟩
    | 1, hq => cases hq; exact ⟨hac2, hac1⟩
    | 2, hq => cases hq; exact ⟨ha01, ha02⟩
    | 3, hq => cases hq; exact ⟨ha31, ha32⟩
    | 4, hq => cases hq; exact ⟨ha61, ha62⟩
    | k + 5, hq => simp [gTys] at hq
  clear hG hKc hZ ht2 ht1
  have hS : va_S (gA G) s.heap s.heap [] := va_S.rf
  obtain ⟨x, hxe⟩ : ∃ x, x = s.heap.size := ⟨_, rfl⟩
  have hH : gP G (fun _ => none) x s.heap := ⟨hxe.symm, [], fun k q h => by simp at h, ⟨fun i j p q h => by simp at h, fun k q h => by simp at h⟩, fun a e h => by cases h⟩
  have hl := lv_entry ([.ref b]) (n := 5) (Nat.le_of_ble_eq_true rfl)
  rw [lg_entry_eq]
  generalize (lg_sl ([.ref b]) ++ List.replicate (5 - (lg_sl ([.ref b])).length) Slot.unset).toArray = ls at hl ⊢
  have hl : lv_has ls 5 [(0, .ref b)] := hl
  refine m_new (C := RX8) (T := TX8) (N := 6) (ci := 7) (fs := [.null, .null, .null, .int (iv 0), .null, .null]) hx hb hts inlX8 tyX8 tyX8_ok hown (hts (.classLink RL 15 RX8) (lawm_0 _ (List.mem_of_getElem? (i := 0) rfl))) (hts (.instantiable RX8 6) (lawm_0 _ (List.mem_of_getElem? (i := 1) rfl))) (hts (.initialized RX8) (lawm_0 _ (List.mem_of_getElem? (i := 2) rfl))) hK hH hS rfl (fun j hj => by rcases (show j = 0 ∨ j = 1 ∨ j = 2 ∨ j = 3 ∨ j = 4 ∨ j = 5 by omega) with rfl | rfl | rfl | rfl | rfl | rfl <;> rfl) dL_law_0 (Nat.le_of_ble_eq_true rfl) (Nat.le_of_ble_eq_true rfl) (fun H hH hS hnn => ?_)
  obtain ⟨μ1, hμ1⟩ : ∃ ν : hM, ν = hu (fun _ => none) x (.inr (7, [.null, .null, .null, .int (iv 0), .null, .null])) := ⟨_, rfl⟩
  have hB8 : μ1 x = some (.inr (7, [.null, .null, .null, .int (iv 0), .null, .null])) := by rw [hμ1]; exact hu_s
  rw [← hμ1] at hH
  refine lv_dup hx hb dL_law_3 rfl ?_
  refine m_callIv (As := []) (rest := [.ref x]) ⟨hx, hb, hml, hown, hts⟩ hK hH hS (c_X8_init l G μ1 (x + 1) x hB8 rfl) (cwI 0 hts gL_law_X8_init rfl rfl rfl (hts (.initialized RX8) (lawm_0 _ (List.mem_of_getElem? (i := 2) rfl))) (hts (.methodLink RL 101 yX8_init) (lawm_0 _ (List.mem_of_getElem? (i := 4) rfl))) (hts (.instanceMethod yX8_init) (lawm_0 _ (List.mem_of_getElem? (i := 5) rfl))) rfl (by decide +kernel) ⟨(Nat.le_of_ble_eq_true rfl), (Nat.le_of_ble_eq_true rfl)⟩) rfl rfl hl.1 (Nat.le_of_ble_eq_true rfl) dL_law_4 ⟨(Nat.le_of_ble_eq_true rfl), (Nat.le_of_ble_eq_true rfl)⟩ (fun μ2 n2 H locs hp hH hS => ?_)
  obtain ⟨q1, q2, q3, q4, q5, q6, hn2e, hfr2⟩ := hp
  rw [hn2e] at hH
  refine lv_astore_n (lv' := [(1, .ref x), (0, .ref b)]) hx hb dL_law_7 rfl hl (by decide) rfl (fun ls hl => ?_)
  refine j_const hx hb dL_law_8 ?_
  refine lv_istore_n (lv' := [(2, .int (iv 0)), (1, .ref x), (0, .ref b)]) hx hb dL_law_9 rfl hl (by decide) rfl (fun ls hl => ?_)
  have hlast : ∃ e, μ2 (x + 194 - 1) = some e := by
    rw [show x + 194 - 1 = x + 179 + 14 by omega]
    exact ⟨_, q6.2.2.1⟩
  have hD : IsD G μ2 x (x + 194) aStart := ⟨q1, ⟨fun p => p, 0, 0, none, q2, True.intro, okT_s0, fun y hy => by cases hy⟩, ⟨fun r => r, fun _ p => p, fun _ => 0, fun _ => 0, fun _ => none, q3, fun r hr => ⟨True.intro, okT_s0, fun y hy => by cases hy⟩⟩, ⟨fun p => p, 0, 0, none, q4, True.intro, okT_s0, fun y hy => by cases hy⟩, ⟨0, 0, 0, 0, 0, 0, q5⟩, ⟨fun p => p, s0, 0, 0, q6, okT_s0.1⟩, ⟨by show (0 : Int) ≤ 0 ∧ (0 : Int) ≤ 4; omega, by show (0 : Int) ≤ 0 ∧ (0 : Int) ≤ 1; omega, ⟨by show (0 : Int) ≤ 0 ∧ (0 : Int) ≤ 60; omega, fun j => by show (0 : Int) ≤ 0 ∧ (0 : Int) ≤ 65535; omega⟩, Nat.le_refl _, hlast⟩⟩
  refine W.widen (k := 194 + 20 * 0) (n := 1332 + 86 * 0) (by omega) (by omega) ?_
  refine law_loop (args := #[Value.ref b]) ⟨hx, hb, hml, hown, hts, hX, hbl, hK, hGb⟩ hL (fun H locs ls hS => ?_) 49 0 (Nat.zero_le _) (Nat.le_refl _) H locs μ2 (x + 194) ls hH hS hl ⟨aStart, hD, UI_start⟩
  refine j_const hx hb dL_law_185 ?_
  refine va_forget (fun q hq => by have q1 : G.2.2.1 ≤ q.base := hS.2.2 q hq; omega) ?_
  refine W.widen (k := 911287) (n := 6368388) (by omega) (by omega) ?_
  exact W.base (lw_ret (Drawn.sameBut.refl s.drawn lw_cs) hx hb hr hlocks dL_law_186)
set_option maxHeartbeats 4000000 in
theorem lw_walk (l : Launch) (hflags : l.flags = flags0) (b : Addr) (xs : List Int32) : MetFree l x (headSpec (Jvm.Cond.code x code maxLocals ret :: tables_1) room_1) (lw_P b xs) (fun _ _ _ _ _ => True) lw_Q := by
  refine MetFree.of_bodyS (code := code) (maxLocals := maxLocals) (ret := ret) (by decide) ?_ ?_
  · intro args s m h hn
    obtain ⟨meth, c, h1, h2, h3, h4, h5, h6, -, -⟩ := Cond.code_spec hn (atoms_spec (ws := Jvm.Cond.code x code maxLocals ret :: tables_1) h _ List.mem_cons_self)
    exact ⟨meth, c, h1, h2, h3, h4, h5, h6⟩
  · intro p e s m args below meth c s₁ B hml0 hP _
    obtain ⟨rfl, hx, hbd, hgv⟩ := hP
    obtain ⟨scr, harrAt, hlist, hof, hsmall⟩ := hx
    obtain ⟨hcb, hkn, -, -⟩ := State.arrayAt?_spec harrAt
    have hown : s.vm.findClass R_law = some m.cls := findClass_of_methodNamed B.named
    have hts0 : ∀ c ∈ (Jvm.Cond.code x code maxLocals ret :: tables_1), c.before #[Value.ref b] s = true := atoms_spec (ws := Jvm.Cond.code x code maxLocals ret :: tables_1) B.pre
    have hts : ∀ w ∈ lw_tbl, w.before #[Value.ref b] s = true := k2_hts_sels lw_privs (fun w hw => hts0 w (List.mem_cons_of_mem _ hw)) lw_privs_ok
    have hml : c.maxLocals = 5 := B.maxLocals_eq (hts0 _ List.mem_cons_self)
    have X₀ : Stand p l e room_1 s m #[Value.ref b] below meth c s₁ [] 0 0 := Stand.of_body B
    have hh0 : s₁.heap = s.heap := by rw [B.state]; rfl
    have hsz : scr.slots.size = xs.length := by rw [← Array.length_toList, hlist, List.length_map]
    have hval : ∀ j : Nat, j < xs.length → scr.slots[j]? = some (.int (xs.getD j 0)) := fun j hj => by
      rw [← Array.getElem?_toList, hlist]
      simp [hj]
    have hbl : b < s.heap.size := (Array.getElem?_eq_some_iff.mp hcb).1
    have hX : va_X b xs.length (fun j => xs.getD j 0) s s.heap := ⟨scr, hcb, hof, hkn, hsz, hval⟩
    have K : W p l e room_1 s m #[Value.ref b] below meth c s₁.heap [] 0 0 (lw_Z below #[Value.ref b] s) (entryFrame m ([Value.ref b] : List Value).toArray 5) := by
      rw [hh0]
      exact whole_start l hflags hbd ⟨B.exec, B.bytes, B.returns, hml, hown, hts, hX, hbl, B.notSynchronized, hgv⟩
    obtain ⟨t, a1, o, b1, b2, b3⟩ := K s₁ rfl X₀
    exact ⟨t, o, a1, b1, b2, b3⟩
theorem lw_pre_spec {args : Array Value} {s : State} (h : (Jvm.Cond.and given_1 narrow_1).before args s = true) (hr : rest_1_c.before args s = true) : ∃ (b : Addr) (xs : List Int32), lw_P b xs args s := by
  have hs := flat_of_before _ h
  have hq := flat_of_before _ hr
  have hc : (Cond.count 1).before args s = true := hs _ (by decide +kernel)
  have harr : (Cond.arrayOf (.arg 0) .int).before args s = true := hs _ (by decide +kernel)
  have hle : (Cond.le (.length (.arg 0)) (.int 260)).before args s = true := hs _ (by decide +kernel)
  have hlen : (Cond.isInt (.length (.arg 0))).before args s = true := hq _ (by decide +kernel)
  have hall : (Cond.all (.arg 0) (.isInt (.elem (.arg 0) (.index 0)))).before args s = true := hq _ (by decide +kernel)
  obtain ⟨b, xs, hb, hx⟩ := State.ints_of_pre rfl harr hlen hall
  have hsm : xs.length < 2 ^ 31 := hx.choose_spec.2.2.2
  have hev : (Term.length (.arg 0)).eval args s none [] s = some (.int xs.length.toInt32) := hx.length_eval hb
  have hv := Cond.le_ints hev (show (Term.int 260).eval args s none [] s = some (.int 260) from rfl)
  have hd : xs.length.toInt32 ≤ 260 := by
    simpa [Cond.before, Cond.holds, hv] using hle
  have hN : xs.length ≤ 260 := (Int32.ofNat_le_ofNat hsm (by decide)).mp (show Int32.ofNat xs.length ≤ Int32.ofNat 260 from hd)
  exact ⟨b, xs, Cond.one_arg hc (show args[0]? = some (.ref b) from hb), hx, hN, h⟩
theorem lw_comes (l : Launch) (hflags : l.flags = flags0) : Comes l x (Jvm.Cond.code x code maxLocals ret :: tables_1) room_1 (fun tb e args s => Calls_1 tb e args s ∧ rest_1 tb e args s ∧ Pre_1 tb e args s)
    (fun _ _ args s o t => lw_Q args s o t) := by
  intro p e ha hc hk s m args below hf hfit hheap happ hpre
  obtain ⟨b, xs, hP⟩ := lw_pre_spec hpre.2.2 hpre.2.1
  obtain ⟨k, o, h1, h2, h3, hQ⟩ := lw_walk l hflags b xs p e ha hc hk s m args below hf ((Spec.applies_iff_loose hf).mp happ).1 hP trivial
  exact ⟨k, o, h1, h2, h3, hQ⟩
theorem lw_frame {s t : State} {o : Outcome} {args : Array Value} (h : State.butDraws s t lw_cs (fun t1 => Framed s o t1 [] 911287 6368388)) :
    State.butDraws s t [Jvm.Choice.named "NaN.bits"] (fun t1 => Framed s o t1 (fieldLocs frame_1_writes args s ++ arrayLocs frame_1_arrays args s ++ staticLocs frame_1_statics s) 911287 6368388) := h
theorem lw_limb (L : Cond) (hL : ∀ (args : Array Value) (s t : State), L.after args s (.returned (some (.int 1))) t = true) :
    ArmFor flags0 classFile x code maxLocals ret World_1 tables_1 room_1 Calls_1 rest_1 Pre_1
      (fun tb e a s o t => postC L tb e a s o t ∧ State.butDraws s t [Jvm.Choice.named "NaN.bits"] (fun t1 => Framed s o t1 (fieldLocs frame_1_writes a s ++ arrayLocs frame_1_arrays a s ++ staticLocs frame_1_statics s) 911287 6368388)) := by
  intro l hflags _ _ p e ha hc hk s m args below hf hfit hheap happ hpre
  obtain ⟨k, o, h1, h2, h3, rfl, hF⟩ := lw_comes l hflags p e ha hc hk s m args below hf hfit hheap happ hpre
  exact ⟨k, _, h1, h2, h3, hL args s _, lw_frame hF⟩
theorem i_vc : Claimed_1_1 ∧ Claimed_1_2 := ⟨lw_limb limb_1_1 (fun args s t => by simp [limb_1_1, Cond.after, Cond.holds, Cond.value]), lw_limb limb_1_2 (fun args s t => Cond.after_iff.mpr (by
  first | (rw [show limb_1_2 = Cond.eq .result (.int 1) from rfl, Cond.eq_ints (x := 1) (y := 1) rfl rfl]; simp; done) | (simp [limb_1_2, Cond.value, Term.eval]; done)))⟩
