/-! THE CLAIM OUT OF ONE WALK OF THE LAW'S BODY. Your part is whole_start (and what it stands on); all else here is the same for every law, but numbers. -/
def R_law : String := "StampDaterLaw"
def lw_P (b : Addr) (xs : List Int32) (args : Array Value) (s : State) : Prop := args = #[.ref b] ∧ s.IntsAt b xs ∧ xs.length ≤ 1536 ∧ (Jvm.Cond.and given_1 narrow_1).before args s = true
/-- what a walk over the start with the record d0 says of its end, said of the start itself -/
theorem lw_closed {s t : State} {o : Outcome} {d0 : Drawn} {L : List Loc} {k n : Nat} (hd0 : s.drawn.sameBut d0 lw_cs) (hv : ∃ v, o = .returned v) (hW : (s.setDrawn d0).WarmedH t.vm) (hs : (s.setDrawn d0).sameButNew ({ t with vm := s.vm } : State) L k n) : State.butDraws s t lw_cs (fun t1 => Framed s o t1 L k n) := by
  have h2 : t.drawn = d0 := congrArg State.drawn hs.1
  refine ⟨⟨hv, hW, State.sameButNew.setDrawn hs s.drawn⟩, ?_, by decide⟩
  rw [h2]
  exact hd0
def lw_Q (_ : Array Value) (s : State) (o : Outcome) (t : State) : Prop := o = .returned (some (.int 1)) ∧ State.butDraws s t lw_cs (fun t1 => Framed s o t1 [] 600000 7302250)
def lw_Z (below : List Frame) (a : Array Value) (s : State) : State → Prop := fun t => ∃ o, t.status = .running ∧ Ended t below o ∧ lw_Q a s o t
/-- the law's own end, with 1 on the stack, nothing written that was there before, its room as the claim has it; d0: the record of draws at this point (at the entry s.drawn: begin with 'refine W.base ?_' and 'have hd0 := Drawn.sameBut.refl s.drawn lw_cs') -/
theorem lw_ret {p : Program} {l : Launch} {e : Env} {s : State} {m : MethodId} {below : List Frame} {meth : Method} {c : Code} {b : Nat} {d0 : Drawn} (hd0 : s.drawn.sameBut d0 lw_cs) (hx : p.tables.exec = Jvm.exec) (hb : c.code = code) (hr : meth.sig.returnType = ret) (hlocks : meth.locks = false) {pc : Nat} {H : Heap} {ls : Array Slot} (hdg : decode code pc = .ok (.ireturn, 1)) : W p l e room_1 (s.setDrawn d0) m #[Value.ref b] below meth c H [] 600000 7302250 (lw_Z below #[Value.ref b] s) (F0 m pc ls [.int 1]) := by
  intro T hT X
  obtain ⟨fs, hret, hrun, hended, hW, hframe⟩ := X.leave (v := some (.int 1)) (hlocks := hlocks) (fun h => by rw [hr] at h; cases h)
  have hmeth' : T.vm.method? m = some meth := X.method'
  refine ⟨T.setFrames fs, ?_, .returned (some (.int 1)), hrun, hended, rfl, lw_closed hd0 ⟨_, rfl⟩ hW hframe⟩
  jvm_step X.here [X.here.top, hx, hb, hdg, hmeth', hr, ret, narrow_b1]
  (try refine ⟨rfl, ?_⟩); (try refine ⟨rfl, ?_⟩)
  first | (intro acts; rw [hret _ acts rfl rfl rfl]) | rw [hret _ _ rfl rfl rfl]
  exact Steps.refl _
/-- what holds at the law's entry: the machine, the code, the tables' words (any of lw_tbl by 'hts w (by decide +kernel)'), the script of L ints xs at the cell b, what the Statement gives of the start (any of its parts by flat_of_before) -/
def lw_At (p : Program) (s : State) (m : MethodId) (meth : Method) (c : Code) (b L : Nat) (xs : Nat → Int32) : Prop :=
  p.tables.exec = Jvm.exec ∧ c.code = code ∧ meth.sig.returnType = ret ∧ c.maxLocals = 8 ∧ s.vm.findClass R_law = some m.cls ∧ (∀ w ∈ lw_tbl, w.before #[Value.ref b] s = true) ∧ va_X b L xs s s.heap ∧ b < s.heap.size ∧ meth.locks = false ∧ (Jvm.Cond.and given_1 narrow_1).before #[Value.ref b] s = true
/-! where the law starts: the tables, LONGEST, the classes of arrays -/
theorem arr_K {args : Array Value} {s : State} {ty : FieldType} (h : (Cond.arrayClass ty).before args s = true) : ∃ cA : ClassId, s.vm.findClass ("[" ++ ty.toString) = some cA ∧ ArrOfT s cA ty := by
  obtain ⟨c, k, comp, h1, h2, h3⟩ := Cond.arrayClass_spec h
  exact ⟨c, h1, fun n z => ⟨fun k h => (by cases h), k, h2, comp, h3⟩⟩
theorem arr_O {C : String} {s : State} (h : va_AO C s) : ∃ cA : ClassId, ArrOfT s cA (.object C) ∧ va_RA s cA (.object C) := by
  obtain ⟨comp, c, k, h1, h2, h3, h4, h5⟩ := Cond.arrayOver_spec h
  exact ⟨c, fun n z => ⟨fun k h => (by cases h), k, h3, comp, h4⟩, k, comp, h3, h4, h1, h5⟩
theorem long_T {args : Array Value} {s : State} {A : Nat → Prop} (hg : (Jvm.Cond.and given_1 narrow_1).before args s = true) (hA : ∀ a : Nat, a < s.heap.size → ¬ A a) : ∃ t : Nat, (Term.static "StampDater$Dates" "LONGEST" "[I").eval args s none [] s = some (.ref t) ∧ va_T .int t 12 (fun j => .int (iv (longest j))) A s s.heap := by
  have hs := flat_of_before _ hg
  refine va_Tof (by decide) (hs (Cond.arrayOf (.static "StampDater$Dates" "LONGEST" "[I") .int) (by decide +kernel)) (va_eqt (hs (Cond.eq (.length (.static "StampDater$Dates" "LONGEST" "[I")) (.int 12)) (by decide +kernel))) ?_ hA
  intro j hj
  have hc : j = 0 ∨ j = 1 ∨ j = 2 ∨ j = 3 ∨ j = 4 ∨ j = 5 ∨ j = 6 ∨ j = 7 ∨ j = 8 ∨ j = 9 ∨ j = 10 ∨ j = 11 := by omega
  rcases hc with rfl | rfl | rfl | rfl | rfl | rfl | rfl | rfl | rfl | rfl | rfl | rfl
  · exact va_eqt (hs (Cond.eq (.elem (.static "StampDater$Dates" "LONGEST" "[I") (.int 0)) (.int 31)) (by decide +kernel))
  · exact va_eqt (hs (Cond.eq (.elem (.static "StampDater$Dates" "LONGEST" "[I") (.int 1)) (.int 29)) (by decide +kernel))
  · exact va_eqt (hs (Cond.eq (.elem (.static "StampDater$Dates" "LONGEST" "[I") (.int 2)) (.int 31)) (by decide +kernel))
  · exact va_eqt (hs (Cond.eq (.elem (.static "StampDater$Dates" "LONGEST" "[I") (.int 3)) (.int 30)) (by decide +kernel))
  · exact va_eqt (hs (Cond.eq (.elem (.static "StampDater$Dates" "LONGEST" "[I") (.int 4)) (.int 31)) (by decide +kernel))
  · exact va_eqt (hs (Cond.eq (.elem (.static "StampDater$Dates" "LONGEST" "[I") (.int 5)) (.int 30)) (by decide +kernel))
  · exact va_eqt (hs (Cond.eq (.elem (.static "StampDater$Dates" "LONGEST" "[I") (.int 6)) (.int 31)) (by decide +kernel))
  · exact va_eqt (hs (Cond.eq (.elem (.static "StampDater$Dates" "LONGEST" "[I") (.int 7)) (.int 31)) (by decide +kernel))
  · exact va_eqt (hs (Cond.eq (.elem (.static "StampDater$Dates" "LONGEST" "[I") (.int 8)) (.int 30)) (by decide +kernel))
  · exact va_eqt (hs (Cond.eq (.elem (.static "StampDater$Dates" "LONGEST" "[I") (.int 9)) (.int 31)) (by decide +kernel))
  · exact va_eqt (hs (Cond.eq (.elem (.static "StampDater$Dates" "LONGEST" "[I") (.int 10)) (.int 30)) (by decide +kernel))
  · exact va_eqt (hs (Cond.eq (.elem (.static "StampDater$Dates" "LONGEST" "[I") (.int 11)) (.int 31)) (by decide +kernel))
theorem and31 (w : Int32) : ∃ z : Int, w &&& iv 31 = iv z ∧ 0 ≤ z ∧ z ≤ 31 := by
  have h : (w &&& iv 31).toBitVec.toNat ≤ 31 := by
    rw [Int32.toBitVec_and, BitVec.toNat_and]
    exact Nat.and_le_right
  refine ⟨((w &&& iv 31).toBitVec.toNat : Int), ?_, by omega, by omega⟩
  rw [← iv_nI]
  apply Int32.toBitVec_inj.mp
  generalize (w &&& iv 31) = y at *
  show y.toBitVec = (Int32.ofNat y.toBitVec.toNat).toBitVec
  simp
theorem LwJ.mono {G : wG} {ν : hM} {x k : Nat} (h : LwJ G ν x k) : LwJ G ν x (k + 1) := by
  obtain ⟨u, en, h1, h2, h3, h4⟩ := h
  exact ⟨u, en, h1, h2, by omega, h4.mono (by omega)⟩
set_option maxHeartbeats 4000000 in
set_option maxRecDepth 100000 in
theorem law_loop {p : Program} {l : Launch} {e : Env} {s : State} {m : MethodId} {below : List Frame} {meth : Method} {c : Code} {b L : Nat} {xs : Nat → Int32} {G : wG} {x : Nat} (C : LwC p s m c b L xs G) (hL : L ≤ 1536) (hr : meth.sig.returnType = ret) (hlocks : meth.locks = false) : ∀ (f k : Nat), 3 * k ≤ L → 513 ≤ f + k → ∀ (H : Heap) (locs : List Loc) (ν : hM) (n0 : Nat) (ls : Array Slot), gP G ν n0 H → va_S (gA G) s.heap H locs → lv_has ls 8 (lvL x b k) → LwJ G ν x k → W p l e room_1 s m #[Value.ref b] below meth c H locs (201 + 62 * k) (27000 + 248 * k) (lw_Z below #[Value.ref b] s) (F0 m 18 ls []) := by
  intro f
  induction f with
  | zero => intro k h1 h2; omega
  | succ f ih =>
    intro k hk hf H locs ν n0 ls hH hS hl hJ
    obtain ⟨hx, hb, hml, hown, hts, hX, hbl, hK, hGb⟩ := id C
    have hbA : ¬ gA G b := fun q => by have q1 : G.2.2.1 ≤ b := q; omega
    refine lv_iload_n hx hb dL_law_18 rfl (lv_at hl 0 rfl) ?_
    refine lv_aload_n hx hb dL_law_19 rfl (lv_at hl 3 rfl) ?_
    refine va_slen hx hb hX hbl hbA hS dL_law_20 ?_
    rw [show Int32.ofNat L = iv (L : Int) from iv_nI L]
    refine j_const hx hb dL_law_21 ?_
    refine j_isub hx hb dL_law_22 ?_
    refine j_icmp_gt (tgt := 860) hx hb dL_law_23 (by decide) (fun hend => ?_) (fun hgo => ?_) (by omega) (by omega)
    · refine j_const hx hb dL_law_860 ?_
      refine va_forget (fun q hq => by have q1 : G.2.2.1 ≤ q.base := hS.2.2 q hq; omega) ?_
      refine W.widen (k := 600000) (n := 7302250) (by omega) (by omega) ?_
      exact W.base (lw_ret (Drawn.sameBut.refl s.drawn lw_cs) hx hb hr hlocks dL_law_861)
    · have K : ∀ (H : Heap) (locs : List Loc) (ν : hM) (n0 : Nat) (ls : Array Slot), gP G ν n0 H → va_S (gA G) s.heap H locs → lv_has ls 8 (lvL x b k) → LwJ G ν x (k + 1) → W p l e room_1 s m #[Value.ref b] below meth c H locs (201 + 62 * (k + 1)) (27000 + 248 * (k + 1)) (lw_Z below #[Value.ref b] s) (F0 m 854 ls []) := by
        intro H locs ν n0 ls hH hS hl hJ
        refine j_iinc (lv' := [(3, .int (iv (3 * (k : Int) + 3))), (2, .ref (x + 194)), (1, .ref x), (0, .ref b)]) hx hb dL_law_854 hl (k := 0) rfl (by decide) rfl (fun ls hl => ?_)
        refine lv_goto (tgt := 18) hx hb dL_law_857 (by decide) ?_
        rw [show 3 * (k : Int) + 3 = 3 * ((k + 1 : Nat) : Int) by omega] at hl
        exact ih (k + 1) (by omega) (by omega) H locs ν n0 ls hH hS hl hJ
      refine lv_aload_n hx hb dL_law_26 rfl (lv_at hl 3 rfl) ?_
      refine lv_iload_n hx hb dL_law_27 rfl (lv_at hl 0 rfl) ?_
      refine va_sld hx hb hX hbl hbA hS (iv_in ⟨by omega, by omega⟩ (by omega)) dL_law_28 ?_
      refine j_bipush hx hb dL_law_29 ?_ (by decide)
      obtain ⟨w0, hw0⟩ : ∃ y : Int32, y = xs (iv (3 * (k : Int))).toNatClampNeg := ⟨_, rfl⟩
      rw [← hw0]
      obtain ⟨z0, hz0, hzr⟩ := and31 w0
      refine lv_iand hx hb dL_law_31 ?_
      rw [hz0]
      by_cases hc0 : z0 = 0
      · refine j_table hx hb (tgt := 160) 0 hc0 dL_law_32 ?_
        exact law_pass C hL (by omega) hl hH hS hJ K
      by_cases hc1 : z0 = 1
      · refine j_table hx hb (tgt := 183) 1 hc1 dL_law_32 ?_
        exact law_adjust C hL (by omega) hl hH hS hJ K
      by_cases hc2 : z0 = 2
      · refine j_table hx hb (tgt := 206) 2 hc2 dL_law_32 ?_
        exact law_turn C hL (by omega) hl hH hS hJ K
      by_cases hc3 : z0 = 3
      · refine j_table hx hb (tgt := 239) 3 hc3 dL_law_32 ?_
        exact law_press C hL (by omega) hl hH hS hJ K
      by_cases hc4 : z0 = 4
      · refine j_table hx hb (tgt := 272) 4 hc4 dL_law_32 ?_
        exact law_fill C hL (by omega) hl hH hS hJ K
      by_cases hc5 : z0 = 5
      · refine j_table hx hb (tgt := 295) 5 hc5 dL_law_32 ?_
        exact law_exchange C hL (by omega) hl hH hS hJ K
      by_cases hc6 : z0 = 6
      · refine j_table hx hb (tgt := 328) 6 hc6 dL_law_32 ?_
        exact law_tighten C hL (by omega) hl hH hS hJ K
      by_cases hc7 : z0 = 7
      · refine j_table hx hb (tgt := 351) 7 hc7 dL_law_32 ?_
        exact law_replace C hL (by omega) hl hH hS hJ K
      by_cases hc8 : z0 = 8
      · refine j_table hx hb (tgt := 374) 8 hc8 dL_law_32 ?_
        exact law_set C hL (by omega) hl hH hS hJ K
      by_cases hc9 : z0 = 9
      · refine j_table hx hb (tgt := 407) 9 hc9 dL_law_32 ?_
        exact law_type C hL (by omega) hl hH hS hJ K
      by_cases hc10 : z0 = 10
      · refine j_table hx hb (tgt := 432) 10 hc10 dL_law_32 ?_
        exact law_clearText C hL (by omega) hl hH hS hJ K
      by_cases hc11 : z0 = 11
      · refine j_table hx hb (tgt := 445) 11 hc11 dL_law_32 ?_
        exact law_fault C hL (by omega) hl hH hS hJ K
      by_cases hc12 : z0 = 12
      · refine j_table hx hb (tgt := 458) 12 hc12 dL_law_32 ?_
        exact law_doAll C hL (by omega) hl hH hS hJ K
      by_cases hc13 : z0 = 13
      · refine j_table hx hb (tgt := 471) 13 hc13 dL_law_32 ?_
        exact law_undo C hL (by omega) hl hH hS hJ K
      by_cases hc14 : z0 = 14
      · refine j_table hx hb (tgt := 484) 14 hc14 dL_law_32 ?_
        exact law_keep C hL (by omega) hl hH hS hJ K
      by_cases hc15 : z0 = 15
      · refine j_table hx hb (tgt := 497) 15 hc15 dL_law_32 ?_
        exact law_restore C hL (by omega) hl hH hS hJ K
      by_cases hc16 : z0 = 16
      · refine j_table hx hb (tgt := 510) 16 hc16 dL_law_32 ?_
        exact law_date C hL (by omega) hl hH hS hJ K
      by_cases hc17 : z0 = 17
      · refine j_table hx hb (tgt := 543) 17 hc17 dL_law_32 ?_
        exact law_day C hL (by omega) hl hH hS hJ K
      by_cases hc18 : z0 = 18
      · refine j_table hx hb (tgt := 566) 18 hc18 dL_law_32 ?_
        exact law_band C hL (by omega) hl hH hS hJ K
      by_cases hc19 : z0 = 19
      · refine j_table hx hb (tgt := 599) 19 hc19 dL_law_32 ?_
        exact law_wear C hL (by omega) hl hH hS hJ K
      by_cases hc20 : z0 = 20
      · refine j_table hx hb (tgt := 632) 20 hc20 dL_law_32 ?_
        exact law_print C hL (by omega) hl hH hS hJ K
      by_cases hc21 : z0 = 21
      · refine j_table hx hb (tgt := 665) 21 hc21 dL_law_32 ?_
        exact law_rightOf C hL (by omega) hl hH hS hJ K
      by_cases hc22 : z0 = 22
      · refine j_table hx hb (tgt := 688) 22 hc22 dL_law_32 ?_
        exact law_count C hL (by omega) hl hH hS hJ K
      by_cases hc23 : z0 = 23
      · refine j_table hx hb (tgt := 711) 23 hc23 dL_law_32 ?_
        exact law_even C hL (by omega) hl hH hS hJ K
      by_cases hc24 : z0 = 24
      · refine j_table hx hb (tgt := 752) 24 hc24 dL_law_32 ?_
        exact law_stepsTo C hL (by omega) hl hH hS hJ K
      by_cases hc25 : z0 = 25
      · refine j_table hx hb (tgt := 775) 25 hc25 dL_law_32 ?_
        exact law_leastPress C hL (by omega) hl hH hS hJ K
      by_cases hc26 : z0 = 26
      · refine j_table hx hb (tgt := 788) 26 hc26 dL_law_32 ?_
        exact law_lasts C hL (by omega) hl hH hS hJ K
      by_cases hc27 : z0 = 27
      · refine j_table hx hb (tgt := 821) 27 hc27 dL_law_32 ?_
        exact law_bestExchange C hL (by omega) hl hH hS hJ K
      refine j_tableO (tgt := 854) hx hb dL_law_32 (by omega) ?_ (by decide) (by omega)
      refine W.widen (k := 201 + 62 * (k + 1)) (n := 27000 + 248 * (k + 1)) (by omega) (by omega) ?_
      exact K H locs ν n0 ls hH hS hl hJ.mono
