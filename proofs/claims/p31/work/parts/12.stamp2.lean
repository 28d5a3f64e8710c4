abbrev rm_c_X5_slipLooseBands : Room := { frames := 2, cells := 0, slots := 0, locals := 42 }
set_option maxHeartbeats 4000000 in
set_option maxRecDepth 100000 in
theorem c_X5_slipLooseBands (l : Launch) (G : wG) (μ : hM) (n : Nat) (st : Nat) (π : Nat → Nat) (σ : Nat → Int) (fp sp : Int) (hI : IsSt G μ st π σ fp sp) (hOk : OkS σ) : Met l yX5_slipLooseBands wsX5_slipLooseBands rm_c_X5_slipLooseBands (mPc G μ n [.ref st]) (mQv G (fun μ1 n1 => IsSt G μ1 st π (slipF σ 6) fp sp ∧ (∀ q, (q < st ∨ st + 15 ≤ q) → μ1 q = μ q))) 0 0 (gA G) := by
  refine Met.ofW (cc := cX5_slipLooseBands) (maxL := 5) (ret := none) (by decide) rfl ?_
  intro p e s m args below meth c s₁ B hml hv
  obtain ⟨hav, hK, hH⟩ := hv
  have hx := B.exec
  have hb := B.bytes
  have hr := B.returns
  have hts := atoms_spec (ws := wsX5_slipLooseBands) B.pre
  have hown : s.vm.findClass RX5 = some m.cls := findClass_of_methodNamed B.named
  have hlocks := B.notSynchronized
  have hS : va_S (gA G) s.heap s.heap [] := va_S.rf
  have hl := lv_entry ([.ref st]) (n := 5) (Nat.le_of_ble_eq_true rfl)
  have hfr : entryFrame m args 5 = entryFrame m ([.ref st] : List Value).toArray 5 := by rw [hav]
  rw [hfr, lg_entry_eq]
  generalize (lg_sl ([.ref st]) ++ List.replicate (5 - (lg_sl ([.ref st])).length) Slot.unset).toArray = ls at hl ⊢
  have hl : lv_has ls 5 [(0, .ref st)] := hl
  generalize hQ : MQ below _ args s 0 0 (gA G) = Q
  show W p l e rm_c_X5_slipLooseBands s m args below meth c s.heap [] 0 0 Q (F0 m 0 ls [])
  obtain ⟨H, hHe⟩ : ∃ H, H = s.heap := ⟨_, rfl⟩
  obtain ⟨locs, hlo⟩ : ∃ q : List Loc, q = [] := ⟨_, rfl⟩
  have hH : gP G μ n H := by rw [hHe]; exact hH
  have hS : va_S (gA G) s.heap H locs := by rw [hHe, hlo]; exact hS
  suffices hgo : W p l e rm_c_X5_slipLooseBands s m args below meth c H locs 0 0 Q (F0 m 0 ls []) by rw [hHe, hlo] at hgo; exact hgo
  clear hHe hlo hfr hav
  have f_0 := hts (.fieldLink RX5 11 "StampDater$Stamp" "bands" "[LStampDater$Band;") (List.mem_of_getElem? (i := 1) rfl)
  have i_X5 : ∀ w ∈ u_ws RX5 TX5 7, w ∈ wsX5_slipLooseBands := by decide +kernel
  have f_2 := hts (.fieldLink RX5 103 "StampDater$Band" "slack" "I") (List.mem_of_getElem? (i := 2) rfl)
  have i_X0 : ∀ w ∈ u_ws RX0 TX0 4, w ∈ wsX5_slipLooseBands := by decide +kernel
  have f_4 := hts (.fieldLink RX5 20 "StampDater$Stamp" "settings" "[I") (List.mem_of_getElem? (i := 3) rfl)
  have f_5 := hts (.fieldLink RX5 41 "StampDater$Stamp" "slips" "I") (List.mem_of_getElem? (i := 4) rfl)
  have hfr : ∀ q, (q < st ∨ st + 15 ≤ q) → μ q = μ q := fun q hq => rfl
  refine lv_aload_n hx hb dX5_slipLooseBands_0 rfl (lv_at hl 0 rfl) ?_
  refine m_get (C := RX5) (T := TX5) (N := 7) (ci := 4) hx hb hts i_X5 hown hK hH hI.1 rfl 0 (by decide) f_0 rfl dX5_slipLooseBands_1 ?_
  refine lv_astore_n (lv' := [(1, .ref (st + 1)), (0, .ref st)]) hx hb dX5_slipLooseBands_4 rfl hl (by decide) rfl (fun ls hl => ?_)
  refine lv_aload_n hx hb dX5_slipLooseBands_5 rfl (lv_at hl 0 rfl) ?_
  refine m_alen hx hb hK hH 2 hI.2.1 rfl dX5_slipLooseBands_6 ?_
  refine j_norm (y := 6) (by rfl) ?_
  refine lv_istore_n (lv' := [(2, .int (iv 6)), (1, .ref (st + 1)), (0, .ref st)]) hx hb dX5_slipLooseBands_7 rfl hl (by decide) rfl (fun ls hl => ?_)
  refine j_const hx hb dX5_slipLooseBands_8 ?_
  refine lv_istore_n (lv' := [(3, .int (iv 0)), (2, .int (iv 6)), (1, .ref (st + 1)), (0, .ref st)]) hx hb dX5_slipLooseBands_9 rfl hl (by decide) rfl (fun ls hl => ?_)
  have lp10 : ∀ (fuel : Nat) (i : Int) (ν : hM) (ν0 : Nat) (hi : 0 ≤ i ∧ i ≤ 6) (hI : IsSt G ν st π (slipF σ i.toNat) fp sp) (hfr : ∀ q, (q < st ∨ st + 15 ≤ q) → ν q = μ q) (_ : (6 - i).toNat < fuel) (H : Heap) (locs : List Loc) (ls : Array Slot) (_ : gP G ν ν0 H) (_ : va_S (gA G) s.heap H locs) (_ : lv_has ls 5 [(0, .ref st), (1, .ref (st + 1)), (2, .int (iv 6)), (3, .int (iv i))]), W p l e rm_c_X5_slipLooseBands s m args below meth c H locs 0 0 Q (F0 m 10 ls []) := by
    intro fuel
    induction fuel with
    | zero => intro _ _ _ _ _ _ hfuel; exact absurd hfuel (Nat.not_lt_zero _)
    | succ fuel ih =>
      intro i ν ν0 hi hI hfr hfuel H locs ls hH hS hl
      have ih1 := ih; clear ih
      refine lv_iload_n hx hb dX5_slipLooseBands_10 rfl (lv_at hl 3 rfl) ?_
      refine lv_iload_n hx hb dX5_slipLooseBands_11 rfl (lv_at hl 2 rfl) ?_
      refine j_icmp_ge (tgt := 55) hx hb dX5_slipLooseBands_12 (by decide) (fun c2 => ?_) (fun c2 => ?_) (by omega) (by omega)
      · skip
        subst hQ
        refine m_vret hx hb hr hlocks hH hS dX5_slipLooseBands_55 ?_
        rw [show (i).toNat = 6 by omega] at hI
        exact ⟨hI, hfr⟩
      · skip
        refine lv_aload_n hx hb dX5_slipLooseBands_15 rfl (lv_at hl 1 rfl) ?_
        refine lv_iload_n hx hb dX5_slipLooseBands_16 rfl (lv_at hl 3 rfl) ?_
        refine m_aald (b := (st + 2 + 2 * π (i).toNat)) hx hb hK hH 2 hI.2.1 rfl rfl dX5_slipLooseBands_17 ?_ (by omega) (by omega)
        refine lv_astore (lv' := [(4, .ref (st + 2 + 2 * π (i).toNat)), (0, .ref st), (1, .ref (st + 1)), (2, .int (iv 6)), (3, .int (iv i))]) hx hb dX5_slipLooseBands_18 hl (by decide) rfl (fun ls hl => ?_)
        refine lv_aload hx hb dX5_slipLooseBands_20 (lv_at hl 0 rfl) ?_
        have hok1 := okS_slip hOk (i).toNat (by omega)
        have hbp := hok1.2.2.2.2 (i).toNat (by omega)
        have hs2 := hok1.2.2.1
        refine m_get (C := RX0) (T := TX0) (N := 4) (ci := 0) hx hb hts i_X0 hown hK hH (hI.2.2.2.1 (i).toNat (by omega)) rfl 2 (by decide) f_2 rfl dX5_slipLooseBands_22 ?_
        refine lv_aload_n hx hb dX5_slipLooseBands_25 rfl (lv_at hl 1 rfl) ?_
        refine m_get (C := RX5) (T := TX5) (N := 7) (ci := 4) hx hb hts i_X5 hown hK hH hI.1 rfl 1 (by decide) f_4 rfl dX5_slipLooseBands_26 ?_
        refine j_const hx hb dX5_slipLooseBands_29 ?_
        refine m_iald (nA := 3) (f := (row3 (slipF σ (i).toNat))) hx hb hK hH hI.2.2.1 dX5_slipLooseBands_30 ?_ (by omega) (by omega)
        have hr2 : row3 (slipF σ (i).toNat) ((2 : Int)).toNat = (slipF σ (i).toNat) 2 := rfl
        rw [hr2]
        refine j_icmp_lt (tgt := 49) hx hb dX5_slipLooseBands_31 (by decide) (fun c3 => ?_) (fun c3 => ?_) (by omega) (by omega)
        · skip
          refine j_iinc (lv' := [(3, .int (iv (i + 1))), (4, .ref (st + 2 + 2 * π (i).toNat)), (0, .ref st), (1, .ref (st + 1)), (2, .int (iv 6))]) hx hb dX5_slipLooseBands_49 hl (k := 4) rfl (by decide) rfl (fun ls hl => ?_)
          refine lv_goto (tgt := 10) hx hb dX5_slipLooseBands_52 (by decide) ?_
          exact ih1 (i + 1) ν ν0 (by omega) (by rw [tN1 hi.1, ← slip_n (by omega)]; exact hI) hfr (by omega) H locs ls hH hS (lv_sub hl [2, 3, 4, 0] rfl)
        · skip
          refine lv_aload hx hb dX5_slipLooseBands_34 (lv_at hl 0 rfl) ?_
          refine m_callVv (As := []) (rest := []) ⟨hx, hb, hml, hown, hts⟩ hK hH hS (c_X0_slip l G ν ν0 (st + 2 + 2 * π (i).toNat) (st + 3 + 2 * π (i).toNat) ((slipF σ (i).toNat) (85 + 13 * (i).toNat)) ((slipF σ (i).toNat) (86 + 13 * (i).toNat)) ((slipF σ (i).toNat) (87 + 13 * (i).toNat)) (roww (slipF σ (i).toNat) (i).toNat) (hI.2.2.2.1 (i).toNat (by omega)) (hI.2.2.2.2.1 (i).toNat (by omega)) hbp.2.1) (cwV 0 hts gX5_slipLooseBands_X0_slip rfl rfl rfl (by decide +kernel) ⟨(Nat.le_of_ble_eq_true rfl), (Nat.le_of_ble_eq_true rfl)⟩) (hI.2.2.2.1 (i).toNat (by omega)) rfl rfl rfl rfl hl.1 (Nat.le_of_ble_eq_true rfl) dX5_slipLooseBands_36 ⟨Nat.zero_le _, Nat.zero_le _⟩ (fun μ4 n5 H locs hp6 hH hS => ?_)
          obtain ⟨hm2, hn2⟩ := hp6; rw [hm2, hn2] at hH; clear hm2 hn2
          have hpp := hI.2.2.2.2.2.1 (i).toNat (by omega)
          have hI : IsSt G (hu ν (st + 2 + 2 * π (i).toNat) (.inr (0, [.int (iv ((slipF σ (i).toNat) (85 + 13 * (i).toNat))), .int (iv (((slipF σ (i).toNat) (86 + 13 * (i).toNat) + 1) % 10)), .int (iv 0), .ref (st + 3 + 2 * π (i).toNat)]))) st π (bset (slipF σ (i).toNat) (i).toNat ((slipF σ (i).toNat) (85 + 13 * (i).toNat)) (((slipF σ (i).toNat) (86 + 13 * (i).toNat) + 1) % 10) 0) fp sp := hI.bs (by omega) ((slipF σ (i).toNat) (85 + 13 * (i).toNat)) (((slipF σ (i).toNat) (86 + 13 * (i).toNat) + 1) % 10) 0
          have hfr : ∀ q, (q < st ∨ st + 15 ≤ q) → (hu ν (st + 2 + 2 * π (i).toNat) (.inr (0, [.int (iv ((slipF σ (i).toNat) (85 + 13 * (i).toNat))), .int (iv (((slipF σ (i).toNat) (86 + 13 * (i).toNat) + 1) % 10)), .int (iv 0), .ref (st + 3 + 2 * π (i).toNat)]))) q = μ q := fun q hq => (hu_n (by omega)).trans (hfr q hq)
          refine lv_aload_n hx hb dX5_slipLooseBands_39 rfl (lv_at hl 1 rfl) ?_
          refine lv_dup hx hb dX5_slipLooseBands_40 rfl ?_
          refine m_get (C := RX5) (T := TX5) (N := 7) (ci := 4) hx hb hts i_X5 hown hK hH hI.1 rfl 4 (by decide) f_5 rfl dX5_slipLooseBands_41 ?_
          refine j_const hx hb dX5_slipLooseBands_44 ?_
          refine j_iadd hx hb dX5_slipLooseBands_45 ?_
          refine m_put (C := RX5) (T := TX5) (N := 7) (ci := 4) hx hb hts i_X5 tyX5 tyX5_ok nmX5 hown hK hH hS hI.1 rfl 4 (by decide) f_5 rfl rfl rfl (Nat.le_of_ble_eq_true rfl) dX5_slipLooseBands_46 (fun H locs hH hS => ?_)
          have hI : IsSt G (hu (hu ν (st + 2 + 2 * π (i).toNat) (.inr (0, [.int (iv ((slipF σ (i).toNat) (85 + 13 * (i).toNat))), .int (iv (((slipF σ (i).toNat) (86 + 13 * (i).toNat) + 1) % 10)), .int (iv 0), .ref (st + 3 + 2 * π (i).toNat)]))) st (.inr (4, [.ref (st + 1), .ref (st + 14), .int (iv ((bset (slipF σ (i).toNat) (i).toNat ((slipF σ (i).toNat) (85 + 13 * (i).toNat)) (((slipF σ (i).toNat) (86 + 13 * (i).toNat) + 1) % 10) 0) 4)), .int (iv ((bset (slipF σ (i).toNat) (i).toNat ((slipF σ (i).toNat) (85 + 13 * (i).toNat)) (((slipF σ (i).toNat) (86 + 13 * (i).toNat) + 1) % 10) 0) 9)), .int (iv (((bset (slipF σ (i).toNat) (i).toNat ((slipF σ (i).toNat) (85 + 13 * (i).toNat)) (((slipF σ (i).toNat) (86 + 13 * (i).toNat) + 1) % 10) 0) 10) + 1)), .int (iv fp), .int (iv sp)]))) st π (fu (bset (slipF σ (i).toNat) (i).toNat ((slipF σ (i).toNat) (85 + 13 * (i).toNat)) (((slipF σ (i).toNat) (86 + 13 * (i).toNat) + 1) % 10) 0) 10 (((bset (slipF σ (i).toNat) (i).toNat ((slipF σ (i).toNat) (85 + 13 * (i).toNat)) (((slipF σ (i).toNat) (86 + 13 * (i).toNat) + 1) % 10) 0) 10) + 1)) fp sp := hI.st (fu (bset (slipF σ (i).toNat) (i).toNat ((slipF σ (i).toNat) (85 + 13 * (i).toNat)) (((slipF σ (i).toNat) (86 + 13 * (i).toNat) + 1) % 10) 0) 10 (((bset (slipF σ (i).toNat) (i).toNat ((slipF σ (i).toNat) (85 + 13 * (i).toNat)) (((slipF σ (i).toNat) (86 + 13 * (i).toNat) + 1) % 10) 0) 10) + 1)) fp sp (fun j h1 h2 h3 => fu_n h3)
          have hfr : ∀ q, (q < st ∨ st + 15 ≤ q) → (hu (hu ν (st + 2 + 2 * π (i).toNat) (.inr (0, [.int (iv ((slipF σ (i).toNat) (85 + 13 * (i).toNat))), .int (iv (((slipF σ (i).toNat) (86 + 13 * (i).toNat) + 1) % 10)), .int (iv 0), .ref (st + 3 + 2 * π (i).toNat)]))) st (.inr (4, [.ref (st + 1), .ref (st + 14), .int (iv ((bset (slipF σ (i).toNat) (i).toNat ((slipF σ (i).toNat) (85 + 13 * (i).toNat)) (((slipF σ (i).toNat) (86 + 13 * (i).toNat) + 1) % 10) 0) 4)), .int (iv ((bset (slipF σ (i).toNat) (i).toNat ((slipF σ (i).toNat) (85 + 13 * (i).toNat)) (((slipF σ (i).toNat) (86 + 13 * (i).toNat) + 1) % 10) 0) 9)), .int (iv (((bset (slipF σ (i).toNat) (i).toNat ((slipF σ (i).toNat) (85 + 13 * (i).toNat)) (((slipF σ (i).toNat) (86 + 13 * (i).toNat) + 1) % 10) 0) 10) + 1)), .int (iv fp), .int (iv sp)]))) q = μ q := fun q hq => (hu_n (by omega)).trans (hfr q hq)
          have hH : gP G (hu (hu ν (st + 2 + 2 * π (i).toNat) (.inr (0, [.int (iv ((slipF σ (i).toNat) (85 + 13 * (i).toNat))), .int (iv (((slipF σ (i).toNat) (86 + 13 * (i).toNat) + 1) % 10)), .int (iv 0), .ref (st + 3 + 2 * π (i).toNat)]))) st (.inr (4, [.ref (st + 1), .ref (st + 14), .int (iv ((bset (slipF σ (i).toNat) (i).toNat ((slipF σ (i).toNat) (85 + 13 * (i).toNat)) (((slipF σ (i).toNat) (86 + 13 * (i).toNat) + 1) % 10) 0) 4)), .int (iv ((bset (slipF σ (i).toNat) (i).toNat ((slipF σ (i).toNat) (85 + 13 * (i).toNat)) (((slipF σ (i).toNat) (86 + 13 * (i).toNat) + 1) % 10) 0) 9)), .int (iv (((bset (slipF σ (i).toNat) (i).toNat ((slipF σ (i).toNat) (85 + 13 * (i).toNat)) (((slipF σ (i).toNat) (86 + 13 * (i).toNat) + 1) % 10) 0) 10) + 1)), .int (iv fp), .int (iv sp)]))) ν0 H := hH
          refine j_iinc (lv' := [(3, .int (iv (i + 1))), (4, .ref (st + 2 + 2 * π (i).toNat)), (0, .ref st), (1, .ref (st + 1)), (2, .int (iv 6))]) hx hb dX5_slipLooseBands_49 hl (k := 4) rfl (by decide) rfl (fun ls hl => ?_)
          refine lv_goto (tgt := 10) hx hb dX5_slipLooseBands_52 (by decide) ?_
          exact ih1 (i + 1) (hu (hu ν (st + 2 + 2 * π (i).toNat) (.inr (0, [.int (iv ((slipF σ (i).toNat) (85 + 13 * (i).toNat))), .int (iv (((slipF σ (i).toNat) (86 + 13 * (i).toNat) + 1) % 10)), .int (iv 0), .ref (st + 3 + 2 * π (i).toNat)]))) st (.inr (4, [.ref (st + 1), .ref (st + 14), .int (iv ((bset (slipF σ (i).toNat) (i).toNat ((slipF σ (i).toNat) (85 + 13 * (i).toNat)) (((slipF σ (i).toNat) (86 + 13 * (i).toNat) + 1) % 10) 0) 4)), .int (iv ((bset (slipF σ (i).toNat) (i).toNat ((slipF σ (i).toNat) (85 + 13 * (i).toNat)) (((slipF σ (i).toNat) (86 + 13 * (i).toNat) + 1) % 10) 0) 9)), .int (iv (((bset (slipF σ (i).toNat) (i).toNat ((slipF σ (i).toNat) (85 + 13 * (i).toNat)) (((slipF σ (i).toNat) (86 + 13 * (i).toNat) + 1) % 10) 0) 10) + 1)), .int (iv fp), .int (iv sp)]))) ν0 (by omega) (by rw [tN1 hi.1, ← slip_y (by omega) (by omega)]; exact hI) hfr (by omega) H locs ls hH hS (lv_sub hl [2, 3, 4, 0] rfl)
  exact lp10 (7) 0 μ n (by omega) hI hfr (by omega) H locs ls hH hS (lv_sub hl [3, 2, 1, 0] rfl)

abbrev rm_c_X5_allClear : Room := { frames := 2, cells := 0, slots := 0, locals := 43 }
set_option maxHeartbeats 4000000 in
set_option maxRecDepth 100000 in
theorem c_X5_allClear (l : Launch) (G : wG) (μ : hM) (n : Nat) (st : Nat) (π : Nat → Nat) (σ : Nat → Int) (fp sp : Int) (k : Int) (hI : IsSt G μ st π σ fp sp) (hOk : OkS σ) (hk : 1 ≤ k ∧ k ≤ 9) : Met l yX5_allClear wsX5_allClear rm_c_X5_allClear (mPc G μ n [.ref st, .int (iv k)]) (mQi G (fun z μ1 n1 => z = (if fbN σ k 6 = 0 ∧ sbN σ k 6 = 0 then 1 else 0) ∧ μ1 = μ ∧ n1 = n)) 0 0 (gA G) := by
  refine Met.ofW (cc := cX5_allClear) (maxL := 7) (ret := (some .boolean)) (by decide) rfl ?_
  intro p e s m args below meth c s₁ B hml hv
  obtain ⟨hav, hK, hH⟩ := hv
  have hx := B.exec
  have hb := B.bytes
  have hr := B.returns
  have hts := atoms_spec (ws := wsX5_allClear) B.pre
  have hown : s.vm.findClass RX5 = some m.cls := findClass_of_methodNamed B.named
  have hlocks := B.notSynchronized
  have hS : va_S (gA G) s.heap s.heap [] := va_S.rf
  have hl := lv_entry ([.ref st, .int (iv k)]) (n := 7) (Nat.le_of_ble_eq_true rfl)
  have hfr : entryFrame m args 7 = entryFrame m ([.ref st, .int (iv k)] : List Value).toArray 7 := by rw [hav]
  rw [hfr, lg_entry_eq]
  generalize (lg_sl ([.ref st, .int (iv k)]) ++ List.replicate (7 - (lg_sl ([.ref st, .int (iv k)])).length) Slot.unset).toArray = ls at hl ⊢
  have hl : lv_has ls 7 [(0, .ref st), (1, .int (iv k))] := hl
  generalize hQ : MQ below _ args s 0 0 (gA G) = Q
  show W p l e rm_c_X5_allClear s m args below meth c s.heap [] 0 0 Q (F0 m 0 ls [])
  obtain ⟨H, hHe⟩ : ∃ H, H = s.heap := ⟨_, rfl⟩
  obtain ⟨locs, hlo⟩ : ∃ q : List Loc, q = [] := ⟨_, rfl⟩
  have hH : gP G μ n H := by rw [hHe]; exact hH
  have hS : va_S (gA G) s.heap H locs := by rw [hHe, hlo]; exact hS
  suffices hgo : W p l e rm_c_X5_allClear s m args below meth c H locs 0 0 Q (F0 m 0 ls []) by rw [hHe, hlo] at hgo; exact hgo
  clear hHe hlo hfr hav
  have f_0 := hts (.fieldLink RX5 11 "StampDater$Stamp" "bands" "[LStampDater$Band;") (List.mem_of_getElem? (i := 1) rfl)
  have i_X5 : ∀ w ∈ u_ws RX5 TX5 7, w ∈ wsX5_allClear := by decide +kernel
  have hfr : ∀ q, (q < st ∨ st + 15 ≤ q) → μ q = μ q := fun q hq => rfl
  refine lv_aload_n hx hb dX5_allClear_0 rfl (lv_at hl 0 rfl) ?_
  refine m_get (C := RX5) (T := TX5) (N := 7) (ci := 4) hx hb hts i_X5 hown hK hH hI.1 rfl 0 (by decide) f_0 rfl dX5_allClear_1 ?_
  refine lv_astore_n (lv' := [(2, .ref (st + 1)), (0, .ref st), (1, .int (iv k))]) hx hb dX5_allClear_4 rfl hl (by decide) rfl (fun ls hl => ?_)
  refine lv_aload_n hx hb dX5_allClear_5 rfl (lv_at hl 0 rfl) ?_
  refine m_alen hx hb hK hH 2 hI.2.1 rfl dX5_allClear_6 ?_
  refine j_norm (y := 6) (by rfl) ?_
  refine lv_istore_n (lv' := [(3, .int (iv 6)), (2, .ref (st + 1)), (0, .ref st), (1, .int (iv k))]) hx hb dX5_allClear_7 rfl hl (by decide) rfl (fun ls hl => ?_)
  refine j_const hx hb dX5_allClear_8 ?_
  refine lv_istore (lv' := [(4, .int (iv 0)), (3, .int (iv 6)), (2, .ref (st + 1)), (0, .ref st), (1, .int (iv k))]) hx hb dX5_allClear_9 hl (by decide) rfl (fun ls hl => ?_)
  have lp11 : ∀ (fuel : Nat) (i : Int) (hi : 0 ≤ i ∧ i ≤ 6) (hf0 : fbN σ k i.toNat = 0) (hs0 : sbN σ k i.toNat = 0) (_ : (6 - i).toNat < fuel) (H : Heap) (locs : List Loc) (ls : Array Slot) (_ : gP G μ n H) (_ : va_S (gA G) s.heap H locs) (_ : lv_has ls 7 [(0, .ref st), (1, .int (iv k)), (2, .ref (st + 1)), (3, .int (iv 6)), (4, .int (iv i))]), W p l e rm_c_X5_allClear s m args below meth c H locs 0 0 Q (F0 m 11 ls []) := by
    intro fuel
    induction fuel with
    | zero => intro _ _ _ _ hfuel; exact absurd hfuel (Nat.not_lt_zero _)
    | succ fuel ih =>
      intro i hi hf0 hs0 hfuel H locs ls hH hS hl
      have ih1 := ih; clear ih
      refine lv_iload hx hb dX5_allClear_11 (lv_at hl 4 rfl) ?_
      refine lv_iload_n hx hb dX5_allClear_13 rfl (lv_at hl 3 rfl) ?_
      refine j_icmp_ge (tgt := 58) hx hb dX5_allClear_14 (by decide) (fun c2 => ?_) (fun c2 => ?_) (by omega) (by omega)
      · skip
        refine j_const hx hb dX5_allClear_58 ?_
        subst hQ
        refine m_zret hx hb hr hlocks hH hS dX5_allClear_59 ?_ (by omega)
        refine ⟨?_, rfl, rfl⟩
        rw [show (i).toNat = 6 by omega] at hf0 hs0
        rw [if_pos ⟨hf0, hs0⟩]
      · skip
        refine lv_aload_n hx hb dX5_allClear_17 rfl (lv_at hl 2 rfl) ?_
        refine lv_iload hx hb dX5_allClear_18 (lv_at hl 4 rfl) ?_
        refine m_aald (b := (st + 2 + 2 * π (i).toNat)) hx hb hK hH 2 hI.2.1 rfl rfl dX5_allClear_20 ?_ (by omega) (by omega)
        refine lv_astore (lv' := [(5, .ref (st + 2 + 2 * π (i).toNat)), (0, .ref st), (1, .int (iv k)), (2, .ref (st + 1)), (3, .int (iv 6)), (4, .int (iv i))]) hx hb dX5_allClear_21 hl (by decide) rfl (fun ls hl => ?_)
        refine lv_aload_n hx hb dX5_allClear_23 rfl (lv_at hl 1 rfl) ?_
        refine lv_aload hx hb dX5_allClear_24 (lv_at hl 0 rfl) ?_
        refine lv_iload_n hx hb dX5_allClear_26 rfl (lv_at hl 2 rfl) ?_
        refine m_callVi (As := [.ref (st + 2 + 2 * π (i).toNat), .int (iv k)]) (rest := []) ⟨hx, hb, hml, hown, hts⟩ hK hH hS (c_X5_darkness l G μ n st π σ fp sp (i).toNat k hI hOk (by omega) (by omega)) (cwV 2 hts gX5_allClear_X5_darkness rfl rfl rfl (by decide +kernel) ⟨(Nat.le_of_ble_eq_true rfl), (Nat.le_of_ble_eq_true rfl)⟩) hI.1 rfl rfl rfl rfl hl.1 (Nat.le_of_ble_eq_true rfl) dX5_allClear_27 ⟨Nat.zero_le _, Nat.zero_le _⟩ (fun z6 μ3 n4 H locs hz6 hp5 hH hS => ?_)
        obtain ⟨hz2, hm2, hn2⟩ := hp5; rw [hz2]; rw [hm2, hn2] at hH; clear hz2 hm2 hn2
        have hdr := drk_rng hOk (p := (i).toNat) (by omega) (k := k) (by omega)
        refine lv_istore (lv' := [(6, .int (iv (drk σ (i).toNat k))), (5, .ref (st + 2 + 2 * π (i).toNat)), (0, .ref st), (1, .int (iv k)), (2, .ref (st + 1)), (3, .int (iv 6)), (4, .int (iv i))]) hx hb dX5_allClear_30 hl (by decide) rfl (fun ls hl => ?_)
        refine lv_aload_n hx hb dX5_allClear_32 rfl (lv_at hl 2 rfl) ?_
        refine lv_iload hx hb dX5_allClear_33 (lv_at hl 0 rfl) ?_
        refine m_callVi (As := [.int (iv (drk σ (i).toNat k))]) (rest := []) ⟨hx, hb, hml, hown, hts⟩ hK hH hS (c_X5_isFaint l G μ n st π σ fp sp (drk σ (i).toNat k) hI hOk (by omega)) (cwV 1 hts gX5_allClear_X5_isFaint rfl rfl rfl (by decide +kernel) ⟨(Nat.le_of_ble_eq_true rfl), (Nat.le_of_ble_eq_true rfl)⟩) hI.1 rfl rfl rfl rfl hl.1 (Nat.le_of_ble_eq_true rfl) dX5_allClear_35 ⟨Nat.zero_le _, Nat.zero_le _⟩ (fun z10 μ7 n8 H locs hz10 hp9 hH hS => ?_)
        obtain ⟨hz2, hm2, hn2⟩ := hp9; rw [hz2]; rw [hm2, hn2] at hH; clear hz2 hm2 hn2
        refine j_top (fun fv hfv => ?_)
        have hfr1 : 0 ≤ fv ∧ fv ≤ 1 := by rw [hfv]; split <;> omega
        refine j_if_ne (tgt := 50) hx hb dX5_allClear_38 (by decide) (fun c11 => ?_) (fun c11 => ?_) (by omega)
        · skip
          refine j_const hx hb dX5_allClear_50 ?_
          subst hQ
          refine m_zret hx hb hr hlocks hH hS dX5_allClear_51 ?_ (by omega)
          refine ⟨?_, rfl, rfl⟩
          rw [if_neg]
          intro hn
          have hm1 := fbN_mono (σ := σ) (k := k) (p := (i).toNat + 1) (q := 6) (by omega)
          have hm2 := sbN_mono (σ := σ) (k := k) (p := (i).toNat + 1) (q := 6) (by omega)
          have hpw := two_pow_pos6 (i).toNat
          have h9 := fbN_y (σ := σ) (k := k) (p := (i).toNat) (by split at hfv <;> omega)
          omega
        · skip
          refine lv_aload_n hx hb dX5_allClear_41 rfl (lv_at hl 2 rfl) ?_
          refine lv_iload hx hb dX5_allClear_42 (lv_at hl 0 rfl) ?_
          refine m_callVi (As := [.int (iv (drk σ (i).toNat k))]) (rest := []) ⟨hx, hb, hml, hown, hts⟩ hK hH hS (c_X5_isSmudged l G μ n st π σ fp sp (drk σ (i).toNat k) hI hOk (by omega)) (cwV 1 hts gX5_allClear_X5_isSmudged rfl rfl rfl (by decide +kernel) ⟨(Nat.le_of_ble_eq_true rfl), (Nat.le_of_ble_eq_true rfl)⟩) hI.1 rfl rfl rfl rfl hl.1 (Nat.le_of_ble_eq_true rfl) dX5_allClear_44 ⟨Nat.zero_le _, Nat.zero_le _⟩ (fun z15 μ12 n13 H locs hz15 hp14 hH hS => ?_)
          obtain ⟨hz2, hm2, hn2⟩ := hp14; rw [hz2]; rw [hm2, hn2] at hH; clear hz2 hm2 hn2
          refine j_top (fun sv hsv => ?_)
          have hsr1 : 0 ≤ sv ∧ sv ≤ 1 := by rw [hsv]; split <;> omega
          refine j_if_eq (tgt := 52) hx hb dX5_allClear_47 (by decide) (fun c16 => ?_) (fun c16 => ?_) (by omega)
          · skip
            refine j_iinc (lv' := [(4, .int (iv (i + 1))), (6, .int (iv (drk σ (i).toNat k))), (5, .ref (st + 2 + 2 * π (i).toNat)), (0, .ref st), (1, .int (iv k)), (2, .ref (st + 1)), (3, .int (iv 6))]) hx hb dX5_allClear_52 hl (k := 6) rfl (by decide) rfl (fun ls hl => ?_)
            refine lv_goto (tgt := 11) hx hb dX5_allClear_55 (by decide) ?_
            exact ih1 (i + 1) (by omega) (by rw [tN1 hi.1, fbN_n (by split at hfv <;> omega)]; exact hf0) (by rw [tN1 hi.1, sbN_n (by split at hsv <;> omega)]; exact hs0) (by omega) H locs ls hH hS (lv_sub hl [3, 4, 5, 6, 0] rfl)
          · skip
            refine j_const hx hb dX5_allClear_50 ?_
            subst hQ
            refine m_zret hx hb hr hlocks hH hS dX5_allClear_51 ?_ (by omega)
            refine ⟨?_, rfl, rfl⟩
            rw [if_neg]
            intro hn
            have hm1 := fbN_mono (σ := σ) (k := k) (p := (i).toNat + 1) (q := 6) (by omega)
            have hm2 := sbN_mono (σ := σ) (k := k) (p := (i).toNat + 1) (q := 6) (by omega)
            have hpw := two_pow_pos6 (i).toNat
            have h9 := sbN_y (σ := σ) (k := k) (p := (i).toNat) (by split at hsv <;> omega)
            omega
  exact lp11 (7) 0 (by omega) rfl rfl (by omega) H locs ls hH hS (lv_sub hl [3, 4, 2, 1, 0] rfl)

abbrev rm_c_X5_printOnce : Room := { frames := 3, cells := 0, slots := 0, locals := 66 }
set_option maxHeartbeats 4000000 in
set_option maxRecDepth 100000 in
theorem c_X5_printOnce (l : Launch) (G : wG) (μ : hM) (n : Nat) (st : Nat) (π : Nat → Nat) (σ : Nat → Int) (fp sp : Int) (D k : Int) (hI : IsSt G μ st π σ fp sp) (hOk : OkS σ) (hD : 0 ≤ D ∧ D ≤ 999999) (hk : 1 ≤ k ∧ k ≤ 9) : Met l yX5_printOnce wsX5_printOnce rm_c_X5_printOnce (mPc G μ n [.ref st, .int (iv D), .int (iv k)]) (mQi G (fun z μ1 n1 => z = rtF σ D k ∧ IsSt G μ1 st π (onceF σ k) ((fbN σ k 6 : Nat) : Int) ((sbN σ k 6 : Nat) : Int) ∧ (∀ q, (q < st ∨ st + 15 ≤ q) → μ1 q = μ q))) 0 0 (gA G) := by
  refine Met.ofW (cc := cX5_printOnce) (maxL := 6) (ret := (some .boolean)) (by decide) rfl ?_
  intro p e s m args below meth c s₁ B hml hv
  obtain ⟨hav, hK, hH⟩ := hv
  have hx := B.exec
  have hb := B.bytes
  have hr := B.returns
  have hts := atoms_spec (ws := wsX5_printOnce) B.pre
  have hown : s.vm.findClass RX5 = some m.cls := findClass_of_methodNamed B.named
  have hlocks := B.notSynchronized
  have hS : va_S (gA G) s.heap s.heap [] := va_S.rf
  have hl := lv_entry ([.ref st, .int (iv D), .int (iv k)]) (n := 6) (Nat.le_of_ble_eq_true rfl)
  have hfr : entryFrame m args 6 = entryFrame m ([.ref st, .int (iv D), .int (iv k)] : List Value).toArray 6 := by rw [hav]
  rw [hfr, lg_entry_eq]
  generalize (lg_sl ([.ref st, .int (iv D), .int (iv k)]) ++ List.replicate (6 - (lg_sl ([.ref st, .int (iv D), .int (iv k)])).length) Slot.unset).toArray = ls at hl ⊢
  have hl : lv_has ls 6 [(0, .ref st), (1, .int (iv D)), (2, .int (iv k))] := hl
  generalize hQ : MQ below _ args s 0 0 (gA G) = Q
  show W p l e rm_c_X5_printOnce s m args below meth c s.heap [] 0 0 Q (F0 m 0 ls [])
  obtain ⟨H, hHe⟩ : ∃ H, H = s.heap := ⟨_, rfl⟩
  obtain ⟨locs, hlo⟩ : ∃ q : List Loc, q = [] := ⟨_, rfl⟩
  have hH : gP G μ n H := by rw [hHe]; exact hH
  have hS : va_S (gA G) s.heap H locs := by rw [hHe, hlo]; exact hS
  suffices hgo : W p l e rm_c_X5_printOnce s m args below meth c H locs 0 0 Q (F0 m 0 ls []) by rw [hHe, hlo] at hgo; exact hgo
  clear hHe hlo hfr hav
  have f_0 := hts (.fieldLink RX5 88 "StampDater$Stamp" "faintPlaces" "I") (List.mem_of_getElem? (i := 1) rfl)
  have i_X5 : ∀ w ∈ u_ws RX5 TX5 7, w ∈ wsX5_printOnce := by decide +kernel
  have f_2 := hts (.fieldLink RX5 91 "StampDater$Stamp" "smudgedPlaces" "I") (List.mem_of_getElem? (i := 2) rfl)
  have f_3 := hts (.fieldLink RX5 24 "StampDater$Stamp" "ink" "I") (List.mem_of_getElem? (i := 4) rfl)
  have f_4 := hts (.methodLink RX5 97 Lib.Math.max.name) (List.mem_of_getElem? (i := 5) rfl)
  have f_5 := hts (.static Lib.Math.max.name) (List.mem_of_getElem? (i := 6) rfl)
  have f_6 := hts (.initialized "java/lang/Math") (List.mem_of_getElem? (i := 7) rfl)
  have f_7 := hts (.code Lib.Math.max.name Lib.Math.max.code 2 (some .int)) (List.mem_of_getElem? (i := 8) rfl)
  have f_8 := hts (.fieldLink RX5 11 "StampDater$Stamp" "bands" "[LStampDater$Band;") (List.mem_of_getElem? (i := 3) rfl)
  have hfr : ∀ q, (q < st ∨ st + 15 ≤ q) → μ q = μ q := fun q hq => rfl
  have hs6 := shw_6 hOk
  refine lv_aload_n hx hb dX5_printOnce_0 rfl (lv_at hl 0 rfl) ?_
  refine m_callVi (As := []) (rest := []) ⟨hx, hb, hml, hown, hts⟩ hK hH hS (c_X5_shownDigits l G μ n st π σ fp sp hI hOk) (cwV 0 hts gX5_printOnce_X5_shownDigits rfl rfl rfl (by decide +kernel) ⟨(Nat.le_of_ble_eq_true rfl), (Nat.le_of_ble_eq_true rfl)⟩) hI.1 rfl rfl rfl rfl hl.1 (Nat.le_of_ble_eq_true rfl) dX5_printOnce_1 ⟨Nat.zero_le _, Nat.zero_le _⟩ (fun z4 μ1 n2 H locs hz4 hp3 hH hS => ?_)
  obtain ⟨hz2, hm2, hn2⟩ := hp3; rw [hz2]; rw [hm2, hn2] at hH; clear hz2 hm2 hn2
  refine lv_iload_n hx hb dX5_printOnce_4 rfl (lv_at hl 1 rfl) ?_
  refine j_icmp_ne (tgt := 12) hx hb dX5_printOnce_5 (by decide) (fun c5 => ?_) (fun c5 => ?_) (by omega) (by omega)
  · skip
    refine j_const hx hb dX5_printOnce_12 ?_
    refine lv_istore_n (lv' := [(3, .int (iv 0)), (0, .ref st), (1, .int (iv D)), (2, .int (iv k))]) hx hb dX5_printOnce_13 rfl hl (by decide) rfl (fun ls hl => ?_)
    refine lv_aload_n hx hb dX5_printOnce_14 rfl (lv_at hl 1 rfl) ?_
    refine j_const hx hb dX5_printOnce_15 ?_
    refine m_put (C := RX5) (T := TX5) (N := 7) (ci := 4) hx hb hts i_X5 tyX5 tyX5_ok nmX5 hown hK hH hS hI.1 rfl 5 (by decide) f_0 rfl rfl rfl (Nat.le_of_ble_eq_true rfl) dX5_printOnce_16 (fun H locs hH hS => ?_)
    have hI : IsSt G (hu μ st (.inr (4, [.ref (st + 1), .ref (st + 14), .int (iv (σ 4)), .int (iv (σ 9)), .int (iv (σ 10)), .int (iv 0), .int (iv sp)]))) st π σ 0 sp := hI.st σ 0 sp (fun j h1 h2 h3 => rfl)
    have hfr : ∀ q, (q < st ∨ st + 15 ≤ q) → (hu μ st (.inr (4, [.ref (st + 1), .ref (st + 14), .int (iv (σ 4)), .int (iv (σ 9)), .int (iv (σ 10)), .int (iv 0), .int (iv sp)]))) q = μ q := fun q hq => (hu_n (by omega)).trans (hfr q hq)
    have hH : gP G (hu μ st (.inr (4, [.ref (st + 1), .ref (st + 14), .int (iv (σ 4)), .int (iv (σ 9)), .int (iv (σ 10)), .int (iv 0), .int (iv sp)]))) n H := hH
    refine lv_aload_n hx hb dX5_printOnce_19 rfl (lv_at hl 1 rfl) ?_
    refine j_const hx hb dX5_printOnce_20 ?_
    refine m_put (C := RX5) (T := TX5) (N := 7) (ci := 4) hx hb hts i_X5 tyX5 tyX5_ok nmX5 hown hK hH hS hI.1 rfl 6 (by decide) f_2 rfl rfl rfl (Nat.le_of_ble_eq_true rfl) dX5_printOnce_21 (fun H locs hH hS => ?_)
    have hI : IsSt G (hu (hu μ st (.inr (4, [.ref (st + 1), .ref (st + 14), .int (iv (σ 4)), .int (iv (σ 9)), .int (iv (σ 10)), .int (iv 0), .int (iv sp)]))) st (.inr (4, [.ref (st + 1), .ref (st + 14), .int (iv (σ 4)), .int (iv (σ 9)), .int (iv (σ 10)), .int (iv 0), .int (iv 0)]))) st π σ 0 0 := hI.st σ 0 0 (fun j h1 h2 h3 => rfl)
    have hfr : ∀ q, (q < st ∨ st + 15 ≤ q) → (hu (hu μ st (.inr (4, [.ref (st + 1), .ref (st + 14), .int (iv (σ 4)), .int (iv (σ 9)), .int (iv (σ 10)), .int (iv 0), .int (iv sp)]))) st (.inr (4, [.ref (st + 1), .ref (st + 14), .int (iv (σ 4)), .int (iv (σ 9)), .int (iv (σ 10)), .int (iv 0), .int (iv 0)]))) q = μ q := fun q hq => (hu_n (by omega)).trans (hfr q hq)
    have hH : gP G (hu (hu μ st (.inr (4, [.ref (st + 1), .ref (st + 14), .int (iv (σ 4)), .int (iv (σ 9)), .int (iv (σ 10)), .int (iv 0), .int (iv sp)]))) st (.inr (4, [.ref (st + 1), .ref (st + 14), .int (iv (σ 4)), .int (iv (σ 9)), .int (iv (σ 10)), .int (iv 0), .int (iv 0)]))) n H := hH
    refine j_const hx hb dX5_printOnce_24 ?_
    refine lv_istore (lv' := [(4, .int (iv 0)), (3, .int (iv 0)), (0, .ref st), (1, .int (iv D)), (2, .int (iv k))]) hx hb dX5_printOnce_25 hl (by decide) rfl (fun ls hl => ?_)
    have lp27 : ∀ (fuel : Nat) (i : Int) (sw : Int) (ν : hM) (ν0 : Nat) (hi : 0 ≤ i ∧ i ≤ 6) (hsw : sw = if shw σ 6 = D then 1 else 0) (hI : IsSt G ν st π (wearF σ k i.toNat) ((fbN σ k i.toNat : Nat) : Int) ((sbN σ k i.toNat : Nat) : Int)) (hfr : ∀ q, (q < st ∨ st + 15 ≤ q) → ν q = μ q) (_ : (6 - i).toNat < fuel) (H : Heap) (locs : List Loc) (ls : Array Slot) (_ : gP G ν ν0 H) (_ : va_S (gA G) s.heap H locs) (_ : lv_has ls 6 [(0, .ref st), (1, .int (iv D)), (2, .int (iv k)), (3, .int (iv sw)), (4, .int (iv i))]), W p l e rm_c_X5_printOnce s m args below meth c H locs 0 0 Q (F0 m 27 ls []) := by
      intro fuel
      induction fuel with
      | zero => intro _ _ _ _ _ _ _ _ hfuel; exact absurd hfuel (Nat.not_lt_zero _)
      | succ fuel ih =>
        intro i sw ν ν0 hi hsw hI hfr hfuel H locs ls hH hS hl
        have ih6 := ih; clear ih
        refine lv_iload hx hb dX5_printOnce_27 (lv_at hl 4 rfl) ?_
        refine j_bipush hx hb dX5_printOnce_29 ?_ (by decide)
        refine j_icmp_ge (tgt := 121) hx hb dX5_printOnce_31 (by decide) (fun c7 => ?_) (fun c7 => ?_) (by omega) (by omega)
        · skip
          rw [show (i).toNat = 6 by omega] at hI
          have hw4 : wearF σ k 6 4 = σ 4 := wear_ot hOk k (by omega) _ (by omega)
          have h4 := hOk.2.2.2.1
          have hf6 := fbN_lt σ k 6
          have hs6b := sbN_lt σ k 6
          rw [show 2 ^ 6 = 64 from rfl] at hf6 hs6b
          refine lv_aload_n hx hb dX5_printOnce_121 rfl (lv_at hl 0 rfl) ?_
          refine j_const hx hb dX5_printOnce_122 ?_
          refine lv_aload_n hx hb dX5_printOnce_123 rfl (lv_at hl 0 rfl) ?_
          refine m_get (C := RX5) (T := TX5) (N := 7) (ci := 4) hx hb hts i_X5 hown hK hH hI.1 rfl 2 (by decide) f_3 rfl dX5_printOnce_124 ?_
          refine lv_iload_n hx hb dX5_printOnce_127 rfl (lv_at hl 2 rfl) ?_
          refine j_isub hx hb dX5_printOnce_128 ?_
          refine m_max hx hb (hml.trans hl.1.symm) hown f_4 f_5 f_6 f_7 (Nat.le_of_ble_eq_true rfl) (Nat.le_of_ble_eq_true rfl) (Nat.le_of_ble_eq_true rfl) (Nat.le_of_ble_eq_true rfl) dX5_printOnce_129 ?_ (by omega) (by omega)
          refine m_put (C := RX5) (T := TX5) (N := 7) (ci := 4) hx hb hts i_X5 tyX5 tyX5_ok nmX5 hown hK hH hS hI.1 rfl 2 (by decide) f_3 rfl rfl rfl (Nat.le_of_ble_eq_true rfl) dX5_printOnce_132 (fun H locs hH hS => ?_)
          have hI : IsSt G (hu ν st (.inr (4, [.ref (st + 1), .ref (st + 14), .int (iv (max 0 (((wearF σ k 6) 4) - k))), .int (iv ((wearF σ k 6) 9)), .int (iv ((wearF σ k 6) 10)), .int (iv ((fbN σ k 6 : Nat) : Int)), .int (iv ((sbN σ k 6 : Nat) : Int))]))) st π (fu (wearF σ k 6) 4 (max 0 (((wearF σ k 6) 4) - k))) ((fbN σ k 6 : Nat) : Int) ((sbN σ k 6 : Nat) : Int) := hI.st (fu (wearF σ k 6) 4 (max 0 (((wearF σ k 6) 4) - k))) ((fbN σ k 6 : Nat) : Int) ((sbN σ k 6 : Nat) : Int) (fun j h1 h2 h3 => fu_n h1)
          have hfr : ∀ q, (q < st ∨ st + 15 ≤ q) → (hu ν st (.inr (4, [.ref (st + 1), .ref (st + 14), .int (iv (max 0 (((wearF σ k 6) 4) - k))), .int (iv ((wearF σ k 6) 9)), .int (iv ((wearF σ k 6) 10)), .int (iv ((fbN σ k 6 : Nat) : Int)), .int (iv ((sbN σ k 6 : Nat) : Int))]))) q = μ q := fun q hq => (hu_n (by omega)).trans (hfr q hq)
          have hH : gP G (hu ν st (.inr (4, [.ref (st + 1), .ref (st + 14), .int (iv (max 0 (((wearF σ k 6) 4) - k))), .int (iv ((wearF σ k 6) 9)), .int (iv ((wearF σ k 6) 10)), .int (iv ((fbN σ k 6 : Nat) : Int)), .int (iv ((sbN σ k 6 : Nat) : Int))]))) ν0 H := hH
          have hI : IsSt G (hu ν st (.inr (4, [.ref (st + 1), .ref (st + 14), .int (iv (max 0 (((wearF σ k 6) 4) - k))), .int (iv ((wearF σ k 6) 9)), .int (iv ((wearF σ k 6) 10)), .int (iv ((fbN σ k 6 : Nat) : Int)), .int (iv ((sbN σ k 6 : Nat) : Int))]))) st π (inkF σ k) ((fbN σ k 6 : Nat) : Int) ((sbN σ k 6 : Nat) : Int) := hI
          refine lv_iload_n hx hb dX5_printOnce_135 rfl (lv_at hl 2 rfl) ?_
          refine j_bipush hx hb dX5_printOnce_136 ?_ (by decide)
          refine j_icmp_lt (tgt := 145) hx hb dX5_printOnce_138 (by decide) (fun c8 => ?_) (fun c8 => ?_) (by omega) (by omega)
          · skip
            have hsw1 : 0 ≤ sw ∧ sw ≤ 1 := by rw [hsw]; split <;> omega
            refine lv_iload_n hx hb dX5_printOnce_145 rfl (lv_at hl 3 rfl) ?_
            refine j_if_eq (tgt := 167) hx hb dX5_printOnce_146 (by decide) (fun c9 => ?_) (fun c9 => ?_) (by omega)
            · skip
              refine j_const hx hb dX5_printOnce_167 ?_
              subst hQ
              refine m_zret hx hb hr hlocks hH hS dX5_printOnce_168 ?_ (by omega)
              refine ⟨?_, ?_, hfr⟩
              · unfold rtF
                split at hsw <;> split <;> omega
              · unfold onceF
                first | (rw [if_pos (by omega)]; exact hI) | (rw [if_neg (by omega)]; exact hI)
            · skip
              refine lv_aload_n hx hb dX5_printOnce_149 rfl (lv_at hl 0 rfl) ?_
              refine m_get (C := RX5) (T := TX5) (N := 7) (ci := 4) hx hb hts i_X5 hown hK hH hI.1 rfl 5 (by decide) f_0 rfl dX5_printOnce_150 ?_
              refine j_if_ne (tgt := 167) hx hb dX5_printOnce_153 (by decide) (fun c10 => ?_) (fun c10 => ?_) (by omega)
              · skip
                refine j_const hx hb dX5_printOnce_167 ?_
                subst hQ
                refine m_zret hx hb hr hlocks hH hS dX5_printOnce_168 ?_ (by omega)
                refine ⟨?_, ?_, hfr⟩
                · unfold rtF
                  split at hsw <;> split <;> omega
                · unfold onceF
                  first | (rw [if_pos (by omega)]; exact hI) | (rw [if_neg (by omega)]; exact hI)
              · skip
                refine lv_aload_n hx hb dX5_printOnce_156 rfl (lv_at hl 0 rfl) ?_
                refine m_get (C := RX5) (T := TX5) (N := 7) (ci := 4) hx hb hts i_X5 hown hK hH hI.1 rfl 6 (by decide) f_2 rfl dX5_printOnce_157 ?_
                refine j_if_ne (tgt := 167) hx hb dX5_printOnce_160 (by decide) (fun c11 => ?_) (fun c11 => ?_) (by omega)
                · skip
                  refine j_const hx hb dX5_printOnce_167 ?_
                  subst hQ
                  refine m_zret hx hb hr hlocks hH hS dX5_printOnce_168 ?_ (by omega)
                  refine ⟨?_, ?_, hfr⟩
                  · unfold rtF
                    split at hsw <;> split <;> omega
                  · unfold onceF
                    first | (rw [if_pos (by omega)]; exact hI) | (rw [if_neg (by omega)]; exact hI)
                · skip
                  refine j_const hx hb dX5_printOnce_163 ?_
                  refine lv_goto (tgt := 168) hx hb dX5_printOnce_164 (by decide) ?_
                  subst hQ
                  refine m_zret hx hb hr hlocks hH hS dX5_printOnce_168 ?_ (by omega)
                  refine ⟨?_, ?_, hfr⟩
                  · unfold rtF
                    split at hsw <;> split <;> omega
                  · unfold onceF
                    first | (rw [if_pos (by omega)]; exact hI) | (rw [if_neg (by omega)]; exact hI)
          · skip
            refine lv_aload_n hx hb dX5_printOnce_141 rfl (lv_at hl 0 rfl) ?_
            refine m_callVv (As := []) (rest := []) ⟨hx, hb, hml, hown, hts⟩ hK hH hS (c_X5_slipLooseBands l G (hu ν st (.inr (4, [.ref (st + 1), .ref (st + 14), .int (iv (max 0 (((wearF σ k 6) 4) - k))), .int (iv ((wearF σ k 6) 9)), .int (iv ((wearF σ k 6) 10)), .int (iv ((fbN σ k 6 : Nat) : Int)), .int (iv ((sbN σ k 6 : Nat) : Int))]))) ν0 st π (inkF σ k) ((fbN σ k 6 : Nat) : Int) ((sbN σ k 6 : Nat) : Int) hI (okS_ink hOk (by omega))) (cwV 0 hts gX5_printOnce_X5_slipLooseBands rfl rfl rfl (by decide +kernel) ⟨(Nat.le_of_ble_eq_true rfl), (Nat.le_of_ble_eq_true rfl)⟩) hI.1 rfl rfl rfl rfl hl.1 (Nat.le_of_ble_eq_true rfl) dX5_printOnce_142 ⟨Nat.zero_le _, Nat.zero_le _⟩ (fun μ12 n13 H locs hp14 hH hS => ?_)
            obtain ⟨hI, hfr1⟩ := hp14
            have hfr : ∀ q, (q < st ∨ st + 15 ≤ q) → μ12 q = μ q := fun q hq => (hfr1 q hq).trans (hfr q hq)
            have hsw1 : 0 ≤ sw ∧ sw ≤ 1 := by rw [hsw]; split <;> omega
            refine lv_iload_n hx hb dX5_printOnce_145 rfl (lv_at hl 3 rfl) ?_
            refine j_if_eq (tgt := 167) hx hb dX5_printOnce_146 (by decide) (fun c15 => ?_) (fun c15 => ?_) (by omega)
            · skip
              refine j_const hx hb dX5_printOnce_167 ?_
              subst hQ
              refine m_zret hx hb hr hlocks hH hS dX5_printOnce_168 ?_ (by omega)
              refine ⟨?_, ?_, hfr⟩
              · unfold rtF
                split at hsw <;> split <;> omega
              · unfold onceF
                first | (rw [if_pos (by omega)]; exact hI) | (rw [if_neg (by omega)]; exact hI)
            · skip
              refine lv_aload_n hx hb dX5_printOnce_149 rfl (lv_at hl 0 rfl) ?_
              refine m_get (C := RX5) (T := TX5) (N := 7) (ci := 4) hx hb hts i_X5 hown hK hH hI.1 rfl 5 (by decide) f_0 rfl dX5_printOnce_150 ?_
              refine j_if_ne (tgt := 167) hx hb dX5_printOnce_153 (by decide) (fun c16 => ?_) (fun c16 => ?_) (by omega)
              · skip
                refine j_const hx hb dX5_printOnce_167 ?_
                subst hQ
                refine m_zret hx hb hr hlocks hH hS dX5_printOnce_168 ?_ (by omega)
                refine ⟨?_, ?_, hfr⟩
                · unfold rtF
                  split at hsw <;> split <;> omega
                · unfold onceF
                  first | (rw [if_pos (by omega)]; exact hI) | (rw [if_neg (by omega)]; exact hI)
              · skip
                refine lv_aload_n hx hb dX5_printOnce_156 rfl (lv_at hl 0 rfl) ?_
                refine m_get (C := RX5) (T := TX5) (N := 7) (ci := 4) hx hb hts i_X5 hown hK hH hI.1 rfl 6 (by decide) f_2 rfl dX5_printOnce_157 ?_
                refine j_if_ne (tgt := 167) hx hb dX5_printOnce_160 (by decide) (fun c17 => ?_) (fun c17 => ?_) (by omega)
                · skip
                  refine j_const hx hb dX5_printOnce_167 ?_
                  subst hQ
                  refine m_zret hx hb hr hlocks hH hS dX5_printOnce_168 ?_ (by omega)
                  refine ⟨?_, ?_, hfr⟩
                  · unfold rtF
                    split at hsw <;> split <;> omega
                  · unfold onceF
                    first | (rw [if_pos (by omega)]; exact hI) | (rw [if_neg (by omega)]; exact hI)
                · skip
                  refine j_const hx hb dX5_printOnce_163 ?_
                  refine lv_goto (tgt := 168) hx hb dX5_printOnce_164 (by decide) ?_
                  subst hQ
                  refine m_zret hx hb hr hlocks hH hS dX5_printOnce_168 ?_ (by omega)
                  refine ⟨?_, ?_, hfr⟩
                  · unfold rtF
                    split at hsw <;> split <;> omega
                  · unfold onceF
                    first | (rw [if_pos (by omega)]; exact hI) | (rw [if_neg (by omega)]; exact hI)
        · skip
          have hok1 := okS_wear hOk (k := k) (by omega) (i).toNat (by omega)
          have hdr := drk_rng hOk (p := (i).toNat) (by omega) (k := k) (by omega)
          have hw0 : (wearF σ k (i).toNat) 0 = σ 0 := wear_ot hOk k (by omega) _ (by omega)
          have hw1 : (wearF σ k (i).toNat) 1 = σ 1 := wear_ot hOk k (by omega) _ (by omega)
          have hflt := fbN_lt σ k (i).toNat
          have hslt := sbN_lt σ k (i).toNat
          have hp6 := pow6 (i).toNat (by omega)
          have hiN : (((i).toNat : Nat) : Int) = i := by omega
          refine lv_aload_n hx hb dX5_printOnce_34 rfl (lv_at hl 0 rfl) ?_
          refine lv_aload_n hx hb dX5_printOnce_35 rfl (lv_at hl 0 rfl) ?_
          refine m_get (C := RX5) (T := TX5) (N := 7) (ci := 4) hx hb hts i_X5 hown hK hH hI.1 rfl 0 (by decide) f_8 rfl dX5_printOnce_36 ?_
          refine lv_iload hx hb dX5_printOnce_39 (lv_at hl 4 rfl) ?_
          refine m_aald (b := (st + 2 + 2 * π (i).toNat)) hx hb hK hH 2 hI.2.1 rfl rfl dX5_printOnce_41 ?_ (by omega) (by omega)
          refine lv_iload_n hx hb dX5_printOnce_42 rfl (lv_at hl 2 rfl) ?_
          refine m_callVi (As := [.ref (st + 2 + 2 * π (i).toNat), .int (iv k)]) (rest := []) ⟨hx, hb, hml, hown, hts⟩ hK hH hS (c_X5_darkness l G ν ν0 st π (wearF σ k (i).toNat) ((fbN σ k (i).toNat : Nat) : Int) ((sbN σ k (i).toNat : Nat) : Int) (i).toNat k hI hok1 (by omega) (by omega)) (cwV 2 hts gX5_printOnce_X5_darkness rfl rfl rfl (by decide +kernel) ⟨(Nat.le_of_ble_eq_true rfl), (Nat.le_of_ble_eq_true rfl)⟩) hI.1 rfl rfl rfl rfl hl.1 (Nat.le_of_ble_eq_true rfl) dX5_printOnce_43 ⟨Nat.zero_le _, Nat.zero_le _⟩ (fun z21 μ18 n19 H locs hz21 hp20 hH hS => ?_)
          obtain ⟨hz2, hm2, hn2⟩ := hp20; rw [hz2]; rw [hm2, hn2] at hH; clear hz2 hm2 hn2
          rw [drk_wear hOk k (by omega)]
          refine lv_istore (lv' := [(5, .int (iv (drk σ (i).toNat k))), (0, .ref st), (1, .int (iv D)), (2, .int (iv k)), (3, .int (iv sw)), (4, .int (iv i))]) hx hb dX5_printOnce_46 hl (by decide) rfl (fun ls hl => ?_)
          refine lv_aload_n hx hb dX5_printOnce_48 rfl (lv_at hl 1 rfl) ?_
          refine lv_dup hx hb dX5_printOnce_49 rfl ?_
          refine m_get (C := RX5) (T := TX5) (N := 7) (ci := 4) hx hb hts i_X5 hown hK hH hI.1 rfl 5 (by decide) f_0 rfl dX5_printOnce_50 ?_
          refine lv_aload_n hx hb dX5_printOnce_53 rfl (lv_at hl 1 rfl) ?_
          refine lv_iload hx hb dX5_printOnce_54 (lv_at hl 0 rfl) ?_
          refine m_callVi (As := [.int (iv (drk σ (i).toNat k))]) (rest := [.int (iv ((fbN σ k (i).toNat : Nat) : Int)), .ref st]) ⟨hx, hb, hml, hown, hts⟩ hK hH hS (c_X5_isFaint l G ν ν0 st π (wearF σ k (i).toNat) ((fbN σ k (i).toNat : Nat) : Int) ((sbN σ k (i).toNat : Nat) : Int) (drk σ (i).toNat k) hI hok1 (by omega)) (cwV 1 hts gX5_printOnce_X5_isFaint rfl rfl rfl (by decide +kernel) ⟨(Nat.le_of_ble_eq_true rfl), (Nat.le_of_ble_eq_true rfl)⟩) hI.1 rfl rfl rfl rfl hl.1 (Nat.le_of_ble_eq_true rfl) dX5_printOnce_56 ⟨Nat.zero_le _, Nat.zero_le _⟩ (fun z25 μ22 n23 H locs hz25 hp24 hH hS => ?_)
          obtain ⟨hz2, hm2, hn2⟩ := hp24; rw [hz2]; rw [hm2, hn2] at hH; clear hz2 hm2 hn2
          refine j_top (fun fv hfv => ?_)
          rw [hw0] at hfv
          have hfr1 : 0 ≤ fv ∧ fv ≤ 1 := by rw [hfv]; split <;> omega
          refine j_if_eq (tgt := 69) hx hb dX5_printOnce_59 (by decide) (fun c26 => ?_) (fun c26 => ?_) (by omega)
          · skip
            refine j_const hx hb dX5_printOnce_69 ?_
            refine j_ior (v := ((fbN σ k (i).toNat : Nat) : Int)) hx hb dX5_printOnce_70 (bit_or0 _ (by omega)) ?_
            refine m_put (C := RX5) (T := TX5) (N := 7) (ci := 4) hx hb hts i_X5 tyX5 tyX5_ok nmX5 hown hK hH hS hI.1 rfl 5 (by decide) f_0 rfl rfl rfl (Nat.le_of_ble_eq_true rfl) dX5_printOnce_71 (fun H locs hH hS => ?_)
            have hI : IsSt G (hu ν st (.inr (4, [.ref (st + 1), .ref (st + 14), .int (iv ((wearF σ k (i).toNat) 4)), .int (iv ((wearF σ k (i).toNat) 9)), .int (iv ((wearF σ k (i).toNat) 10)), .int (iv ((fbN σ k (i).toNat : Nat) : Int)), .int (iv ((sbN σ k (i).toNat : Nat) : Int))]))) st π (wearF σ k (i).toNat) ((fbN σ k (i).toNat : Nat) : Int) ((sbN σ k (i).toNat : Nat) : Int) := hI.st (wearF σ k (i).toNat) ((fbN σ k (i).toNat : Nat) : Int) ((sbN σ k (i).toNat : Nat) : Int) (fun j h1 h2 h3 => rfl)
            have hfr : ∀ q, (q < st ∨ st + 15 ≤ q) → (hu ν st (.inr (4, [.ref (st + 1), .ref (st + 14), .int (iv ((wearF σ k (i).toNat) 4)), .int (iv ((wearF σ k (i).toNat) 9)), .int (iv ((wearF σ k (i).toNat) 10)), .int (iv ((fbN σ k (i).toNat : Nat) : Int)), .int (iv ((sbN σ k (i).toNat : Nat) : Int))]))) q = μ q := fun q hq => (hu_n (by omega)).trans (hfr q hq)
            have hH : gP G (hu ν st (.inr (4, [.ref (st + 1), .ref (st + 14), .int (iv ((wearF σ k (i).toNat) 4)), .int (iv ((wearF σ k (i).toNat) 9)), .int (iv ((wearF σ k (i).toNat) 10)), .int (iv ((fbN σ k (i).toNat : Nat) : Int)), .int (iv ((sbN σ k (i).toNat : Nat) : Int))]))) ν0 H := hH
            refine lv_aload_n hx hb dX5_printOnce_74 rfl (lv_at hl 1 rfl) ?_
            refine lv_dup hx hb dX5_printOnce_75 rfl ?_
            refine m_get (C := RX5) (T := TX5) (N := 7) (ci := 4) hx hb hts i_X5 hown hK hH hI.1 rfl 6 (by decide) f_2 rfl dX5_printOnce_76 ?_
            refine lv_aload_n hx hb dX5_printOnce_79 rfl (lv_at hl 1 rfl) ?_
            refine lv_iload hx hb dX5_printOnce_80 (lv_at hl 0 rfl) ?_
            refine m_callVi (As := [.int (iv (drk σ (i).toNat k))]) (rest := [.int (iv ((sbN σ k (i).toNat : Nat) : Int)), .ref st]) ⟨hx, hb, hml, hown, hts⟩ hK hH hS (c_X5_isSmudged l G (hu ν st (.inr (4, [.ref (st + 1), .ref (st + 14), .int (iv ((wearF σ k (i).toNat) 4)), .int (iv ((wearF σ k (i).toNat) 9)), .int (iv ((wearF σ k (i).toNat) 10)), .int (iv ((fbN σ k (i).toNat : Nat) : Int)), .int (iv ((sbN σ k (i).toNat : Nat) : Int))]))) ν0 st π (wearF σ k (i).toNat) ((fbN σ k (i).toNat : Nat) : Int) ((sbN σ k (i).toNat : Nat) : Int) (drk σ (i).toNat k) hI hok1 (by omega)) (cwV 1 hts gX5_printOnce_X5_isSmudged rfl rfl rfl (by decide +kernel) ⟨(Nat.le_of_ble_eq_true rfl), (Nat.le_of_ble_eq_true rfl)⟩) hI.1 rfl rfl rfl rfl hl.1 (Nat.le_of_ble_eq_true rfl) dX5_printOnce_82 ⟨Nat.zero_le _, Nat.zero_le _⟩ (fun z30 μ27 n28 H locs hz30 hp29 hH hS => ?_)
            obtain ⟨hz2, hm2, hn2⟩ := hp29; rw [hz2]; rw [hm2, hn2] at hH; clear hz2 hm2 hn2
            refine j_top (fun sv hsv => ?_)
            rw [hw1] at hsv
            have hsr1 : 0 ≤ sv ∧ sv ≤ 1 := by rw [hsv]; split <;> omega
            refine j_if_eq (tgt := 95) hx hb dX5_printOnce_85 (by decide) (fun c31 => ?_) (fun c31 => ?_) (by omega)
            · skip
              refine j_const hx hb dX5_printOnce_95 ?_
              refine j_ior (v := ((sbN σ k (i).toNat : Nat) : Int)) hx hb dX5_printOnce_96 (bit_or0 _ (by omega)) ?_
              refine m_put (C := RX5) (T := TX5) (N := 7) (ci := 4) hx hb hts i_X5 tyX5 tyX5_ok nmX5 hown hK hH hS hI.1 rfl 6 (by decide) f_2 rfl rfl rfl (Nat.le_of_ble_eq_true rfl) dX5_printOnce_97 (fun H locs hH hS => ?_)
              have hI : IsSt G (hu (hu ν st (.inr (4, [.ref (st + 1), .ref (st + 14), .int (iv ((wearF σ k (i).toNat) 4)), .int (iv ((wearF σ k (i).toNat) 9)), .int (iv ((wearF σ k (i).toNat) 10)), .int (iv ((fbN σ k (i).toNat : Nat) : Int)), .int (iv ((sbN σ k (i).toNat : Nat) : Int))]))) st (.inr (4, [.ref (st + 1), .ref (st + 14), .int (iv ((wearF σ k (i).toNat) 4)), .int (iv ((wearF σ k (i).toNat) 9)), .int (iv ((wearF σ k (i).toNat) 10)), .int (iv ((fbN σ k (i).toNat : Nat) : Int)), .int (iv ((sbN σ k (i).toNat : Nat) : Int))]))) st π (wearF σ k (i).toNat) ((fbN σ k (i).toNat : Nat) : Int) ((sbN σ k (i).toNat : Nat) : Int) := hI.st (wearF σ k (i).toNat) ((fbN σ k (i).toNat : Nat) : Int) ((sbN σ k (i).toNat : Nat) : Int) (fun j h1 h2 h3 => rfl)
              have hfr : ∀ q, (q < st ∨ st + 15 ≤ q) → (hu (hu ν st (.inr (4, [.ref (st + 1), .ref (st + 14), .int (iv ((wearF σ k (i).toNat) 4)), .int (iv ((wearF σ k (i).toNat) 9)), .int (iv ((wearF σ k (i).toNat) 10)), .int (iv ((fbN σ k (i).toNat : Nat) : Int)), .int (iv ((sbN σ k (i).toNat : Nat) : Int))]))) st (.inr (4, [.ref (st + 1), .ref (st + 14), .int (iv ((wearF σ k (i).toNat) 4)), .int (iv ((wearF σ k (i).toNat) 9)), .int (iv ((wearF σ k (i).toNat) 10)), .int (iv ((fbN σ k (i).toNat : Nat) : Int)), .int (iv ((sbN σ k (i).toNat : Nat) : Int))]))) q = μ q := fun q hq => (hu_n (by omega)).trans (hfr q hq)
              have hH : gP G (hu (hu ν st (.inr (4, [.ref (st + 1), .ref (st + 14), .int (iv ((wearF σ k (i).toNat) 4)), .int (iv ((wearF σ k (i).toNat) 9)), .int (iv ((wearF σ k (i).toNat) 10)), .int (iv ((fbN σ k (i).toNat : Nat) : Int)), .int (iv ((sbN σ k (i).toNat : Nat) : Int))]))) st (.inr (4, [.ref (st + 1), .ref (st + 14), .int (iv ((wearF σ k (i).toNat) 4)), .int (iv ((wearF σ k (i).toNat) 9)), .int (iv ((wearF σ k (i).toNat) 10)), .int (iv ((fbN σ k (i).toNat : Nat) : Int)), .int (iv ((sbN σ k (i).toNat : Nat) : Int))]))) ν0 H := hH
              refine lv_aload_n hx hb dX5_printOnce_100 rfl (lv_at hl 1 rfl) ?_
              refine m_get (C := RX5) (T := TX5) (N := 7) (ci := 4) hx hb hts i_X5 hown hK hH hI.1 rfl 0 (by decide) f_8 rfl dX5_printOnce_101 ?_
              refine lv_iload hx hb dX5_printOnce_104 (lv_at hl 5 rfl) ?_
              refine m_aald (b := (st + 2 + 2 * π (i).toNat)) hx hb hK hH 2 hI.2.1 rfl rfl dX5_printOnce_106 ?_ (by omega) (by omega)
              refine j_const hx hb dX5_printOnce_107 ?_
              refine lv_iload_n hx hb dX5_printOnce_108 rfl (lv_at hl 3 rfl) ?_
              refine j_const hx hb dX5_printOnce_109 ?_
              refine j_idiv hx hb dX5_printOnce_110 ?_ (by omega) (by omega)
              refine j_iadd hx hb dX5_printOnce_111 ?_
              have hbp := hok1.2.2.2.2 (i).toNat (by omega)
              have hwp := hok1.w (p := (i).toNat) (by omega)
              refine m_callVv (As := [.int (iv (1 + (k / 4)))]) (rest := []) ⟨hx, hb, hml, hown, hts⟩ hK hH hS (c_X0_wearShown l G (hu (hu ν st (.inr (4, [.ref (st + 1), .ref (st + 14), .int (iv ((wearF σ k (i).toNat) 4)), .int (iv ((wearF σ k (i).toNat) 9)), .int (iv ((wearF σ k (i).toNat) 10)), .int (iv ((fbN σ k (i).toNat : Nat) : Int)), .int (iv ((sbN σ k (i).toNat : Nat) : Int))]))) st (.inr (4, [.ref (st + 1), .ref (st + 14), .int (iv ((wearF σ k (i).toNat) 4)), .int (iv ((wearF σ k (i).toNat) 9)), .int (iv ((wearF σ k (i).toNat) 10)), .int (iv ((fbN σ k (i).toNat : Nat) : Int)), .int (iv ((sbN σ k (i).toNat : Nat) : Int))]))) ν0 (st + 2 + 2 * π (i).toNat) (st + 3 + 2 * π (i).toNat) ((wearF σ k (i).toNat) (85 + 13 * (i).toNat)) ((wearF σ k (i).toNat) (86 + 13 * (i).toNat)) ((wearF σ k (i).toNat) (87 + 13 * (i).toNat)) (roww (wearF σ k (i).toNat) (i).toNat) (1 + (k / 4)) (hI.2.2.2.1 (i).toNat (by omega)) (hI.2.2.2.2.1 (i).toNat (by omega)) hbp.2.1 (hwp _ (by omega)) (by omega)) (cwV 1 hts gX5_printOnce_X0_wearShown rfl rfl rfl (by decide +kernel) ⟨(Nat.le_of_ble_eq_true rfl), (Nat.le_of_ble_eq_true rfl)⟩) (hI.2.2.2.1 (i).toNat (by omega)) rfl rfl rfl rfl hl.1 (Nat.le_of_ble_eq_true rfl) dX5_printOnce_112 ⟨Nat.zero_le _, Nat.zero_le _⟩ (fun μ32 n33 H locs hp34 hH hS => ?_)
              obtain ⟨hm2, hn2⟩ := hp34; rw [hm2, hn2] at hH; clear hm2 hn2
              have hpp := hI.2.2.2.2.2.1 (i).toNat (by omega)
              have hI : IsSt G (hu (hu (hu ν st (.inr (4, [.ref (st + 1), .ref (st + 14), .int (iv ((wearF σ k (i).toNat) 4)), .int (iv ((wearF σ k (i).toNat) 9)), .int (iv ((wearF σ k (i).toNat) 10)), .int (iv ((fbN σ k (i).toNat : Nat) : Int)), .int (iv ((sbN σ k (i).toNat : Nat) : Int))]))) st (.inr (4, [.ref (st + 1), .ref (st + 14), .int (iv ((wearF σ k (i).toNat) 4)), .int (iv ((wearF σ k (i).toNat) 9)), .int (iv ((wearF σ k (i).toNat) 10)), .int (iv ((fbN σ k (i).toNat : Nat) : Int)), .int (iv ((sbN σ k (i).toNat : Nat) : Int))]))) (st + 3 + 2 * π (i).toNat) (.inl (G.2.1 0, 10, .inl (fun j => iv (fu (roww (wearF σ k (i).toNat) (i).toNat) ((wearF σ k (i).toNat) (86 + 13 * (i).toNat)).toNat (min 99 (roww (wearF σ k (i).toNat) (i).toNat ((wearF σ k (i).toNat) (86 + 13 * (i).toNat)).toNat + (1 + k / 4))) j))))) st π (fu (wearF σ k (i).toNat) (88 + 13 * (i).toNat + ((wearF σ k (i).toNat) (86 + 13 * (i).toNat)).toNat) (min 99 (roww (wearF σ k (i).toNat) (i).toNat ((wearF σ k (i).toNat) (86 + 13 * (i).toNat)).toNat + (1 + k / 4)))) ((fbN σ k (i).toNat : Nat) : Int) ((sbN σ k (i).toNat : Nat) : Int) := hI.ws (by omega) (by omega) (min 99 (roww (wearF σ k (i).toNat) (i).toNat ((wearF σ k (i).toNat) (86 + 13 * (i).toNat)).toNat + (1 + k / 4)))
              have hfr : ∀ q, (q < st ∨ st + 15 ≤ q) → (hu (hu (hu ν st (.inr (4, [.ref (st + 1), .ref (st + 14), .int (iv ((wearF σ k (i).toNat) 4)), .int (iv ((wearF σ k (i).toNat) 9)), .int (iv ((wearF σ k (i).toNat) 10)), .int (iv ((fbN σ k (i).toNat : Nat) : Int)), .int (iv ((sbN σ k (i).toNat : Nat) : Int))]))) st (.inr (4, [.ref (st + 1), .ref (st + 14), .int (iv ((wearF σ k (i).toNat) 4)), .int (iv ((wearF σ k (i).toNat) 9)), .int (iv ((wearF σ k (i).toNat) 10)), .int (iv ((fbN σ k (i).toNat : Nat) : Int)), .int (iv ((sbN σ k (i).toNat : Nat) : Int))]))) (st + 3 + 2 * π (i).toNat) (.inl (G.2.1 0, 10, .inl (fun j => iv (fu (roww (wearF σ k (i).toNat) (i).toNat) ((wearF σ k (i).toNat) (86 + 13 * (i).toNat)).toNat (min 99 (roww (wearF σ k (i).toNat) (i).toNat ((wearF σ k (i).toNat) (86 + 13 * (i).toNat)).toNat + (1 + k / 4))) j))))) q = μ q := fun q hq => (hu_n (by omega)).trans (hfr q hq)
              refine j_iinc (lv' := [(4, .int (iv (i + 1))), (5, .int (iv (drk σ (i).toNat k))), (0, .ref st), (1, .int (iv D)), (2, .int (iv k)), (3, .int (iv sw))]) hx hb dX5_printOnce_115 hl (k := 5) rfl (by decide) rfl (fun ls hl => ?_)
              refine lv_goto (tgt := 27) hx hb dX5_printOnce_118 (by decide) ?_
              exact ih6 (i + 1) sw (hu (hu (hu ν st (.inr (4, [.ref (st + 1), .ref (st + 14), .int (iv ((wearF σ k (i).toNat) 4)), .int (iv ((wearF σ k (i).toNat) 9)), .int (iv ((wearF σ k (i).toNat) 10)), .int (iv ((fbN σ k (i).toNat : Nat) : Int)), .int (iv ((sbN σ k (i).toNat : Nat) : Int))]))) st (.inr (4, [.ref (st + 1), .ref (st + 14), .int (iv ((wearF σ k (i).toNat) 4)), .int (iv ((wearF σ k (i).toNat) 9)), .int (iv ((wearF σ k (i).toNat) 10)), .int (iv ((fbN σ k (i).toNat : Nat) : Int)), .int (iv ((sbN σ k (i).toNat : Nat) : Int))]))) (st + 3 + 2 * π (i).toNat) (.inl (G.2.1 0, 10, .inl (fun j => iv (fu (roww (wearF σ k (i).toNat) (i).toNat) ((wearF σ k (i).toNat) (86 + 13 * (i).toNat)).toNat (min 99 (roww (wearF σ k (i).toNat) (i).toNat ((wearF σ k (i).toNat) (86 + 13 * (i).toNat)).toNat + (1 + k / 4))) j))))) ν0 (by omega) hsw (by rw [tN1 hi.1, fbN_n (by split at hfv <;> omega), sbN_n (by split at hsv <;> omega), ← wear_step hOk k (by omega)]; exact hI) hfr (by omega) H locs ls hH hS (lv_sub hl [2, 3, 4, 5, 0] rfl)
            · skip
              refine j_const hx hb dX5_printOnce_88 ?_
              refine lv_iload hx hb dX5_printOnce_89 (lv_at hl 5 rfl) ?_
              refine j_ishl (v := ((2 ^ (i).toNat : Nat) : Int)) hx hb dX5_printOnce_91 (by have h := bit_shl (i).toNat (by omega); rw [hiN] at h; exact h) ?_
              refine lv_goto (tgt := 96) hx hb dX5_printOnce_92 (by decide) ?_
              refine j_ior (v := (((sbN σ k (i).toNat + 2 ^ (i).toNat : Nat)) : Int)) hx hb dX5_printOnce_96 (bit_or (i).toNat (by omega) _ hslt) ?_
              refine m_put (C := RX5) (T := TX5) (N := 7) (ci := 4) hx hb hts i_X5 tyX5 tyX5_ok nmX5 hown hK hH hS hI.1 rfl 6 (by decide) f_2 rfl rfl rfl (Nat.le_of_ble_eq_true rfl) dX5_printOnce_97 (fun H locs hH hS => ?_)
              have hI : IsSt G (hu (hu ν st (.inr (4, [.ref (st + 1), .ref (st + 14), .int (iv ((wearF σ k (i).toNat) 4)), .int (iv ((wearF σ k (i).toNat) 9)), .int (iv ((wearF σ k (i).toNat) 10)), .int (iv ((fbN σ k (i).toNat : Nat) : Int)), .int (iv ((sbN σ k (i).toNat : Nat) : Int))]))) st (.inr (4, [.ref (st + 1), .ref (st + 14), .int (iv ((wearF σ k (i).toNat) 4)), .int (iv ((wearF σ k (i).toNat) 9)), .int (iv ((wearF σ k (i).toNat) 10)), .int (iv ((fbN σ k (i).toNat : Nat) : Int)), .int (iv (((sbN σ k (i).toNat + 2 ^ (i).toNat : Nat)) : Int))]))) st π (wearF σ k (i).toNat) ((fbN σ k (i).toNat : Nat) : Int) (((sbN σ k (i).toNat + 2 ^ (i).toNat : Nat)) : Int) := hI.st (wearF σ k (i).toNat) ((fbN σ k (i).toNat : Nat) : Int) (((sbN σ k (i).toNat + 2 ^ (i).toNat : Nat)) : Int) (fun j h1 h2 h3 => rfl)
              have hfr : ∀ q, (q < st ∨ st + 15 ≤ q) → (hu (hu ν st (.inr (4, [.ref (st + 1), .ref (st + 14), .int (iv ((wearF σ k (i).toNat) 4)), .int (iv ((wearF σ k (i).toNat) 9)), .int (iv ((wearF σ k (i).toNat) 10)), .int (iv ((fbN σ k (i).toNat : Nat) : Int)), .int (iv ((sbN σ k (i).toNat : Nat) : Int))]))) st (.inr (4, [.ref (st + 1), .ref (st + 14), .int (iv ((wearF σ k (i).toNat) 4)), .int (iv ((wearF σ k (i).toNat) 9)), .int (iv ((wearF σ k (i).toNat) 10)), .int (iv ((fbN σ k (i).toNat : Nat) : Int)), .int (iv (((sbN σ k (i).toNat + 2 ^ (i).toNat : Nat)) : Int))]))) q = μ q := fun q hq => (hu_n (by omega)).trans (hfr q hq)
              have hH : gP G (hu (hu ν st (.inr (4, [.ref (st + 1), .ref (st + 14), .int (iv ((wearF σ k (i).toNat) 4)), .int (iv ((wearF σ k (i).toNat) 9)), .int (iv ((wearF σ k (i).toNat) 10)), .int (iv ((fbN σ k (i).toNat : Nat) : Int)), .int (iv ((sbN σ k (i).toNat : Nat) : Int))]))) st (.inr (4, [.ref (st + 1), .ref (st + 14), .int (iv ((wearF σ k (i).toNat) 4)), .int (iv ((wearF σ k (i).toNat) 9)), .int (iv ((wearF σ k (i).toNat) 10)), .int (iv ((fbN σ k (i).toNat : Nat) : Int)), .int (iv (((sbN σ k (i).toNat + 2 ^ (i).toNat : Nat)) : Int))]))) ν0 H := hH
              refine lv_aload_n hx hb dX5_printOnce_100 rfl (lv_at hl 1 rfl) ?_
              refine m_get (C := RX5) (T := TX5) (N := 7) (ci := 4) hx hb hts i_X5 hown hK hH hI.1 rfl 0 (by decide) f_8 rfl dX5_printOnce_101 ?_
              refine lv_iload hx hb dX5_printOnce_104 (lv_at hl 5 rfl) ?_
              refine m_aald (b := (st + 2 + 2 * π (i).toNat)) hx hb hK hH 2 hI.2.1 rfl rfl dX5_printOnce_106 ?_ (by omega) (by omega)
              refine j_const hx hb dX5_printOnce_107 ?_
              refine lv_iload_n hx hb dX5_printOnce_108 rfl (lv_at hl 3 rfl) ?_
              refine j_const hx hb dX5_printOnce_109 ?_
              refine j_idiv hx hb dX5_printOnce_110 ?_ (by omega) (by omega)
              refine j_iadd hx hb dX5_printOnce_111 ?_
              have hbp := hok1.2.2.2.2 (i).toNat (by omega)
              have hwp := hok1.w (p := (i).toNat) (by omega)
              refine m_callVv (As := [.int (iv (1 + (k / 4)))]) (rest := []) ⟨hx, hb, hml, hown, hts⟩ hK hH hS (c_X0_wearShown l G (hu (hu ν st (.inr (4, [.ref (st + 1), .ref (st + 14), .int (iv ((wearF σ k (i).toNat) 4)), .int (iv ((wearF σ k (i).toNat) 9)), .int (iv ((wearF σ k (i).toNat) 10)), .int (iv ((fbN σ k (i).toNat : Nat) : Int)), .int (iv ((sbN σ k (i).toNat : Nat) : Int))]))) st (.inr (4, [.ref (st + 1), .ref (st + 14), .int (iv ((wearF σ k (i).toNat) 4)), .int (iv ((wearF σ k (i).toNat) 9)), .int (iv ((wearF σ k (i).toNat) 10)), .int (iv ((fbN σ k (i).toNat : Nat) : Int)), .int (iv (((sbN σ k (i).toNat + 2 ^ (i).toNat : Nat)) : Int))]))) ν0 (st + 2 + 2 * π (i).toNat) (st + 3 + 2 * π (i).toNat) ((wearF σ k (i).toNat) (85 + 13 * (i).toNat)) ((wearF σ k (i).toNat) (86 + 13 * (i).toNat)) ((wearF σ k (i).toNat) (87 + 13 * (i).toNat)) (roww (wearF σ k (i).toNat) (i).toNat) (1 + (k / 4)) (hI.2.2.2.1 (i).toNat (by omega)) (hI.2.2.2.2.1 (i).toNat (by omega)) hbp.2.1 (hwp _ (by omega)) (by omega)) (cwV 1 hts gX5_printOnce_X0_wearShown rfl rfl rfl (by decide +kernel) ⟨(Nat.le_of_ble_eq_true rfl), (Nat.le_of_ble_eq_true rfl)⟩) (hI.2.2.2.1 (i).toNat (by omega)) rfl rfl rfl rfl hl.1 (Nat.le_of_ble_eq_true rfl) dX5_printOnce_112 ⟨Nat.zero_le _, Nat.zero_le _⟩ (fun μ35 n36 H locs hp37 hH hS => ?_)
              obtain ⟨hm2, hn2⟩ := hp37; rw [hm2, hn2] at hH; clear hm2 hn2
              have hpp := hI.2.2.2.2.2.1 (i).toNat (by omega)
              have hI : IsSt G (hu (hu (hu ν st (.inr (4, [.ref (st + 1), .ref (st + 14), .int (iv ((wearF σ k (i).toNat) 4)), .int (iv ((wearF σ k (i).toNat) 9)), .int (iv ((wearF σ k (i).toNat) 10)), .int (iv ((fbN σ k (i).toNat : Nat) : Int)), .int (iv ((sbN σ k (i).toNat : Nat) : Int))]))) st (.inr (4, [.ref (st + 1), .ref (st + 14), .int (iv ((wearF σ k (i).toNat) 4)), .int (iv ((wearF σ k (i).toNat) 9)), .int (iv ((wearF σ k (i).toNat) 10)), .int (iv ((fbN σ k (i).toNat : Nat) : Int)), .int (iv (((sbN σ k (i).toNat + 2 ^ (i).toNat : Nat)) : Int))]))) (st + 3 + 2 * π (i).toNat) (.inl (G.2.1 0, 10, .inl (fun j => iv (fu (roww (wearF σ k (i).toNat) (i).toNat) ((wearF σ k (i).toNat) (86 + 13 * (i).toNat)).toNat (min 99 (roww (wearF σ k (i).toNat) (i).toNat ((wearF σ k (i).toNat) (86 + 13 * (i).toNat)).toNat + (1 + k / 4))) j))))) st π (fu (wearF σ k (i).toNat) (88 + 13 * (i).toNat + ((wearF σ k (i).toNat) (86 + 13 * (i).toNat)).toNat) (min 99 (roww (wearF σ k (i).toNat) (i).toNat ((wearF σ k (i).toNat) (86 + 13 * (i).toNat)).toNat + (1 + k / 4)))) ((fbN σ k (i).toNat : Nat) : Int) (((sbN σ k (i).toNat + 2 ^ (i).toNat : Nat)) : Int) := hI.ws (by omega) (by omega) (min 99 (roww (wearF σ k (i).toNat) (i).toNat ((wearF σ k (i).toNat) (86 + 13 * (i).toNat)).toNat + (1 + k / 4)))
              have hfr : ∀ q, (q < st ∨ st + 15 ≤ q) → (hu (hu (hu ν st (.inr (4, [.ref (st + 1), .ref (st + 14), .int (iv ((wearF σ k (i).toNat) 4)), .int (iv ((wearF σ k (i).toNat) 9)), .int (iv ((wearF σ k (i).toNat) 10)), .int (iv ((fbN σ k (i).toNat : Nat) : Int)), .int (iv ((sbN σ k (i).toNat : Nat) : Int))]))) st (.inr (4, [.ref (st + 1), .ref (st + 14), .int (iv ((wearF σ k (i).toNat) 4)), .int (iv ((wearF σ k (i).toNat) 9)), .int (iv ((wearF σ k (i).toNat) 10)), .int (iv ((fbN σ k (i).toNat : Nat) : Int)), .int (iv (((sbN σ k (i).toNat + 2 ^ (i).toNat : Nat)) : Int))]))) (st + 3 + 2 * π (i).toNat) (.inl (G.2.1 0, 10, .inl (fun j => iv (fu (roww (wearF σ k (i).toNat) (i).toNat) ((wearF σ k (i).toNat) (86 + 13 * (i).toNat)).toNat (min 99 (roww (wearF σ k (i).toNat) (i).toNat ((wearF σ k (i).toNat) (86 + 13 * (i).toNat)).toNat + (1 + k / 4))) j))))) q = μ q := fun q hq => (hu_n (by omega)).trans (hfr q hq)
              refine j_iinc (lv' := [(4, .int (iv (i + 1))), (5, .int (iv (drk σ (i).toNat k))), (0, .ref st), (1, .int (iv D)), (2, .int (iv k)), (3, .int (iv sw))]) hx hb dX5_printOnce_115 hl (k := 5) rfl (by decide) rfl (fun ls hl => ?_)
              refine lv_goto (tgt := 27) hx hb dX5_printOnce_118 (by decide) ?_
              exact ih6 (i + 1) sw (hu (hu (hu ν st (.inr (4, [.ref (st + 1), .ref (st + 14), .int (iv ((wearF σ k (i).toNat) 4)), .int (iv ((wearF σ k (i).toNat) 9)), .int (iv ((wearF σ k (i).toNat) 10)), .int (iv ((fbN σ k (i).toNat : Nat) : Int)), .int (iv ((sbN σ k (i).toNat : Nat) : Int))]))) st (.inr (4, [.ref (st + 1), .ref (st + 14), .int (iv ((wearF σ k (i).toNat) 4)), .int (iv ((wearF σ k (i).toNat) 9)), .int (iv ((wearF σ k (i).toNat) 10)), .int (iv ((fbN σ k (i).toNat : Nat) : Int)), .int (iv (((sbN σ k (i).toNat + 2 ^ (i).toNat : Nat)) : Int))]))) (st + 3 + 2 * π (i).toNat) (.inl (G.2.1 0, 10, .inl (fun j => iv (fu (roww (wearF σ k (i).toNat) (i).toNat) ((wearF σ k (i).toNat) (86 + 13 * (i).toNat)).toNat (min 99 (roww (wearF σ k (i).toNat) (i).toNat ((wearF σ k (i).toNat) (86 + 13 * (i).toNat)).toNat + (1 + k / 4))) j))))) ν0 (by omega) hsw (by rw [tN1 hi.1, fbN_n (by split at hfv <;> omega), sbN_y (by split at hsv <;> omega), ← wear_step hOk k (by omega)]; exact hI) hfr (by omega) H locs ls hH hS (lv_sub hl [2, 3, 4, 5, 0] rfl)
          · skip
            refine j_const hx hb dX5_printOnce_62 ?_
            refine lv_iload hx hb dX5_printOnce_63 (lv_at hl 5 rfl) ?_
            refine j_ishl (v := ((2 ^ (i).toNat : Nat) : Int)) hx hb dX5_printOnce_65 (by have h := bit_shl (i).toNat (by omega); rw [hiN] at h; exact h) ?_
            refine lv_goto (tgt := 70) hx hb dX5_printOnce_66 (by decide) ?_
            refine j_ior (v := (((fbN σ k (i).toNat + 2 ^ (i).toNat : Nat)) : Int)) hx hb dX5_printOnce_70 (bit_or (i).toNat (by omega) _ hflt) ?_
            refine m_put (C := RX5) (T := TX5) (N := 7) (ci := 4) hx hb hts i_X5 tyX5 tyX5_ok nmX5 hown hK hH hS hI.1 rfl 5 (by decide) f_0 rfl rfl rfl (Nat.le_of_ble_eq_true rfl) dX5_printOnce_71 (fun H locs hH hS => ?_)
            have hI : IsSt G (hu ν st (.inr (4, [.ref (st + 1), .ref (st + 14), .int (iv ((wearF σ k (i).toNat) 4)), .int (iv ((wearF σ k (i).toNat) 9)), .int (iv ((wearF σ k (i).toNat) 10)), .int (iv (((fbN σ k (i).toNat + 2 ^ (i).toNat : Nat)) : Int)), .int (iv ((sbN σ k (i).toNat : Nat) : Int))]))) st π (wearF σ k (i).toNat) (((fbN σ k (i).toNat + 2 ^ (i).toNat : Nat)) : Int) ((sbN σ k (i).toNat : Nat) : Int) := hI.st (wearF σ k (i).toNat) (((fbN σ k (i).toNat + 2 ^ (i).toNat : Nat)) : Int) ((sbN σ k (i).toNat : Nat) : Int) (fun j h1 h2 h3 => rfl)
            have hfr : ∀ q, (q < st ∨ st + 15 ≤ q) → (hu ν st (.inr (4, [.ref (st + 1), .ref (st + 14), .int (iv ((wearF σ k (i).toNat) 4)), .int (iv ((wearF σ k (i).toNat) 9)), .int (iv ((wearF σ k (i).toNat) 10)), .int (iv (((fbN σ k (i).toNat + 2 ^ (i).toNat : Nat)) : Int)), .int (iv ((sbN σ k (i).toNat : Nat) : Int))]))) q = μ q := fun q hq => (hu_n (by omega)).trans (hfr q hq)
            have hH : gP G (hu ν st (.inr (4, [.ref (st + 1), .ref (st + 14), .int (iv ((wearF σ k (i).toNat) 4)), .int (iv ((wearF σ k (i).toNat) 9)), .int (iv ((wearF σ k (i).toNat) 10)), .int (iv (((fbN σ k (i).toNat + 2 ^ (i).toNat : Nat)) : Int)), .int (iv ((sbN σ k (i).toNat : Nat) : Int))]))) ν0 H := hH
            refine lv_aload_n hx hb dX5_printOnce_74 rfl (lv_at hl 1 rfl) ?_
            refine lv_dup hx hb dX5_printOnce_75 rfl ?_
            refine m_get (C := RX5) (T := TX5) (N := 7) (ci := 4) hx hb hts i_X5 hown hK hH hI.1 rfl 6 (by decide) f_2 rfl dX5_printOnce_76 ?_
            refine lv_aload_n hx hb dX5_printOnce_79 rfl (lv_at hl 1 rfl) ?_
            refine lv_iload hx hb dX5_printOnce_80 (lv_at hl 0 rfl) ?_
            refine m_callVi (As := [.int (iv (drk σ (i).toNat k))]) (rest := [.int (iv ((sbN σ k (i).toNat : Nat) : Int)), .ref st]) ⟨hx, hb, hml, hown, hts⟩ hK hH hS (c_X5_isSmudged l G (hu ν st (.inr (4, [.ref (st + 1), .ref (st + 14), .int (iv ((wearF σ k (i).toNat) 4)), .int (iv ((wearF σ k (i).toNat) 9)), .int (iv ((wearF σ k (i).toNat) 10)), .int (iv (((fbN σ k (i).toNat + 2 ^ (i).toNat : Nat)) : Int)), .int (iv ((sbN σ k (i).toNat : Nat) : Int))]))) ν0 st π (wearF σ k (i).toNat) (((fbN σ k (i).toNat + 2 ^ (i).toNat : Nat)) : Int) ((sbN σ k (i).toNat : Nat) : Int) (drk σ (i).toNat k) hI hok1 (by omega)) (cwV 1 hts gX5_printOnce_X5_isSmudged rfl rfl rfl (by decide +kernel) ⟨(Nat.le_of_ble_eq_true rfl), (Nat.le_of_ble_eq_true rfl)⟩) hI.1 rfl rfl rfl rfl hl.1 (Nat.le_of_ble_eq_true rfl) dX5_printOnce_82 ⟨Nat.zero_le _, Nat.zero_le _⟩ (fun z41 μ38 n39 H locs hz41 hp40 hH hS => ?_)
            obtain ⟨hz2, hm2, hn2⟩ := hp40; rw [hz2]; rw [hm2, hn2] at hH; clear hz2 hm2 hn2
            refine j_top (fun sv hsv => ?_)
            rw [hw1] at hsv
            have hsr1 : 0 ≤ sv ∧ sv ≤ 1 := by rw [hsv]; split <;> omega
            refine j_if_eq (tgt := 95) hx hb dX5_printOnce_85 (by decide) (fun c42 => ?_) (fun c42 => ?_) (by omega)
            · skip
              refine j_const hx hb dX5_printOnce_95 ?_
              refine j_ior (v := ((sbN σ k (i).toNat : Nat) : Int)) hx hb dX5_printOnce_96 (bit_or0 _ (by omega)) ?_
              refine m_put (C := RX5) (T := TX5) (N := 7) (ci := 4) hx hb hts i_X5 tyX5 tyX5_ok nmX5 hown hK hH hS hI.1 rfl 6 (by decide) f_2 rfl rfl rfl (Nat.le_of_ble_eq_true rfl) dX5_printOnce_97 (fun H locs hH hS => ?_)
              have hI : IsSt G (hu (hu ν st (.inr (4, [.ref (st + 1), .ref (st + 14), .int (iv ((wearF σ k (i).toNat) 4)), .int (iv ((wearF σ k (i).toNat) 9)), .int (iv ((wearF σ k (i).toNat) 10)), .int (iv (((fbN σ k (i).toNat + 2 ^ (i).toNat : Nat)) : Int)), .int (iv ((sbN σ k (i).toNat : Nat) : Int))]))) st (.inr (4, [.ref (st + 1), .ref (st + 14), .int (iv ((wearF σ k (i).toNat) 4)), .int (iv ((wearF σ k (i).toNat) 9)), .int (iv ((wearF σ k (i).toNat) 10)), .int (iv (((fbN σ k (i).toNat + 2 ^ (i).toNat : Nat)) : Int)), .int (iv ((sbN σ k (i).toNat : Nat) : Int))]))) st π (wearF σ k (i).toNat) (((fbN σ k (i).toNat + 2 ^ (i).toNat : Nat)) : Int) ((sbN σ k (i).toNat : Nat) : Int) := hI.st (wearF σ k (i).toNat) (((fbN σ k (i).toNat + 2 ^ (i).toNat : Nat)) : Int) ((sbN σ k (i).toNat : Nat) : Int) (fun j h1 h2 h3 => rfl)
              have hfr : ∀ q, (q < st ∨ st + 15 ≤ q) → (hu (hu ν st (.inr (4, [.ref (st + 1), .ref (st + 14), .int (iv ((wearF σ k (i).toNat) 4)), .int (iv ((wearF σ k (i).toNat) 9)), .int (iv ((wearF σ k (i).toNat) 10)), .int (iv (((fbN σ k (i).toNat + 2 ^ (i).toNat : Nat)) : Int)), .int (iv ((sbN σ k (i).toNat : Nat) : Int))]))) st (.inr (4, [.ref (st + 1), .ref (st + 14), .int (iv ((wearF σ k (i).toNat) 4)), .int (iv ((wearF σ k (i).toNat) 9)), .int (iv ((wearF σ k (i).toNat) 10)), .int (iv (((fbN σ k (i).toNat + 2 ^ (i).toNat : Nat)) : Int)), .int (iv ((sbN σ k (i).toNat : Nat) : Int))]))) q = μ q := fun q hq => (hu_n (by omega)).trans (hfr q hq)
              have hH : gP G (hu (hu ν st (.inr (4, [.ref (st + 1), .ref (st + 14), .int (iv ((wearF σ k (i).toNat) 4)), .int (iv ((wearF σ k (i).toNat) 9)), .int (iv ((wearF σ k (i).toNat) 10)), .int (iv (((fbN σ k (i).toNat + 2 ^ (i).toNat : Nat)) : Int)), .int (iv ((sbN σ k (i).toNat : Nat) : Int))]))) st (.inr (4, [.ref (st + 1), .ref (st + 14), .int (iv ((wearF σ k (i).toNat) 4)), .int (iv ((wearF σ k (i).toNat) 9)), .int (iv ((wearF σ k (i).toNat) 10)), .int (iv (((fbN σ k (i).toNat + 2 ^ (i).toNat : Nat)) : Int)), .int (iv ((sbN σ k (i).toNat : Nat) : Int))]))) ν0 H := hH
              refine lv_aload_n hx hb dX5_printOnce_100 rfl (lv_at hl 1 rfl) ?_
              refine m_get (C := RX5) (T := TX5) (N := 7) (ci := 4) hx hb hts i_X5 hown hK hH hI.1 rfl 0 (by decide) f_8 rfl dX5_printOnce_101 ?_
              refine lv_iload hx hb dX5_printOnce_104 (lv_at hl 5 rfl) ?_
              refine m_aald (b := (st + 2 + 2 * π (i).toNat)) hx hb hK hH 2 hI.2.1 rfl rfl dX5_printOnce_106 ?_ (by omega) (by omega)
              refine j_const hx hb dX5_printOnce_107 ?_
              refine lv_iload_n hx hb dX5_printOnce_108 rfl (lv_at hl 3 rfl) ?_
              refine j_const hx hb dX5_printOnce_109 ?_
              refine j_idiv hx hb dX5_printOnce_110 ?_ (by omega) (by omega)
              refine j_iadd hx hb dX5_printOnce_111 ?_
              have hbp := hok1.2.2.2.2 (i).toNat (by omega)
              have hwp := hok1.w (p := (i).toNat) (by omega)
              refine m_callVv (As := [.int (iv (1 + (k / 4)))]) (rest := []) ⟨hx, hb, hml, hown, hts⟩ hK hH hS (c_X0_wearShown l G (hu (hu ν st (.inr (4, [.ref (st + 1), .ref (st + 14), .int (iv ((wearF σ k (i).toNat) 4)), .int (iv ((wearF σ k (i).toNat) 9)), .int (iv ((wearF σ k (i).toNat) 10)), .int (iv (((fbN σ k (i).toNat + 2 ^ (i).toNat : Nat)) : Int)), .int (iv ((sbN σ k (i).toNat : Nat) : Int))]))) st (.inr (4, [.ref (st + 1), .ref (st + 14), .int (iv ((wearF σ k (i).toNat) 4)), .int (iv ((wearF σ k (i).toNat) 9)), .int (iv ((wearF σ k (i).toNat) 10)), .int (iv (((fbN σ k (i).toNat + 2 ^ (i).toNat : Nat)) : Int)), .int (iv ((sbN σ k (i).toNat : Nat) : Int))]))) ν0 (st + 2 + 2 * π (i).toNat) (st + 3 + 2 * π (i).toNat) ((wearF σ k (i).toNat) (85 + 13 * (i).toNat)) ((wearF σ k (i).toNat) (86 + 13 * (i).toNat)) ((wearF σ k (i).toNat) (87 + 13 * (i).toNat)) (roww (wearF σ k (i).toNat) (i).toNat) (1 + (k / 4)) (hI.2.2.2.1 (i).toNat (by omega)) (hI.2.2.2.2.1 (i).toNat (by omega)) hbp.2.1 (hwp _ (by omega)) (by omega)) (cwV 1 hts gX5_printOnce_X0_wearShown rfl rfl rfl (by decide +kernel) ⟨(Nat.le_of_ble_eq_true rfl), (Nat.le_of_ble_eq_true rfl)⟩) (hI.2.2.2.1 (i).toNat (by omega)) rfl rfl rfl rfl hl.1 (Nat.le_of_ble_eq_true rfl) dX5_printOnce_112 ⟨Nat.zero_le _, Nat.zero_le _⟩ (fun μ43 n44 H locs hp45 hH hS => ?_)
              obtain ⟨hm2, hn2⟩ := hp45; rw [hm2, hn2] at hH; clear hm2 hn2
              have hpp := hI.2.2.2.2.2.1 (i).toNat (by omega)
              have hI : IsSt G (hu (hu (hu ν st (.inr (4, [.ref (st + 1), .ref (st + 14), .int (iv ((wearF σ k (i).toNat) 4)), .int (iv ((wearF σ k (i).toNat) 9)), .int (iv ((wearF σ k (i).toNat) 10)), .int (iv (((fbN σ k (i).toNat + 2 ^ (i).toNat : Nat)) : Int)), .int (iv ((sbN σ k (i).toNat : Nat) : Int))]))) st (.inr (4, [.ref (st + 1), .ref (st + 14), .int (iv ((wearF σ k (i).toNat) 4)), .int (iv ((wearF σ k (i).toNat) 9)), .int (iv ((wearF σ k (i).toNat) 10)), .int (iv (((fbN σ k (i).toNat + 2 ^ (i).toNat : Nat)) : Int)), .int (iv ((sbN σ k (i).toNat : Nat) : Int))]))) (st + 3 + 2 * π (i).toNat) (.inl (G.2.1 0, 10, .inl (fun j => iv (fu (roww (wearF σ k (i).toNat) (i).toNat) ((wearF σ k (i).toNat) (86 + 13 * (i).toNat)).toNat (min 99 (roww (wearF σ k (i).toNat) (i).toNat ((wearF σ k (i).toNat) (86 + 13 * (i).toNat)).toNat + (1 + k / 4))) j))))) st π (fu (wearF σ k (i).toNat) (88 + 13 * (i).toNat + ((wearF σ k (i).toNat) (86 + 13 * (i).toNat)).toNat) (min 99 (roww (wearF σ k (i).toNat) (i).toNat ((wearF σ k (i).toNat) (86 + 13 * (i).toNat)).toNat + (1 + k / 4)))) (((fbN σ k (i).toNat + 2 ^ (i).toNat : Nat)) : Int) ((sbN σ k (i).toNat : Nat) : Int) := hI.ws (by omega) (by omega) (min 99 (roww (wearF σ k (i).toNat) (i).toNat ((wearF σ k (i).toNat) (86 + 13 * (i).toNat)).toNat + (1 + k / 4)))
              have hfr : ∀ q, (q < st ∨ st + 15 ≤ q) → (hu (hu (hu ν st (.inr (4, [.ref (st + 1), .ref (st + 14), .int (iv ((wearF σ k (i).toNat) 4)), .int (iv ((wearF σ k (i).toNat) 9)), .int (iv ((wearF σ k (i).toNat) 10)), .int (iv (((fbN σ k (i).toNat + 2 ^ (i).toNat : Nat)) : Int)), .int (iv ((sbN σ k (i).toNat : Nat) : Int))]))) st (.inr (4, [.ref (st + 1), .ref (st + 14), .int (iv ((wearF σ k (i).toNat) 4)), .int (iv ((wearF σ k (i).toNat) 9)), .int (iv ((wearF σ k (i).toNat) 10)), .int (iv (((fbN σ k (i).toNat + 2 ^ (i).toNat : Nat)) : Int)), .int (iv ((sbN σ k (i).toNat : Nat) : Int))]))) (st + 3 + 2 * π (i).toNat) (.inl (G.2.1 0, 10, .inl (fun j => iv (fu (roww (wearF σ k (i).toNat) (i).toNat) ((wearF σ k (i).toNat) (86 + 13 * (i).toNat)).toNat (min 99 (roww (wearF σ k (i).toNat) (i).toNat ((wearF σ k (i).toNat) (86 + 13 * (i).toNat)).toNat + (1 + k / 4))) j))))) q = μ q := fun q hq => (hu_n (by omega)).trans (hfr q hq)
              refine j_iinc (lv' := [(4, .int (iv (i + 1))), (5, .int (iv (drk σ (i).toNat k))), (0, .ref st), (1, .int (iv D)), (2, .int (iv k)), (3, .int (iv sw))]) hx hb dX5_printOnce_115 hl (k := 5) rfl (by decide) rfl (fun ls hl => ?_)
              refine lv_goto (tgt := 27) hx hb dX5_printOnce_118 (by decide) ?_
              exact ih6 (i + 1) sw (hu (hu (hu ν st (.inr (4, [.ref (st + 1), .ref (st + 14), .int (iv ((wearF σ k (i).toNat) 4)), .int (iv ((wearF σ k (i).toNat) 9)), .int (iv ((wearF σ k (i).toNat) 10)), .int (iv (((fbN σ k (i).toNat + 2 ^ (i).toNat : Nat)) : Int)), .int (iv ((sbN σ k (i).toNat : Nat) : Int))]))) st (.inr (4, [.ref (st + 1), .ref (st + 14), .int (iv ((wearF σ k (i).toNat) 4)), .int (iv ((wearF σ k (i).toNat) 9)), .int (iv ((wearF σ k (i).toNat) 10)), .int (iv (((fbN σ k (i).toNat + 2 ^ (i).toNat : Nat)) : Int)), .int (iv ((sbN σ k (i).toNat : Nat) : Int))]))) (st + 3 + 2 * π (i).toNat) (.inl (G.2.1 0, 10, .inl (fun j => iv (fu (roww (wearF σ k (i).toNat) (i).toNat) ((wearF σ k (i).toNat) (86 + 13 * (i).toNat)).toNat (min 99 (roww (wearF σ k (i).toNat) (i).toNat ((wearF σ k (i).toNat) (86 + 13 * (i).toNat)).toNat + (1 + k / 4))) j))))) ν0 (by omega) hsw (by rw [tN1 hi.1, fbN_y (by split at hfv <;> omega), sbN_n (by split at hsv <;> omega), ← wear_step hOk k (by omega)]; exact hI) hfr (by omega) H locs ls hH hS (lv_sub hl [2, 3, 4, 5, 0] rfl)
            · skip
              refine j_const hx hb dX5_printOnce_88 ?_
              refine lv_iload hx hb dX5_printOnce_89 (lv_at hl 5 rfl) ?_
              refine j_ishl (v := ((2 ^ (i).toNat : Nat) : Int)) hx hb dX5_printOnce_91 (by have h := bit_shl (i).toNat (by omega); rw [hiN] at h; exact h) ?_
              refine lv_goto (tgt := 96) hx hb dX5_printOnce_92 (by decide) ?_
              refine j_ior (v := (((sbN σ k (i).toNat + 2 ^ (i).toNat : Nat)) : Int)) hx hb dX5_printOnce_96 (bit_or (i).toNat (by omega) _ hslt) ?_
              refine m_put (C := RX5) (T := TX5) (N := 7) (ci := 4) hx hb hts i_X5 tyX5 tyX5_ok nmX5 hown hK hH hS hI.1 rfl 6 (by decide) f_2 rfl rfl rfl (Nat.le_of_ble_eq_true rfl) dX5_printOnce_97 (fun H locs hH hS => ?_)
              have hI : IsSt G (hu (hu ν st (.inr (4, [.ref (st + 1), .ref (st + 14), .int (iv ((wearF σ k (i).toNat) 4)), .int (iv ((wearF σ k (i).toNat) 9)), .int (iv ((wearF σ k (i).toNat) 10)), .int (iv (((fbN σ k (i).toNat + 2 ^ (i).toNat : Nat)) : Int)), .int (iv ((sbN σ k (i).toNat : Nat) : Int))]))) st (.inr (4, [.ref (st + 1), .ref (st + 14), .int (iv ((wearF σ k (i).toNat) 4)), .int (iv ((wearF σ k (i).toNat) 9)), .int (iv ((wearF σ k (i).toNat) 10)), .int (iv (((fbN σ k (i).toNat + 2 ^ (i).toNat : Nat)) : Int)), .int (iv (((sbN σ k (i).toNat + 2 ^ (i).toNat : Nat)) : Int))]))) st π (wearF σ k (i).toNat) (((fbN σ k (i).toNat + 2 ^ (i).toNat : Nat)) : Int) (((sbN σ k (i).toNat + 2 ^ (i).toNat : Nat)) : Int) := hI.st (wearF σ k (i).toNat) (((fbN σ k (i).toNat + 2 ^ (i).toNat : Nat)) : Int) (((sbN σ k (i).toNat + 2 ^ (i).toNat : Nat)) : Int) (fun j h1 h2 h3 => rfl)
              have hfr : ∀ q, (q < st ∨ st + 15 ≤ q) → (hu (hu ν st (.inr (4, [.ref (st + 1), .ref (st + 14), .int (iv ((wearF σ k (i).toNat) 4)), .int (iv ((wearF σ k (i).toNat) 9)), .int (iv ((wearF σ k (i).toNat) 10)), .int (iv (((fbN σ k (i).toNat + 2 ^ (i).toNat : Nat)) : Int)), .int (iv ((sbN σ k (i).toNat : Nat) : Int))]))) st (.inr (4, [.ref (st + 1), .ref (st + 14), .int (iv ((wearF σ k (i).toNat) 4)), .int (iv ((wearF σ k (i).toNat) 9)), .int (iv ((wearF σ k (i).toNat) 10)), .int (iv (((fbN σ k (i).toNat + 2 ^ (i).toNat : Nat)) : Int)), .int (iv (((sbN σ k (i).toNat + 2 ^ (i).toNat : Nat)) : Int))]))) q = μ q := fun q hq => (hu_n (by omega)).trans (hfr q hq)
              have hH : gP G (hu (hu ν st (.inr (4, [.ref (st + 1), .ref (st + 14), .int (iv ((wearF σ k (i).toNat) 4)), .int (iv ((wearF σ k (i).toNat) 9)), .int (iv ((wearF σ k (i).toNat) 10)), .int (iv (((fbN σ k (i).toNat + 2 ^ (i).toNat : Nat)) : Int)), .int (iv ((sbN σ k (i).toNat : Nat) : Int))]))) st (.inr (4, [.ref (st + 1), .ref (st + 14), .int (iv ((wearF σ k (i).toNat) 4)), .int (iv ((wearF σ k (i).toNat) 9)), .int (iv ((wearF σ k (i).toNat) 10)), .int (iv (((fbN σ k (i).toNat + 2 ^ (i).toNat : Nat)) : Int)), .int (iv (((sbN σ k (i).toNat + 2 ^ (i).toNat : Nat)) : Int))]))) ν0 H := hH
              refine lv_aload_n hx hb dX5_printOnce_100 rfl (lv_at hl 1 rfl) ?_
              refine m_get (C := RX5) (T := TX5) (N := 7) (ci := 4) hx hb hts i_X5 hown hK hH hI.1 rfl 0 (by decide) f_8 rfl dX5_printOnce_101 ?_
              refine lv_iload hx hb dX5_printOnce_104 (lv_at hl 5 rfl) ?_
              refine m_aald (b := (st + 2 + 2 * π (i).toNat)) hx hb hK hH 2 hI.2.1 rfl rfl dX5_printOnce_106 ?_ (by omega) (by omega)
              refine j_const hx hb dX5_printOnce_107 ?_
              refine lv_iload_n hx hb dX5_printOnce_108 rfl (lv_at hl 3 rfl) ?_
              refine j_const hx hb dX5_printOnce_109 ?_
              refine j_idiv hx hb dX5_printOnce_110 ?_ (by omega) (by omega)
              refine j_iadd hx hb dX5_printOnce_111 ?_
              have hbp := hok1.2.2.2.2 (i).toNat (by omega)
              have hwp := hok1.w (p := (i).toNat) (by omega)
              refine m_callVv (As := [.int (iv (1 + (k / 4)))]) (rest := []) ⟨hx, hb, hml, hown, hts⟩ hK hH hS (c_X0_wearShown l G (hu (hu ν st (.inr (4, [.ref (st + 1), .ref (st + 14), .int (iv ((wearF σ k (i).toNat) 4)), .int (iv ((wearF σ k (i).toNat) 9)), .int (iv ((wearF σ k (i).toNat) 10)), .int (iv (((fbN σ k (i).toNat + 2 ^ (i).toNat : Nat)) : Int)), .int (iv ((sbN σ k (i).toNat : Nat) : Int))]))) st (.inr (4, [.ref (st + 1), .ref (st + 14), .int (iv ((wearF σ k (i).toNat) 4)), .int (iv ((wearF σ k (i).toNat) 9)), .int (iv ((wearF σ k (i).toNat) 10)), .int (iv (((fbN σ k (i).toNat + 2 ^ (i).toNat : Nat)) : Int)), .int (iv (((sbN σ k (i).toNat + 2 ^ (i).toNat : Nat)) : Int))]))) ν0 (st + 2 + 2 * π (i).toNat) (st + 3 + 2 * π (i).toNat) ((wearF σ k (i).toNat) (85 + 13 * (i).toNat)) ((wearF σ k (i).toNat) (86 + 13 * (i).toNat)) ((wearF σ k (i).toNat) (87 + 13 * (i).toNat)) (roww (wearF σ k (i).toNat) (i).toNat) (1 + (k / 4)) (hI.2.2.2.1 (i).toNat (by omega)) (hI.2.2.2.2.1 (i).toNat (by omega)) hbp.2.1 (hwp _ (by omega)) (by omega)) (cwV 1 hts gX5_printOnce_X0_wearShown rfl rfl rfl (by decide +kernel) ⟨(Nat.le_of_ble_eq_true rfl), (Nat.le_of_ble_eq_true rfl)⟩) (hI.2.2.2.1 (i).toNat (by omega)) rfl rfl rfl rfl hl.1 (Nat.le_of_ble_eq_true rfl) dX5_printOnce_112 ⟨Nat.zero_le _, Nat.zero_le _⟩ (fun μ46 n47 H locs hp48 hH hS => ?_)
              obtain ⟨hm2, hn2⟩ := hp48; rw [hm2, hn2] at hH; clear hm2 hn2
              have hpp := hI.2.2.2.2.2.1 (i).toNat (by omega)
              have hI : IsSt G (hu (hu (hu ν st (.inr (4, [.ref (st + 1), .ref (st + 14), .int (iv ((wearF σ k (i).toNat) 4)), .int (iv ((wearF σ k (i).toNat) 9)), .int (iv ((wearF σ k (i).toNat) 10)), .int (iv (((fbN σ k (i).toNat + 2 ^ (i).toNat : Nat)) : Int)), .int (iv ((sbN σ k (i).toNat : Nat) : Int))]))) st (.inr (4, [.ref (st + 1), .ref (st + 14), .int (iv ((wearF σ k (i).toNat) 4)), .int (iv ((wearF σ k (i).toNat) 9)), .int (iv ((wearF σ k (i).toNat) 10)), .int (iv (((fbN σ k (i).toNat + 2 ^ (i).toNat : Nat)) : Int)), .int (iv (((sbN σ k (i).toNat + 2 ^ (i).toNat : Nat)) : Int))]))) (st + 3 + 2 * π (i).toNat) (.inl (G.2.1 0, 10, .inl (fun j => iv (fu (roww (wearF σ k (i).toNat) (i).toNat) ((wearF σ k (i).toNat) (86 + 13 * (i).toNat)).toNat (min 99 (roww (wearF σ k (i).toNat) (i).toNat ((wearF σ k (i).toNat) (86 + 13 * (i).toNat)).toNat + (1 + k / 4))) j))))) st π (fu (wearF σ k (i).toNat) (88 + 13 * (i).toNat + ((wearF σ k (i).toNat) (86 + 13 * (i).toNat)).toNat) (min 99 (roww (wearF σ k (i).toNat) (i).toNat ((wearF σ k (i).toNat) (86 + 13 * (i).toNat)).toNat + (1 + k / 4)))) (((fbN σ k (i).toNat + 2 ^ (i).toNat : Nat)) : Int) (((sbN σ k (i).toNat + 2 ^ (i).toNat : Nat)) : Int) := hI.ws (by omega) (by omega) (min 99 (roww (wearF σ k (i).toNat) (i).toNat ((wearF σ k (i).toNat) (86 + 13 * (i).toNat)).toNat + (1 + k / 4)))
              have hfr : ∀ q, (q < st ∨ st + 15 ≤ q) → (hu (hu (hu ν st (.inr (4, [.ref (st + 1), .ref (st + 14), .int (iv ((wearF σ k (i).toNat) 4)), .int (iv ((wearF σ k (i).toNat) 9)), .int (iv ((wearF σ k (i).toNat) 10)), .int (iv (((fbN σ k (i).toNat + 2 ^ (i).toNat : Nat)) : Int)), .int (iv ((sbN σ k (i).toNat : Nat) : Int))]))) st (.inr (4, [.ref (st + 1), .ref (st + 14), .int (iv ((wearF σ k (i).toNat) 4)), .int (iv ((wearF σ k (i).toNat) 9)), .int (iv ((wearF σ k (i).toNat) 10)), .int (iv (((fbN σ k (i).toNat + 2 ^ (i).toNat : Nat)) : Int)), .int (iv (((sbN σ k (i).toNat + 2 ^ (i).toNat : Nat)) : Int))]))) (st + 3 + 2 * π (i).toNat) (.inl (G.2.1 0, 10, .inl (fun j => iv (fu (roww (wearF σ k (i).toNat) (i).toNat) ((wearF σ k (i).toNat) (86 + 13 * (i).toNat)).toNat (min 99 (roww (wearF σ k (i).toNat) (i).toNat ((wearF σ k (i).toNat) (86 + 13 * (i).toNat)).toNat + (1 + k / 4))) j))))) q = μ q := fun q hq => (hu_n (by omega)).trans (hfr q hq)
              refine j_iinc (lv' := [(4, .int (iv (i + 1))), (5, .int (iv (drk σ (i).toNat k))), (0, .ref st), (1, .int (iv D)), (2, .int (iv k)), (3, .int (iv sw))]) hx hb dX5_printOnce_115 hl (k := 5) rfl (by decide) rfl (fun ls hl => ?_)
              refine lv_goto (tgt := 27) hx hb dX5_printOnce_118 (by decide) ?_
              exact ih6 (i + 1) sw (hu (hu (hu ν st (.inr (4, [.ref (st + 1), .ref (st + 14), .int (iv ((wearF σ k (i).toNat) 4)), .int (iv ((wearF σ k (i).toNat) 9)), .int (iv ((wearF σ k (i).toNat) 10)), .int (iv (((fbN σ k (i).toNat + 2 ^ (i).toNat : Nat)) : Int)), .int (iv ((sbN σ k (i).toNat : Nat) : Int))]))) st (.inr (4, [.ref (st + 1), .ref (st + 14), .int (iv ((wearF σ k (i).toNat) 4)), .int (iv ((wearF σ k (i).toNat) 9)), .int (iv ((wearF σ k (i).toNat) 10)), .int (iv (((fbN σ k (i).toNat + 2 ^ (i).toNat : Nat)) : Int)), .int (iv (((sbN σ k (i).toNat + 2 ^ (i).toNat : Nat)) : Int))]))) (st + 3 + 2 * π (i).toNat) (.inl (G.2.1 0, 10, .inl (fun j => iv (fu (roww (wearF σ k (i).toNat) (i).toNat) ((wearF σ k (i).toNat) (86 + 13 * (i).toNat)).toNat (min 99 (roww (wearF σ k (i).toNat) (i).toNat ((wearF σ k (i).toNat) (86 + 13 * (i).toNat)).toNat + (1 + k / 4))) j))))) ν0 (by omega) hsw (by rw [tN1 hi.1, fbN_y (by split at hfv <;> omega), sbN_y (by split at hsv <;> omega), ← wear_step hOk k (by omega)]; exact hI) hfr (by omega) H locs ls hH hS (lv_sub hl [2, 3, 4, 5, 0] rfl)
    exact lp27 (7) 0 0 (hu (hu μ st (.inr (4, [.ref (st + 1), .ref (st + 14), .int (iv (σ 4)), .int (iv (σ 9)), .int (iv (σ 10)), .int (iv 0), .int (iv sp)]))) st (.inr (4, [.ref (st + 1), .ref (st + 14), .int (iv (σ 4)), .int (iv (σ 9)), .int (iv (σ 10)), .int (iv 0), .int (iv 0)]))) n (by omega) (by first | (rw [if_pos (by omega)]) | (rw [if_neg (by omega)])) hI hfr (by omega) H locs ls hH hS (lv_sub hl [2, 3, 4, 1, 0] rfl)
  · skip
    refine j_const hx hb dX5_printOnce_8 ?_
    refine lv_goto (tgt := 13) hx hb dX5_printOnce_9 (by decide) ?_
    refine lv_istore_n (lv' := [(3, .int (iv 1)), (0, .ref st), (1, .int (iv D)), (2, .int (iv k))]) hx hb dX5_printOnce_13 rfl hl (by decide) rfl (fun ls hl => ?_)
    refine lv_aload_n hx hb dX5_printOnce_14 rfl (lv_at hl 1 rfl) ?_
    refine j_const hx hb dX5_printOnce_15 ?_
    refine m_put (C := RX5) (T := TX5) (N := 7) (ci := 4) hx hb hts i_X5 tyX5 tyX5_ok nmX5 hown hK hH hS hI.1 rfl 5 (by decide) f_0 rfl rfl rfl (Nat.le_of_ble_eq_true rfl) dX5_printOnce_16 (fun H locs hH hS => ?_)
    have hI : IsSt G (hu μ st (.inr (4, [.ref (st + 1), .ref (st + 14), .int (iv (σ 4)), .int (iv (σ 9)), .int (iv (σ 10)), .int (iv 0), .int (iv sp)]))) st π σ 0 sp := hI.st σ 0 sp (fun j h1 h2 h3 => rfl)
    have hfr : ∀ q, (q < st ∨ st + 15 ≤ q) → (hu μ st (.inr (4, [.ref (st + 1), .ref (st + 14), .int (iv (σ 4)), .int (iv (σ 9)), .int (iv (σ 10)), .int (iv 0), .int (iv sp)]))) q = μ q := fun q hq => (hu_n (by omega)).trans (hfr q hq)
    have hH : gP G (hu μ st (.inr (4, [.ref (st + 1), .ref (st + 14), .int (iv (σ 4)), .int (iv (σ 9)), .int (iv (σ 10)), .int (iv 0), .int (iv sp)]))) n H := hH
    refine lv_aload_n hx hb dX5_printOnce_19 rfl (lv_at hl 1 rfl) ?_
    refine j_const hx hb dX5_printOnce_20 ?_
    refine m_put (C := RX5) (T := TX5) (N := 7) (ci := 4) hx hb hts i_X5 tyX5 tyX5_ok nmX5 hown hK hH hS hI.1 rfl 6 (by decide) f_2 rfl rfl rfl (Nat.le_of_ble_eq_true rfl) dX5_printOnce_21 (fun H locs hH hS => ?_)
    have hI : IsSt G (hu (hu μ st (.inr (4, [.ref (st + 1), .ref (st + 14), .int (iv (σ 4)), .int (iv (σ 9)), .int (iv (σ 10)), .int (iv 0), .int (iv sp)]))) st (.inr (4, [.ref (st + 1), .ref (st + 14), .int (iv (σ 4)), .int (iv (σ 9)), .int (iv (σ 10)), .int (iv 0), .int (iv 0)]))) st π σ 0 0 := hI.st σ 0 0 (fun j h1 h2 h3 => rfl)
    have hfr : ∀ q, (q < st ∨ st + 15 ≤ q) → (hu (hu μ st (.inr (4, [.ref (st + 1), .ref (st + 14), .int (iv (σ 4)), .int (iv (σ 9)), .int (iv (σ 10)), .int (iv 0), .int (iv sp)]))) st (.inr (4, [.ref (st + 1), .ref (st + 14), .int (iv (σ 4)), .int (iv (σ 9)), .int (iv (σ 10)), .int (iv 0), .int (iv 0)]))) q = μ q := fun q hq => (hu_n (by omega)).trans (hfr q hq)
    have hH : gP G (hu (hu μ st (.inr (4, [.ref (st + 1), .ref (st + 14), .int (iv (σ 4)), .int (iv (σ 9)), .int (iv (σ 10)), .int (iv 0), .int (iv sp)]))) st (.inr (4, [.ref (st + 1), .ref (st + 14), .int (iv (σ 4)), .int (iv (σ 9)), .int (iv (σ 10)), .int (iv 0), .int (iv 0)]))) n H := hH
    refine j_const hx hb dX5_printOnce_24 ?_
    refine lv_istore (lv' := [(4, .int (iv 0)), (3, .int (iv 1)), (0, .ref st), (1, .int (iv D)), (2, .int (iv k))]) hx hb dX5_printOnce_25 hl (by decide) rfl (fun ls hl => ?_)
    have lp27 : ∀ (fuel : Nat) (i : Int) (sw : Int) (ν : hM) (ν0 : Nat) (hi : 0 ≤ i ∧ i ≤ 6) (hsw : sw = if shw σ 6 = D then 1 else 0) (hI : IsSt G ν st π (wearF σ k i.toNat) ((fbN σ k i.toNat : Nat) : Int) ((sbN σ k i.toNat : Nat) : Int)) (hfr : ∀ q, (q < st ∨ st + 15 ≤ q) → ν q = μ q) (_ : (6 - i).toNat < fuel) (H : Heap) (locs : List Loc) (ls : Array Slot) (_ : gP G ν ν0 H) (_ : va_S (gA G) s.heap H locs) (_ : lv_has ls 6 [(0, .ref st), (1, .int (iv D)), (2, .int (iv k)), (3, .int (iv sw)), (4, .int (iv i))]), W p l e rm_c_X5_printOnce s m args below meth c H locs 0 0 Q (F0 m 27 ls []) := by
      intro fuel
      induction fuel with
      | zero => intro _ _ _ _ _ _ _ _ hfuel; exact absurd hfuel (Nat.not_lt_zero _)
      | succ fuel ih =>
        intro i sw ν ν0 hi hsw hI hfr hfuel H locs ls hH hS hl
        have ih49 := ih; clear ih
        refine lv_iload hx hb dX5_printOnce_27 (lv_at hl 4 rfl) ?_
        refine j_bipush hx hb dX5_printOnce_29 ?_ (by decide)
        refine j_icmp_ge (tgt := 121) hx hb dX5_printOnce_31 (by decide) (fun c50 => ?_) (fun c50 => ?_) (by omega) (by omega)
        · skip
          rw [show (i).toNat = 6 by omega] at hI
          have hw4 : wearF σ k 6 4 = σ 4 := wear_ot hOk k (by omega) _ (by omega)
          have h4 := hOk.2.2.2.1
          have hf6 := fbN_lt σ k 6
          have hs6b := sbN_lt σ k 6
          rw [show 2 ^ 6 = 64 from rfl] at hf6 hs6b
          refine lv_aload_n hx hb dX5_printOnce_121 rfl (lv_at hl 0 rfl) ?_
          refine j_const hx hb dX5_printOnce_122 ?_
          refine lv_aload_n hx hb dX5_printOnce_123 rfl (lv_at hl 0 rfl) ?_
          refine m_get (C := RX5) (T := TX5) (N := 7) (ci := 4) hx hb hts i_X5 hown hK hH hI.1 rfl 2 (by decide) f_3 rfl dX5_printOnce_124 ?_
          refine lv_iload_n hx hb dX5_printOnce_127 rfl (lv_at hl 2 rfl) ?_
          refine j_isub hx hb dX5_printOnce_128 ?_
          refine m_max hx hb (hml.trans hl.1.symm) hown f_4 f_5 f_6 f_7 (Nat.le_of_ble_eq_true rfl) (Nat.le_of_ble_eq_true rfl) (Nat.le_of_ble_eq_true rfl) (Nat.le_of_ble_eq_true rfl) dX5_printOnce_129 ?_ (by omega) (by omega)
          refine m_put (C := RX5) (T := TX5) (N := 7) (ci := 4) hx hb hts i_X5 tyX5 tyX5_ok nmX5 hown hK hH hS hI.1 rfl 2 (by decide) f_3 rfl rfl rfl (Nat.le_of_ble_eq_true rfl) dX5_printOnce_132 (fun H locs hH hS => ?_)
          have hI : IsSt G (hu ν st (.inr (4, [.ref (st + 1), .ref (st + 14), .int (iv (max 0 (((wearF σ k 6) 4) - k))), .int (iv ((wearF σ k 6) 9)), .int (iv ((wearF σ k 6) 10)), .int (iv ((fbN σ k 6 : Nat) : Int)), .int (iv ((sbN σ k 6 : Nat) : Int))]))) st π (fu (wearF σ k 6) 4 (max 0 (((wearF σ k 6) 4) - k))) ((fbN σ k 6 : Nat) : Int) ((sbN σ k 6 : Nat) : Int) := hI.st (fu (wearF σ k 6) 4 (max 0 (((wearF σ k 6) 4) - k))) ((fbN σ k 6 : Nat) : Int) ((sbN σ k 6 : Nat) : Int) (fun j h1 h2 h3 => fu_n h1)
          have hfr : ∀ q, (q < st ∨ st + 15 ≤ q) → (hu ν st (.inr (4, [.ref (st + 1), .ref (st + 14), .int (iv (max 0 (((wearF σ k 6) 4) - k))), .int (iv ((wearF σ k 6) 9)), .int (iv ((wearF σ k 6) 10)), .int (iv ((fbN σ k 6 : Nat) : Int)), .int (iv ((sbN σ k 6 : Nat) : Int))]))) q = μ q := fun q hq => (hu_n (by omega)).trans (hfr q hq)
          have hH : gP G (hu ν st (.inr (4, [.ref (st + 1), .ref (st + 14), .int (iv (max 0 (((wearF σ k 6) 4) - k))), .int (iv ((wearF σ k 6) 9)), .int (iv ((wearF σ k 6) 10)), .int (iv ((fbN σ k 6 : Nat) : Int)), .int (iv ((sbN σ k 6 : Nat) : Int))]))) ν0 H := hH
          have hI : IsSt G (hu ν st (.inr (4, [.ref (st + 1), .ref (st + 14), .int (iv (max 0 (((wearF σ k 6) 4) - k))), .int (iv ((wearF σ k 6) 9)), .int (iv ((wearF σ k 6) 10)), .int (iv ((fbN σ k 6 : Nat) : Int)), .int (iv ((sbN σ k 6 : Nat) : Int))]))) st π (inkF σ k) ((fbN σ k 6 : Nat) : Int) ((sbN σ k 6 : Nat) : Int) := hI
          refine lv_iload_n hx hb dX5_printOnce_135 rfl (lv_at hl 2 rfl) ?_
          refine j_bipush hx hb dX5_printOnce_136 ?_ (by decide)
          refine j_icmp_lt (tgt := 145) hx hb dX5_printOnce_138 (by decide) (fun c51 => ?_) (fun c51 => ?_) (by omega) (by omega)
          · skip
            have hsw1 : 0 ≤ sw ∧ sw ≤ 1 := by rw [hsw]; split <;> omega
            refine lv_iload_n hx hb dX5_printOnce_145 rfl (lv_at hl 3 rfl) ?_
            refine j_if_eq (tgt := 167) hx hb dX5_printOnce_146 (by decide) (fun c52 => ?_) (fun c52 => ?_) (by omega)
            · skip
              refine j_const hx hb dX5_printOnce_167 ?_
              subst hQ
              refine m_zret hx hb hr hlocks hH hS dX5_printOnce_168 ?_ (by omega)
              refine ⟨?_, ?_, hfr⟩
              · unfold rtF
                split at hsw <;> split <;> omega
              · unfold onceF
                first | (rw [if_pos (by omega)]; exact hI) | (rw [if_neg (by omega)]; exact hI)
            · skip
              refine lv_aload_n hx hb dX5_printOnce_149 rfl (lv_at hl 0 rfl) ?_
              refine m_get (C := RX5) (T := TX5) (N := 7) (ci := 4) hx hb hts i_X5 hown hK hH hI.1 rfl 5 (by decide) f_0 rfl dX5_printOnce_150 ?_
              refine j_if_ne (tgt := 167) hx hb dX5_printOnce_153 (by decide) (fun c53 => ?_) (fun c53 => ?_) (by omega)
              · skip
                refine j_const hx hb dX5_printOnce_167 ?_
                subst hQ
                refine m_zret hx hb hr hlocks hH hS dX5_printOnce_168 ?_ (by omega)
                refine ⟨?_, ?_, hfr⟩
                · unfold rtF
                  split at hsw <;> split <;> omega
                · unfold onceF
                  first | (rw [if_pos (by omega)]; exact hI) | (rw [if_neg (by omega)]; exact hI)
              · skip
                refine lv_aload_n hx hb dX5_printOnce_156 rfl (lv_at hl 0 rfl) ?_
                refine m_get (C := RX5) (T := TX5) (N := 7) (ci := 4) hx hb hts i_X5 hown hK hH hI.1 rfl 6 (by decide) f_2 rfl dX5_printOnce_157 ?_
                refine j_if_ne (tgt := 167) hx hb dX5_printOnce_160 (by decide) (fun c54 => ?_) (fun c54 => ?_) (by omega)
                · skip
                  refine j_const hx hb dX5_printOnce_167 ?_
                  subst hQ
                  refine m_zret hx hb hr hlocks hH hS dX5_printOnce_168 ?_ (by omega)
                  refine ⟨?_, ?_, hfr⟩
                  · unfold rtF
                    split at hsw <;> split <;> omega
                  · unfold onceF
                    first | (rw [if_pos (by omega)]; exact hI) | (rw [if_neg (by omega)]; exact hI)
                · skip
                  refine j_const hx hb dX5_printOnce_163 ?_
                  refine lv_goto (tgt := 168) hx hb dX5_printOnce_164 (by decide) ?_
                  subst hQ
                  refine m_zret hx hb hr hlocks hH hS dX5_printOnce_168 ?_ (by omega)
                  refine ⟨?_, ?_, hfr⟩
                  · unfold rtF
                    split at hsw <;> split <;> omega
                  · unfold onceF
                    first | (rw [if_pos (by omega)]; exact hI) | (rw [if_neg (by omega)]; exact hI)
          · skip
            refine lv_aload_n hx hb dX5_printOnce_141 rfl (lv_at hl 0 rfl) ?_
            refine m_callVv (As := []) (rest := []) ⟨hx, hb, hml, hown, hts⟩ hK hH hS (c_X5_slipLooseBands l G (hu ν st (.inr (4, [.ref (st + 1), .ref (st + 14), .int (iv (max 0 (((wearF σ k 6) 4) - k))), .int (iv ((wearF σ k 6) 9)), .int (iv ((wearF σ k 6) 10)), .int (iv ((fbN σ k 6 : Nat) : Int)), .int (iv ((sbN σ k 6 : Nat) : Int))]))) ν0 st π (inkF σ k) ((fbN σ k 6 : Nat) : Int) ((sbN σ k 6 : Nat) : Int) hI (okS_ink hOk (by omega))) (cwV 0 hts gX5_printOnce_X5_slipLooseBands rfl rfl rfl (by decide +kernel) ⟨(Nat.le_of_ble_eq_true rfl), (Nat.le_of_ble_eq_true rfl)⟩) hI.1 rfl rfl rfl rfl hl.1 (Nat.le_of_ble_eq_true rfl) dX5_printOnce_142 ⟨Nat.zero_le _, Nat.zero_le _⟩ (fun μ55 n56 H locs hp57 hH hS => ?_)
            obtain ⟨hI, hfr1⟩ := hp57
            have hfr : ∀ q, (q < st ∨ st + 15 ≤ q) → μ55 q = μ q := fun q hq => (hfr1 q hq).trans (hfr q hq)
            have hsw1 : 0 ≤ sw ∧ sw ≤ 1 := by rw [hsw]; split <;> omega
            refine lv_iload_n hx hb dX5_printOnce_145 rfl (lv_at hl 3 rfl) ?_
            refine j_if_eq (tgt := 167) hx hb dX5_printOnce_146 (by decide) (fun c58 => ?_) (fun c58 => ?_) (by omega)
            · skip
              refine j_const hx hb dX5_printOnce_167 ?_
              subst hQ
              refine m_zret hx hb hr hlocks hH hS dX5_printOnce_168 ?_ (by omega)
              refine ⟨?_, ?_, hfr⟩
              · unfold rtF
                split at hsw <;> split <;> omega
              · unfold onceF
                first | (rw [if_pos (by omega)]; exact hI) | (rw [if_neg (by omega)]; exact hI)
            · skip
              refine lv_aload_n hx hb dX5_printOnce_149 rfl (lv_at hl 0 rfl) ?_
              refine m_get (C := RX5) (T := TX5) (N := 7) (ci := 4) hx hb hts i_X5 hown hK hH hI.1 rfl 5 (by decide) f_0 rfl dX5_printOnce_150 ?_
              refine j_if_ne (tgt := 167) hx hb dX5_printOnce_153 (by decide) (fun c59 => ?_) (fun c59 => ?_) (by omega)
              · skip
                refine j_const hx hb dX5_printOnce_167 ?_
                subst hQ
                refine m_zret hx hb hr hlocks hH hS dX5_printOnce_168 ?_ (by omega)
                refine ⟨?_, ?_, hfr⟩
                · unfold rtF
                  split at hsw <;> split <;> omega
                · unfold onceF
                  first | (rw [if_pos (by omega)]; exact hI) | (rw [if_neg (by omega)]; exact hI)
              · skip
                refine lv_aload_n hx hb dX5_printOnce_156 rfl (lv_at hl 0 rfl) ?_
                refine m_get (C := RX5) (T := TX5) (N := 7) (ci := 4) hx hb hts i_X5 hown hK hH hI.1 rfl 6 (by decide) f_2 rfl dX5_printOnce_157 ?_
                refine j_if_ne (tgt := 167) hx hb dX5_printOnce_160 (by decide) (fun c60 => ?_) (fun c60 => ?_) (by omega)
                · skip
                  refine j_const hx hb dX5_printOnce_167 ?_
                  subst hQ
                  refine m_zret hx hb hr hlocks hH hS dX5_printOnce_168 ?_ (by omega)
                  refine ⟨?_, ?_, hfr⟩
                  · unfold rtF
                    split at hsw <;> split <;> omega
                  · unfold onceF
                    first | (rw [if_pos (by omega)]; exact hI) | (rw [if_neg (by omega)]; exact hI)
                · skip
                  refine j_const hx hb dX5_printOnce_163 ?_
                  refine lv_goto (tgt := 168) hx hb dX5_printOnce_164 (by decide) ?_
                  subst hQ
                  refine m_zret hx hb hr hlocks hH hS dX5_printOnce_168 ?_ (by omega)
                  refine ⟨?_, ?_, hfr⟩
                  · unfold rtF
                    split at hsw <;> split <;> omega
                  · unfold onceF
                    first | (rw [if_pos (by omega)]; exact hI) | (rw [if_neg (by omega)]; exact hI)
        · skip
          have hok1 := okS_wear hOk (k := k) (by omega) (i).toNat (by omega)
          have hdr := drk_rng hOk (p := (i).toNat) (by omega) (k := k) (by omega)
          have hw0 : (wearF σ k (i).toNat) 0 = σ 0 := wear_ot hOk k (by omega) _ (by omega)
          have hw1 : (wearF σ k (i).toNat) 1 = σ 1 := wear_ot hOk k (by omega) _ (by omega)
          have hflt := fbN_lt σ k (i).toNat
          have hslt := sbN_lt σ k (i).toNat
          have hp6 := pow6 (i).toNat (by omega)
          have hiN : (((i).toNat : Nat) : Int) = i := by omega
          refine lv_aload_n hx hb dX5_printOnce_34 rfl (lv_at hl 0 rfl) ?_
          refine lv_aload_n hx hb dX5_printOnce_35 rfl (lv_at hl 0 rfl) ?_
          refine m_get (C := RX5) (T := TX5) (N := 7) (ci := 4) hx hb hts i_X5 hown hK hH hI.1 rfl 0 (by decide) f_8 rfl dX5_printOnce_36 ?_
          refine lv_iload hx hb dX5_printOnce_39 (lv_at hl 4 rfl) ?_
          refine m_aald (b := (st + 2 + 2 * π (i).toNat)) hx hb hK hH 2 hI.2.1 rfl rfl dX5_printOnce_41 ?_ (by omega) (by omega)
          refine lv_iload_n hx hb dX5_printOnce_42 rfl (lv_at hl 2 rfl) ?_
          refine m_callVi (As := [.ref (st + 2 + 2 * π (i).toNat), .int (iv k)]) (rest := []) ⟨hx, hb, hml, hown, hts⟩ hK hH hS (c_X5_darkness l G ν ν0 st π (wearF σ k (i).toNat) ((fbN σ k (i).toNat : Nat) : Int) ((sbN σ k (i).toNat : Nat) : Int) (i).toNat k hI hok1 (by omega) (by omega)) (cwV 2 hts gX5_printOnce_X5_darkness rfl rfl rfl (by decide +kernel) ⟨(Nat.le_of_ble_eq_true rfl), (Nat.le_of_ble_eq_true rfl)⟩) hI.1 rfl rfl rfl rfl hl.1 (Nat.le_of_ble_eq_true rfl) dX5_printOnce_43 ⟨Nat.zero_le _, Nat.zero_le _⟩ (fun z64 μ61 n62 H locs hz64 hp63 hH hS => ?_)
          obtain ⟨hz2, hm2, hn2⟩ := hp63; rw [hz2]; rw [hm2, hn2] at hH; clear hz2 hm2 hn2
          rw [drk_wear hOk k (by omega)]
          refine lv_istore (lv' := [(5, .int (iv (drk σ (i).toNat k))), (0, .ref st), (1, .int (iv D)), (2, .int (iv k)), (3, .int (iv sw)), (4, .int (iv i))]) hx hb dX5_printOnce_46 hl (by decide) rfl (fun ls hl => ?_)
          refine lv_aload_n hx hb dX5_printOnce_48 rfl (lv_at hl 1 rfl) ?_
          refine lv_dup hx hb dX5_printOnce_49 rfl ?_
          refine m_get (C := RX5) (T := TX5) (N := 7) (ci := 4) hx hb hts i_X5 hown hK hH hI.1 rfl 5 (by decide) f_0 rfl dX5_printOnce_50 ?_
          refine lv_aload_n hx hb dX5_printOnce_53 rfl (lv_at hl 1 rfl) ?_
          refine lv_iload hx hb dX5_printOnce_54 (lv_at hl 0 rfl) ?_
          refine m_callVi (As := [.int (iv (drk σ (i).toNat k))]) (rest := [.int (iv ((fbN σ k (i).toNat : Nat) : Int)), .ref st]) ⟨hx, hb, hml, hown, hts⟩ hK hH hS (c_X5_isFaint l G ν ν0 st π (wearF σ k (i).toNat) ((fbN σ k (i).toNat : Nat) : Int) ((sbN σ k (i).toNat : Nat) : Int) (drk σ (i).toNat k) hI hok1 (by omega)) (cwV 1 hts gX5_printOnce_X5_isFaint rfl rfl rfl (by decide +kernel) ⟨(Nat.le_of_ble_eq_true rfl), (Nat.le_of_ble_eq_true rfl)⟩) hI.1 rfl rfl rfl rfl hl.1 (Nat.le_of_ble_eq_true rfl) dX5_printOnce_56 ⟨Nat.zero_le _, Nat.zero_le _⟩ (fun z68 μ65 n66 H locs hz68 hp67 hH hS => ?_)
          obtain ⟨hz2, hm2, hn2⟩ := hp67; rw [hz2]; rw [hm2, hn2] at hH; clear hz2 hm2 hn2
          refine j_top (fun fv hfv => ?_)
          rw [hw0] at hfv
          have hfr1 : 0 ≤ fv ∧ fv ≤ 1 := by rw [hfv]; split <;> omega
          refine j_if_eq (tgt := 69) hx hb dX5_printOnce_59 (by decide) (fun c69 => ?_) (fun c69 => ?_) (by omega)
          · skip
            refine j_const hx hb dX5_printOnce_69 ?_
            refine j_ior (v := ((fbN σ k (i).toNat : Nat) : Int)) hx hb dX5_printOnce_70 (bit_or0 _ (by omega)) ?_
            refine m_put (C := RX5) (T := TX5) (N := 7) (ci := 4) hx hb hts i_X5 tyX5 tyX5_ok nmX5 hown hK hH hS hI.1 rfl 5 (by decide) f_0 rfl rfl rfl (Nat.le_of_ble_eq_true rfl) dX5_printOnce_71 (fun H locs hH hS => ?_)
            have hI : IsSt G (hu ν st (.inr (4, [.ref (st + 1), .ref (st + 14), .int (iv ((wearF σ k (i).toNat) 4)), .int (iv ((wearF σ k (i).toNat) 9)), .int (iv ((wearF σ k (i).toNat) 10)), .int (iv ((fbN σ k (i).toNat : Nat) : Int)), .int (iv ((sbN σ k (i).toNat : Nat) : Int))]))) st π (wearF σ k (i).toNat) ((fbN σ k (i).toNat : Nat) : Int) ((sbN σ k (i).toNat : Nat) : Int) := hI.st (wearF σ k (i).toNat) ((fbN σ k (i).toNat : Nat) : Int) ((sbN σ k (i).toNat : Nat) : Int) (fun j h1 h2 h3 => rfl)
            have hfr : ∀ q, (q < st ∨ st + 15 ≤ q) → (hu ν st (.inr (4, [.ref (st + 1), .ref (st + 14), .int (iv ((wearF σ k (i).toNat) 4)), .int (iv ((wearF σ k (i).toNat) 9)), .int (iv ((wearF σ k (i).toNat) 10)), .int (iv ((fbN σ k (i).toNat : Nat) : Int)), .int (iv ((sbN σ k (i).toNat : Nat) : Int))]))) q = μ q := fun q hq => (hu_n (by omega)).trans (hfr q hq)
            have hH : gP G (hu ν st (.inr (4, [.ref (st + 1), .ref (st + 14), .int (iv ((wearF σ k (i).toNat) 4)), .int (iv ((wearF σ k (i).toNat) 9)), .int (iv ((wearF σ k (i).toNat) 10)), .int (iv ((fbN σ k (i).toNat : Nat) : Int)), .int (iv ((sbN σ k (i).toNat : Nat) : Int))]))) ν0 H := hH
            refine lv_aload_n hx hb dX5_printOnce_74 rfl (lv_at hl 1 rfl) ?_
            refine lv_dup hx hb dX5_printOnce_75 rfl ?_
            refine m_get (C := RX5) (T := TX5) (N := 7) (ci := 4) hx hb hts i_X5 hown hK hH hI.1 rfl 6 (by decide) f_2 rfl dX5_printOnce_76 ?_
            refine lv_aload_n hx hb dX5_printOnce_79 rfl (lv_at hl 1 rfl) ?_
            refine lv_iload hx hb dX5_printOnce_80 (lv_at hl 0 rfl) ?_
            refine m_callVi (As := [.int (iv (drk σ (i).toNat k))]) (rest := [.int (iv ((sbN σ k (i).toNat : Nat) : Int)), .ref st]) ⟨hx, hb, hml, hown, hts⟩ hK hH hS (c_X5_isSmudged l G (hu ν st (.inr (4, [.ref (st + 1), .ref (st + 14), .int (iv ((wearF σ k (i).toNat) 4)), .int (iv ((wearF σ k (i).toNat) 9)), .int (iv ((wearF σ k (i).toNat) 10)), .int (iv ((fbN σ k (i).toNat : Nat) : Int)), .int (iv ((sbN σ k (i).toNat : Nat) : Int))]))) ν0 st π (wearF σ k (i).toNat) ((fbN σ k (i).toNat : Nat) : Int) ((sbN σ k (i).toNat : Nat) : Int) (drk σ (i).toNat k) hI hok1 (by omega)) (cwV 1 hts gX5_printOnce_X5_isSmudged rfl rfl rfl (by decide +kernel) ⟨(Nat.le_of_ble_eq_true rfl), (Nat.le_of_ble_eq_true rfl)⟩) hI.1 rfl rfl rfl rfl hl.1 (Nat.le_of_ble_eq_true rfl) dX5_printOnce_82 ⟨Nat.zero_le _, Nat.zero_le _⟩ (fun z73 μ70 n71 H locs hz73 hp72 hH hS => ?_)
            obtain ⟨hz2, hm2, hn2⟩ := hp72; rw [hz2]; rw [hm2, hn2] at hH; clear hz2 hm2 hn2
            refine j_top (fun sv hsv => ?_)
            rw [hw1] at hsv
            have hsr1 : 0 ≤ sv ∧ sv ≤ 1 := by rw [hsv]; split <;> omega
            refine j_if_eq (tgt := 95) hx hb dX5_printOnce_85 (by decide) (fun c74 => ?_) (fun c74 => ?_) (by omega)
            · skip
              refine j_const hx hb dX5_printOnce_95 ?_
              refine j_ior (v := ((sbN σ k (i).toNat : Nat) : Int)) hx hb dX5_printOnce_96 (bit_or0 _ (by omega)) ?_
              refine m_put (C := RX5) (T := TX5) (N := 7) (ci := 4) hx hb hts i_X5 tyX5 tyX5_ok nmX5 hown hK hH hS hI.1 rfl 6 (by decide) f_2 rfl rfl rfl (Nat.le_of_ble_eq_true rfl) dX5_printOnce_97 (fun H locs hH hS => ?_)
              have hI : IsSt G (hu (hu ν st (.inr (4, [.ref (st + 1), .ref (st + 14), .int (iv ((wearF σ k (i).toNat) 4)), .int (iv ((wearF σ k (i).toNat) 9)), .int (iv ((wearF σ k (i).toNat) 10)), .int (iv ((fbN σ k (i).toNat : Nat) : Int)), .int (iv ((sbN σ k (i).toNat : Nat) : Int))]))) st (.inr (4, [.ref (st + 1), .ref (st + 14), .int (iv ((wearF σ k (i).toNat) 4)), .int (iv ((wearF σ k (i).toNat) 9)), .int (iv ((wearF σ k (i).toNat) 10)), .int (iv ((fbN σ k (i).toNat : Nat) : Int)), .int (iv ((sbN σ k (i).toNat : Nat) : Int))]))) st π (wearF σ k (i).toNat) ((fbN σ k (i).toNat : Nat) : Int) ((sbN σ k (i).toNat : Nat) : Int) := hI.st (wearF σ k (i).toNat) ((fbN σ k (i).toNat : Nat) : Int) ((sbN σ k (i).toNat : Nat) : Int) (fun j h1 h2 h3 => rfl)
              have hfr : ∀ q, (q < st ∨ st + 15 ≤ q) → (hu (hu ν st (.inr (4, [.ref (st + 1), .ref (st + 14), .int (iv ((wearF σ k (i).toNat) 4)), .int (iv ((wearF σ k (i).toNat) 9)), .int (iv ((wearF σ k (i).toNat) 10)), .int (iv ((fbN σ k (i).toNat : Nat) : Int)), .int (iv ((sbN σ k (i).toNat : Nat) : Int))]))) st (.inr (4, [.ref (st + 1), .ref (st + 14), .int (iv ((wearF σ k (i).toNat) 4)), .int (iv ((wearF σ k (i).toNat) 9)), .int (iv ((wearF σ k (i).toNat) 10)), .int (iv ((fbN σ k (i).toNat : Nat) : Int)), .int (iv ((sbN σ k (i).toNat : Nat) : Int))]))) q = μ q := fun q hq => (hu_n (by omega)).trans (hfr q hq)
              have hH : gP G (hu (hu ν st (.inr (4, [.ref (st + 1), .ref (st + 14), .int (iv ((wearF σ k (i).toNat) 4)), .int (iv ((wearF σ k (i).toNat) 9)), .int (iv ((wearF σ k (i).toNat) 10)), .int (iv ((fbN σ k (i).toNat : Nat) : Int)), .int (iv ((sbN σ k (i).toNat : Nat) : Int))]))) st (.inr (4, [.ref (st + 1), .ref (st + 14), .int (iv ((wearF σ k (i).toNat) 4)), .int (iv ((wearF σ k (i).toNat) 9)), .int (iv ((wearF σ k (i).toNat) 10)), .int (iv ((fbN σ k (i).toNat : Nat) : Int)), .int (iv ((sbN σ k (i).toNat : Nat) : Int))]))) ν0 H := hH
              refine lv_aload_n hx hb dX5_printOnce_100 rfl (lv_at hl 1 rfl) ?_
              refine m_get (C := RX5) (T := TX5) (N := 7) (ci := 4) hx hb hts i_X5 hown hK hH hI.1 rfl 0 (by decide) f_8 rfl dX5_printOnce_101 ?_
              refine lv_iload hx hb dX5_printOnce_104 (lv_at hl 5 rfl) ?_
              refine m_aald (b := (st + 2 + 2 * π (i).toNat)) hx hb hK hH 2 hI.2.1 rfl rfl dX5_printOnce_106 ?_ (by omega) (by omega)
              refine j_const hx hb dX5_printOnce_107 ?_
              refine lv_iload_n hx hb dX5_printOnce_108 rfl (lv_at hl 3 rfl) ?_
              refine j_const hx hb dX5_printOnce_109 ?_
              refine j_idiv hx hb dX5_printOnce_110 ?_ (by omega) (by omega)
              refine j_iadd hx hb dX5_printOnce_111 ?_
              have hbp := hok1.2.2.2.2 (i).toNat (by omega)
              have hwp := hok1.w (p := (i).toNat) (by omega)
              refine m_callVv (As := [.int (iv (1 + (k / 4)))]) (rest := []) ⟨hx, hb, hml, hown, hts⟩ hK hH hS (c_X0_wearShown l G (hu (hu ν st (.inr (4, [.ref (st + 1), .ref (st + 14), .int (iv ((wearF σ k (i).toNat) 4)), .int (iv ((wearF σ k (i).toNat) 9)), .int (iv ((wearF σ k (i).toNat) 10)), .int (iv ((fbN σ k (i).toNat : Nat) : Int)), .int (iv ((sbN σ k (i).toNat : Nat) : Int))]))) st (.inr (4, [.ref (st + 1), .ref (st + 14), .int (iv ((wearF σ k (i).toNat) 4)), .int (iv ((wearF σ k (i).toNat) 9)), .int (iv ((wearF σ k (i).toNat) 10)), .int (iv ((fbN σ k (i).toNat : Nat) : Int)), .int (iv ((sbN σ k (i).toNat : Nat) : Int))]))) ν0 (st + 2 + 2 * π (i).toNat) (st + 3 + 2 * π (i).toNat) ((wearF σ k (i).toNat) (85 + 13 * (i).toNat)) ((wearF σ k (i).toNat) (86 + 13 * (i).toNat)) ((wearF σ k (i).toNat) (87 + 13 * (i).toNat)) (roww (wearF σ k (i).toNat) (i).toNat) (1 + (k / 4)) (hI.2.2.2.1 (i).toNat (by omega)) (hI.2.2.2.2.1 (i).toNat (by omega)) hbp.2.1 (hwp _ (by omega)) (by omega)) (cwV 1 hts gX5_printOnce_X0_wearShown rfl rfl rfl (by decide +kernel) ⟨(Nat.le_of_ble_eq_true rfl), (Nat.le_of_ble_eq_true rfl)⟩) (hI.2.2.2.1 (i).toNat (by omega)) rfl rfl rfl rfl hl.1 (Nat.le_of_ble_eq_true rfl) dX5_printOnce_112 ⟨Nat.zero_le _, Nat.zero_le _⟩ (fun μ75 n76 H locs hp77 hH hS => ?_)
              obtain ⟨hm2, hn2⟩ := hp77; rw [hm2, hn2] at hH; clear hm2 hn2
              have hpp := hI.2.2.2.2.2.1 (i).toNat (by omega)
              have hI : IsSt G (hu (hu (hu ν st (.inr (4, [.ref (st + 1), .ref (st + 14), .int (iv ((wearF σ k (i).toNat) 4)), .int (iv ((wearF σ k (i).toNat) 9)), .int (iv ((wearF σ k (i).toNat) 10)), .int (iv ((fbN σ k (i).toNat : Nat) : Int)), .int (iv ((sbN σ k (i).toNat : Nat) : Int))]))) st (.inr (4, [.ref (st + 1), .ref (st + 14), .int (iv ((wearF σ k (i).toNat) 4)), .int (iv ((wearF σ k (i).toNat) 9)), .int (iv ((wearF σ k (i).toNat) 10)), .int (iv ((fbN σ k (i).toNat : Nat) : Int)), .int (iv ((sbN σ k (i).toNat : Nat) : Int))]))) (st + 3 + 2 * π (i).toNat) (.inl (G.2.1 0, 10, .inl (fun j => iv (fu (roww (wearF σ k (i).toNat) (i).toNat) ((wearF σ k (i).toNat) (86 + 13 * (i).toNat)).toNat (min 99 (roww (wearF σ k (i).toNat) (i).toNat ((wearF σ k (i).toNat) (86 + 13 * (i).toNat)).toNat + (1 + k / 4))) j))))) st π (fu (wearF σ k (i).toNat) (88 + 13 * (i).toNat + ((wearF σ k (i).toNat) (86 + 13 * (i).toNat)).toNat) (min 99 (roww (wearF σ k (i).toNat) (i).toNat ((wearF σ k (i).toNat) (86 + 13 * (i).toNat)).toNat + (1 + k / 4)))) ((fbN σ k (i).toNat : Nat) : Int) ((sbN σ k (i).toNat : Nat) : Int) := hI.ws (by omega) (by omega) (min 99 (roww (wearF σ k (i).toNat) (i).toNat ((wearF σ k (i).toNat) (86 + 13 * (i).toNat)).toNat + (1 + k / 4)))
              have hfr : ∀ q, (q < st ∨ st + 15 ≤ q) → (hu (hu (hu ν st (.inr (4, [.ref (st + 1), .ref (st + 14), .int (iv ((wearF σ k (i).toNat) 4)), .int (iv ((wearF σ k (i).toNat) 9)), .int (iv ((wearF σ k (i).toNat) 10)), .int (iv ((fbN σ k (i).toNat : Nat) : Int)), .int (iv ((sbN σ k (i).toNat : Nat) : Int))]))) st (.inr (4, [.ref (st + 1), .ref (st + 14), .int (iv ((wearF σ k (i).toNat) 4)), .int (iv ((wearF σ k (i).toNat) 9)), .int (iv ((wearF σ k (i).toNat) 10)), .int (iv ((fbN σ k (i).toNat : Nat) : Int)), .int (iv ((sbN σ k (i).toNat : Nat) : Int))]))) (st + 3 + 2 * π (i).toNat) (.inl (G.2.1 0, 10, .inl (fun j => iv (fu (roww (wearF σ k (i).toNat) (i).toNat) ((wearF σ k (i).toNat) (86 + 13 * (i).toNat)).toNat (min 99 (roww (wearF σ k (i).toNat) (i).toNat ((wearF σ k (i).toNat) (86 + 13 * (i).toNat)).toNat + (1 + k / 4))) j))))) q = μ q := fun q hq => (hu_n (by omega)).trans (hfr q hq)
              refine j_iinc (lv' := [(4, .int (iv (i + 1))), (5, .int (iv (drk σ (i).toNat k))), (0, .ref st), (1, .int (iv D)), (2, .int (iv k)), (3, .int (iv sw))]) hx hb dX5_printOnce_115 hl (k := 5) rfl (by decide) rfl (fun ls hl => ?_)
              refine lv_goto (tgt := 27) hx hb dX5_printOnce_118 (by decide) ?_
              exact ih49 (i + 1) sw (hu (hu (hu ν st (.inr (4, [.ref (st + 1), .ref (st + 14), .int (iv ((wearF σ k (i).toNat) 4)), .int (iv ((wearF σ k (i).toNat) 9)), .int (iv ((wearF σ k (i).toNat) 10)), .int (iv ((fbN σ k (i).toNat : Nat) : Int)), .int (iv ((sbN σ k (i).toNat : Nat) : Int))]))) st (.inr (4, [.ref (st + 1), .ref (st + 14), .int (iv ((wearF σ k (i).toNat) 4)), .int (iv ((wearF σ k (i).toNat) 9)), .int (iv ((wearF σ k (i).toNat) 10)), .int (iv ((fbN σ k (i).toNat : Nat) : Int)), .int (iv ((sbN σ k (i).toNat : Nat) : Int))]))) (st + 3 + 2 * π (i).toNat) (.inl (G.2.1 0, 10, .inl (fun j => iv (fu (roww (wearF σ k (i).toNat) (i).toNat) ((wearF σ k (i).toNat) (86 + 13 * (i).toNat)).toNat (min 99 (roww (wearF σ k (i).toNat) (i).toNat ((wearF σ k (i).toNat) (86 + 13 * (i).toNat)).toNat + (1 + k / 4))) j))))) ν0 (by omega) hsw (by rw [tN1 hi.1, fbN_n (by split at hfv <;> omega), sbN_n (by split at hsv <;> omega), ← wear_step hOk k (by omega)]; exact hI) hfr (by omega) H locs ls hH hS (lv_sub hl [2, 3, 4, 5, 0] rfl)
            · skip
              refine j_const hx hb dX5_printOnce_88 ?_
              refine lv_iload hx hb dX5_printOnce_89 (lv_at hl 5 rfl) ?_
              refine j_ishl (v := ((2 ^ (i).toNat : Nat) : Int)) hx hb dX5_printOnce_91 (by have h := bit_shl (i).toNat (by omega); rw [hiN] at h; exact h) ?_
              refine lv_goto (tgt := 96) hx hb dX5_printOnce_92 (by decide) ?_
              refine j_ior (v := (((sbN σ k (i).toNat + 2 ^ (i).toNat : Nat)) : Int)) hx hb dX5_printOnce_96 (bit_or (i).toNat (by omega) _ hslt) ?_
              refine m_put (C := RX5) (T := TX5) (N := 7) (ci := 4) hx hb hts i_X5 tyX5 tyX5_ok nmX5 hown hK hH hS hI.1 rfl 6 (by decide) f_2 rfl rfl rfl (Nat.le_of_ble_eq_true rfl) dX5_printOnce_97 (fun H locs hH hS => ?_)
              have hI : IsSt G (hu (hu ν st (.inr (4, [.ref (st + 1), .ref (st + 14), .int (iv ((wearF σ k (i).toNat) 4)), .int (iv ((wearF σ k (i).toNat) 9)), .int (iv ((wearF σ k (i).toNat) 10)), .int (iv ((fbN σ k (i).toNat : Nat) : Int)), .int (iv ((sbN σ k (i).toNat : Nat) : Int))]))) st (.inr (4, [.ref (st + 1), .ref (st + 14), .int (iv ((wearF σ k (i).toNat) 4)), .int (iv ((wearF σ k (i).toNat) 9)), .int (iv ((wearF σ k (i).toNat) 10)), .int (iv ((fbN σ k (i).toNat : Nat) : Int)), .int (iv (((sbN σ k (i).toNat + 2 ^ (i).toNat : Nat)) : Int))]))) st π (wearF σ k (i).toNat) ((fbN σ k (i).toNat : Nat) : Int) (((sbN σ k (i).toNat + 2 ^ (i).toNat : Nat)) : Int) := hI.st (wearF σ k (i).toNat) ((fbN σ k (i).toNat : Nat) : Int) (((sbN σ k (i).toNat + 2 ^ (i).toNat : Nat)) : Int) (fun j h1 h2 h3 => rfl)
              have hfr : ∀ q, (q < st ∨ st + 15 ≤ q) → (hu (hu ν st (.inr (4, [.ref (st + 1), .ref (st + 14), .int (iv ((wearF σ k (i).toNat) 4)), .int (iv ((wearF σ k (i).toNat) 9)), .int (iv ((wearF σ k (i).toNat) 10)), .int (iv ((fbN σ k (i).toNat : Nat) : Int)), .int (iv ((sbN σ k (i).toNat : Nat) : Int))]))) st (.inr (4, [.ref (st + 1), .ref (st + 14), .int (iv ((wearF σ k (i).toNat) 4)), .int (iv ((wearF σ k (i).toNat) 9)), .int (iv ((wearF σ k (i).toNat) 10)), .int (iv ((fbN σ k (i).toNat : Nat) : Int)), .int (iv (((sbN σ k (i).toNat + 2 ^ (i).toNat : Nat)) : Int))]))) q = μ q := fun q hq => (hu_n (by omega)).trans (hfr q hq)
              have hH : gP G (hu (hu ν st (.inr (4, [.ref (st + 1), .ref (st + 14), .int (iv ((wearF σ k (i).toNat) 4)), .int (iv ((wearF σ k (i).toNat) 9)), .int (iv ((wearF σ k (i).toNat) 10)), .int (iv ((fbN σ k (i).toNat : Nat) : Int)), .int (iv ((sbN σ k (i).toNat : Nat) : Int))]))) st (.inr (4, [.ref (st + 1), .ref (st + 14), .int (iv ((wearF σ k (i).toNat) 4)), .int (iv ((wearF σ k (i).toNat) 9)), .int (iv ((wearF σ k (i).toNat) 10)), .int (iv ((fbN σ k (i).toNat : Nat) : Int)), .int (iv (((sbN σ k (i).toNat + 2 ^ (i).toNat : Nat)) : Int))]))) ν0 H := hH
              refine lv_aload_n hx hb dX5_printOnce_100 rfl (lv_at hl 1 rfl) ?_
              refine m_get (C := RX5) (T := TX5) (N := 7) (ci := 4) hx hb hts i_X5 hown hK hH hI.1 rfl 0 (by decide) f_8 rfl dX5_printOnce_101 ?_
              refine lv_iload hx hb dX5_printOnce_104 (lv_at hl 5 rfl) ?_
              refine m_aald (b := (st + 2 + 2 * π (i).toNat)) hx hb hK hH 2 hI.2.1 rfl rfl dX5_printOnce_106 ?_ (by omega) (by omega)
              refine j_const hx hb dX5_printOnce_107 ?_
              refine lv_iload_n hx hb dX5_printOnce_108 rfl (lv_at hl 3 rfl) ?_
              refine j_const hx hb dX5_printOnce_109 ?_
              refine j_idiv hx hb dX5_printOnce_110 ?_ (by omega) (by omega)
              refine j_iadd hx hb dX5_printOnce_111 ?_
              have hbp := hok1.2.2.2.2 (i).toNat (by omega)
              have hwp := hok1.w (p := (i).toNat) (by omega)
              refine m_callVv (As := [.int (iv (1 + (k / 4)))]) (rest := []) ⟨hx, hb, hml, hown, hts⟩ hK hH hS (c_X0_wearShown l G (hu (hu ν st (.inr (4, [.ref (st + 1), .ref (st + 14), .int (iv ((wearF σ k (i).toNat) 4)), .int (iv ((wearF σ k (i).toNat) 9)), .int (iv ((wearF σ k (i).toNat) 10)), .int (iv ((fbN σ k (i).toNat : Nat) : Int)), .int (iv ((sbN σ k (i).toNat : Nat) : Int))]))) st (.inr (4, [.ref (st + 1), .ref (st + 14), .int (iv ((wearF σ k (i).toNat) 4)), .int (iv ((wearF σ k (i).toNat) 9)), .int (iv ((wearF σ k (i).toNat) 10)), .int (iv ((fbN σ k (i).toNat : Nat) : Int)), .int (iv (((sbN σ k (i).toNat + 2 ^ (i).toNat : Nat)) : Int))]))) ν0 (st + 2 + 2 * π (i).toNat) (st + 3 + 2 * π (i).toNat) ((wearF σ k (i).toNat) (85 + 13 * (i).toNat)) ((wearF σ k (i).toNat) (86 + 13 * (i).toNat)) ((wearF σ k (i).toNat) (87 + 13 * (i).toNat)) (roww (wearF σ k (i).toNat) (i).toNat) (1 + (k / 4)) (hI.2.2.2.1 (i).toNat (by omega)) (hI.2.2.2.2.1 (i).toNat (by omega)) hbp.2.1 (hwp _ (by omega)) (by omega)) (cwV 1 hts gX5_printOnce_X0_wearShown rfl rfl rfl (by decide +kernel) ⟨(Nat.le_of_ble_eq_true rfl), (Nat.le_of_ble_eq_true rfl)⟩) (hI.2.2.2.1 (i).toNat (by omega)) rfl rfl rfl rfl hl.1 (Nat.le_of_ble_eq_true rfl) dX5_printOnce_112 ⟨Nat.zero_le _, Nat.zero_le _⟩ (fun μ78 n79 H locs hp80 hH hS => ?_)
              obtain ⟨hm2, hn2⟩ := hp80; rw [hm2, hn2] at hH; clear hm2 hn2
              have hpp := hI.2.2.2.2.2.1 (i).toNat (by omega)
              have hI : IsSt G (hu (hu (hu ν st (.inr (4, [.ref (st + 1), .ref (st + 14), .int (iv ((wearF σ k (i).toNat) 4)), .int (iv ((wearF σ k (i).toNat) 9)), .int (iv ((wearF σ k (i).toNat) 10)), .int (iv ((fbN σ k (i).toNat : Nat) : Int)), .int (iv ((sbN σ k (i).toNat : Nat) : Int))]))) st (.inr (4, [.ref (st + 1), .ref (st + 14), .int (iv ((wearF σ k (i).toNat) 4)), .int (iv ((wearF σ k (i).toNat) 9)), .int (iv ((wearF σ k (i).toNat) 10)), .int (iv ((fbN σ k (i).toNat : Nat) : Int)), .int (iv (((sbN σ k (i).toNat + 2 ^ (i).toNat : Nat)) : Int))]))) (st + 3 + 2 * π (i).toNat) (.inl (G.2.1 0, 10, .inl (fun j => iv (fu (roww (wearF σ k (i).toNat) (i).toNat) ((wearF σ k (i).toNat) (86 + 13 * (i).toNat)).toNat (min 99 (roww (wearF σ k (i).toNat) (i).toNat ((wearF σ k (i).toNat) (86 + 13 * (i).toNat)).toNat + (1 + k / 4))) j))))) st π (fu (wearF σ k (i).toNat) (88 + 13 * (i).toNat + ((wearF σ k (i).toNat) (86 + 13 * (i).toNat)).toNat) (min 99 (roww (wearF σ k (i).toNat) (i).toNat ((wearF σ k (i).toNat) (86 + 13 * (i).toNat)).toNat + (1 + k / 4)))) ((fbN σ k (i).toNat : Nat) : Int) (((sbN σ k (i).toNat + 2 ^ (i).toNat : Nat)) : Int) := hI.ws (by omega) (by omega) (min 99 (roww (wearF σ k (i).toNat) (i).toNat ((wearF σ k (i).toNat) (86 + 13 * (i).toNat)).toNat + (1 + k / 4)))
              have hfr : ∀ q, (q < st ∨ st + 15 ≤ q) → (hu (hu (hu ν st (.inr (4, [.ref (st + 1), .ref (st + 14), .int (iv ((wearF σ k (i).toNat) 4)), .int (iv ((wearF σ k (i).toNat) 9)), .int (iv ((wearF σ k (i).toNat) 10)), .int (iv ((fbN σ k (i).toNat : Nat) : Int)), .int (iv ((sbN σ k (i).toNat : Nat) : Int))]))) st (.inr (4, [.ref (st + 1), .ref (st + 14), .int (iv ((wearF σ k (i).toNat) 4)), .int (iv ((wearF σ k (i).toNat) 9)), .int (iv ((wearF σ k (i).toNat) 10)), .int (iv ((fbN σ k (i).toNat : Nat) : Int)), .int (iv (((sbN σ k (i).toNat + 2 ^ (i).toNat : Nat)) : Int))]))) (st + 3 + 2 * π (i).toNat) (.inl (G.2.1 0, 10, .inl (fun j => iv (fu (roww (wearF σ k (i).toNat) (i).toNat) ((wearF σ k (i).toNat) (86 + 13 * (i).toNat)).toNat (min 99 (roww (wearF σ k (i).toNat) (i).toNat ((wearF σ k (i).toNat) (86 + 13 * (i).toNat)).toNat + (1 + k / 4))) j))))) q = μ q := fun q hq => (hu_n (by omega)).trans (hfr q hq)
              refine j_iinc (lv' := [(4, .int (iv (i + 1))), (5, .int (iv (drk σ (i).toNat k))), (0, .ref st), (1, .int (iv D)), (2, .int (iv k)), (3, .int (iv sw))]) hx hb dX5_printOnce_115 hl (k := 5) rfl (by decide) rfl (fun ls hl => ?_)
              refine lv_goto (tgt := 27) hx hb dX5_printOnce_118 (by decide) ?_
              exact ih49 (i + 1) sw (hu (hu (hu ν st (.inr (4, [.ref (st + 1), .ref (st + 14), .int (iv ((wearF σ k (i).toNat) 4)), .int (iv ((wearF σ k (i).toNat) 9)), .int (iv ((wearF σ k (i).toNat) 10)), .int (iv ((fbN σ k (i).toNat : Nat) : Int)), .int (iv ((sbN σ k (i).toNat : Nat) : Int))]))) st (.inr (4, [.ref (st + 1), .ref (st + 14), .int (iv ((wearF σ k (i).toNat) 4)), .int (iv ((wearF σ k (i).toNat) 9)), .int (iv ((wearF σ k (i).toNat) 10)), .int (iv ((fbN σ k (i).toNat : Nat) : Int)), .int (iv (((sbN σ k (i).toNat + 2 ^ (i).toNat : Nat)) : Int))]))) (st + 3 + 2 * π (i).toNat) (.inl (G.2.1 0, 10, .inl (fun j => iv (fu (roww (wearF σ k (i).toNat) (i).toNat) ((wearF σ k (i).toNat) (86 + 13 * (i).toNat)).toNat (min 99 (roww (wearF σ k (i).toNat) (i).toNat ((wearF σ k (i).toNat) (86 + 13 * (i).toNat)).toNat + (1 + k / 4))) j))))) ν0 (by omega) hsw (by rw [tN1 hi.1, fbN_n (by split at hfv <;> omega), sbN_y (by split at hsv <;> omega), ← wear_step hOk k (by omega)]; exact hI) hfr (by omega) H locs ls hH hS (lv_sub hl [2, 3, 4, 5, 0] rfl)
          · skip
            refine j_const hx hb dX5_printOnce_62 ?_
            refine lv_iload hx hb dX5_printOnce_63 (lv_at hl 5 rfl) ?_
            refine j_ishl (v := ((2 ^ (i).toNat : Nat) : Int)) hx hb dX5_printOnce_65 (by have h := bit_shl (i).toNat (by omega); rw [hiN] at h; exact h) ?_
            refine lv_goto (tgt := 70) hx hb dX5_printOnce_66 (by decide) ?_
            refine j_ior (v := (((fbN σ k (i).toNat + 2 ^ (i).toNat : Nat)) : Int)) hx hb dX5_printOnce_70 (bit_or (i).toNat (by omega) _ hflt) ?_
            refine m_put (C := RX5) (T := TX5) (N := 7) (ci := 4) hx hb hts i_X5 tyX5 tyX5_ok nmX5 hown hK hH hS hI.1 rfl 5 (by decide) f_0 rfl rfl rfl (Nat.le_of_ble_eq_true rfl) dX5_printOnce_71 (fun H locs hH hS => ?_)
            have hI : IsSt G (hu ν st (.inr (4, [.ref (st + 1), .ref (st + 14), .int (iv ((wearF σ k (i).toNat) 4)), .int (iv ((wearF σ k (i).toNat) 9)), .int (iv ((wearF σ k (i).toNat) 10)), .int (iv (((fbN σ k (i).toNat + 2 ^ (i).toNat : Nat)) : Int)), .int (iv ((sbN σ k (i).toNat : Nat) : Int))]))) st π (wearF σ k (i).toNat) (((fbN σ k (i).toNat + 2 ^ (i).toNat : Nat)) : Int) ((sbN σ k (i).toNat : Nat) : Int) := hI.st (wearF σ k (i).toNat) (((fbN σ k (i).toNat + 2 ^ (i).toNat : Nat)) : Int) ((sbN σ k (i).toNat : Nat) : Int) (fun j h1 h2 h3 => rfl)
            have hfr : ∀ q, (q < st ∨ st + 15 ≤ q) → (hu ν st (.inr (4, [.ref (st + 1), .ref (st + 14), .int (iv ((wearF σ k (i).toNat) 4)), .int (iv ((wearF σ k (i).toNat) 9)), .int (iv ((wearF σ k (i).toNat) 10)), .int (iv (((fbN σ k (i).toNat + 2 ^ (i).toNat : Nat)) : Int)), .int (iv ((sbN σ k (i).toNat : Nat) : Int))]))) q = μ q := fun q hq => (hu_n (by omega)).trans (hfr q hq)
            have hH : gP G (hu ν st (.inr (4, [.ref (st + 1), .ref (st + 14), .int (iv ((wearF σ k (i).toNat) 4)), .int (iv ((wearF σ k (i).toNat) 9)), .int (iv ((wearF σ k (i).toNat) 10)), .int (iv (((fbN σ k (i).toNat + 2 ^ (i).toNat : Nat)) : Int)), .int (iv ((sbN σ k (i).toNat : Nat) : Int))]))) ν0 H := hH
            refine lv_aload_n hx hb dX5_printOnce_74 rfl (lv_at hl 1 rfl) ?_
            refine lv_dup hx hb dX5_printOnce_75 rfl ?_
            refine m_get (C := RX5) (T := TX5) (N := 7) (ci := 4) hx hb hts i_X5 hown hK hH hI.1 rfl 6 (by decide) f_2 rfl dX5_printOnce_76 ?_
            refine lv_aload_n hx hb dX5_printOnce_79 rfl (lv_at hl 1 rfl) ?_
            refine lv_iload hx hb dX5_printOnce_80 (lv_at hl 0 rfl) ?_
            refine m_callVi (As := [.int (iv (drk σ (i).toNat k))]) (rest := [.int (iv ((sbN σ k (i).toNat : Nat) : Int)), .ref st]) ⟨hx, hb, hml, hown, hts⟩ hK hH hS (c_X5_isSmudged l G (hu ν st (.inr (4, [.ref (st + 1), .ref (st + 14), .int (iv ((wearF σ k (i).toNat) 4)), .int (iv ((wearF σ k (i).toNat) 9)), .int (iv ((wearF σ k (i).toNat) 10)), .int (iv (((fbN σ k (i).toNat + 2 ^ (i).toNat : Nat)) : Int)), .int (iv ((sbN σ k (i).toNat : Nat) : Int))]))) ν0 st π (wearF σ k (i).toNat) (((fbN σ k (i).toNat + 2 ^ (i).toNat : Nat)) : Int) ((sbN σ k (i).toNat : Nat) : Int) (drk σ (i).toNat k) hI hok1 (by omega)) (cwV 1 hts gX5_printOnce_X5_isSmudged rfl rfl rfl (by decide +kernel) ⟨(Nat.le_of_ble_eq_true rfl), (Nat.le_of_ble_eq_true rfl)⟩) hI.1 rfl rfl rfl rfl hl.1 (Nat.le_of_ble_eq_true rfl) dX5_printOnce_82 ⟨Nat.zero_le _, Nat.zero_le _⟩ (fun z84 μ81 n82 H locs hz84 hp83 hH hS => ?_)
            obtain ⟨hz2, hm2, hn2⟩ := hp83; rw [hz2]; rw [hm2, hn2] at hH; clear hz2 hm2 hn2
            refine j_top (fun sv hsv => ?_)
            rw [hw1] at hsv
            have hsr1 : 0 ≤ sv ∧ sv ≤ 1 := by rw [hsv]; split <;> omega
            refine j_if_eq (tgt := 95) hx hb dX5_printOnce_85 (by decide) (fun c85 => ?_) (fun c85 => ?_) (by omega)
            · skip
              refine j_const hx hb dX5_printOnce_95 ?_
              refine j_ior (v := ((sbN σ k (i).toNat : Nat) : Int)) hx hb dX5_printOnce_96 (bit_or0 _ (by omega)) ?_
              refine m_put (C := RX5) (T := TX5) (N := 7) (ci := 4) hx hb hts i_X5 tyX5 tyX5_ok nmX5 hown hK hH hS hI.1 rfl 6 (by decide) f_2 rfl rfl rfl (Nat.le_of_ble_eq_true rfl) dX5_printOnce_97 (fun H locs hH hS => ?_)
              have hI : IsSt G (hu (hu ν st (.inr (4, [.ref (st + 1), .ref (st + 14), .int (iv ((wearF σ k (i).toNat) 4)), .int (iv ((wearF σ k (i).toNat) 9)), .int (iv ((wearF σ k (i).toNat) 10)), .int (iv (((fbN σ k (i).toNat + 2 ^ (i).toNat : Nat)) : Int)), .int (iv ((sbN σ k (i).toNat : Nat) : Int))]))) st (.inr (4, [.ref (st + 1), .ref (st + 14), .int (iv ((wearF σ k (i).toNat) 4)), .int (iv ((wearF σ k (i).toNat) 9)), .int (iv ((wearF σ k (i).toNat) 10)), .int (iv (((fbN σ k (i).toNat + 2 ^ (i).toNat : Nat)) : Int)), .int (iv ((sbN σ k (i).toNat : Nat) : Int))]))) st π (wearF σ k (i).toNat) (((fbN σ k (i).toNat + 2 ^ (i).toNat : Nat)) : Int) ((sbN σ k (i).toNat : Nat) : Int) := hI.st (wearF σ k (i).toNat) (((fbN σ k (i).toNat + 2 ^ (i).toNat : Nat)) : Int) ((sbN σ k (i).toNat : Nat) : Int) (fun j h1 h2 h3 => rfl)
              have hfr : ∀ q, (q < st ∨ st + 15 ≤ q) → (hu (hu ν st (.inr (4, [.ref (st + 1), .ref (st + 14), .int (iv ((wearF σ k (i).toNat) 4)), .int (iv ((wearF σ k (i).toNat) 9)), .int (iv ((wearF σ k (i).toNat) 10)), .int (iv (((fbN σ k (i).toNat + 2 ^ (i).toNat : Nat)) : Int)), .int (iv ((sbN σ k (i).toNat : Nat) : Int))]))) st (.inr (4, [.ref (st + 1), .ref (st + 14), .int (iv ((wearF σ k (i).toNat) 4)), .int (iv ((wearF σ k (i).toNat) 9)), .int (iv ((wearF σ k (i).toNat) 10)), .int (iv (((fbN σ k (i).toNat + 2 ^ (i).toNat : Nat)) : Int)), .int (iv ((sbN σ k (i).toNat : Nat) : Int))]))) q = μ q := fun q hq => (hu_n (by omega)).trans (hfr q hq)
              have hH : gP G (hu (hu ν st (.inr (4, [.ref (st + 1), .ref (st + 14), .int (iv ((wearF σ k (i).toNat) 4)), .int (iv ((wearF σ k (i).toNat) 9)), .int (iv ((wearF σ k (i).toNat) 10)), .int (iv (((fbN σ k (i).toNat + 2 ^ (i).toNat : Nat)) : Int)), .int (iv ((sbN σ k (i).toNat : Nat) : Int))]))) st (.inr (4, [.ref (st + 1), .ref (st + 14), .int (iv ((wearF σ k (i).toNat) 4)), .int (iv ((wearF σ k (i).toNat) 9)), .int (iv ((wearF σ k (i).toNat) 10)), .int (iv (((fbN σ k (i).toNat + 2 ^ (i).toNat : Nat)) : Int)), .int (iv ((sbN σ k (i).toNat : Nat) : Int))]))) ν0 H := hH
              refine lv_aload_n hx hb dX5_printOnce_100 rfl (lv_at hl 1 rfl) ?_
              refine m_get (C := RX5) (T := TX5) (N := 7) (ci := 4) hx hb hts i_X5 hown hK hH hI.1 rfl 0 (by decide) f_8 rfl dX5_printOnce_101 ?_
              refine lv_iload hx hb dX5_printOnce_104 (lv_at hl 5 rfl) ?_
              refine m_aald (b := (st + 2 + 2 * π (i).toNat)) hx hb hK hH 2 hI.2.1 rfl rfl dX5_printOnce_106 ?_ (by omega) (by omega)
              refine j_const hx hb dX5_printOnce_107 ?_
              refine lv_iload_n hx hb dX5_printOnce_108 rfl (lv_at hl 3 rfl) ?_
              refine j_const hx hb dX5_printOnce_109 ?_
              refine j_idiv hx hb dX5_printOnce_110 ?_ (by omega) (by omega)
              refine j_iadd hx hb dX5_printOnce_111 ?_
              have hbp := hok1.2.2.2.2 (i).toNat (by omega)
              have hwp := hok1.w (p := (i).toNat) (by omega)
              refine m_callVv (As := [.int (iv (1 + (k / 4)))]) (rest := []) ⟨hx, hb, hml, hown, hts⟩ hK hH hS (c_X0_wearShown l G (hu (hu ν st (.inr (4, [.ref (st + 1), .ref (st + 14), .int (iv ((wearF σ k (i).toNat) 4)), .int (iv ((wearF σ k (i).toNat) 9)), .int (iv ((wearF σ k (i).toNat) 10)), .int (iv (((fbN σ k (i).toNat + 2 ^ (i).toNat : Nat)) : Int)), .int (iv ((sbN σ k (i).toNat : Nat) : Int))]))) st (.inr (4, [.ref (st + 1), .ref (st + 14), .int (iv ((wearF σ k (i).toNat) 4)), .int (iv ((wearF σ k (i).toNat) 9)), .int (iv ((wearF σ k (i).toNat) 10)), .int (iv (((fbN σ k (i).toNat + 2 ^ (i).toNat : Nat)) : Int)), .int (iv ((sbN σ k (i).toNat : Nat) : Int))]))) ν0 (st + 2 + 2 * π (i).toNat) (st + 3 + 2 * π (i).toNat) ((wearF σ k (i).toNat) (85 + 13 * (i).toNat)) ((wearF σ k (i).toNat) (86 + 13 * (i).toNat)) ((wearF σ k (i).toNat) (87 + 13 * (i).toNat)) (roww (wearF σ k (i).toNat) (i).toNat) (1 + (k / 4)) (hI.2.2.2.1 (i).toNat (by omega)) (hI.2.2.2.2.1 (i).toNat (by omega)) hbp.2.1 (hwp _ (by omega)) (by omega)) (cwV 1 hts gX5_printOnce_X0_wearShown rfl rfl rfl (by decide +kernel) ⟨(Nat.le_of_ble_eq_true rfl), (Nat.le_of_ble_eq_true rfl)⟩) (hI.2.2.2.1 (i).toNat (by omega)) rfl rfl rfl rfl hl.1 (Nat.le_of_ble_eq_true rfl) dX5_printOnce_112 ⟨Nat.zero_le _, Nat.zero_le _⟩ (fun μ86 n87 H locs hp88 hH hS => ?_)
              obtain ⟨hm2, hn2⟩ := hp88; rw [hm2, hn2] at hH; clear hm2 hn2
              have hpp := hI.2.2.2.2.2.1 (i).toNat (by omega)
              have hI : IsSt G (hu (hu (hu ν st (.inr (4, [.ref (st + 1), .ref (st + 14), .int (iv ((wearF σ k (i).toNat) 4)), .int (iv ((wearF σ k (i).toNat) 9)), .int (iv ((wearF σ k (i).toNat) 10)), .int (iv (((fbN σ k (i).toNat + 2 ^ (i).toNat : Nat)) : Int)), .int (iv ((sbN σ k (i).toNat : Nat) : Int))]))) st (.inr (4, [.ref (st + 1), .ref (st + 14), .int (iv ((wearF σ k (i).toNat) 4)), .int (iv ((wearF σ k (i).toNat) 9)), .int (iv ((wearF σ k (i).toNat) 10)), .int (iv (((fbN σ k (i).toNat + 2 ^ (i).toNat : Nat)) : Int)), .int (iv ((sbN σ k (i).toNat : Nat) : Int))]))) (st + 3 + 2 * π (i).toNat) (.inl (G.2.1 0, 10, .inl (fun j => iv (fu (roww (wearF σ k (i).toNat) (i).toNat) ((wearF σ k (i).toNat) (86 + 13 * (i).toNat)).toNat (min 99 (roww (wearF σ k (i).toNat) (i).toNat ((wearF σ k (i).toNat) (86 + 13 * (i).toNat)).toNat + (1 + k / 4))) j))))) st π (fu (wearF σ k (i).toNat) (88 + 13 * (i).toNat + ((wearF σ k (i).toNat) (86 + 13 * (i).toNat)).toNat) (min 99 (roww (wearF σ k (i).toNat) (i).toNat ((wearF σ k (i).toNat) (86 + 13 * (i).toNat)).toNat + (1 + k / 4)))) (((fbN σ k (i).toNat + 2 ^ (i).toNat : Nat)) : Int) ((sbN σ k (i).toNat : Nat) : Int) := hI.ws (by omega) (by omega) (min 99 (roww (wearF σ k (i).toNat) (i).toNat ((wearF σ k (i).toNat) (86 + 13 * (i).toNat)).toNat + (1 + k / 4)))
              have hfr : ∀ q, (q < st ∨ st + 15 ≤ q) → (hu (hu (hu ν st (.inr (4, [.ref (st + 1), .ref (st + 14), .int (iv ((wearF σ k (i).toNat) 4)), .int (iv ((wearF σ k (i).toNat) 9)), .int (iv ((wearF σ k (i).toNat) 10)), .int (iv (((fbN σ k (i).toNat + 2 ^ (i).toNat : Nat)) : Int)), .int (iv ((sbN σ k (i).toNat : Nat) : Int))]))) st (.inr (4, [.ref (st + 1), .ref (st + 14), .int (iv ((wearF σ k (i).toNat) 4)), .int (iv ((wearF σ k (i).toNat) 9)), .int (iv ((wearF σ k (i).toNat) 10)), .int (iv (((fbN σ k (i).toNat + 2 ^ (i).toNat : Nat)) : Int)), .int (iv ((sbN σ k (i).toNat : Nat) : Int))]))) (st + 3 + 2 * π (i).toNat) (.inl (G.2.1 0, 10, .inl (fun j => iv (fu (roww (wearF σ k (i).toNat) (i).toNat) ((wearF σ k (i).toNat) (86 + 13 * (i).toNat)).toNat (min 99 (roww (wearF σ k (i).toNat) (i).toNat ((wearF σ k (i).toNat) (86 + 13 * (i).toNat)).toNat + (1 + k / 4))) j))))) q = μ q := fun q hq => (hu_n (by omega)).trans (hfr q hq)
              refine j_iinc (lv' := [(4, .int (iv (i + 1))), (5, .int (iv (drk σ (i).toNat k))), (0, .ref st), (1, .int (iv D)), (2, .int (iv k)), (3, .int (iv sw))]) hx hb dX5_printOnce_115 hl (k := 5) rfl (by decide) rfl (fun ls hl => ?_)
              refine lv_goto (tgt := 27) hx hb dX5_printOnce_118 (by decide) ?_
              exact ih49 (i + 1) sw (hu (hu (hu ν st (.inr (4, [.ref (st + 1), .ref (st + 14), .int (iv ((wearF σ k (i).toNat) 4)), .int (iv ((wearF σ k (i).toNat) 9)), .int (iv ((wearF σ k (i).toNat) 10)), .int (iv (((fbN σ k (i).toNat + 2 ^ (i).toNat : Nat)) : Int)), .int (iv ((sbN σ k (i).toNat : Nat) : Int))]))) st (.inr (4, [.ref (st + 1), .ref (st + 14), .int (iv ((wearF σ k (i).toNat) 4)), .int (iv ((wearF σ k (i).toNat) 9)), .int (iv ((wearF σ k (i).toNat) 10)), .int (iv (((fbN σ k (i).toNat + 2 ^ (i).toNat : Nat)) : Int)), .int (iv ((sbN σ k (i).toNat : Nat) : Int))]))) (st + 3 + 2 * π (i).toNat) (.inl (G.2.1 0, 10, .inl (fun j => iv (fu (roww (wearF σ k (i).toNat) (i).toNat) ((wearF σ k (i).toNat) (86 + 13 * (i).toNat)).toNat (min 99 (roww (wearF σ k (i).toNat) (i).toNat ((wearF σ k (i).toNat) (86 + 13 * (i).toNat)).toNat + (1 + k / 4))) j))))) ν0 (by omega) hsw (by rw [tN1 hi.1, fbN_y (by split at hfv <;> omega), sbN_n (by split at hsv <;> omega), ← wear_step hOk k (by omega)]; exact hI) hfr (by omega) H locs ls hH hS (lv_sub hl [2, 3, 4, 5, 0] rfl)
            · skip
              refine j_const hx hb dX5_printOnce_88 ?_
              refine lv_iload hx hb dX5_printOnce_89 (lv_at hl 5 rfl) ?_
              refine j_ishl (v := ((2 ^ (i).toNat : Nat) : Int)) hx hb dX5_printOnce_91 (by have h := bit_shl (i).toNat (by omega); rw [hiN] at h; exact h) ?_
              refine lv_goto (tgt := 96) hx hb dX5_printOnce_92 (by decide) ?_
              refine j_ior (v := (((sbN σ k (i).toNat + 2 ^ (i).toNat : Nat)) : Int)) hx hb dX5_printOnce_96 (bit_or (i).toNat (by omega) _ hslt) ?_
              refine m_put (C := RX5) (T := TX5) (N := 7) (ci := 4) hx hb hts i_X5 tyX5 tyX5_ok nmX5 hown hK hH hS hI.1 rfl 6 (by decide) f_2 rfl rfl rfl (Nat.le_of_ble_eq_true rfl) dX5_printOnce_97 (fun H locs hH hS => ?_)
              have hI : IsSt G (hu (hu ν st (.inr (4, [.ref (st + 1), .ref (st + 14), .int (iv ((wearF σ k (i).toNat) 4)), .int (iv ((wearF σ k (i).toNat) 9)), .int (iv ((wearF σ k (i).toNat) 10)), .int (iv (((fbN σ k (i).toNat + 2 ^ (i).toNat : Nat)) : Int)), .int (iv ((sbN σ k (i).toNat : Nat) : Int))]))) st (.inr (4, [.ref (st + 1), .ref (st + 14), .int (iv ((wearF σ k (i).toNat) 4)), .int (iv ((wearF σ k (i).toNat) 9)), .int (iv ((wearF σ k (i).toNat) 10)), .int (iv (((fbN σ k (i).toNat + 2 ^ (i).toNat : Nat)) : Int)), .int (iv (((sbN σ k (i).toNat + 2 ^ (i).toNat : Nat)) : Int))]))) st π (wearF σ k (i).toNat) (((fbN σ k (i).toNat + 2 ^ (i).toNat : Nat)) : Int) (((sbN σ k (i).toNat + 2 ^ (i).toNat : Nat)) : Int) := hI.st (wearF σ k (i).toNat) (((fbN σ k (i).toNat + 2 ^ (i).toNat : Nat)) : Int) (((sbN σ k (i).toNat + 2 ^ (i).toNat : Nat)) : Int) (fun j h1 h2 h3 => rfl)
              have hfr : ∀ q, (q < st ∨ st + 15 ≤ q) → (hu (hu ν st (.inr (4, [.ref (st + 1), .ref (st + 14), .int (iv ((wearF σ k (i).toNat) 4)), .int (iv ((wearF σ k (i).toNat) 9)), .int (iv ((wearF σ k (i).toNat) 10)), .int (iv (((fbN σ k (i).toNat + 2 ^ (i).toNat : Nat)) : Int)), .int (iv ((sbN σ k (i).toNat : Nat) : Int))]))) st (.inr (4, [.ref (st + 1), .ref (st + 14), .int (iv ((wearF σ k (i).toNat) 4)), .int (iv ((wearF σ k (i).toNat) 9)), .int (iv ((wearF σ k (i).toNat) 10)), .int (iv (((fbN σ k (i).toNat + 2 ^ (i).toNat : Nat)) : Int)), .int (iv (((sbN σ k (i).toNat + 2 ^ (i).toNat : Nat)) : Int))]))) q = μ q := fun q hq => (hu_n (by omega)).trans (hfr q hq)
              have hH : gP G (hu (hu ν st (.inr (4, [.ref (st + 1), .ref (st + 14), .int (iv ((wearF σ k (i).toNat) 4)), .int (iv ((wearF σ k (i).toNat) 9)), .int (iv ((wearF σ k (i).toNat) 10)), .int (iv (((fbN σ k (i).toNat + 2 ^ (i).toNat : Nat)) : Int)), .int (iv ((sbN σ k (i).toNat : Nat) : Int))]))) st (.inr (4, [.ref (st + 1), .ref (st + 14), .int (iv ((wearF σ k (i).toNat) 4)), .int (iv ((wearF σ k (i).toNat) 9)), .int (iv ((wearF σ k (i).toNat) 10)), .int (iv (((fbN σ k (i).toNat + 2 ^ (i).toNat : Nat)) : Int)), .int (iv (((sbN σ k (i).toNat + 2 ^ (i).toNat : Nat)) : Int))]))) ν0 H := hH
              refine lv_aload_n hx hb dX5_printOnce_100 rfl (lv_at hl 1 rfl) ?_
              refine m_get (C := RX5) (T := TX5) (N := 7) (ci := 4) hx hb hts i_X5 hown hK hH hI.1 rfl 0 (by decide) f_8 rfl dX5_printOnce_101 ?_
              refine lv_iload hx hb dX5_printOnce_104 (lv_at hl 5 rfl) ?_
              refine m_aald (b := (st + 2 + 2 * π (i).toNat)) hx hb hK hH 2 hI.2.1 rfl rfl dX5_printOnce_106 ?_ (by omega) (by omega)
              refine j_const hx hb dX5_printOnce_107 ?_
              refine lv_iload_n hx hb dX5_printOnce_108 rfl (lv_at hl 3 rfl) ?_
              refine j_const hx hb dX5_printOnce_109 ?_
              refine j_idiv hx hb dX5_printOnce_110 ?_ (by omega) (by omega)
              refine j_iadd hx hb dX5_printOnce_111 ?_
              have hbp := hok1.2.2.2.2 (i).toNat (by omega)
              have hwp := hok1.w (p := (i).toNat) (by omega)
              refine m_callVv (As := [.int (iv (1 + (k / 4)))]) (rest := []) ⟨hx, hb, hml, hown, hts⟩ hK hH hS (c_X0_wearShown l G (hu (hu ν st (.inr (4, [.ref (st + 1), .ref (st + 14), .int (iv ((wearF σ k (i).toNat) 4)), .int (iv ((wearF σ k (i).toNat) 9)), .int (iv ((wearF σ k (i).toNat) 10)), .int (iv (((fbN σ k (i).toNat + 2 ^ (i).toNat : Nat)) : Int)), .int (iv ((sbN σ k (i).toNat : Nat) : Int))]))) st (.inr (4, [.ref (st + 1), .ref (st + 14), .int (iv ((wearF σ k (i).toNat) 4)), .int (iv ((wearF σ k (i).toNat) 9)), .int (iv ((wearF σ k (i).toNat) 10)), .int (iv (((fbN σ k (i).toNat + 2 ^ (i).toNat : Nat)) : Int)), .int (iv (((sbN σ k (i).toNat + 2 ^ (i).toNat : Nat)) : Int))]))) ν0 (st + 2 + 2 * π (i).toNat) (st + 3 + 2 * π (i).toNat) ((wearF σ k (i).toNat) (85 + 13 * (i).toNat)) ((wearF σ k (i).toNat) (86 + 13 * (i).toNat)) ((wearF σ k (i).toNat) (87 + 13 * (i).toNat)) (roww (wearF σ k (i).toNat) (i).toNat) (1 + (k / 4)) (hI.2.2.2.1 (i).toNat (by omega)) (hI.2.2.2.2.1 (i).toNat (by omega)) hbp.2.1 (hwp _ (by omega)) (by omega)) (cwV 1 hts gX5_printOnce_X0_wearShown rfl rfl rfl (by decide +kernel) ⟨(Nat.le_of_ble_eq_true rfl), (Nat.le_of_ble_eq_true rfl)⟩) (hI.2.2.2.1 (i).toNat (by omega)) rfl rfl rfl rfl hl.1 (Nat.le_of_ble_eq_true rfl) dX5_printOnce_112 ⟨Nat.zero_le _, Nat.zero_le _⟩ (fun μ89 n90 H locs hp91 hH hS => ?_)
              obtain ⟨hm2, hn2⟩ := hp91; rw [hm2, hn2] at hH; clear hm2 hn2
              have hpp := hI.2.2.2.2.2.1 (i).toNat (by omega)
              have hI : IsSt G (hu (hu (hu ν st (.inr (4, [.ref (st + 1), .ref (st + 14), .int (iv ((wearF σ k (i).toNat) 4)), .int (iv ((wearF σ k (i).toNat) 9)), .int (iv ((wearF σ k (i).toNat) 10)), .int (iv (((fbN σ k (i).toNat + 2 ^ (i).toNat : Nat)) : Int)), .int (iv ((sbN σ k (i).toNat : Nat) : Int))]))) st (.inr (4, [.ref (st + 1), .ref (st + 14), .int (iv ((wearF σ k (i).toNat) 4)), .int (iv ((wearF σ k (i).toNat) 9)), .int (iv ((wearF σ k (i).toNat) 10)), .int (iv (((fbN σ k (i).toNat + 2 ^ (i).toNat : Nat)) : Int)), .int (iv (((sbN σ k (i).toNat + 2 ^ (i).toNat : Nat)) : Int))]))) (st + 3 + 2 * π (i).toNat) (.inl (G.2.1 0, 10, .inl (fun j => iv (fu (roww (wearF σ k (i).toNat) (i).toNat) ((wearF σ k (i).toNat) (86 + 13 * (i).toNat)).toNat (min 99 (roww (wearF σ k (i).toNat) (i).toNat ((wearF σ k (i).toNat) (86 + 13 * (i).toNat)).toNat + (1 + k / 4))) j))))) st π (fu (wearF σ k (i).toNat) (88 + 13 * (i).toNat + ((wearF σ k (i).toNat) (86 + 13 * (i).toNat)).toNat) (min 99 (roww (wearF σ k (i).toNat) (i).toNat ((wearF σ k (i).toNat) (86 + 13 * (i).toNat)).toNat + (1 + k / 4)))) (((fbN σ k (i).toNat + 2 ^ (i).toNat : Nat)) : Int) (((sbN σ k (i).toNat + 2 ^ (i).toNat : Nat)) : Int) := hI.ws (by omega) (by omega) (min 99 (roww (wearF σ k (i).toNat) (i).toNat ((wearF σ k (i).toNat) (86 + 13 * (i).toNat)).toNat + (1 + k / 4)))
              have hfr : ∀ q, (q < st ∨ st + 15 ≤ q) → (hu (hu (hu ν st (.inr (4, [.ref (st + 1), .ref (st + 14), .int (iv ((wearF σ k (i).toNat) 4)), .int (iv ((wearF σ k (i).toNat) 9)), .int (iv ((wearF σ k (i).toNat) 10)), .int (iv (((fbN σ k (i).toNat + 2 ^ (i).toNat : Nat)) : Int)), .int (iv ((sbN σ k (i).toNat : Nat) : Int))]))) st (.inr (4, [.ref (st + 1), .ref (st + 14), .int (iv ((wearF σ k (i).toNat) 4)), .int (iv ((wearF σ k (i).toNat) 9)), .int (iv ((wearF σ k (i).toNat) 10)), .int (iv (((fbN σ k (i).toNat + 2 ^ (i).toNat : Nat)) : Int)), .int (iv (((sbN σ k (i).toNat + 2 ^ (i).toNat : Nat)) : Int))]))) (st + 3 + 2 * π (i).toNat) (.inl (G.2.1 0, 10, .inl (fun j => iv (fu (roww (wearF σ k (i).toNat) (i).toNat) ((wearF σ k (i).toNat) (86 + 13 * (i).toNat)).toNat (min 99 (roww (wearF σ k (i).toNat) (i).toNat ((wearF σ k (i).toNat) (86 + 13 * (i).toNat)).toNat + (1 + k / 4))) j))))) q = μ q := fun q hq => (hu_n (by omega)).trans (hfr q hq)
              refine j_iinc (lv' := [(4, .int (iv (i + 1))), (5, .int (iv (drk σ (i).toNat k))), (0, .ref st), (1, .int (iv D)), (2, .int (iv k)), (3, .int (iv sw))]) hx hb dX5_printOnce_115 hl (k := 5) rfl (by decide) rfl (fun ls hl => ?_)
              refine lv_goto (tgt := 27) hx hb dX5_printOnce_118 (by decide) ?_
              exact ih49 (i + 1) sw (hu (hu (hu ν st (.inr (4, [.ref (st + 1), .ref (st + 14), .int (iv ((wearF σ k (i).toNat) 4)), .int (iv ((wearF σ k (i).toNat) 9)), .int (iv ((wearF σ k (i).toNat) 10)), .int (iv (((fbN σ k (i).toNat + 2 ^ (i).toNat : Nat)) : Int)), .int (iv ((sbN σ k (i).toNat : Nat) : Int))]))) st (.inr (4, [.ref (st + 1), .ref (st + 14), .int (iv ((wearF σ k (i).toNat) 4)), .int (iv ((wearF σ k (i).toNat) 9)), .int (iv ((wearF σ k (i).toNat) 10)), .int (iv (((fbN σ k (i).toNat + 2 ^ (i).toNat : Nat)) : Int)), .int (iv (((sbN σ k (i).toNat + 2 ^ (i).toNat : Nat)) : Int))]))) (st + 3 + 2 * π (i).toNat) (.inl (G.2.1 0, 10, .inl (fun j => iv (fu (roww (wearF σ k (i).toNat) (i).toNat) ((wearF σ k (i).toNat) (86 + 13 * (i).toNat)).toNat (min 99 (roww (wearF σ k (i).toNat) (i).toNat ((wearF σ k (i).toNat) (86 + 13 * (i).toNat)).toNat + (1 + k / 4))) j))))) ν0 (by omega) hsw (by rw [tN1 hi.1, fbN_y (by split at hfv <;> omega), sbN_y (by split at hsv <;> omega), ← wear_step hOk k (by omega)]; exact hI) hfr (by omega) H locs ls hH hS (lv_sub hl [2, 3, 4, 5, 0] rfl)
    exact lp27 (7) 0 1 (hu (hu μ st (.inr (4, [.ref (st + 1), .ref (st + 14), .int (iv (σ 4)), .int (iv (σ 9)), .int (iv (σ 10)), .int (iv 0), .int (iv sp)]))) st (.inr (4, [.ref (st + 1), .ref (st + 14), .int (iv (σ 4)), .int (iv (σ 9)), .int (iv (σ 10)), .int (iv 0), .int (iv 0)]))) n (by omega) (by first | (rw [if_pos (by omega)]) | (rw [if_neg (by omega)])) hI hfr (by omega) H locs ls hH hS (lv_sub hl [2, 3, 4, 1, 0] rfl)

abbrev rm_c_X5_printsOnly : Room := { frames := 4, cells := 0, slots := 0, locals := 91 }
set_option maxHeartbeats 4000000 in
set_option maxRecDepth 100000 in
theorem c_X5_printsOnly (l : Launch) (G : wG) (μ : hM) (n : Nat) (st : Nat) (π : Nat → Nat) (σ : Nat → Int) (fp sp : Int) (D k t : Int) (hI : IsSt G μ st π σ fp sp) (hOk : OkS σ) (hD : 0 ≤ D ∧ D ≤ 999999) (hk : 1 ≤ k ∧ k ≤ 9) (ht : 0 ≤ t ∧ t ≤ 1000) : Met l yX5_printsOnly wsX5_printsOnly rm_c_X5_printsOnly (mPc G μ n [.ref st, .int (iv D), .int (iv k), .int (iv t)]) (mQi G (fun z μ1 n1 => z = okN σ D k t.toNat ∧ (∃ (τ : Nat → Int) (f1 s1 : Int), IsSt G μ1 st π τ f1 s1 ∧ OkS τ ∧ (z = 1 → τ = nOnce σ k t.toNat)) ∧ (∀ q, (q < st ∨ st + 15 ≤ q) → μ1 q = μ q))) 0 0 (gA G) := by
  refine Met.ofW (cc := cX5_printsOnly) (maxL := 5) (ret := (some .boolean)) (by decide) rfl ?_
  intro p e s m args below meth c s₁ B hml hv
  obtain ⟨hav, hK, hH⟩ := hv
  have hx := B.exec
  have hb := B.bytes
  have hr := B.returns
  have hts := atoms_spec (ws := wsX5_printsOnly) B.pre
  have hown : s.vm.findClass RX5 = some m.cls := findClass_of_methodNamed B.named
  have hlocks := B.notSynchronized
  have hS : va_S (gA G) s.heap s.heap [] := va_S.rf
  have hl := lv_entry ([.ref st, .int (iv D), .int (iv k), .int (iv t)]) (n := 5) (Nat.le_of_ble_eq_true rfl)
  have hfr : entryFrame m args 5 = entryFrame m ([.ref st, .int (iv D), .int (iv k), .int (iv t)] : List Value).toArray 5 := by rw [hav]
  rw [hfr, lg_entry_eq]
  generalize (lg_sl ([.ref st, .int (iv D), .int (iv k), .int (iv t)]) ++ List.replicate (5 - (lg_sl ([.ref st, .int (iv D), .int (iv k), .int (iv t)])).length) Slot.unset).toArray = ls at hl ⊢
  have hl : lv_has ls 5 [(0, .ref st), (1, .int (iv D)), (2, .int (iv k)), (3, .int (iv t))] := hl
  generalize hQ : MQ below _ args s 0 0 (gA G) = Q
  show W p l e rm_c_X5_printsOnly s m args below meth c s.heap [] 0 0 Q (F0 m 0 ls [])
  obtain ⟨H, hHe⟩ : ∃ H, H = s.heap := ⟨_, rfl⟩
  obtain ⟨locs, hlo⟩ : ∃ q : List Loc, q = [] := ⟨_, rfl⟩
  have hH : gP G μ n H := by rw [hHe]; exact hH
  have hS : va_S (gA G) s.heap H locs := by rw [hHe, hlo]; exact hS
  suffices hgo : W p l e rm_c_X5_printsOnly s m args below meth c H locs 0 0 Q (F0 m 0 ls []) by rw [hHe, hlo] at hgo; exact hgo
  clear hHe hlo hfr hav
  have hfr : ∀ q, (q < st ∨ st + 15 ≤ q) → μ q = μ q := fun q hq => rfl
  refine j_const hx hb dX5_printsOnly_0 ?_
  refine lv_istore (lv' := [(4, .int (iv 0)), (0, .ref st), (1, .int (iv D)), (2, .int (iv k)), (3, .int (iv t))]) hx hb dX5_printsOnly_1 hl (by decide) rfl (fun ls hl => ?_)
  have lp3 : ∀ (fuel : Nat) (i : Int) (f1 : Int) (s1 : Int) (ν : hM) (ν0 : Nat) (hi : 0 ≤ i ∧ i ≤ t) (hall : okN σ D k i.toNat = 1) (hI : IsSt G ν st π (nOnce σ k i.toNat) f1 s1) (hfr : ∀ q, (q < st ∨ st + 15 ≤ q) → ν q = μ q) (_ : (t - i).toNat < fuel) (H : Heap) (locs : List Loc) (ls : Array Slot) (_ : gP G ν ν0 H) (_ : va_S (gA G) s.heap H locs) (_ : lv_has ls 5 [(0, .ref st), (1, .int (iv D)), (2, .int (iv k)), (3, .int (iv t)), (4, .int (iv i))]), W p l e rm_c_X5_printsOnly s m args below meth c H locs 0 0 Q (F0 m 3 ls []) := by
    intro fuel
    induction fuel with
    | zero => intro _ _ _ _ _ _ _ _ _ hfuel; exact absurd hfuel (Nat.not_lt_zero _)
    | succ fuel ih =>
      intro i f1 s1 ν ν0 hi hall hI hfr hfuel H locs ls hH hS hl
      have ih1 := ih; clear ih
      refine lv_iload hx hb dX5_printsOnly_3 (lv_at hl 4 rfl) ?_
      refine lv_iload_n hx hb dX5_printsOnly_5 rfl (lv_at hl 3 rfl) ?_
      refine j_icmp_ge (tgt := 26) hx hb dX5_printsOnly_6 (by decide) (fun c2 => ?_) (fun c2 => ?_) (by omega) (by omega)
      · skip
        refine j_const hx hb dX5_printsOnly_26 ?_
        subst hQ
        refine m_zret hx hb hr hlocks hH hS dX5_printsOnly_27 ?_ (by omega)
        have hit : (i).toNat = t.toNat := by omega
        rw [hit] at hall hI
        exact ⟨hall.symm, ⟨_, _, _, hI, okS_n hOk (by omega) _, fun _ => rfl⟩, hfr⟩
      · skip
        refine lv_aload_n hx hb dX5_printsOnly_9 rfl (lv_at hl 0 rfl) ?_
        refine lv_iload_n hx hb dX5_printsOnly_10 rfl (lv_at hl 1 rfl) ?_
        refine lv_iload_n hx hb dX5_printsOnly_11 rfl (lv_at hl 2 rfl) ?_
        refine m_callVi (As := [.int (iv D), .int (iv k)]) (rest := []) ⟨hx, hb, hml, hown, hts⟩ hK hH hS (c_X5_printOnce l G ν ν0 st π (nOnce σ k (i).toNat) f1 s1 D k hI (okS_n hOk (by omega) _) hD hk) (cwV 2 hts gX5_printsOnly_X5_printOnce rfl rfl rfl (by decide +kernel) ⟨(Nat.le_of_ble_eq_true rfl), (Nat.le_of_ble_eq_true rfl)⟩) hI.1 rfl rfl rfl rfl hl.1 (Nat.le_of_ble_eq_true rfl) dX5_printsOnly_12 ⟨Nat.zero_le _, Nat.zero_le _⟩ (fun z6 μ3 n4 H locs hz6 hp5 hH hS => ?_)
        obtain ⟨hz3, hI, hfr1⟩ := hp5
        have hfr : ∀ q, (q < st ∨ st + 15 ≤ q) → μ3 q = μ q := fun q hq => (hfr1 q hq).trans (hfr q hq)
        have hrt := rtF_01 (nOnce σ k (i).toNat) D k
        refine j_if_ne (tgt := 20) hx hb dX5_printsOnly_15 (by decide) (fun c7 => ?_) (fun c7 => ?_) (by omega)
        · skip
          refine j_iinc (lv' := [(4, .int (iv (i + 1))), (0, .ref st), (1, .int (iv D)), (2, .int (iv k)), (3, .int (iv t))]) hx hb dX5_printsOnly_20 hl (k := 4) rfl (by decide) rfl (fun ls hl => ?_)
          refine lv_goto (tgt := 3) hx hb dX5_printsOnly_23 (by decide) ?_
          exact ih1 (i + 1) ((fbN (nOnce σ k (i).toNat) k 6 : Nat) : Int) ((sbN (nOnce σ k (i).toNat) k 6 : Nat) : Int) μ3 n4 (by omega) (by rw [tN1 hi.1]; show (if okN σ D k (i).toNat = 1 ∧ rtF (nOnce σ k (i).toNat) D k = 1 then 1 else 0) = (1 : Int); rw [if_pos ⟨hall, by omega⟩]) (by rw [tN1 hi.1]; exact hI) hfr (by omega) H locs ls hH hS (lv_sub hl [1, 2, 3, 4, 0] rfl)
        · skip
          refine j_const hx hb dX5_printsOnly_18 ?_
          subst hQ
          refine m_zret hx hb hr hlocks hH hS dX5_printsOnly_19 ?_ (by omega)
          refine ⟨?_, ⟨_, _, _, hI, okS_once (okS_n hOk (by omega) _) (by omega), fun h9 => by omega⟩, hfr⟩
          symm
          refine okN_0 (i := (i).toNat + 1) (by omega) ?_
          show (if okN σ D k (i).toNat = 1 ∧ rtF (nOnce σ k (i).toNat) D k = 1 then 1 else 0) = (0 : Int)
          rw [if_neg (by omega)]
  exact lp3 (t.toNat + 1) 0 fp sp μ n (by omega) rfl hI hfr (by omega) H locs ls hH hS (lv_sub hl [1, 2, 3, 4, 0] rfl)

abbrev rm_c_X5_copyStamp : Room := { frames := 2, cells := 0, slots := 0, locals := 48 }
set_option maxHeartbeats 4000000 in
set_option maxRecDepth 100000 in
theorem c_X5_copyStamp (l : Launch) (G : wG) (μ : hM) (n : Nat) (st : Nat) (π : Nat → Nat) (σ : Nat → Int) (fp sp : Int) (st2 : Nat) (π2 : Nat → Nat) (τ : Nat → Int) (fp2 sp2 : Int) (hI : IsSt G μ st π σ fp sp) (hOk : OkS σ) (hJ : IsSt G μ st2 π2 τ fp2 sp2) (hdis : st2 + 15 ≤ st ∨ st + 15 ≤ st2) : Met l yX5_copyStamp wsX5_copyStamp rm_c_X5_copyStamp (mPc G μ n [.ref st, .ref st2]) (mQv G (fun μ1 n1 => IsSt G μ1 st π τ fp sp ∧ (∀ q, (q < st ∨ st + 15 ≤ q) → μ1 q = μ q))) 0 0 (gA G) := by
  refine Met.ofW (cc := cX5_copyStamp) (maxL := 3) (ret := none) (by decide) rfl ?_
  intro p e s m args below meth c s₁ B hml hv
  obtain ⟨hav, hK, hH⟩ := hv
  have hx := B.exec
  have hb := B.bytes
  have hr := B.returns
  have hts := atoms_spec (ws := wsX5_copyStamp) B.pre
  have hown : s.vm.findClass RX5 = some m.cls := findClass_of_methodNamed B.named
  have hlocks := B.notSynchronized
  have hS : va_S (gA G) s.heap s.heap [] := va_S.rf
  have hl := lv_entry ([.ref st, .ref st2]) (n := 3) (Nat.le_of_ble_eq_true rfl)
  have hfr : entryFrame m args 3 = entryFrame m ([.ref st, .ref st2] : List Value).toArray 3 := by rw [hav]
  rw [hfr, lg_entry_eq]
  generalize (lg_sl ([.ref st, .ref st2]) ++ List.replicate (3 - (lg_sl ([.ref st, .ref st2])).length) Slot.unset).toArray = ls at hl ⊢
  have hl : lv_has ls 3 [(0, .ref st), (1, .ref st2)] := hl
  generalize hQ : MQ below _ args s 0 0 (gA G) = Q
  show W p l e rm_c_X5_copyStamp s m args below meth c s.heap [] 0 0 Q (F0 m 0 ls [])
  obtain ⟨H, hHe⟩ : ∃ H, H = s.heap := ⟨_, rfl⟩
  obtain ⟨locs, hlo⟩ : ∃ q : List Loc, q = [] := ⟨_, rfl⟩
  have hH : gP G μ n H := by rw [hHe]; exact hH
  have hS : va_S (gA G) s.heap H locs := by rw [hHe, hlo]; exact hS
  suffices hgo : W p l e rm_c_X5_copyStamp s m args below meth c H locs 0 0 Q (F0 m 0 ls []) by rw [hHe, hlo] at hgo; exact hgo
  clear hHe hlo hfr hav
  have f_0 := hts (.fieldLink RX5 20 "StampDater$Stamp" "settings" "[I") (List.mem_of_getElem? (i := 2) rfl)
  have i_X5 : ∀ w ∈ u_ws RX5 TX5 7, w ∈ wsX5_copyStamp := by decide +kernel
  have f_2 := hts (.methodLink RX5 32 arraycopyName) (List.mem_of_getElem? (i := 3) rfl)
  have f_3 := hts (.native arraycopyName) (List.mem_of_getElem? (i := 4) rfl)
  have f_4 := hts (.static arraycopyName) (List.mem_of_getElem? (i := 5) rfl)
  have f_5 := hts (.initialized "java/lang/System") (List.mem_of_getElem? (i := 6) rfl)
  have f_6 := hts (.fieldLink RX5 24 "StampDater$Stamp" "ink" "I") (List.mem_of_getElem? (i := 7) rfl)
  have f_7 := hts (.fieldLink RX5 38 "StampDater$Stamp" "steps" "I") (List.mem_of_getElem? (i := 8) rfl)
  have f_8 := hts (.fieldLink RX5 41 "StampDater$Stamp" "slips" "I") (List.mem_of_getElem? (i := 9) rfl)
  have f_9 := hts (.fieldLink RX5 11 "StampDater$Stamp" "bands" "[LStampDater$Band;") (List.mem_of_getElem? (i := 1) rfl)
  have hfr : ∀ q, (q < st ∨ st + 15 ≤ q) → μ q = μ q := fun q hq => rfl
  refine j_const hx hb dX5_copyStamp_0 ?_
  refine lv_istore_n (lv' := [(2, .int (iv 0)), (0, .ref st), (1, .ref st2)]) hx hb dX5_copyStamp_1 rfl hl (by decide) rfl (fun ls hl => ?_)
  have lp2 : ∀ (fuel : Nat) (i : Int) (ν : hM) (ν0 : Nat) (hi : 0 ≤ i ∧ i ≤ 6) (hI : IsSt G ν st π (cpF σ τ i) fp sp) (hfr : ∀ q, (q < st ∨ st + 15 ≤ q) → ν q = μ q) (_ : (6 - i).toNat < fuel) (H : Heap) (locs : List Loc) (ls : Array Slot) (_ : gP G ν ν0 H) (_ : va_S (gA G) s.heap H locs) (_ : lv_has ls 3 [(0, .ref st), (1, .ref st2), (2, .int (iv i))]), W p l e rm_c_X5_copyStamp s m args below meth c H locs 0 0 Q (F0 m 2 ls []) := by
    intro fuel
    induction fuel with
    | zero => intro _ _ _ _ _ _ hfuel; exact absurd hfuel (Nat.not_lt_zero _)
    | succ fuel ih =>
      intro i ν ν0 hi hI hfr hfuel H locs ls hH hS hl
      have hJ : IsSt G ν st2 π2 τ fp2 sp2 := hJ.fr (fun q h1 h2 => hfr q (by omega))
      have ih1 := ih; clear ih
      refine lv_iload_n hx hb dX5_copyStamp_2 rfl (lv_at hl 2 rfl) ?_
      refine j_bipush hx hb dX5_copyStamp_3 ?_ (by decide)
      refine j_icmp_ge (tgt := 29) hx hb dX5_copyStamp_5 (by decide) (fun c2 => ?_) (fun c2 => ?_) (by omega) (by omega)
      · skip
        have hI : IsSt G ν st π (cpF σ τ 6) fp sp := by rw [show i = 6 by omega] at hI; exact hI
        refine lv_aload_n hx hb dX5_copyStamp_29 rfl (lv_at hl 1 rfl) ?_
        refine m_get (C := RX5) (T := TX5) (N := 7) (ci := 4) hx hb hts i_X5 hown hK hH hJ.1 rfl 1 (by decide) f_0 rfl dX5_copyStamp_30 ?_
        refine j_const hx hb dX5_copyStamp_33 ?_
        refine lv_aload_n hx hb dX5_copyStamp_34 rfl (lv_at hl 0 rfl) ?_
        refine m_get (C := RX5) (T := TX5) (N := 7) (ci := 4) hx hb hts i_X5 hown hK hH hI.1 rfl 1 (by decide) f_0 rfl dX5_copyStamp_35 ?_
        refine j_const hx hb dX5_copyStamp_38 ?_
        refine j_const hx hb dX5_copyStamp_39 ?_
        refine m_copy hx hb (hml.trans hl.1.symm) hown f_2 f_3 f_4 f_5 hK hH hS hJ.2.2.1 hI.2.2.1 (nA := 3) rfl (by decide) (Nat.le_of_ble_eq_true rfl) (Nat.le_of_ble_eq_true rfl) dX5_copyStamp_40 (fun n1 H locs hH hS => ?_)
        obtain ⟨n3, hn3⟩ : ∃ q, q = n1 := ⟨_, rfl⟩; rw [← hn3] at hH; clear hn3
        rw [show (fun j => iv (if j < 3 then row3 τ j else row3 (cpF σ τ 6) j)) = fun j => iv (row3 (cp3 (cpF σ τ 6) τ) j) from by funext j; rw [row3_cp3]] at hH
        have hI : IsSt G (hu ν (st + 14) (.inl (G.2.1 0, 3, .inl (fun j => iv (row3 (cp3 (cpF σ τ 6) τ) j))))) st π (cp3 (cpF σ τ 6) τ) fp sp := hI.se (cp3 (cpF σ τ 6) τ) (fun j hj => if_neg (by omega))
        have hfr : ∀ q, (q < st ∨ st + 15 ≤ q) → (hu ν (st + 14) (.inl (G.2.1 0, 3, .inl (fun j => iv (row3 (cp3 (cpF σ τ 6) τ) j))))) q = μ q := fun q hq => (hu_n (by omega)).trans (hfr q hq)
        have hJ : IsSt G (hu ν (st + 14) (.inl (G.2.1 0, 3, .inl (fun j => iv (row3 (cp3 (cpF σ τ 6) τ) j))))) st2 π2 τ fp2 sp2 := hJ.fr (fun q h1 h2 => hu_n (by omega))
        have hH : gP G (hu ν (st + 14) (.inl (G.2.1 0, 3, .inl (fun j => iv (row3 (cp3 (cpF σ τ 6) τ) j))))) n3 H := hH
        refine lv_aload_n hx hb dX5_copyStamp_43 rfl (lv_at hl 0 rfl) ?_
        refine lv_aload_n hx hb dX5_copyStamp_44 rfl (lv_at hl 1 rfl) ?_
        refine m_get (C := RX5) (T := TX5) (N := 7) (ci := 4) hx hb hts i_X5 hown hK hH hJ.1 rfl 2 (by decide) f_6 rfl dX5_copyStamp_45 ?_
        refine m_put (C := RX5) (T := TX5) (N := 7) (ci := 4) hx hb hts i_X5 tyX5 tyX5_ok nmX5 hown hK hH hS hI.1 rfl 2 (by decide) f_6 rfl rfl rfl (Nat.le_of_ble_eq_true rfl) dX5_copyStamp_48 (fun H locs hH hS => ?_)
        have hI : IsSt G (hu (hu ν (st + 14) (.inl (G.2.1 0, 3, .inl (fun j => iv (row3 (cp3 (cpF σ τ 6) τ) j))))) st (.inr (4, [.ref (st + 1), .ref (st + 14), .int (iv (τ 4)), .int (iv ((cp3 (cpF σ τ 6) τ) 9)), .int (iv ((cp3 (cpF σ τ 6) τ) 10)), .int (iv fp), .int (iv sp)]))) st π (fu (cp3 (cpF σ τ 6) τ) 4 (τ 4)) fp sp := hI.st (fu (cp3 (cpF σ τ 6) τ) 4 (τ 4)) fp sp (fun j h1 h2 h3 => fu_n h1)
        have hfr : ∀ q, (q < st ∨ st + 15 ≤ q) → (hu (hu ν (st + 14) (.inl (G.2.1 0, 3, .inl (fun j => iv (row3 (cp3 (cpF σ τ 6) τ) j))))) st (.inr (4, [.ref (st + 1), .ref (st + 14), .int (iv (τ 4)), .int (iv ((cp3 (cpF σ τ 6) τ) 9)), .int (iv ((cp3 (cpF σ τ 6) τ) 10)), .int (iv fp), .int (iv sp)]))) q = μ q := fun q hq => (hu_n (by omega)).trans (hfr q hq)
        have hJ : IsSt G (hu (hu ν (st + 14) (.inl (G.2.1 0, 3, .inl (fun j => iv (row3 (cp3 (cpF σ τ 6) τ) j))))) st (.inr (4, [.ref (st + 1), .ref (st + 14), .int (iv (τ 4)), .int (iv ((cp3 (cpF σ τ 6) τ) 9)), .int (iv ((cp3 (cpF σ τ 6) τ) 10)), .int (iv fp), .int (iv sp)]))) st2 π2 τ fp2 sp2 := hJ.fr (fun q h1 h2 => hu_n (by omega))
        have hH : gP G (hu (hu ν (st + 14) (.inl (G.2.1 0, 3, .inl (fun j => iv (row3 (cp3 (cpF σ τ 6) τ) j))))) st (.inr (4, [.ref (st + 1), .ref (st + 14), .int (iv (τ 4)), .int (iv ((cp3 (cpF σ τ 6) τ) 9)), .int (iv ((cp3 (cpF σ τ 6) τ) 10)), .int (iv fp), .int (iv sp)]))) n3 H := hH
        refine lv_aload_n hx hb dX5_copyStamp_51 rfl (lv_at hl 0 rfl) ?_
        refine lv_aload_n hx hb dX5_copyStamp_52 rfl (lv_at hl 1 rfl) ?_
        refine m_get (C := RX5) (T := TX5) (N := 7) (ci := 4) hx hb hts i_X5 hown hK hH hJ.1 rfl 3 (by decide) f_7 rfl dX5_copyStamp_53 ?_
        refine m_put (C := RX5) (T := TX5) (N := 7) (ci := 4) hx hb hts i_X5 tyX5 tyX5_ok nmX5 hown hK hH hS hI.1 rfl 3 (by decide) f_7 rfl rfl rfl (Nat.le_of_ble_eq_true rfl) dX5_copyStamp_56 (fun H locs hH hS => ?_)
        have hI : IsSt G (hu (hu (hu ν (st + 14) (.inl (G.2.1 0, 3, .inl (fun j => iv (row3 (cp3 (cpF σ τ 6) τ) j))))) st (.inr (4, [.ref (st + 1), .ref (st + 14), .int (iv (τ 4)), .int (iv ((cp3 (cpF σ τ 6) τ) 9)), .int (iv ((cp3 (cpF σ τ 6) τ) 10)), .int (iv fp), .int (iv sp)]))) st (.inr (4, [.ref (st + 1), .ref (st + 14), .int (iv ((fu (cp3 (cpF σ τ 6) τ) 4 (τ 4)) 4)), .int (iv (τ 9)), .int (iv ((fu (cp3 (cpF σ τ 6) τ) 4 (τ 4)) 10)), .int (iv fp), .int (iv sp)]))) st π (fu (fu (cp3 (cpF σ τ 6) τ) 4 (τ 4)) 9 (τ 9)) fp sp := hI.st (fu (fu (cp3 (cpF σ τ 6) τ) 4 (τ 4)) 9 (τ 9)) fp sp (fun j h1 h2 h3 => fu_n h2)
        have hfr : ∀ q, (q < st ∨ st + 15 ≤ q) → (hu (hu (hu ν (st + 14) (.inl (G.2.1 0, 3, .inl (fun j => iv (row3 (cp3 (cpF σ τ 6) τ) j))))) st (.inr (4, [.ref (st + 1), .ref (st + 14), .int (iv (τ 4)), .int (iv ((cp3 (cpF σ τ 6) τ) 9)), .int (iv ((cp3 (cpF σ τ 6) τ) 10)), .int (iv fp), .int (iv sp)]))) st (.inr (4, [.ref (st + 1), .ref (st + 14), .int (iv ((fu (cp3 (cpF σ τ 6) τ) 4 (τ 4)) 4)), .int (iv (τ 9)), .int (iv ((fu (cp3 (cpF σ τ 6) τ) 4 (τ 4)) 10)), .int (iv fp), .int (iv sp)]))) q = μ q := fun q hq => (hu_n (by omega)).trans (hfr q hq)
        have hJ : IsSt G (hu (hu (hu ν (st + 14) (.inl (G.2.1 0, 3, .inl (fun j => iv (row3 (cp3 (cpF σ τ 6) τ) j))))) st (.inr (4, [.ref (st + 1), .ref (st + 14), .int (iv (τ 4)), .int (iv ((cp3 (cpF σ τ 6) τ) 9)), .int (iv ((cp3 (cpF σ τ 6) τ) 10)), .int (iv fp), .int (iv sp)]))) st (.inr (4, [.ref (st + 1), .ref (st + 14), .int (iv ((fu (cp3 (cpF σ τ 6) τ) 4 (τ 4)) 4)), .int (iv (τ 9)), .int (iv ((fu (cp3 (cpF σ τ 6) τ) 4 (τ 4)) 10)), .int (iv fp), .int (iv sp)]))) st2 π2 τ fp2 sp2 := hJ.fr (fun q h1 h2 => hu_n (by omega))
        have hH : gP G (hu (hu (hu ν (st + 14) (.inl (G.2.1 0, 3, .inl (fun j => iv (row3 (cp3 (cpF σ τ 6) τ) j))))) st (.inr (4, [.ref (st + 1), .ref (st + 14), .int (iv (τ 4)), .int (iv ((cp3 (cpF σ τ 6) τ) 9)), .int (iv ((cp3 (cpF σ τ 6) τ) 10)), .int (iv fp), .int (iv sp)]))) st (.inr (4, [.ref (st + 1), .ref (st + 14), .int (iv ((fu (cp3 (cpF σ τ 6) τ) 4 (τ 4)) 4)), .int (iv (τ 9)), .int (iv ((fu (cp3 (cpF σ τ 6) τ) 4 (τ 4)) 10)), .int (iv fp), .int (iv sp)]))) n3 H := hH
        refine lv_aload_n hx hb dX5_copyStamp_59 rfl (lv_at hl 0 rfl) ?_
        refine lv_aload_n hx hb dX5_copyStamp_60 rfl (lv_at hl 1 rfl) ?_
        refine m_get (C := RX5) (T := TX5) (N := 7) (ci := 4) hx hb hts i_X5 hown hK hH hJ.1 rfl 4 (by decide) f_8 rfl dX5_copyStamp_61 ?_
        refine m_put (C := RX5) (T := TX5) (N := 7) (ci := 4) hx hb hts i_X5 tyX5 tyX5_ok nmX5 hown hK hH hS hI.1 rfl 4 (by decide) f_8 rfl rfl rfl (Nat.le_of_ble_eq_true rfl) dX5_copyStamp_64 (fun H locs hH hS => ?_)
        have hI : IsSt G (hu (hu (hu (hu ν (st + 14) (.inl (G.2.1 0, 3, .inl (fun j => iv (row3 (cp3 (cpF σ τ 6) τ) j))))) st (.inr (4, [.ref (st + 1), .ref (st + 14), .int (iv (τ 4)), .int (iv ((cp3 (cpF σ τ 6) τ) 9)), .int (iv ((cp3 (cpF σ τ 6) τ) 10)), .int (iv fp), .int (iv sp)]))) st (.inr (4, [.ref (st + 1), .ref (st + 14), .int (iv ((fu (cp3 (cpF σ τ 6) τ) 4 (τ 4)) 4)), .int (iv (τ 9)), .int (iv ((fu (cp3 (cpF σ τ 6) τ) 4 (τ 4)) 10)), .int (iv fp), .int (iv sp)]))) st (.inr (4, [.ref (st + 1), .ref (st + 14), .int (iv ((fu (fu (cp3 (cpF σ τ 6) τ) 4 (τ 4)) 9 (τ 9)) 4)), .int (iv ((fu (fu (cp3 (cpF σ τ 6) τ) 4 (τ 4)) 9 (τ 9)) 9)), .int (iv (τ 10)), .int (iv fp), .int (iv sp)]))) st π (fu (fu (fu (cp3 (cpF σ τ 6) τ) 4 (τ 4)) 9 (τ 9)) 10 (τ 10)) fp sp := hI.st (fu (fu (fu (cp3 (cpF σ τ 6) τ) 4 (τ 4)) 9 (τ 9)) 10 (τ 10)) fp sp (fun j h1 h2 h3 => fu_n h3)
        have hfr : ∀ q, (q < st ∨ st + 15 ≤ q) → (hu (hu (hu (hu ν (st + 14) (.inl (G.2.1 0, 3, .inl (fun j => iv (row3 (cp3 (cpF σ τ 6) τ) j))))) st (.inr (4, [.ref (st + 1), .ref (st + 14), .int (iv (τ 4)), .int (iv ((cp3 (cpF σ τ 6) τ) 9)), .int (iv ((cp3 (cpF σ τ 6) τ) 10)), .int (iv fp), .int (iv sp)]))) st (.inr (4, [.ref (st + 1), .ref (st + 14), .int (iv ((fu (cp3 (cpF σ τ 6) τ) 4 (τ 4)) 4)), .int (iv (τ 9)), .int (iv ((fu (cp3 (cpF σ τ 6) τ) 4 (τ 4)) 10)), .int (iv fp), .int (iv sp)]))) st (.inr (4, [.ref (st + 1), .ref (st + 14), .int (iv ((fu (fu (cp3 (cpF σ τ 6) τ) 4 (τ 4)) 9 (τ 9)) 4)), .int (iv ((fu (fu (cp3 (cpF σ τ 6) τ) 4 (τ 4)) 9 (τ 9)) 9)), .int (iv (τ 10)), .int (iv fp), .int (iv sp)]))) q = μ q := fun q hq => (hu_n (by omega)).trans (hfr q hq)
        have hJ : IsSt G (hu (hu (hu (hu ν (st + 14) (.inl (G.2.1 0, 3, .inl (fun j => iv (row3 (cp3 (cpF σ τ 6) τ) j))))) st (.inr (4, [.ref (st + 1), .ref (st + 14), .int (iv (τ 4)), .int (iv ((cp3 (cpF σ τ 6) τ) 9)), .int (iv ((cp3 (cpF σ τ 6) τ) 10)), .int (iv fp), .int (iv sp)]))) st (.inr (4, [.ref (st + 1), .ref (st + 14), .int (iv ((fu (cp3 (cpF σ τ 6) τ) 4 (τ 4)) 4)), .int (iv (τ 9)), .int (iv ((fu (cp3 (cpF σ τ 6) τ) 4 (τ 4)) 10)), .int (iv fp), .int (iv sp)]))) st (.inr (4, [.ref (st + 1), .ref (st + 14), .int (iv ((fu (fu (cp3 (cpF σ τ 6) τ) 4 (τ 4)) 9 (τ 9)) 4)), .int (iv ((fu (fu (cp3 (cpF σ τ 6) τ) 4 (τ 4)) 9 (τ 9)) 9)), .int (iv (τ 10)), .int (iv fp), .int (iv sp)]))) st2 π2 τ fp2 sp2 := hJ.fr (fun q h1 h2 => hu_n (by omega))
        have hH : gP G (hu (hu (hu (hu ν (st + 14) (.inl (G.2.1 0, 3, .inl (fun j => iv (row3 (cp3 (cpF σ τ 6) τ) j))))) st (.inr (4, [.ref (st + 1), .ref (st + 14), .int (iv (τ 4)), .int (iv ((cp3 (cpF σ τ 6) τ) 9)), .int (iv ((cp3 (cpF σ τ 6) τ) 10)), .int (iv fp), .int (iv sp)]))) st (.inr (4, [.ref (st + 1), .ref (st + 14), .int (iv ((fu (cp3 (cpF σ τ 6) τ) 4 (τ 4)) 4)), .int (iv (τ 9)), .int (iv ((fu (cp3 (cpF σ τ 6) τ) 4 (τ 4)) 10)), .int (iv fp), .int (iv sp)]))) st (.inr (4, [.ref (st + 1), .ref (st + 14), .int (iv ((fu (fu (cp3 (cpF σ τ 6) τ) 4 (τ 4)) 9 (τ 9)) 4)), .int (iv ((fu (fu (cp3 (cpF σ τ 6) τ) 4 (τ 4)) 9 (τ 9)) 9)), .int (iv (τ 10)), .int (iv fp), .int (iv sp)]))) n3 H := hH
        subst hQ
        refine m_vret hx hb hr hlocks hH hS dX5_copyStamp_67 ?_
        refine ⟨hI.cg (fun j hj => ?_), hfr⟩
        exact (cp_all σ τ j hj).symm
      · skip
        refine lv_aload_n hx hb dX5_copyStamp_8 rfl (lv_at hl 0 rfl) ?_
        refine m_get (C := RX5) (T := TX5) (N := 7) (ci := 4) hx hb hts i_X5 hown hK hH hI.1 rfl 0 (by decide) f_9 rfl dX5_copyStamp_9 ?_
        refine lv_iload_n hx hb dX5_copyStamp_12 rfl (lv_at hl 2 rfl) ?_
        refine m_aald (b := (st + 2 + 2 * π (i).toNat)) hx hb hK hH 2 hI.2.1 rfl rfl dX5_copyStamp_13 ?_ (by omega) (by omega)
        refine lv_aload_n hx hb dX5_copyStamp_14 rfl (lv_at hl 1 rfl) ?_
        refine m_get (C := RX5) (T := TX5) (N := 7) (ci := 4) hx hb hts i_X5 hown hK hH hJ.1 rfl 0 (by decide) f_9 rfl dX5_copyStamp_15 ?_
        refine lv_iload_n hx hb dX5_copyStamp_18 rfl (lv_at hl 2 rfl) ?_
        refine m_aald (b := (st2 + 2 + 2 * π2 (i).toNat)) hx hb hK hH 2 hJ.2.1 rfl rfl dX5_copyStamp_19 ?_ (by omega) (by omega)
        have hp1 := hI.2.2.2.2.2.1 (i).toNat (by omega)
        have hp2 := hJ.2.2.2.2.2.1 (i).toNat (by omega)
        refine m_callVv (As := [.ref (st2 + 2 + 2 * π2 (i).toNat)]) (rest := []) ⟨hx, hb, hml, hown, hts⟩ hK hH hS (c_X0_copyBand l G ν ν0 (st + 2 + 2 * π (i).toNat) (st + 3 + 2 * π (i).toNat) ((cpF σ τ i) (85 + 13 * (i).toNat)) ((cpF σ τ i) (86 + 13 * (i).toNat)) ((cpF σ τ i) (87 + 13 * (i).toNat)) (roww (cpF σ τ i) (i).toNat) (st2 + 2 + 2 * π2 (i).toNat) (st2 + 3 + 2 * π2 (i).toNat) (τ (85 + 13 * (i).toNat)) (τ (86 + 13 * (i).toNat)) (τ (87 + 13 * (i).toNat)) (roww τ (i).toNat) (hI.2.2.2.1 (i).toNat (by omega)) (hI.2.2.2.2.1 (i).toNat (by omega)) (hJ.2.2.2.1 (i).toNat (by omega)) (hJ.2.2.2.2.1 (i).toNat (by omega)) (by omega) (by omega)) (cwV 1 hts gX5_copyStamp_X0_copyBand rfl rfl rfl (by decide +kernel) ⟨(Nat.le_of_ble_eq_true rfl), (Nat.le_of_ble_eq_true rfl)⟩) (hI.2.2.2.1 (i).toNat (by omega)) rfl rfl rfl rfl hl.1 (Nat.le_of_ble_eq_true rfl) dX5_copyStamp_20 ⟨Nat.zero_le _, Nat.zero_le _⟩ (fun μ4 n5 H locs hp6 hH hS => ?_)
        obtain ⟨hb1, hw1, hq1⟩ := hp6
        have hiN : (((i).toNat : Nat) : Int) = i := by omega
        have hpp := hI.2.2.2.2.2.1 (i).toNat (by omega)
        have e0 := cp_at (σ := σ) (τ := τ) (k := i + 1) (p := (i).toNat) (r := 0) (by omega); rw [if_pos (by omega)] at e0
        have e1 := cp_at (σ := σ) (τ := τ) (k := i + 1) (p := (i).toNat) (r := 1) (by omega); rw [if_pos (by omega)] at e1
        have e2 := cp_at (σ := σ) (τ := τ) (k := i + 1) (p := (i).toNat) (r := 2) (by omega); rw [if_pos (by omega)] at e2
        have hI : IsSt G μ4 st π (cpF σ τ (i + 1)) fp sp := by
          refine hI.bw (p := (i).toNat) (by omega) ?_ ?_ hq1 (fun j hj => ?_)
          · rw [show cpF σ τ (i + 1) (85 + 13 * (i).toNat) = _ from e0, show cpF σ τ (i + 1) (86 + 13 * (i).toNat) = τ (86 + 13 * (i).toNat) by rw [show 86 + 13 * (i).toNat = 85 + 13 * (i).toNat + 1 by omega]; exact e1, show cpF σ τ (i + 1) (87 + 13 * (i).toNat) = τ (87 + 13 * (i).toNat) by rw [show 87 + 13 * (i).toNat = 85 + 13 * (i).toNat + 2 by omega]; exact e2]; exact hb1
          · rw [roww_cg (σ := τ) (q := (i).toNat) (fun j hj => by unfold cpF; rw [if_pos (by omega)]), ← roww_cp τ (cpF σ τ i) (i).toNat (i).toNat]; exact hw1
          · unfold cpF
            by_cases h9 : 85 ≤ j ∧ (j : Int) < 85 + 13 * i
            · rw [if_pos h9, if_pos (by omega)]
            · rw [if_neg h9, if_neg (by omega)]
        have hfr : ∀ q, (q < st ∨ st + 15 ≤ q) → μ4 q = μ q := fun q hq => (hq1 q (by omega) (by omega)).trans (hfr q hq)
        refine j_iinc (lv' := [(2, .int (iv (i + 1))), (0, .ref st), (1, .ref st2)]) hx hb dX5_copyStamp_23 hl (k := 2) rfl (by decide) rfl (fun ls hl => ?_)
        refine lv_goto (tgt := 2) hx hb dX5_copyStamp_26 (by decide) ?_
        exact ih1 (i + 1) μ4 n5 (by omega) hI hfr (by omega) H locs ls hH hS (lv_sub hl [1, 2, 0] rfl)
  exact lp2 (7) 0 μ n (by omega) (hI.cg (fun j _ => by unfold cpF; rw [if_neg (by omega)])) hfr (by omega) H locs ls hH hS (lv_sub hl [1, 2, 0] rfl)

abbrev rm_c_X5_swapBands : Room := { frames := 2, cells := 0, slots := 0, locals := 42 }
set_option maxHeartbeats 4000000 in
set_option maxRecDepth 100000 in
theorem c_X5_swapBands (l : Launch) (G : wG) (μ : hM) (n : Nat) (st : Nat) (π : Nat → Nat) (σ : Nat → Int) (fp sp : Int) (pa qa : Nat) (hI : IsSt G μ st π σ fp sp) (hOk : OkS σ) (hpa : pa < 6) (hqa : qa < 6) : Met l yX5_swapBands wsX5_swapBands rm_c_X5_swapBands (mPc G μ n [.ref st, .int (iv (pa : Int)), .int (iv (qa : Int))]) (mQv G (fun μ1 n1 => IsSt G μ1 st (swp π pa qa) (swpS σ pa qa) fp sp ∧ (∀ q, (q < st ∨ st + 15 ≤ q) → μ1 q = μ q))) 0 0 (gA G) := by
  refine Met.ofW (cc := cX5_swapBands) (maxL := 4) (ret := none) (by decide) rfl ?_
  intro p e s m args below meth c s₁ B hml hv
  obtain ⟨hav, hK, hH⟩ := hv
  have hx := B.exec
  have hb := B.bytes
  have hr := B.returns
  have hts := atoms_spec (ws := wsX5_swapBands) B.pre
  have hown : s.vm.findClass RX5 = some m.cls := findClass_of_methodNamed B.named
  have hlocks := B.notSynchronized
  have hS : va_S (gA G) s.heap s.heap [] := va_S.rf
  have hl := lv_entry ([.ref st, .int (iv (pa : Int)), .int (iv (qa : Int))]) (n := 4) (Nat.le_of_ble_eq_true rfl)
  have hfr : entryFrame m args 4 = entryFrame m ([.ref st, .int (iv (pa : Int)), .int (iv (qa : Int))] : List Value).toArray 4 := by rw [hav]
  rw [hfr, lg_entry_eq]
  generalize (lg_sl ([.ref st, .int (iv (pa : Int)), .int (iv (qa : Int))]) ++ List.replicate (4 - (lg_sl ([.ref st, .int (iv (pa : Int)), .int (iv (qa : Int))])).length) Slot.unset).toArray = ls at hl ⊢
  have hl : lv_has ls 4 [(0, .ref st), (1, .int (iv (pa : Int))), (2, .int (iv (qa : Int)))] := hl
  generalize hQ : MQ below _ args s 0 0 (gA G) = Q
  show W p l e rm_c_X5_swapBands s m args below meth c s.heap [] 0 0 Q (F0 m 0 ls [])
  obtain ⟨H, hHe⟩ : ∃ H, H = s.heap := ⟨_, rfl⟩
  obtain ⟨locs, hlo⟩ : ∃ q : List Loc, q = [] := ⟨_, rfl⟩
  have hH : gP G μ n H := by rw [hHe]; exact hH
  have hS : va_S (gA G) s.heap H locs := by rw [hHe, hlo]; exact hS
  suffices hgo : W p l e rm_c_X5_swapBands s m args below meth c H locs 0 0 Q (F0 m 0 ls []) by rw [hHe, hlo] at hgo; exact hgo
  clear hHe hlo hfr hav
  have f_0 := hts (.initialized RX8) (List.mem_of_getElem? (i := 3) rfl)
  have f_1 := hts (.static yX8_isPlace) (List.mem_of_getElem? (i := 2) rfl)
  have f_2 := hts (.fieldLink RX5 11 "StampDater$Stamp" "bands" "[LStampDater$Band;") (List.mem_of_getElem? (i := 1) rfl)
  have i_X5 : ∀ w ∈ u_ws RX5 TX5 7, w ∈ wsX5_swapBands := by decide +kernel
  have hfr : ∀ q, (q < st ∨ st + 15 ≤ q) → μ q = μ q := fun q hq => rfl
  have hS1 := hI.1
  have hQ1 := hI.2.1
  have hBa : μ (st + 2 + 2 * π ((pa : Int)).toNat) = some (.inr (0, [.int (iv (σ (85 + 13 * pa))), .int (iv (σ (86 + 13 * pa))), .int (iv (σ (87 + 13 * pa))), .ref (st + 3 + 2 * π pa)])) := hI.2.2.2.1 pa hpa
  have hBb : μ (st + 2 + 2 * π ((qa : Int)).toNat) = some (.inr (0, [.int (iv (σ (85 + 13 * qa))), .int (iv (σ (86 + 13 * qa))), .int (iv (σ (87 + 13 * qa))), .ref (st + 3 + 2 * π qa)])) := hI.2.2.2.1 qa hqa
  have hla := hI.2.2.2.2.2.1 pa hpa
  have hlb := hI.2.2.2.2.2.1 qa hqa
  have hpaN : ((pa : Int)).toNat = pa := by omega
  have hqaN : ((qa : Int)).toNat = qa := by omega
  refine lv_iload_n hx hb dX5_swapBands_0 rfl (lv_at hl 1 rfl) ?_
  refine m_callSNi (As := [.int (iv (pa : Int))]) (rest := []) ⟨hx, hb, hml, hown, hts⟩ hK hH hS (c_X8_isPlace l G μ n (pa : Int) (by omega)) ⟨va_cnB 1 hts gX5_swapBands_X8_isPlace_n60 rfl rfl rfl hK.2.2.2.2.1 f_0 (by decide +kernel) ⟨(Nat.le_of_ble_eq_true rfl), (Nat.le_of_ble_eq_true rfl)⟩, f_1, trivial⟩ rfl rfl hl.1 (Nat.le_of_ble_eq_true rfl) dX5_swapBands_1 ⟨Nat.zero_le _, Nat.zero_le _⟩ (fun z4 μ1 n2 H locs hz4 hp3 hH hS => ?_)
  obtain ⟨hz2, hm2, hn2⟩ := hp3; rw [hz2]; rw [hm2, hn2] at hH; clear hz2 hm2 hn2
  refine j_top (fun r4 hr4 => ?_)
  have hr1 : r4 = 1 := by rw [hr4, if_pos (by omega)]
  refine j_if_eq (tgt := 40) hx hb dX5_swapBands_4 (by decide) (fun c5 => absurd c5 (by omega)) (fun c5 => ?_) (by omega)
  refine lv_iload_n hx hb dX5_swapBands_7 rfl (lv_at hl 2 rfl) ?_
  refine m_callSNi (As := [.int (iv (qa : Int))]) (rest := []) ⟨hx, hb, hml, hown, hts⟩ hK hH hS (c_X8_isPlace l G μ n (qa : Int) (by omega)) ⟨va_cnB 1 hts gX5_swapBands_X8_isPlace_n60 rfl rfl rfl hK.2.2.2.2.1 f_0 (by decide +kernel) ⟨(Nat.le_of_ble_eq_true rfl), (Nat.le_of_ble_eq_true rfl)⟩, f_1, trivial⟩ rfl rfl hl.1 (Nat.le_of_ble_eq_true rfl) dX5_swapBands_8 ⟨Nat.zero_le _, Nat.zero_le _⟩ (fun z9 μ6 n7 H locs hz9 hp8 hH hS => ?_)
  obtain ⟨hz2, hm2, hn2⟩ := hp8; rw [hz2]; rw [hm2, hn2] at hH; clear hz2 hm2 hn2
  refine j_top (fun r11 hr11 => ?_)
  have hr2 : r11 = 1 := by rw [hr11, if_pos (by omega)]
  refine j_if_eq (tgt := 40) hx hb dX5_swapBands_11 (by decide) (fun c10 => absurd c10 (by omega)) (fun c10 => ?_) (by omega)
  refine lv_aload_n hx hb dX5_swapBands_14 rfl (lv_at hl 0 rfl) ?_
  refine m_get (C := RX5) (T := TX5) (N := 7) (ci := 4) hx hb hts i_X5 hown hK hH hS1 rfl 0 (by decide) f_2 rfl dX5_swapBands_15 ?_
  refine lv_iload_n hx hb dX5_swapBands_18 rfl (lv_at hl 1 rfl) ?_
  refine m_aald (b := (st + 2 + 2 * π ((pa : Int)).toNat)) hx hb hK hH 2 hQ1 rfl rfl dX5_swapBands_19 ?_ (by omega) (by omega)
  refine lv_astore_n (lv' := [(3, .ref (st + 2 + 2 * π ((pa : Int)).toNat)), (0, .ref st), (1, .int (iv (pa : Int))), (2, .int (iv (qa : Int)))]) hx hb dX5_swapBands_20 rfl hl (by decide) rfl (fun ls hl => ?_)
  refine lv_aload_n hx hb dX5_swapBands_21 rfl (lv_at hl 1 rfl) ?_
  refine m_get (C := RX5) (T := TX5) (N := 7) (ci := 4) hx hb hts i_X5 hown hK hH hS1 rfl 0 (by decide) f_2 rfl dX5_swapBands_22 ?_
  refine lv_iload_n hx hb dX5_swapBands_25 rfl (lv_at hl 2 rfl) ?_
  refine lv_aload_n hx hb dX5_swapBands_26 rfl (lv_at hl 1 rfl) ?_
  refine m_get (C := RX5) (T := TX5) (N := 7) (ci := 4) hx hb hts i_X5 hown hK hH hS1 rfl 0 (by decide) f_2 rfl dX5_swapBands_27 ?_
  refine lv_iload_n hx hb dX5_swapBands_30 rfl (lv_at hl 3 rfl) ?_
  refine m_aald (b := (st + 2 + 2 * π ((qa : Int)).toNat)) hx hb hK hH 2 hQ1 rfl rfl dX5_swapBands_31 ?_ (by omega) (by omega)
  refine m_aast hx hb hK hH hS 2 0 hQ1 rfl hBb rfl dX5_swapBands_32 (fun H locs hH hS => ?_) (by omega) (by omega)
  have hS1 := hu_n' (a := (st + 1)) (e := (.inl (G.2.1 2, 6, .inr (.inr (.inr (.inr (qu (fun p => some (st + 2 + 2 * π p)) ((pa : Int)).toNat (st + 2 + 2 * π ((qa : Int)).toNat)))))))) (by first | omega | (rw [hpaN]; omega) | (rw [hqaN]; omega)) hS1
  have hBa := hu_n' (a := (st + 1)) (e := (.inl (G.2.1 2, 6, .inr (.inr (.inr (.inr (qu (fun p => some (st + 2 + 2 * π p)) ((pa : Int)).toNat (st + 2 + 2 * π ((qa : Int)).toNat)))))))) (by first | omega | (rw [hpaN]; omega) | (rw [hqaN]; omega)) hBa
  have hBb := hu_n' (a := (st + 1)) (e := (.inl (G.2.1 2, 6, .inr (.inr (.inr (.inr (qu (fun p => some (st + 2 + 2 * π p)) ((pa : Int)).toNat (st + 2 + 2 * π ((qa : Int)).toNat)))))))) (by first | omega | (rw [hpaN]; omega) | (rw [hqaN]; omega)) hBb
  have hQ1 : (hu μ (st + 1) (.inl (G.2.1 2, 6, .inr (.inr (.inr (.inr (qu (fun p => some (st + 2 + 2 * π p)) ((pa : Int)).toNat (st + 2 + 2 * π ((qa : Int)).toNat)))))))) (st + 1) = some (.inl (G.2.1 2, 6, .inr (.inr (.inr (.inr (qu (fun p => some (st + 2 + 2 * π p)) ((pa : Int)).toNat (st + 2 + 2 * π ((qa : Int)).toNat))))))) := hu_s
  have hH : gP G (hu μ (st + 1) (.inl (G.2.1 2, 6, .inr (.inr (.inr (.inr (qu (fun p => some (st + 2 + 2 * π p)) ((pa : Int)).toNat (st + 2 + 2 * π ((qa : Int)).toNat)))))))) n H := hH
  refine lv_aload_n hx hb dX5_swapBands_33 rfl (lv_at hl 1 rfl) ?_
  refine m_get (C := RX5) (T := TX5) (N := 7) (ci := 4) hx hb hts i_X5 hown hK hH hS1 rfl 0 (by decide) f_2 rfl dX5_swapBands_34 ?_
  refine lv_iload_n hx hb dX5_swapBands_37 rfl (lv_at hl 3 rfl) ?_
  refine lv_aload_n hx hb dX5_swapBands_38 rfl (lv_at hl 0 rfl) ?_
  refine m_aast hx hb hK hH hS 2 0 hQ1 rfl hBa rfl dX5_swapBands_39 (fun H locs hH hS => ?_) (by omega) (by omega)
  have hS1 := hu_n' (a := (st + 1)) (e := (.inl (G.2.1 2, 6, .inr (.inr (.inr (.inr (qu (qu (fun p => some (st + 2 + 2 * π p)) ((pa : Int)).toNat (st + 2 + 2 * π ((qa : Int)).toNat)) ((qa : Int)).toNat (st + 2 + 2 * π ((pa : Int)).toNat)))))))) (by first | omega | (rw [hpaN]; omega) | (rw [hqaN]; omega)) hS1
  have hBa := hu_n' (a := (st + 1)) (e := (.inl (G.2.1 2, 6, .inr (.inr (.inr (.inr (qu (qu (fun p => some (st + 2 + 2 * π p)) ((pa : Int)).toNat (st + 2 + 2 * π ((qa : Int)).toNat)) ((qa : Int)).toNat (st + 2 + 2 * π ((pa : Int)).toNat)))))))) (by first | omega | (rw [hpaN]; omega) | (rw [hqaN]; omega)) hBa
  have hBb := hu_n' (a := (st + 1)) (e := (.inl (G.2.1 2, 6, .inr (.inr (.inr (.inr (qu (qu (fun p => some (st + 2 + 2 * π p)) ((pa : Int)).toNat (st + 2 + 2 * π ((qa : Int)).toNat)) ((qa : Int)).toNat (st + 2 + 2 * π ((pa : Int)).toNat)))))))) (by first | omega | (rw [hpaN]; omega) | (rw [hqaN]; omega)) hBb
  have hQ1 : (hu (hu μ (st + 1) (.inl (G.2.1 2, 6, .inr (.inr (.inr (.inr (qu (fun p => some (st + 2 + 2 * π p)) ((pa : Int)).toNat (st + 2 + 2 * π ((qa : Int)).toNat)))))))) (st + 1) (.inl (G.2.1 2, 6, .inr (.inr (.inr (.inr (qu (qu (fun p => some (st + 2 + 2 * π p)) ((pa : Int)).toNat (st + 2 + 2 * π ((qa : Int)).toNat)) ((qa : Int)).toNat (st + 2 + 2 * π ((pa : Int)).toNat)))))))) (st + 1) = some (.inl (G.2.1 2, 6, .inr (.inr (.inr (.inr (qu (qu (fun p => some (st + 2 + 2 * π p)) ((pa : Int)).toNat (st + 2 + 2 * π ((qa : Int)).toNat)) ((qa : Int)).toNat (st + 2 + 2 * π ((pa : Int)).toNat))))))) := hu_s
  have hH : gP G (hu (hu μ (st + 1) (.inl (G.2.1 2, 6, .inr (.inr (.inr (.inr (qu (fun p => some (st + 2 + 2 * π p)) ((pa : Int)).toNat (st + 2 + 2 * π ((qa : Int)).toNat)))))))) (st + 1) (.inl (G.2.1 2, 6, .inr (.inr (.inr (.inr (qu (qu (fun p => some (st + 2 + 2 * π p)) ((pa : Int)).toNat (st + 2 + 2 * π ((qa : Int)).toNat)) ((qa : Int)).toNat (st + 2 + 2 * π ((pa : Int)).toNat)))))))) n H := hH
  subst hQ
  refine m_vret hx hb hr hlocks hH hS dX5_swapBands_40 ?_
  refine ⟨?_, fun q hq => ?_⟩
  · rw [hu_uu]
    exact hI.sw hpa hqa
  · rw [hu_n (by omega), hu_n (by omega)]
