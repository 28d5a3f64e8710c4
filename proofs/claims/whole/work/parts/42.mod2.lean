abbrev rm_c_X9_shows : Room := { frames := 1, cells := 0, slots := 0, locals := 21 }
set_option maxHeartbeats 4000000 in
set_option maxRecDepth 100000 in
theorem c_X9_shows (l : Launch) (G : wG) (μ : hM) (n : Nat) (yy : Nat) (σ α β κ χ ω : Nat → Int) (kn ik ln en fr pl wr : Int) (hY : IsMM G μ yy σ α β κ χ ω kn ik ln en fr pl wr)  (hOk : OkS σ) : Met l yX9_shows wsX9_shows rm_c_X9_shows (mPc G μ n [.ref yy]) (mQi G (fun z μ1 n1 => z = shw σ 6 ∧ μ1 = μ ∧ n1 = n)) 0 0 (gA G) := by
  refine Met.ofW (cc := cX9_shows) (maxL := 3) (ret := (some .int)) (by decide) rfl ?_
  intro p e s m args below meth c s₁ B hml hv
  obtain ⟨hav, hK, hH⟩ := hv
  have hx := B.exec
  have hb := B.bytes
  have hr := B.returns
  have hts := atoms_spec (ws := wsX9_shows) B.pre
  have hown : s.vm.findClass RX9 = some m.cls := findClass_of_methodNamed B.named
  have hlocks := B.notSynchronized
  have hS : va_S (gA G) s.heap s.heap [] := va_S.rf
  have hl := lv_entry ([.ref yy]) (n := 3) (Nat.le_of_ble_eq_true rfl)
  have hfr : entryFrame m args 3 = entryFrame m ([.ref yy] : List Value).toArray 3 := by rw [hav]
  rw [hfr, lg_entry_eq]
  generalize (lg_sl ([.ref yy]) ++ List.replicate (3 - (lg_sl ([.ref yy])).length) Slot.unset).toArray = ls at hl ⊢
  have hl : lv_has ls 3 [(0, .ref yy)] := hl
  generalize hQ : MQ below _ args s 0 0 (gA G) = Q
  show W p l e rm_c_X9_shows s m args below meth c s.heap [] 0 0 Q (F0 m 0 ls [])
  obtain ⟨H, hHe⟩ : ∃ H, H = s.heap := ⟨_, rfl⟩
  obtain ⟨locs, hlo⟩ : ∃ q : List Loc, q = [] := ⟨_, rfl⟩
  have hH : gP G μ n H := by rw [hHe]; exact hH
  have hS : va_S (gA G) s.heap H locs := by rw [hHe, hlo]; exact hS
  suffices hgo : W p l e rm_c_X9_shows s m args below meth c H locs 0 0 Q (F0 m 0 ls []) by rw [hHe, hlo] at hgo; exact hgo
  clear hHe hlo hfr hav
  have f_0 := hts (.fieldLink RX9 7 "StampDaterModel" "s" "[I") (List.mem_of_getElem? (i := 1) rfl)
  have i_X9 : ∀ w ∈ u_ws RX9 TX9 13, w ∈ wsX9_shows := by decide +kernel
  have hfr : MFr yy μ μ := MFr.rf
  refine j_const hx hb dX9_shows_0 ?_
  refine lv_istore_n (lv' := [(1, .int (iv 0)), (0, .ref yy)]) hx hb dX9_shows_1 rfl hl (by decide) rfl (fun ls hl => ?_)
  refine j_const hx hb dX9_shows_2 ?_
  refine lv_istore_n (lv' := [(2, .int (iv 0)), (1, .int (iv 0)), (0, .ref yy)]) hx hb dX9_shows_3 rfl hl (by decide) rfl (fun ls hl => ?_)
  have lp4 : ∀ (fuel : Nat) (i : Nat) (hi : i ≤ 6) (_ : 6 - i < fuel) (H : Heap) (locs : List Loc) (ls : Array Slot) (_ : gP G μ n H) (_ : va_S (gA G) s.heap H locs) (_ : lv_has ls 3 [(0, .ref yy), (1, .int (iv (shw σ i))), (2, .int (iv (i : Int)))]), W p l e rm_c_X9_shows s m args below meth c H locs 0 0 Q (F0 m 4 ls []) := by
    intro fuel
    induction fuel with
    | zero => intro _ _ hfuel; exact absurd hfuel (Nat.not_lt_zero _)
    | succ fuel ih =>
      intro i hi hfuel H locs ls hH hS hl
      have ih1 := ih; clear ih
      refine lv_iload_n hx hb dX9_shows_4 rfl (lv_at hl 2 rfl) ?_
      refine j_bipush hx hb dX9_shows_5 ?_ (by decide)
      refine j_icmp_ge (tgt := 32) hx hb dX9_shows_7 (by decide) (fun c2 => ?_) (fun c2 => ?_) (by omega) (by omega)
      · skip
        have hs6 := shw_6 hOk
        have hi6 : i = 6 := by omega
        subst hi6
        refine lv_iload_n hx hb dX9_shows_32 rfl (lv_at hl 1 rfl) ?_
        subst hQ
        refine m_iret hx hb hr hlocks hH hS dX9_shows_33 ?_ (by omega)
        refine ⟨?_, rfl, rfl⟩
        rfl
      · skip
        refine j_bipush hx hb dX9_shows_10 ?_ (by decide)
        refine lv_iload_n hx hb dX9_shows_12 rfl (lv_at hl 1 rfl) ?_
        refine j_imul hx hb dX9_shows_13 ?_
        refine lv_aload_n hx hb dX9_shows_14 rfl (lv_at hl 0 rfl) ?_
        refine m_get (C := RX9) (T := TX9) (N := 13) (ci := 8) hx hb hts i_X9 hown hK hH hY.1 rfl 0 (by decide) f_0 rfl dX9_shows_15 ?_
        refine lv_iload_n hx hb dX9_shows_18 rfl (lv_at hl 2 rfl) ?_
        refine j_const hx hb dX9_shows_19 ?_
        refine m_callSi (As := [.int (iv (i : Int)), .int (iv 1)]) (rest := [.ref (yy + 1), .int (iv (10 * (shw σ i)))]) ⟨hx, hb, hml, hown, hts⟩ hK hH hS (c_X9_of l G μ n (i : Int) 1 (by omega) (by omega)) (va_cwS 2 hts gX9_shows_X9_of rfl rfl rfl (by decide +kernel) ⟨(Nat.le_of_ble_eq_true rfl), (Nat.le_of_ble_eq_true rfl)⟩) rfl rfl hl.1 (Nat.le_of_ble_eq_true rfl) dX9_shows_20 ⟨Nat.zero_le _, Nat.zero_le _⟩ (fun z6 μ3 n4 H locs hz6 hp5 hH hS => ?_)
        obtain ⟨hz9, hm9, hn9⟩ := hp5
        rw [hm9, hn9] at hH
        rw [hz9]
        clear hz9 hm9 hn9
        refine j_norm (y := ((86 + 13 * i : Nat) : Int)) (by omega) ?_
        refine m_iald (nA := 163) (f := σ) hx hb hK hH hY.2.1 dX9_shows_23 ?_ (by omega) (by omega)
        refine j_norm (y := (σ (86 + 13 * i))) rfl ?_
        refine j_iadd hx hb dX9_shows_24 ?_
        refine lv_istore_n (lv' := [(1, .int (iv ((10 * (shw σ i)) + (σ (86 + 13 * i))))), (0, .ref yy), (2, .int (iv (i : Int)))]) hx hb dX9_shows_25 rfl hl (by decide) rfl (fun ls hl => ?_)
        refine j_iinc (lv' := [(2, .int (iv ((i : Int) + 1))), (1, .int (iv ((10 * (shw σ i)) + (σ (86 + 13 * i))))), (0, .ref yy)]) hx hb dX9_shows_26 hl (k := 2) rfl (by decide) rfl (fun ls hl => ?_)
        refine lv_goto (tgt := 4) hx hb dX9_shows_29 (by decide) ?_
        exact ih1 (i + 1) (by omega) (by omega) H locs ls hH hS (lv_sub hl [2, 1, 0] rfl)
  exact lp4 (7) 0 (by omega) (by omega) H locs ls hH hS (lv_sub hl [2, 1, 0] rfl)

abbrev rm_c_X9_showsDay : Room := { frames := 2, cells := 0, slots := 0, locals := 44 }
set_option maxHeartbeats 4000000 in
set_option maxRecDepth 100000 in
theorem c_X9_showsDay (l : Launch) (G : wG) (μ : hM) (n : Nat) (yy : Nat) (σ α β κ χ ω : Nat → Int) (kn ik ln en fr pl wr : Int) (hY : IsMM G μ yy σ α β κ χ ω kn ik ln en fr pl wr) (day : Int) (hOk : OkS σ) (hd : 0 ≤ day ∧ day ≤ 36524) : Met l yX9_showsDay wsX9_showsDay rm_c_X9_showsDay (mPc G μ n [.ref yy, .int (iv day)]) (mQi G (fun z μ1 n1 => z = (if shw σ 6 = dig day then 1 else 0) ∧ μ1 = μ ∧ n1 = n)) 0 0 (gA G) := by
  refine Met.ofW (cc := cX9_showsDay) (maxL := 2) (ret := (some .boolean)) (by decide) rfl ?_
  intro p e s m args below meth c s₁ B hml hv
  obtain ⟨hav, hK, hH⟩ := hv
  have hx := B.exec
  have hb := B.bytes
  have hr := B.returns
  have hts := atoms_spec (ws := wsX9_showsDay) B.pre
  have hown : s.vm.findClass RX9 = some m.cls := findClass_of_methodNamed B.named
  have hlocks := B.notSynchronized
  have hS : va_S (gA G) s.heap s.heap [] := va_S.rf
  have hl := lv_entry ([.ref yy, .int (iv day)]) (n := 2) (Nat.le_of_ble_eq_true rfl)
  have hfr : entryFrame m args 2 = entryFrame m ([.ref yy, .int (iv day)] : List Value).toArray 2 := by rw [hav]
  rw [hfr, lg_entry_eq]
  generalize (lg_sl ([.ref yy, .int (iv day)]) ++ List.replicate (2 - (lg_sl ([.ref yy, .int (iv day)])).length) Slot.unset).toArray = ls at hl ⊢
  have hl : lv_has ls 2 [(0, .ref yy), (1, .int (iv day))] := hl
  generalize hQ : MQ below _ args s 0 0 (gA G) = Q
  show W p l e rm_c_X9_showsDay s m args below meth c s.heap [] 0 0 Q (F0 m 0 ls [])
  obtain ⟨H, hHe⟩ : ∃ H, H = s.heap := ⟨_, rfl⟩
  obtain ⟨locs, hlo⟩ : ∃ q : List Loc, q = [] := ⟨_, rfl⟩
  have hH : gP G μ n H := by rw [hHe]; exact hH
  have hS : va_S (gA G) s.heap H locs := by rw [hHe, hlo]; exact hS
  suffices hgo : W p l e rm_c_X9_showsDay s m args below meth c H locs 0 0 Q (F0 m 0 ls []) by rw [hHe, hlo] at hgo; exact hgo
  clear hHe hlo hfr hav
  have hfr : MFr yy μ μ := MFr.rf
  refine lv_aload_n hx hb dX9_showsDay_0 rfl (lv_at hl 0 rfl) ?_
  refine m_callVi (As := []) (rest := []) ⟨hx, hb, hml, hown, hts⟩ hK hH hS (c_X9_shows l G μ n yy σ α β κ χ ω kn ik ln en fr pl wr hY hOk) (cwV 0 hts gX9_showsDay_X9_shows rfl rfl rfl (by decide +kernel) ⟨(Nat.le_of_ble_eq_true rfl), (Nat.le_of_ble_eq_true rfl)⟩) hY.1 rfl rfl rfl rfl hl.1 (Nat.le_of_ble_eq_true rfl) dX9_showsDay_1 ⟨Nat.zero_le _, Nat.zero_le _⟩ (fun z4 μ1 n2 H locs hz4 hp3 hH hS => ?_)
  obtain ⟨hz2, hm2, hn2⟩ := hp3; rw [hz2]; rw [hm2, hn2] at hH; clear hz2 hm2 hn2
  refine lv_iload_n hx hb dX9_showsDay_4 rfl (lv_at hl 1 rfl) ?_
  refine m_callSi (As := [.int (iv day)]) (rest := [.int (iv (shw σ 6))]) ⟨hx, hb, hml, hown, hts⟩ hK hH hS (c_X9_digitsOf l G μ n day (by omega)) (va_cwS 1 hts gX9_showsDay_X9_digitsOf rfl rfl rfl (by decide +kernel) ⟨(Nat.le_of_ble_eq_true rfl), (Nat.le_of_ble_eq_true rfl)⟩) rfl rfl hl.1 (Nat.le_of_ble_eq_true rfl) dX9_showsDay_5 ⟨Nat.zero_le _, Nat.zero_le _⟩ (fun z8 μ5 n6 H locs hz8 hp7 hH hS => ?_)
  obtain ⟨hz2, hm2, hn2⟩ := hp7; rw [hz2]; rw [hm2, hn2] at hH; clear hz2 hm2 hn2
  have hs6 := shw_6 hOk
  have hdg := dig_rng hd
  refine j_icmp_ne (tgt := 15) hx hb dX9_showsDay_8 (by decide) (fun c9 => ?_) (fun c9 => ?_) (by omega) (by omega)
  · skip
    refine j_const hx hb dX9_showsDay_15 ?_
    subst hQ
    refine m_zret hx hb hr hlocks hH hS dX9_showsDay_16 ?_ (by omega)
    refine ⟨?_, rfl, rfl⟩
    split <;> omega
  · skip
    refine j_const hx hb dX9_showsDay_11 ?_
    refine lv_goto (tgt := 16) hx hb dX9_showsDay_12 (by decide) ?_
    subst hQ
    refine m_zret hx hb hr hlocks hH hS dX9_showsDay_16 ?_ (by omega)
    refine ⟨?_, rfl, rfl⟩
    split <;> omega

abbrev rm_c_X9_darkness : Room := { frames := 1, cells := 0, slots := 0, locals := 21 }
set_option maxHeartbeats 4000000 in
set_option maxRecDepth 100000 in
theorem c_X9_darkness (l : Launch) (G : wG) (μ : hM) (n : Nat) (yy : Nat) (σ α β κ χ ω : Nat → Int) (kn ik ln en fr pl wr : Int) (hY : IsMM G μ yy σ α β κ χ ω kn ik ln en fr pl wr) (i : Nat) (k : Int) (hOk : OkS σ) (hi : i < 6) (hk : 0 ≤ k ∧ k ≤ 9) : Met l yX9_darkness wsX9_darkness rm_c_X9_darkness (mPc G μ n [.ref yy, .int (iv (i : Int)), .int (iv k)]) (mQi G (fun z μ1 n1 => z = drk σ i k ∧ μ1 = μ ∧ n1 = n)) 0 0 (gA G) := by
  refine Met.ofW (cc := cX9_darkness) (maxL := 3) (ret := (some .int)) (by decide) rfl ?_
  intro p e s m args below meth c s₁ B hml hv
  obtain ⟨hav, hK, hH⟩ := hv
  have hx := B.exec
  have hb := B.bytes
  have hr := B.returns
  have hts := atoms_spec (ws := wsX9_darkness) B.pre
  have hown : s.vm.findClass RX9 = some m.cls := findClass_of_methodNamed B.named
  have hlocks := B.notSynchronized
  have hS : va_S (gA G) s.heap s.heap [] := va_S.rf
  have hl := lv_entry ([.ref yy, .int (iv (i : Int)), .int (iv k)]) (n := 3) (Nat.le_of_ble_eq_true rfl)
  have hfr : entryFrame m args 3 = entryFrame m ([.ref yy, .int (iv (i : Int)), .int (iv k)] : List Value).toArray 3 := by rw [hav]
  rw [hfr, lg_entry_eq]
  generalize (lg_sl ([.ref yy, .int (iv (i : Int)), .int (iv k)]) ++ List.replicate (3 - (lg_sl ([.ref yy, .int (iv (i : Int)), .int (iv k)])).length) Slot.unset).toArray = ls at hl ⊢
  have hl : lv_has ls 3 [(0, .ref yy), (1, .int (iv (i : Int))), (2, .int (iv k))] := hl
  generalize hQ : MQ below _ args s 0 0 (gA G) = Q
  show W p l e rm_c_X9_darkness s m args below meth c s.heap [] 0 0 Q (F0 m 0 ls [])
  obtain ⟨H, hHe⟩ : ∃ H, H = s.heap := ⟨_, rfl⟩
  obtain ⟨locs, hlo⟩ : ∃ q : List Loc, q = [] := ⟨_, rfl⟩
  have hH : gP G μ n H := by rw [hHe]; exact hH
  have hS : va_S (gA G) s.heap H locs := by rw [hHe, hlo]; exact hS
  suffices hgo : W p l e rm_c_X9_darkness s m args below meth c H locs 0 0 Q (F0 m 0 ls []) by rw [hHe, hlo] at hgo; exact hgo
  clear hHe hlo hfr hav
  have f_0 := hts (.fieldLink RX9 7 "StampDaterModel" "s" "[I") (List.mem_of_getElem? (i := 1) rfl)
  have i_X9 : ∀ w ∈ u_ws RX9 TX9 13, w ∈ wsX9_darkness := by decide +kernel
  have hfr : MFr yy μ μ := MFr.rf
  have h86_i := (hOk.2.2.2.2 i (by omega)).2.1
  have h4 := hOk.2.2.2.1
  have hdr := drk_rng hOk hi hk
  refine j_bipush hx hb dX9_darkness_0 ?_ (by decide)
  refine lv_iload_n hx hb dX9_darkness_2 rfl (lv_at hl 2 rfl) ?_
  refine j_imul hx hb dX9_darkness_3 ?_
  refine lv_aload_n hx hb dX9_darkness_4 rfl (lv_at hl 0 rfl) ?_
  refine m_get (C := RX9) (T := TX9) (N := 13) (ci := 8) hx hb hts i_X9 hown hK hH hY.1 rfl 0 (by decide) f_0 rfl dX9_darkness_5 ?_
  refine j_const hx hb dX9_darkness_8 ?_
  refine m_iald (nA := 163) (f := σ) hx hb hK hH hY.2.1 dX9_darkness_9 ?_ (by omega) (by omega)
  refine j_norm (y := (σ 4)) rfl ?_
  refine j_const hx hb dX9_darkness_10 ?_
  refine j_idiv hx hb dX9_darkness_11 ?_ (by omega) (by omega)
  refine j_iadd hx hb dX9_darkness_12 ?_
  refine lv_aload_n hx hb dX9_darkness_13 rfl (lv_at hl 0 rfl) ?_
  refine m_get (C := RX9) (T := TX9) (N := 13) (ci := 8) hx hb hts i_X9 hown hK hH hY.1 rfl 0 (by decide) f_0 rfl dX9_darkness_14 ?_
  refine lv_iload_n hx hb dX9_darkness_17 rfl (lv_at hl 1 rfl) ?_
  refine j_const hx hb dX9_darkness_18 ?_
  refine lv_aload_n hx hb dX9_darkness_19 rfl (lv_at hl 0 rfl) ?_
  refine m_get (C := RX9) (T := TX9) (N := 13) (ci := 8) hx hb hts i_X9 hown hK hH hY.1 rfl 0 (by decide) f_0 rfl dX9_darkness_20 ?_
  refine lv_iload_n hx hb dX9_darkness_23 rfl (lv_at hl 1 rfl) ?_
  refine j_const hx hb dX9_darkness_24 ?_
  refine m_callSi (As := [.int (iv (i : Int)), .int (iv 1)]) (rest := [.ref (yy + 1), .int (iv 3), .int (iv (i : Int)), .ref (yy + 1), .int (iv ((8 * k) + ((σ 4) / 4)))]) ⟨hx, hb, hml, hown, hts⟩ hK hH hS (c_X9_of l G μ n (i : Int) 1 (by omega) (by omega)) (va_cwS 2 hts gX9_darkness_X9_of rfl rfl rfl (by decide +kernel) ⟨(Nat.le_of_ble_eq_true rfl), (Nat.le_of_ble_eq_true rfl)⟩) rfl rfl hl.1 (Nat.le_of_ble_eq_true rfl) dX9_darkness_25 ⟨Nat.zero_le _, Nat.zero_le _⟩ (fun z4 μ1 n2 H locs hz4 hp3 hH hS => ?_)
  obtain ⟨hz9, hm9, hn9⟩ := hp3
  rw [hm9, hn9] at hH
  rw [hz9]
  clear hz9 hm9 hn9
  refine j_norm (y := ((86 + 13 * i : Nat) : Int)) (by omega) ?_
  refine m_iald (nA := 163) (f := σ) hx hb hK hH hY.2.1 dX9_darkness_28 ?_ (by omega) (by omega)
  refine j_norm (y := (σ (86 + 13 * i))) rfl ?_
  refine j_iadd hx hb dX9_darkness_29 ?_
  refine m_callSi (As := [.int (iv (i : Int)), .int (iv (3 + (σ (86 + 13 * i))))]) (rest := [.ref (yy + 1), .int (iv ((8 * k) + ((σ 4) / 4)))]) ⟨hx, hb, hml, hown, hts⟩ hK hH hS (c_X9_of l G μ n (i : Int) (3 + (σ (86 + 13 * i))) (by omega) (by omega)) (va_cwS 2 hts gX9_darkness_X9_of rfl rfl rfl (by decide +kernel) ⟨(Nat.le_of_ble_eq_true rfl), (Nat.le_of_ble_eq_true rfl)⟩) rfl rfl hl.1 (Nat.le_of_ble_eq_true rfl) dX9_darkness_30 ⟨Nat.zero_le _, Nat.zero_le _⟩ (fun z8 μ5 n6 H locs hz8 hp7 hH hS => ?_)
  obtain ⟨hz9, hm9, hn9⟩ := hp7
  rw [hm9, hn9] at hH
  rw [hz9]
  clear hz9 hm9 hn9
  refine j_norm (y := ((88 + 13 * i + (((σ (86 + 13 * i))).toNat) : Nat) : Int)) (by omega) ?_
  refine m_iald (nA := 163) (f := σ) hx hb hK hH hY.2.1 dX9_darkness_33 ?_ (by omega) (by omega)
  refine j_norm (y := (σ (88 + 13 * i + (((σ (86 + 13 * i))).toNat)))) rfl ?_
  refine j_isub hx hb dX9_darkness_34 ?_
  refine j_norm (y := drk σ i k) rfl ?_
  subst hQ
  refine m_iret hx hb hr hlocks hH hS dX9_darkness_35 ?_ (by omega)
  refine ⟨?_, rfl, rfl⟩
  rfl

abbrev rm_c_X9_forward : Room := { frames := 2, cells := 0, slots := 0, locals := 44 }
set_option maxHeartbeats 4000000 in
set_option maxRecDepth 100000 in
theorem c_X9_forward (l : Launch) (G : wG) (μ : hM) (n : Nat) (yy : Nat) (σ α β κ χ ω : Nat → Int) (kn ik ln en fr pl wr : Int) (hY : IsMM G μ yy σ α β κ χ ω kn ik ln en fr pl wr) (i : Nat) (day : Int) (hOk : OkS σ) (hi : i < 6) (hd : 0 ≤ day ∧ day ≤ 36524) : Met l yX9_forward wsX9_forward rm_c_X9_forward (mPc G μ n [.ref yy, .int (iv (i : Int)), .int (iv day)]) (mQi G (fun z μ1 n1 => z = fwd σ (dig day) i ∧ μ1 = μ ∧ n1 = n)) 0 0 (gA G) := by
  refine Met.ofW (cc := cX9_forward) (maxL := 3) (ret := (some .int)) (by decide) rfl ?_
  intro p e s m args below meth c s₁ B hml hv
  obtain ⟨hav, hK, hH⟩ := hv
  have hx := B.exec
  have hb := B.bytes
  have hr := B.returns
  have hts := atoms_spec (ws := wsX9_forward) B.pre
  have hown : s.vm.findClass RX9 = some m.cls := findClass_of_methodNamed B.named
  have hlocks := B.notSynchronized
  have hS : va_S (gA G) s.heap s.heap [] := va_S.rf
  have hl := lv_entry ([.ref yy, .int (iv (i : Int)), .int (iv day)]) (n := 3) (Nat.le_of_ble_eq_true rfl)
  have hfr : entryFrame m args 3 = entryFrame m ([.ref yy, .int (iv (i : Int)), .int (iv day)] : List Value).toArray 3 := by rw [hav]
  rw [hfr, lg_entry_eq]
  generalize (lg_sl ([.ref yy, .int (iv (i : Int)), .int (iv day)]) ++ List.replicate (3 - (lg_sl ([.ref yy, .int (iv (i : Int)), .int (iv day)])).length) Slot.unset).toArray = ls at hl ⊢
  have hl : lv_has ls 3 [(0, .ref yy), (1, .int (iv (i : Int))), (2, .int (iv day))] := hl
  generalize hQ : MQ below _ args s 0 0 (gA G) = Q
  show W p l e rm_c_X9_forward s m args below meth c s.heap [] 0 0 Q (F0 m 0 ls [])
  obtain ⟨H, hHe⟩ : ∃ H, H = s.heap := ⟨_, rfl⟩
  obtain ⟨locs, hlo⟩ : ∃ q : List Loc, q = [] := ⟨_, rfl⟩
  have hH : gP G μ n H := by rw [hHe]; exact hH
  have hS : va_S (gA G) s.heap H locs := by rw [hHe, hlo]; exact hS
  suffices hgo : W p l e rm_c_X9_forward s m args below meth c H locs 0 0 Q (F0 m 0 ls []) by rw [hHe, hlo] at hgo; exact hgo
  clear hHe hlo hfr hav
  have f_0 := hts (.fieldLink RX9 7 "StampDaterModel" "s" "[I") (List.mem_of_getElem? (i := 1) rfl)
  have i_X9 : ∀ w ∈ u_ws RX9 TX9 13, w ∈ wsX9_forward := by decide +kernel
  have hfr : MFr yy μ μ := MFr.rf
  have h86_i := (hOk.2.2.2.2 i (by omega)).2.1
  have hdg := dig_rng hd
  have hda := dAt_rng (dig day) i
  refine lv_iload_n hx hb dX9_forward_0 rfl (lv_at hl 2 rfl) ?_
  refine m_callSi (As := [.int (iv day)]) (rest := []) ⟨hx, hb, hml, hown, hts⟩ hK hH hS (c_X9_digitsOf l G μ n day (by omega)) (va_cwS 1 hts gX9_forward_X9_digitsOf rfl rfl rfl (by decide +kernel) ⟨(Nat.le_of_ble_eq_true rfl), (Nat.le_of_ble_eq_true rfl)⟩) rfl rfl hl.1 (Nat.le_of_ble_eq_true rfl) dX9_forward_1 ⟨Nat.zero_le _, Nat.zero_le _⟩ (fun z4 μ1 n2 H locs hz4 hp3 hH hS => ?_)
  obtain ⟨hz2, hm2, hn2⟩ := hp3; rw [hz2]; rw [hm2, hn2] at hH; clear hz2 hm2 hn2
  refine lv_iload_n hx hb dX9_forward_4 rfl (lv_at hl 1 rfl) ?_
  refine m_callSi (As := [.int (iv (dig day)), .int (iv (i : Int))]) (rest := []) ⟨hx, hb, hml, hown, hts⟩ hK hH hS (c_X9_digitAt l G μ n (dig day) (i : Int) (by omega) (by omega)) (va_cwS 2 hts gX9_forward_X9_digitAt rfl rfl rfl (by decide +kernel) ⟨(Nat.le_of_ble_eq_true rfl), (Nat.le_of_ble_eq_true rfl)⟩) rfl rfl hl.1 (Nat.le_of_ble_eq_true rfl) dX9_forward_5 ⟨Nat.zero_le _, Nat.zero_le _⟩ (fun z8 μ5 n6 H locs hz8 hp7 hH hS => ?_)
  obtain ⟨hz2, hm2, hn2⟩ := hp7; rw [hz2]; rw [hm2, hn2] at hH; clear hz2 hm2 hn2
  refine lv_aload_n hx hb dX9_forward_8 rfl (lv_at hl 0 rfl) ?_
  refine m_get (C := RX9) (T := TX9) (N := 13) (ci := 8) hx hb hts i_X9 hown hK hH hY.1 rfl 0 (by decide) f_0 rfl dX9_forward_9 ?_
  refine lv_iload_n hx hb dX9_forward_12 rfl (lv_at hl 1 rfl) ?_
  refine j_const hx hb dX9_forward_13 ?_
  refine m_callSi (As := [.int (iv (i : Int)), .int (iv 1)]) (rest := [.ref (yy + 1), .int (iv (dAt (dig day) i))]) ⟨hx, hb, hml, hown, hts⟩ hK hH hS (c_X9_of l G μ n (i : Int) 1 (by omega) (by omega)) (va_cwS 2 hts gX9_forward_X9_of rfl rfl rfl (by decide +kernel) ⟨(Nat.le_of_ble_eq_true rfl), (Nat.le_of_ble_eq_true rfl)⟩) rfl rfl hl.1 (Nat.le_of_ble_eq_true rfl) dX9_forward_14 ⟨Nat.zero_le _, Nat.zero_le _⟩ (fun z12 μ9 n10 H locs hz12 hp11 hH hS => ?_)
  obtain ⟨hz9, hm9, hn9⟩ := hp11
  rw [hm9, hn9] at hH
  rw [hz9]
  clear hz9 hm9 hn9
  refine j_norm (y := ((86 + 13 * i : Nat) : Int)) (by omega) ?_
  refine m_iald (nA := 163) (f := σ) hx hb hK hH hY.2.1 dX9_forward_17 ?_ (by omega) (by omega)
  refine j_norm (y := (σ (86 + 13 * i))) rfl ?_
  refine j_isub hx hb dX9_forward_18 ?_
  refine j_bipush hx hb dX9_forward_19 ?_ (by decide)
  refine j_iadd hx hb dX9_forward_21 ?_
  refine j_bipush hx hb dX9_forward_22 ?_ (by decide)
  refine j_irem hx hb dX9_forward_24 ?_ (by omega) (by omega)
  subst hQ
  refine m_iret hx hb hr hlocks hH hS dX9_forward_25 ?_ (by omega)
  refine ⟨?_, rfl, rfl⟩
  unfold fwd
  omega

abbrev rm_c_X9_stepsFor : Room := { frames := 3, cells := 0, slots := 0, locals := 66 }
set_option maxHeartbeats 4000000 in
set_option maxRecDepth 100000 in
theorem c_X9_stepsFor (l : Launch) (G : wG) (μ : hM) (n : Nat) (yy : Nat) (σ α β κ χ ω : Nat → Int) (kn ik ln en fr pl wr : Int) (hY : IsMM G μ yy σ α β κ χ ω kn ik ln en fr pl wr) (day : Int) (hOk : OkS σ) (hd : 0 ≤ day ∧ day ≤ 36524) : Met l yX9_stepsFor wsX9_stepsFor rm_c_X9_stepsFor (mPc G μ n [.ref yy, .int (iv day)]) (mQi G (fun z μ1 n1 => z = wsm σ (dig day) 0 6 ∧ μ1 = μ ∧ n1 = n)) 0 0 (gA G) := by
  refine Met.ofW (cc := cX9_stepsFor) (maxL := 4) (ret := (some .int)) (by decide) rfl ?_
  intro p e s m args below meth c s₁ B hml hv
  obtain ⟨hav, hK, hH⟩ := hv
  have hx := B.exec
  have hb := B.bytes
  have hr := B.returns
  have hts := atoms_spec (ws := wsX9_stepsFor) B.pre
  have hown : s.vm.findClass RX9 = some m.cls := findClass_of_methodNamed B.named
  have hlocks := B.notSynchronized
  have hS : va_S (gA G) s.heap s.heap [] := va_S.rf
  have hl := lv_entry ([.ref yy, .int (iv day)]) (n := 4) (Nat.le_of_ble_eq_true rfl)
  have hfr : entryFrame m args 4 = entryFrame m ([.ref yy, .int (iv day)] : List Value).toArray 4 := by rw [hav]
  rw [hfr, lg_entry_eq]
  generalize (lg_sl ([.ref yy, .int (iv day)]) ++ List.replicate (4 - (lg_sl ([.ref yy, .int (iv day)])).length) Slot.unset).toArray = ls at hl ⊢
  have hl : lv_has ls 4 [(0, .ref yy), (1, .int (iv day))] := hl
  generalize hQ : MQ below _ args s 0 0 (gA G) = Q
  show W p l e rm_c_X9_stepsFor s m args below meth c s.heap [] 0 0 Q (F0 m 0 ls [])
  obtain ⟨H, hHe⟩ : ∃ H, H = s.heap := ⟨_, rfl⟩
  obtain ⟨locs, hlo⟩ : ∃ q : List Loc, q = [] := ⟨_, rfl⟩
  have hH : gP G μ n H := by rw [hHe]; exact hH
  have hS : va_S (gA G) s.heap H locs := by rw [hHe, hlo]; exact hS
  suffices hgo : W p l e rm_c_X9_stepsFor s m args below meth c H locs 0 0 Q (F0 m 0 ls []) by rw [hHe, hlo] at hgo; exact hgo
  clear hHe hlo hfr hav
  have hfr : MFr yy μ μ := MFr.rf
  refine j_const hx hb dX9_stepsFor_0 ?_
  refine lv_istore_n (lv' := [(2, .int (iv 0)), (0, .ref yy), (1, .int (iv day))]) hx hb dX9_stepsFor_1 rfl hl (by decide) rfl (fun ls hl => ?_)
  refine j_const hx hb dX9_stepsFor_2 ?_
  refine lv_istore_n (lv' := [(3, .int (iv 0)), (2, .int (iv 0)), (0, .ref yy), (1, .int (iv day))]) hx hb dX9_stepsFor_3 rfl hl (by decide) rfl (fun ls hl => ?_)
  have lp4 : ∀ (fuel : Nat) (i : Nat) (a0 : Int) (hi : i ≤ 6) (hacc : a0 = wsm σ (dig day) 0 (i : Int)) (_ : 6 - i < fuel) (H : Heap) (locs : List Loc) (ls : Array Slot) (_ : gP G μ n H) (_ : va_S (gA G) s.heap H locs) (_ : lv_has ls 4 [(0, .ref yy), (1, .int (iv day)), (2, .int (iv a0)), (3, .int (iv (i : Int)))]), W p l e rm_c_X9_stepsFor s m args below meth c H locs 0 0 Q (F0 m 4 ls []) := by
    intro fuel
    induction fuel with
    | zero => intro _ _ _ _ hfuel; exact absurd hfuel (Nat.not_lt_zero _)
    | succ fuel ih =>
      intro i a0 hi hacc hfuel H locs ls hH hS hl
      have ih1 := ih; clear ih
      refine lv_iload_n hx hb dX9_stepsFor_4 rfl (lv_at hl 3 rfl) ?_
      refine j_bipush hx hb dX9_stepsFor_5 ?_ (by decide)
      refine j_icmp_ge (tgt := 37) hx hb dX9_stepsFor_7 (by decide) (fun c2 => ?_) (fun c2 => ?_) (by omega) (by omega)
      · skip
        have hwr := wsm_rng σ (dig day) 0 6
        have ha6 : a0 = wsm σ (dig day) 0 6 := by rw [hacc, show (i : Int) = 6 by omega]
        refine lv_iload_n hx hb dX9_stepsFor_37 rfl (lv_at hl 2 rfl) ?_
        subst hQ
        refine m_iret hx hb hr hlocks hH hS dX9_stepsFor_38 ?_ (by omega)
        refine ⟨?_, rfl, rfl⟩
        exact ha6
      · skip
        have hfw := fwd_rng σ (dig day) i
        refine lv_iload_n hx hb dX9_stepsFor_10 rfl (lv_at hl 2 rfl) ?_
        refine lv_aload_n hx hb dX9_stepsFor_11 rfl (lv_at hl 0 rfl) ?_
        refine lv_iload_n hx hb dX9_stepsFor_12 rfl (lv_at hl 3 rfl) ?_
        refine lv_iload_n hx hb dX9_stepsFor_13 rfl (lv_at hl 1 rfl) ?_
        refine m_callVi (As := [.int (iv (i : Int)), .int (iv day)]) (rest := [.int (iv a0)]) ⟨hx, hb, hml, hown, hts⟩ hK hH hS (c_X9_forward l G μ n yy σ α β κ χ ω kn ik ln en fr pl wr hY i day hOk (by omega) (by omega)) (cwV 2 hts gX9_stepsFor_X9_forward rfl rfl rfl (by decide +kernel) ⟨(Nat.le_of_ble_eq_true rfl), (Nat.le_of_ble_eq_true rfl)⟩) hY.1 rfl rfl rfl rfl hl.1 (Nat.le_of_ble_eq_true rfl) dX9_stepsFor_14 ⟨Nat.zero_le _, Nat.zero_le _⟩ (fun z6 μ3 n4 H locs hz6 hp5 hH hS => ?_)
        obtain ⟨hz2, hm2, hn2⟩ := hp5; rw [hz2]; rw [hm2, hn2] at hH; clear hz2 hm2 hn2
        refine j_bipush hx hb dX9_stepsFor_17 ?_ (by decide)
        refine lv_aload_n hx hb dX9_stepsFor_19 rfl (lv_at hl 0 rfl) ?_
        refine lv_iload_n hx hb dX9_stepsFor_20 rfl (lv_at hl 3 rfl) ?_
        refine lv_iload_n hx hb dX9_stepsFor_21 rfl (lv_at hl 1 rfl) ?_
        refine m_callVi (As := [.int (iv (i : Int)), .int (iv day)]) (rest := [.int (iv 10), .int (iv (fwd σ (dig day) i)), .int (iv a0)]) ⟨hx, hb, hml, hown, hts⟩ hK hH hS (c_X9_forward l G μ n yy σ α β κ χ ω kn ik ln en fr pl wr hY i day hOk (by omega) (by omega)) (cwV 2 hts gX9_stepsFor_X9_forward rfl rfl rfl (by decide +kernel) ⟨(Nat.le_of_ble_eq_true rfl), (Nat.le_of_ble_eq_true rfl)⟩) hY.1 rfl rfl rfl rfl hl.1 (Nat.le_of_ble_eq_true rfl) dX9_stepsFor_22 ⟨Nat.zero_le _, Nat.zero_le _⟩ (fun z10 μ7 n8 H locs hz10 hp9 hH hS => ?_)
        obtain ⟨hz2, hm2, hn2⟩ := hp9; rw [hz2]; rw [hm2, hn2] at hH; clear hz2 hm2 hn2
        refine j_isub hx hb dX9_stepsFor_25 ?_
        refine m_callSi (As := [.int (iv (fwd σ (dig day) i)), .int (iv (10 - (fwd σ (dig day) i)))]) (rest := [.int (iv a0)]) ⟨hx, hb, hml, hown, hts⟩ hK hH hS (c_X9_least l G μ n (fwd σ (dig day) i) (10 - (fwd σ (dig day) i)) (by omega) (by omega)) (va_cwS 2 hts gX9_stepsFor_X9_least rfl rfl rfl (by decide +kernel) ⟨(Nat.le_of_ble_eq_true rfl), (Nat.le_of_ble_eq_true rfl)⟩) rfl rfl hl.1 (Nat.le_of_ble_eq_true rfl) dX9_stepsFor_26 ⟨Nat.zero_le _, Nat.zero_le _⟩ (fun z14 μ11 n12 H locs hz14 hp13 hH hS => ?_)
        obtain ⟨hz2, hm2, hn2⟩ := hp13; rw [hz2]; rw [hm2, hn2] at hH; clear hz2 hm2 hn2
        refine j_iadd hx hb dX9_stepsFor_29 ?_
        refine lv_istore_n (lv' := [(2, .int (iv (a0 + (min (fwd σ (dig day) i) (10 - (fwd σ (dig day) i)))))), (0, .ref yy), (1, .int (iv day)), (3, .int (iv (i : Int)))]) hx hb dX9_stepsFor_30 rfl hl (by decide) rfl (fun ls hl => ?_)
        refine j_iinc (lv' := [(3, .int (iv ((i : Int) + 1))), (2, .int (iv (a0 + (min (fwd σ (dig day) i) (10 - (fwd σ (dig day) i)))))), (0, .ref yy), (1, .int (iv day))]) hx hb dX9_stepsFor_31 hl (k := 3) rfl (by decide) rfl (fun ls hl => ?_)
        refine lv_goto (tgt := 4) hx hb dX9_stepsFor_34 (by decide) ?_
        exact ih1 (i + 1) (a0 + (min (fwd σ (dig day) i) (10 - (fwd σ (dig day) i)))) (by omega) (by rw [hacc, fwd_ab]; exact wsm_hi (by omega)) (by omega) H locs ls hH hS (lv_sub hl [2, 3, 1, 0] rfl)
  exact lp4 (7) 0 0 (by omega) (wsm_no (by omega)).symm (by omega) H locs ls hH hS (lv_sub hl [2, 3, 1, 0] rfl)

abbrev rm_c_X9_steps : Room := { frames := 1, cells := 0, slots := 0, locals := 21 }
set_option maxHeartbeats 4000000 in
set_option maxRecDepth 100000 in
theorem c_X9_steps (l : Launch) (G : wG) (μ : hM) (n : Nat) (yy : Nat) (σ α β κ χ ω : Nat → Int) (kn ik ln en fr pl wr : Int) (hY : IsMM G μ yy σ α β κ χ ω kn ik ln en fr pl wr) (i : Nat) (k b : Int) (hOk : OkS σ) (hi : i < 6) (hk : 0 ≤ k ∧ k ≤ 9) (hb1 : 0 ≤ b ∧ b ≤ 1) : Met l yX9_steps wsX9_steps rm_c_X9_steps (mPc G μ n [.ref yy, .int (iv (i : Int)), .int (iv k), .int (iv b)]) (mQv G (fun μ1 n1 => IsMM G μ1 yy (trn σ i (if b = 1 then k else -k)) α β κ χ ω kn ik ln en fr pl wr ∧ MFr yy μ μ1)) 0 0 (gA G) := by
  refine Met.ofW (cc := cX9_steps) (maxL := 4) (ret := none) (by decide) rfl ?_
  intro p e s m args below meth c s₁ B hml hv
  obtain ⟨hav, hK, hH⟩ := hv
  have hx := B.exec
  have hb := B.bytes
  have hr := B.returns
  have hts := atoms_spec (ws := wsX9_steps) B.pre
  have hown : s.vm.findClass RX9 = some m.cls := findClass_of_methodNamed B.named
  have hlocks := B.notSynchronized
  have hS : va_S (gA G) s.heap s.heap [] := va_S.rf
  have hl := lv_entry ([.ref yy, .int (iv (i : Int)), .int (iv k), .int (iv b)]) (n := 4) (Nat.le_of_ble_eq_true rfl)
  have hfr : entryFrame m args 4 = entryFrame m ([.ref yy, .int (iv (i : Int)), .int (iv k), .int (iv b)] : List Value).toArray 4 := by rw [hav]
  rw [hfr, lg_entry_eq]
  generalize (lg_sl ([.ref yy, .int (iv (i : Int)), .int (iv k), .int (iv b)]) ++ List.replicate (4 - (lg_sl ([.ref yy, .int (iv (i : Int)), .int (iv k), .int (iv b)])).length) Slot.unset).toArray = ls at hl ⊢
  have hl : lv_has ls 4 [(0, .ref yy), (1, .int (iv (i : Int))), (2, .int (iv k)), (3, .int (iv b))] := hl
  generalize hQ : MQ below _ args s 0 0 (gA G) = Q
  show W p l e rm_c_X9_steps s m args below meth c s.heap [] 0 0 Q (F0 m 0 ls [])
  obtain ⟨H, hHe⟩ : ∃ H, H = s.heap := ⟨_, rfl⟩
  obtain ⟨locs, hlo⟩ : ∃ q : List Loc, q = [] := ⟨_, rfl⟩
  have hH : gP G μ n H := by rw [hHe]; exact hH
  have hS : va_S (gA G) s.heap H locs := by rw [hHe, hlo]; exact hS
  suffices hgo : W p l e rm_c_X9_steps s m args below meth c H locs 0 0 Q (F0 m 0 ls []) by rw [hHe, hlo] at hgo; exact hgo
  clear hHe hlo hfr hav
  have f_0 := hts (.fieldLink RX9 7 "StampDaterModel" "s" "[I") (List.mem_of_getElem? (i := 1) rfl)
  have i_X9 : ∀ w ∈ u_ws RX9 TX9 13, w ∈ wsX9_steps := by decide +kernel
  have hfr : MFr yy μ μ := MFr.rf
  have h86_i := (hOk.2.2.2.2 i (by omega)).2.1
  have h87 := (hOk.2.2.2.2 i hi).2.2.1
  refine lv_aload_n hx hb dX9_steps_0 rfl (lv_at hl 0 rfl) ?_
  refine m_get (C := RX9) (T := TX9) (N := 13) (ci := 8) hx hb hts i_X9 hown hK hH hY.1 rfl 0 (by decide) f_0 rfl dX9_steps_1 ?_
  refine lv_iload_n hx hb dX9_steps_4 rfl (lv_at hl 1 rfl) ?_
  refine j_const hx hb dX9_steps_5 ?_
  refine m_callSi (As := [.int (iv (i : Int)), .int (iv 1)]) (rest := [.ref (yy + 1)]) ⟨hx, hb, hml, hown, hts⟩ hK hH hS (c_X9_of l G μ n (i : Int) 1 (by omega) (by omega)) (va_cwS 2 hts gX9_steps_X9_of rfl rfl rfl (by decide +kernel) ⟨(Nat.le_of_ble_eq_true rfl), (Nat.le_of_ble_eq_true rfl)⟩) rfl rfl hl.1 (Nat.le_of_ble_eq_true rfl) dX9_steps_6 ⟨Nat.zero_le _, Nat.zero_le _⟩ (fun z4 μ1 n2 H locs hz4 hp3 hH hS => ?_)
  obtain ⟨hz9, hm9, hn9⟩ := hp3
  rw [hm9, hn9] at hH
  rw [hz9]
  clear hz9 hm9 hn9
  refine j_norm (y := ((86 + 13 * i : Nat) : Int)) (by omega) ?_
  refine lv_aload_n hx hb dX9_steps_9 rfl (lv_at hl 0 rfl) ?_
  refine m_get (C := RX9) (T := TX9) (N := 13) (ci := 8) hx hb hts i_X9 hown hK hH hY.1 rfl 0 (by decide) f_0 rfl dX9_steps_10 ?_
  refine lv_iload_n hx hb dX9_steps_13 rfl (lv_at hl 1 rfl) ?_
  refine j_const hx hb dX9_steps_14 ?_
  refine m_callSi (As := [.int (iv (i : Int)), .int (iv 1)]) (rest := [.ref (yy + 1), .int (iv ((86 + 13 * i : Nat) : Int)), .ref (yy + 1)]) ⟨hx, hb, hml, hown, hts⟩ hK hH hS (c_X9_of l G μ n (i : Int) 1 (by omega) (by omega)) (va_cwS 2 hts gX9_steps_X9_of rfl rfl rfl (by decide +kernel) ⟨(Nat.le_of_ble_eq_true rfl), (Nat.le_of_ble_eq_true rfl)⟩) rfl rfl hl.1 (Nat.le_of_ble_eq_true rfl) dX9_steps_15 ⟨Nat.zero_le _, Nat.zero_le _⟩ (fun z8 μ5 n6 H locs hz8 hp7 hH hS => ?_)
  obtain ⟨hz9, hm9, hn9⟩ := hp7
  rw [hm9, hn9] at hH
  rw [hz9]
  clear hz9 hm9 hn9
  refine j_norm (y := ((86 + 13 * i : Nat) : Int)) (by omega) ?_
  refine m_iald (nA := 163) (f := σ) hx hb hK hH hY.2.1 dX9_steps_18 ?_ (by omega) (by omega)
  refine j_norm (y := (σ (86 + 13 * i))) rfl ?_
  refine lv_iload_n hx hb dX9_steps_19 rfl (lv_at hl 3 rfl) ?_
  refine j_if_eq (tgt := 27) hx hb dX9_steps_20 (by decide) (fun c9 => ?_) (fun c9 => ?_) (by omega)
  · skip
    refine j_bipush hx hb dX9_steps_27 ?_ (by decide)
    refine lv_iload_n hx hb dX9_steps_29 rfl (lv_at hl 2 rfl) ?_
    refine j_isub hx hb dX9_steps_30 ?_
    refine j_iadd hx hb dX9_steps_31 ?_
    refine j_bipush hx hb dX9_steps_32 ?_ (by decide)
    refine j_irem hx hb dX9_steps_34 ?_ (by omega) (by omega)
    refine m_iast (nA := 163) (f := σ) hx hb hK hH hS hY.2.1 dX9_steps_35 (fun H locs hH hS => ?_) (by omega) (by omega)
    obtain ⟨ν10, hY, hfr, hH⟩ : ∃ ξ : hM, IsMM G ξ yy (fu σ (86 + 13 * i) (((σ (86 + 13 * i)) + (10 - k)) % 10)) α β κ χ ω kn ik ln en fr pl wr ∧ MFr yy μ ξ ∧ gP G ξ n H := hY.w1 hfr hH
    have hH : gP G ν10 n H := hH
    refine lv_aload_n hx hb dX9_steps_36 rfl (lv_at hl 0 rfl) ?_
    refine m_get (C := RX9) (T := TX9) (N := 13) (ci := 8) hx hb hts i_X9 hown hK hH hY.1 rfl 0 (by decide) f_0 rfl dX9_steps_37 ?_
    refine lv_iload_n hx hb dX9_steps_40 rfl (lv_at hl 1 rfl) ?_
    refine j_const hx hb dX9_steps_41 ?_
    refine m_callSi (As := [.int (iv (i : Int)), .int (iv 2)]) (rest := [.ref (yy + 1)]) ⟨hx, hb, hml, hown, hts⟩ hK hH hS (c_X9_of l G ν10 n (i : Int) 2 (by omega) (by omega)) (va_cwS 2 hts gX9_steps_X9_of rfl rfl rfl (by decide +kernel) ⟨(Nat.le_of_ble_eq_true rfl), (Nat.le_of_ble_eq_true rfl)⟩) rfl rfl hl.1 (Nat.le_of_ble_eq_true rfl) dX9_steps_42 ⟨Nat.zero_le _, Nat.zero_le _⟩ (fun z14 μ11 n12 H locs hz14 hp13 hH hS => ?_)
    obtain ⟨hz9, hm9, hn9⟩ := hp13
    rw [hm9, hn9] at hH
    rw [hz9]
    clear hz9 hm9 hn9
    refine j_norm (y := ((87 + 13 * i : Nat) : Int)) (by omega) ?_
    refine lv_aload_n hx hb dX9_steps_45 rfl (lv_at hl 0 rfl) ?_
    refine m_get (C := RX9) (T := TX9) (N := 13) (ci := 8) hx hb hts i_X9 hown hK hH hY.1 rfl 0 (by decide) f_0 rfl dX9_steps_46 ?_
    refine lv_iload_n hx hb dX9_steps_49 rfl (lv_at hl 1 rfl) ?_
    refine j_const hx hb dX9_steps_50 ?_
    refine m_callSi (As := [.int (iv (i : Int)), .int (iv 2)]) (rest := [.ref (yy + 1), .int (iv ((87 + 13 * i : Nat) : Int)), .ref (yy + 1)]) ⟨hx, hb, hml, hown, hts⟩ hK hH hS (c_X9_of l G ν10 n (i : Int) 2 (by omega) (by omega)) (va_cwS 2 hts gX9_steps_X9_of rfl rfl rfl (by decide +kernel) ⟨(Nat.le_of_ble_eq_true rfl), (Nat.le_of_ble_eq_true rfl)⟩) rfl rfl hl.1 (Nat.le_of_ble_eq_true rfl) dX9_steps_51 ⟨Nat.zero_le _, Nat.zero_le _⟩ (fun z18 μ15 n16 H locs hz18 hp17 hH hS => ?_)
    obtain ⟨hz9, hm9, hn9⟩ := hp17
    rw [hm9, hn9] at hH
    rw [hz9]
    clear hz9 hm9 hn9
    refine j_norm (y := ((87 + 13 * i : Nat) : Int)) (by omega) ?_
    refine m_iald (nA := 163) (f := (fu σ (86 + 13 * i) (((σ (86 + 13 * i)) + (10 - k)) % 10))) hx hb hK hH hY.2.1 dX9_steps_54 ?_ (by omega) (by omega)
    refine j_norm (y := ((fu σ (86 + 13 * i) (((σ (86 + 13 * i)) + (10 - k)) % 10)) (87 + 13 * i))) rfl ?_
    refine j_norm (y := (σ (87 + 13 * i))) (fu_n (by omega)) ?_
    refine lv_iload_n hx hb dX9_steps_55 rfl (lv_at hl 2 rfl) ?_
    refine j_iadd hx hb dX9_steps_56 ?_
    refine j_bipush hx hb dX9_steps_57 ?_ (by decide)
    refine m_callSi (As := [.int (iv ((σ (87 + 13 * i)) + k)), .int (iv 99)]) (rest := [.int (iv ((87 + 13 * i : Nat) : Int)), .ref (yy + 1)]) ⟨hx, hb, hml, hown, hts⟩ hK hH hS (c_X9_least l G ν10 n ((σ (87 + 13 * i)) + k) 99 (by omega) (by omega)) (va_cwS 2 hts gX9_steps_X9_least rfl rfl rfl (by decide +kernel) ⟨(Nat.le_of_ble_eq_true rfl), (Nat.le_of_ble_eq_true rfl)⟩) rfl rfl hl.1 (Nat.le_of_ble_eq_true rfl) dX9_steps_59 ⟨Nat.zero_le _, Nat.zero_le _⟩ (fun z22 μ19 n20 H locs hz22 hp21 hH hS => ?_)
    obtain ⟨hz2, hm2, hn2⟩ := hp21; rw [hz2]; rw [hm2, hn2] at hH; clear hz2 hm2 hn2
    refine m_iast (nA := 163) (f := (fu σ (86 + 13 * i) (((σ (86 + 13 * i)) + (10 - k)) % 10))) hx hb hK hH hS hY.2.1 dX9_steps_62 (fun H locs hH hS => ?_) (by omega) (by omega)
    obtain ⟨ν23, hY, hfr, hH⟩ : ∃ ξ : hM, IsMM G ξ yy (fu (fu σ (86 + 13 * i) (((σ (86 + 13 * i)) + (10 - k)) % 10)) (87 + 13 * i) (min ((σ (87 + 13 * i)) + k) 99)) α β κ χ ω kn ik ln en fr pl wr ∧ MFr yy μ ξ ∧ gP G ξ n H := hY.w1 hfr hH
    have hH : gP G ν23 n H := hH
    refine lv_aload_n hx hb dX9_steps_63 rfl (lv_at hl 0 rfl) ?_
    refine m_get (C := RX9) (T := TX9) (N := 13) (ci := 8) hx hb hts i_X9 hown hK hH hY.1 rfl 0 (by decide) f_0 rfl dX9_steps_64 ?_
    refine j_bipush hx hb dX9_steps_67 ?_ (by decide)
    refine lv_dup2_11 hx hb dX9_steps_69 rfl rfl ?_
    refine m_iald (nA := 163) (f := (fu (fu σ (86 + 13 * i) (((σ (86 + 13 * i)) + (10 - k)) % 10)) (87 + 13 * i) (min ((σ (87 + 13 * i)) + k) 99))) hx hb hK hH hY.2.1 dX9_steps_70 ?_ (by omega) (by omega)
    refine j_norm (y := ((fu (fu σ (86 + 13 * i) (((σ (86 + 13 * i)) + (10 - k)) % 10)) (87 + 13 * i) (min ((σ (87 + 13 * i)) + k) 99)) 9)) rfl ?_
    refine j_norm (y := (σ 9)) (by rw [fu_n (by omega), fu_n (by omega)]) ?_
    refine lv_iload_n hx hb dX9_steps_71 rfl (lv_at hl 2 rfl) ?_
    refine j_iadd hx hb dX9_steps_72 ?_
    refine m_iast (nA := 163) (f := (fu (fu σ (86 + 13 * i) (((σ (86 + 13 * i)) + (10 - k)) % 10)) (87 + 13 * i) (min ((σ (87 + 13 * i)) + k) 99))) hx hb hK hH hS hY.2.1 dX9_steps_73 (fun H locs hH hS => ?_) (by omega) (by omega)
    obtain ⟨ν24, hY, hfr, hH⟩ : ∃ ξ : hM, IsMM G ξ yy (fu (fu (fu σ (86 + 13 * i) (((σ (86 + 13 * i)) + (10 - k)) % 10)) (87 + 13 * i) (min ((σ (87 + 13 * i)) + k) 99)) 9 ((σ 9) + k)) α β κ χ ω kn ik ln en fr pl wr ∧ MFr yy μ ξ ∧ gP G ξ n H := hY.w1 hfr hH
    have hH : gP G ν24 n H := hH
    subst hQ
    refine m_vret hx hb hr hlocks hH hS dX9_steps_74 ?_
    have hq9 : fu (fu (fu σ (86 + 13 * i) (((σ (86 + 13 * i)) + (10 - k)) % 10)) (87 + 13 * i) (min ((σ (87 + 13 * i)) + k) 99)) 9 ((σ 9) + k) = (trn σ i (if b = 1 then k else -k)) := trn_m hi hk (by split <;> omega) (by split <;> omega) rfl rfl
    rw [hq9] at hY
    clear hq9
    exact ⟨hY, hfr⟩
  · skip
    refine lv_iload_n hx hb dX9_steps_23 rfl (lv_at hl 2 rfl) ?_
    refine lv_goto (tgt := 31) hx hb dX9_steps_24 (by decide) ?_
    refine j_iadd hx hb dX9_steps_31 ?_
    refine j_bipush hx hb dX9_steps_32 ?_ (by decide)
    refine j_irem hx hb dX9_steps_34 ?_ (by omega) (by omega)
    refine m_iast (nA := 163) (f := σ) hx hb hK hH hS hY.2.1 dX9_steps_35 (fun H locs hH hS => ?_) (by omega) (by omega)
    obtain ⟨ν25, hY, hfr, hH⟩ : ∃ ξ : hM, IsMM G ξ yy (fu σ (86 + 13 * i) (((σ (86 + 13 * i)) + k) % 10)) α β κ χ ω kn ik ln en fr pl wr ∧ MFr yy μ ξ ∧ gP G ξ n H := hY.w1 hfr hH
    have hH : gP G ν25 n H := hH
    refine lv_aload_n hx hb dX9_steps_36 rfl (lv_at hl 0 rfl) ?_
    refine m_get (C := RX9) (T := TX9) (N := 13) (ci := 8) hx hb hts i_X9 hown hK hH hY.1 rfl 0 (by decide) f_0 rfl dX9_steps_37 ?_
    refine lv_iload_n hx hb dX9_steps_40 rfl (lv_at hl 1 rfl) ?_
    refine j_const hx hb dX9_steps_41 ?_
    refine m_callSi (As := [.int (iv (i : Int)), .int (iv 2)]) (rest := [.ref (yy + 1)]) ⟨hx, hb, hml, hown, hts⟩ hK hH hS (c_X9_of l G ν25 n (i : Int) 2 (by omega) (by omega)) (va_cwS 2 hts gX9_steps_X9_of rfl rfl rfl (by decide +kernel) ⟨(Nat.le_of_ble_eq_true rfl), (Nat.le_of_ble_eq_true rfl)⟩) rfl rfl hl.1 (Nat.le_of_ble_eq_true rfl) dX9_steps_42 ⟨Nat.zero_le _, Nat.zero_le _⟩ (fun z29 μ26 n27 H locs hz29 hp28 hH hS => ?_)
    obtain ⟨hz9, hm9, hn9⟩ := hp28
    rw [hm9, hn9] at hH
    rw [hz9]
    clear hz9 hm9 hn9
    refine j_norm (y := ((87 + 13 * i : Nat) : Int)) (by omega) ?_
    refine lv_aload_n hx hb dX9_steps_45 rfl (lv_at hl 0 rfl) ?_
    refine m_get (C := RX9) (T := TX9) (N := 13) (ci := 8) hx hb hts i_X9 hown hK hH hY.1 rfl 0 (by decide) f_0 rfl dX9_steps_46 ?_
    refine lv_iload_n hx hb dX9_steps_49 rfl (lv_at hl 1 rfl) ?_
    refine j_const hx hb dX9_steps_50 ?_
    refine m_callSi (As := [.int (iv (i : Int)), .int (iv 2)]) (rest := [.ref (yy + 1), .int (iv ((87 + 13 * i : Nat) : Int)), .ref (yy + 1)]) ⟨hx, hb, hml, hown, hts⟩ hK hH hS (c_X9_of l G ν25 n (i : Int) 2 (by omega) (by omega)) (va_cwS 2 hts gX9_steps_X9_of rfl rfl rfl (by decide +kernel) ⟨(Nat.le_of_ble_eq_true rfl), (Nat.le_of_ble_eq_true rfl)⟩) rfl rfl hl.1 (Nat.le_of_ble_eq_true rfl) dX9_steps_51 ⟨Nat.zero_le _, Nat.zero_le _⟩ (fun z33 μ30 n31 H locs hz33 hp32 hH hS => ?_)
    obtain ⟨hz9, hm9, hn9⟩ := hp32
    rw [hm9, hn9] at hH
    rw [hz9]
    clear hz9 hm9 hn9
    refine j_norm (y := ((87 + 13 * i : Nat) : Int)) (by omega) ?_
    refine m_iald (nA := 163) (f := (fu σ (86 + 13 * i) (((σ (86 + 13 * i)) + k) % 10))) hx hb hK hH hY.2.1 dX9_steps_54 ?_ (by omega) (by omega)
    refine j_norm (y := ((fu σ (86 + 13 * i) (((σ (86 + 13 * i)) + k) % 10)) (87 + 13 * i))) rfl ?_
    refine j_norm (y := (σ (87 + 13 * i))) (fu_n (by omega)) ?_
    refine lv_iload_n hx hb dX9_steps_55 rfl (lv_at hl 2 rfl) ?_
    refine j_iadd hx hb dX9_steps_56 ?_
    refine j_bipush hx hb dX9_steps_57 ?_ (by decide)
    refine m_callSi (As := [.int (iv ((σ (87 + 13 * i)) + k)), .int (iv 99)]) (rest := [.int (iv ((87 + 13 * i : Nat) : Int)), .ref (yy + 1)]) ⟨hx, hb, hml, hown, hts⟩ hK hH hS (c_X9_least l G ν25 n ((σ (87 + 13 * i)) + k) 99 (by omega) (by omega)) (va_cwS 2 hts gX9_steps_X9_least rfl rfl rfl (by decide +kernel) ⟨(Nat.le_of_ble_eq_true rfl), (Nat.le_of_ble_eq_true rfl)⟩) rfl rfl hl.1 (Nat.le_of_ble_eq_true rfl) dX9_steps_59 ⟨Nat.zero_le _, Nat.zero_le _⟩ (fun z37 μ34 n35 H locs hz37 hp36 hH hS => ?_)
    obtain ⟨hz2, hm2, hn2⟩ := hp36; rw [hz2]; rw [hm2, hn2] at hH; clear hz2 hm2 hn2
    refine m_iast (nA := 163) (f := (fu σ (86 + 13 * i) (((σ (86 + 13 * i)) + k) % 10))) hx hb hK hH hS hY.2.1 dX9_steps_62 (fun H locs hH hS => ?_) (by omega) (by omega)
    obtain ⟨ν38, hY, hfr, hH⟩ : ∃ ξ : hM, IsMM G ξ yy (fu (fu σ (86 + 13 * i) (((σ (86 + 13 * i)) + k) % 10)) (87 + 13 * i) (min ((σ (87 + 13 * i)) + k) 99)) α β κ χ ω kn ik ln en fr pl wr ∧ MFr yy μ ξ ∧ gP G ξ n H := hY.w1 hfr hH
    have hH : gP G ν38 n H := hH
    refine lv_aload_n hx hb dX9_steps_63 rfl (lv_at hl 0 rfl) ?_
    refine m_get (C := RX9) (T := TX9) (N := 13) (ci := 8) hx hb hts i_X9 hown hK hH hY.1 rfl 0 (by decide) f_0 rfl dX9_steps_64 ?_
    refine j_bipush hx hb dX9_steps_67 ?_ (by decide)
    refine lv_dup2_11 hx hb dX9_steps_69 rfl rfl ?_
    refine m_iald (nA := 163) (f := (fu (fu σ (86 + 13 * i) (((σ (86 + 13 * i)) + k) % 10)) (87 + 13 * i) (min ((σ (87 + 13 * i)) + k) 99))) hx hb hK hH hY.2.1 dX9_steps_70 ?_ (by omega) (by omega)
    refine j_norm (y := ((fu (fu σ (86 + 13 * i) (((σ (86 + 13 * i)) + k) % 10)) (87 + 13 * i) (min ((σ (87 + 13 * i)) + k) 99)) 9)) rfl ?_
    refine j_norm (y := (σ 9)) (by rw [fu_n (by omega), fu_n (by omega)]) ?_
    refine lv_iload_n hx hb dX9_steps_71 rfl (lv_at hl 2 rfl) ?_
    refine j_iadd hx hb dX9_steps_72 ?_
    refine m_iast (nA := 163) (f := (fu (fu σ (86 + 13 * i) (((σ (86 + 13 * i)) + k) % 10)) (87 + 13 * i) (min ((σ (87 + 13 * i)) + k) 99))) hx hb hK hH hS hY.2.1 dX9_steps_73 (fun H locs hH hS => ?_) (by omega) (by omega)
    obtain ⟨ν39, hY, hfr, hH⟩ : ∃ ξ : hM, IsMM G ξ yy (fu (fu (fu σ (86 + 13 * i) (((σ (86 + 13 * i)) + k) % 10)) (87 + 13 * i) (min ((σ (87 + 13 * i)) + k) 99)) 9 ((σ 9) + k)) α β κ χ ω kn ik ln en fr pl wr ∧ MFr yy μ ξ ∧ gP G ξ n H := hY.w1 hfr hH
    have hH : gP G ν39 n H := hH
    subst hQ
    refine m_vret hx hb hr hlocks hH hS dX9_steps_74 ?_
    have hq9 : fu (fu (fu σ (86 + 13 * i) (((σ (86 + 13 * i)) + k) % 10)) (87 + 13 * i) (min ((σ (87 + 13 * i)) + k) 99)) 9 ((σ 9) + k) = (trn σ i (if b = 1 then k else -k)) := trn_m hi hk (by split <;> omega) (by split <;> omega) rfl rfl
    rw [hq9] at hY
    clear hq9
    exact ⟨hY, hfr⟩

abbrev rm_c_X9_adjusts : Room := { frames := 4, cells := 0, slots := 0, locals := 89 }
set_option maxHeartbeats 4000000 in
set_option maxRecDepth 100000 in
theorem c_X9_adjusts (l : Launch) (G : wG) (μ : hM) (n : Nat) (yy : Nat) (σ α β κ χ ω : Nat → Int) (kn ik ln en fr pl wr : Int) (hY : IsMM G μ yy σ α β κ χ ω kn ik ln en fr pl wr) (day : Int) (hOk : OkS σ) (hd : 0 ≤ day ∧ day ≤ 36524) : Met l yX9_adjusts wsX9_adjusts rm_c_X9_adjusts (mPc G μ n [.ref yy, .int (iv day)]) (mQi G (fun z μ1 n1 => z = wsm σ (dig day) 0 6 ∧ IsMM G μ1 yy (adj σ (dig day)) α β κ χ ω kn ik ln en fr pl wr ∧ MFr yy μ μ1)) 0 0 (gA G) := by
  refine Met.ofW (cc := cX9_adjusts) (maxL := 5) (ret := (some .int)) (by decide) rfl ?_
  intro p e s m args below meth c s₁ B hml hv
  obtain ⟨hav, hK, hH⟩ := hv
  have hx := B.exec
  have hb := B.bytes
  have hr := B.returns
  have hts := atoms_spec (ws := wsX9_adjusts) B.pre
  have hown : s.vm.findClass RX9 = some m.cls := findClass_of_methodNamed B.named
  have hlocks := B.notSynchronized
  have hS : va_S (gA G) s.heap s.heap [] := va_S.rf
  have hl := lv_entry ([.ref yy, .int (iv day)]) (n := 5) (Nat.le_of_ble_eq_true rfl)
  have hfr : entryFrame m args 5 = entryFrame m ([.ref yy, .int (iv day)] : List Value).toArray 5 := by rw [hav]
  rw [hfr, lg_entry_eq]
  generalize (lg_sl ([.ref yy, .int (iv day)]) ++ List.replicate (5 - (lg_sl ([.ref yy, .int (iv day)])).length) Slot.unset).toArray = ls at hl ⊢
  have hl : lv_has ls 5 [(0, .ref yy), (1, .int (iv day))] := hl
  generalize hQ : MQ below _ args s 0 0 (gA G) = Q
  show W p l e rm_c_X9_adjusts s m args below meth c s.heap [] 0 0 Q (F0 m 0 ls [])
  obtain ⟨H, hHe⟩ : ∃ H, H = s.heap := ⟨_, rfl⟩
  obtain ⟨locs, hlo⟩ : ∃ q : List Loc, q = [] := ⟨_, rfl⟩
  have hH : gP G μ n H := by rw [hHe]; exact hH
  have hS : va_S (gA G) s.heap H locs := by rw [hHe, hlo]; exact hS
  suffices hgo : W p l e rm_c_X9_adjusts s m args below meth c H locs 0 0 Q (F0 m 0 ls []) by rw [hHe, hlo] at hgo; exact hgo
  clear hHe hlo hfr hav
  have hfr : MFr yy μ μ := MFr.rf
  refine lv_aload_n hx hb dX9_adjusts_0 rfl (lv_at hl 0 rfl) ?_
  refine lv_iload_n hx hb dX9_adjusts_1 rfl (lv_at hl 1 rfl) ?_
  refine m_callVi (As := [.int (iv day)]) (rest := []) ⟨hx, hb, hml, hown, hts⟩ hK hH hS (c_X9_stepsFor l G μ n yy σ α β κ χ ω kn ik ln en fr pl wr hY day hOk (by omega)) (cwV 1 hts gX9_adjusts_X9_stepsFor rfl rfl rfl (by decide +kernel) ⟨(Nat.le_of_ble_eq_true rfl), (Nat.le_of_ble_eq_true rfl)⟩) hY.1 rfl rfl rfl rfl hl.1 (Nat.le_of_ble_eq_true rfl) dX9_adjusts_2 ⟨Nat.zero_le _, Nat.zero_le _⟩ (fun z4 μ1 n2 H locs hz4 hp3 hH hS => ?_)
  obtain ⟨hz2, hm2, hn2⟩ := hp3; rw [hz2]; rw [hm2, hn2] at hH; clear hz2 hm2 hn2
  refine lv_istore_n (lv' := [(2, .int (iv (wsm σ (dig day) 0 6))), (0, .ref yy), (1, .int (iv day))]) hx hb dX9_adjusts_5 rfl hl (by decide) rfl (fun ls hl => ?_)
  refine j_const hx hb dX9_adjusts_6 ?_
  refine lv_istore_n (lv' := [(3, .int (iv 0)), (2, .int (iv (wsm σ (dig day) 0 6))), (0, .ref yy), (1, .int (iv day))]) hx hb dX9_adjusts_7 rfl hl (by decide) rfl (fun ls hl => ?_)
  have lp8 : ∀ (fuel : Nat) (i : Nat) (τ : Nat → Int) (ν : hM) (ν0 : Nat) (hY : IsMM G ν yy τ α β κ χ ω kn ik ln en fr pl wr) (hfr : MFr yy μ ν) (hi : i ≤ 6) (hτ : τ = adjF σ (dig day) 0 (i : Int)) (_ : 6 - i < fuel) (H : Heap) (locs : List Loc) (ls : Array Slot) (_ : gP G ν ν0 H) (_ : va_S (gA G) s.heap H locs) (_ : lv_has ls 5 [(0, .ref yy), (1, .int (iv day)), (2, .int (iv (wsm σ (dig day) 0 6))), (3, .int (iv (i : Int)))]), W p l e rm_c_X9_adjusts s m args below meth c H locs 0 0 Q (F0 m 8 ls []) := by
    intro fuel
    induction fuel with
    | zero => intro _ _ _ _ _ _ _ _ hfuel; exact absurd hfuel (Nat.not_lt_zero _)
    | succ fuel ih =>
      intro i τ ν ν0 hY hfr hi hτ hfuel H locs ls hH hS hl
      have hOkt : OkS τ := by rw [hτ]; exact okS_adj hOk _ _ _
      have hfw := fwd_rng σ (dig day) i
      have hwr := wsm_rng σ (dig day) 0 6
      have ih5 := ih; clear ih
      refine lv_iload_n hx hb dX9_adjusts_8 rfl (lv_at hl 3 rfl) ?_
      refine j_bipush hx hb dX9_adjusts_9 ?_ (by decide)
      refine j_icmp_ge (tgt := 54) hx hb dX9_adjusts_11 (by decide) (fun c6 => ?_) (fun c6 => ?_) (by omega) (by omega)
      · skip
        refine lv_iload_n hx hb dX9_adjusts_54 rfl (lv_at hl 2 rfl) ?_
        subst hQ
        refine m_iret hx hb hr hlocks hH hS dX9_adjusts_55 ?_ (by omega)
        have hq9 : τ = (adj σ (dig day)) := (by rw [hτ, show (i : Int) = 6 by omega]; rfl)
        rw [hq9] at hY
        clear hq9
        exact ⟨rfl, hY, hfr⟩
      · skip
        refine lv_aload_n hx hb dX9_adjusts_14 rfl (lv_at hl 0 rfl) ?_
        refine lv_iload_n hx hb dX9_adjusts_15 rfl (lv_at hl 3 rfl) ?_
        refine lv_iload_n hx hb dX9_adjusts_16 rfl (lv_at hl 1 rfl) ?_
        refine m_callVi (As := [.int (iv (i : Int)), .int (iv day)]) (rest := []) ⟨hx, hb, hml, hown, hts⟩ hK hH hS (c_X9_forward l G ν ν0 yy τ α β κ χ ω kn ik ln en fr pl wr hY i day hOkt (by omega) (by omega)) (cwV 2 hts gX9_adjusts_X9_forward rfl rfl rfl (by decide +kernel) ⟨(Nat.le_of_ble_eq_true rfl), (Nat.le_of_ble_eq_true rfl)⟩) hY.1 rfl rfl rfl rfl hl.1 (Nat.le_of_ble_eq_true rfl) dX9_adjusts_17 ⟨Nat.zero_le _, Nat.zero_le _⟩ (fun z10 μ7 n8 H locs hz10 hp9 hH hS => ?_)
        obtain ⟨hz2, hm2, hn2⟩ := hp9; rw [hz2]; rw [hm2, hn2] at hH; clear hz2 hm2 hn2
        refine j_norm (y := (fwd σ (dig day) i)) (by unfold fwd; rw [hτ, adj_at (by omega), if_neg (by omega)]) ?_
        refine lv_istore (lv' := [(4, .int (iv (fwd σ (dig day) i))), (0, .ref yy), (1, .int (iv day)), (2, .int (iv (wsm σ (dig day) 0 6))), (3, .int (iv (i : Int)))]) hx hb dX9_adjusts_20 hl (by decide) rfl (fun ls hl => ?_)
        refine lv_aload_n hx hb dX9_adjusts_22 rfl (lv_at hl 1 rfl) ?_
        refine lv_iload_n hx hb dX9_adjusts_23 rfl (lv_at hl 4 rfl) ?_
        refine lv_iload hx hb dX9_adjusts_24 (lv_at hl 0 rfl) ?_
        refine j_bipush hx hb dX9_adjusts_26 ?_ (by decide)
        refine lv_iload hx hb dX9_adjusts_28 (lv_at hl 0 rfl) ?_
        refine j_isub hx hb dX9_adjusts_30 ?_
        refine m_callSi (As := [.int (iv (fwd σ (dig day) i)), .int (iv (10 - (fwd σ (dig day) i)))]) (rest := [.int (iv (i : Int)), .ref yy]) ⟨hx, hb, hml, hown, hts⟩ hK hH hS (c_X9_least l G ν ν0 (fwd σ (dig day) i) (10 - (fwd σ (dig day) i)) (by omega) (by omega)) (va_cwS 2 hts gX9_adjusts_X9_least rfl rfl rfl (by decide +kernel) ⟨(Nat.le_of_ble_eq_true rfl), (Nat.le_of_ble_eq_true rfl)⟩) rfl rfl hl.1 (Nat.le_of_ble_eq_true rfl) dX9_adjusts_31 ⟨Nat.zero_le _, Nat.zero_le _⟩ (fun z14 μ11 n12 H locs hz14 hp13 hH hS => ?_)
        obtain ⟨hz2, hm2, hn2⟩ := hp13; rw [hz2]; rw [hm2, hn2] at hH; clear hz2 hm2 hn2
        refine lv_iload hx hb dX9_adjusts_34 (lv_at hl 0 rfl) ?_
        refine j_const hx hb dX9_adjusts_36 ?_
        refine j_icmp_gt (tgt := 44) hx hb dX9_adjusts_37 (by decide) (fun c15 => ?_) (fun c15 => ?_) (by omega) (by omega)
        · skip
          refine j_const hx hb dX9_adjusts_44 ?_
          refine m_callVv (As := [.int (iv (i : Int)), .int (iv (min (fwd σ (dig day) i) (10 - (fwd σ (dig day) i)))), .int (iv 0)]) (rest := []) ⟨hx, hb, hml, hown, hts⟩ hK hH hS (c_X9_steps l G ν ν0 yy τ α β κ χ ω kn ik ln en fr pl wr hY i (min (fwd σ (dig day) i) (10 - (fwd σ (dig day) i))) 0 hOkt (by omega) (by omega) (by omega)) (cwV 3 hts gX9_adjusts_X9_steps rfl rfl rfl (by decide +kernel) ⟨(Nat.le_of_ble_eq_true rfl), (Nat.le_of_ble_eq_true rfl)⟩) hY.1 rfl rfl rfl rfl hl.1 (Nat.le_of_ble_eq_true rfl) dX9_adjusts_45 ⟨Nat.zero_le _, Nat.zero_le _⟩ (fun μ16 n17 H locs hp18 hH hS => ?_)
          obtain ⟨hY, hfr1⟩ := hp18
          have hfr := hfr.tr hfr1
          clear hfr1
          have hq9 : (trn τ i (if (0 : Int) = 1 then (min (fwd σ (dig day) i) (10 - (fwd σ (dig day) i))) else -(min (fwd σ (dig day) i) (10 - (fwd σ (dig day) i))))) = (trn τ i (way σ i (dAt (dig day) i))) := (by rw [← fwd_way, if_neg (show ¬ (0 : Int) = 1 by omega), if_neg (show ¬ fwd σ (dig day) i ≤ 5 by omega)])
          rw [hq9] at hY
          clear hq9
          refine j_iinc (lv' := [(3, .int (iv ((i : Int) + 1))), (4, .int (iv (fwd σ (dig day) i))), (0, .ref yy), (1, .int (iv day)), (2, .int (iv (wsm σ (dig day) 0 6)))]) hx hb dX9_adjusts_48 hl (k := 4) rfl (by decide) rfl (fun ls hl => ?_)
          refine lv_goto (tgt := 8) hx hb dX9_adjusts_51 (by decide) ?_
          exact ih5 (i + 1) (trn τ i (way σ i (dAt (dig day) i))) μ16 n17 hY hfr (by omega) (by rw [hτ]; exact adj_hi (by omega) (hOk.2.2.2.2 i (by omega)).2.1) (by omega) H locs ls hH hS (lv_sub hl [2, 3, 4, 0] rfl)
        · skip
          refine j_const hx hb dX9_adjusts_40 ?_
          refine lv_goto (tgt := 45) hx hb dX9_adjusts_41 (by decide) ?_
          refine m_callVv (As := [.int (iv (i : Int)), .int (iv (min (fwd σ (dig day) i) (10 - (fwd σ (dig day) i)))), .int (iv 1)]) (rest := []) ⟨hx, hb, hml, hown, hts⟩ hK hH hS (c_X9_steps l G ν ν0 yy τ α β κ χ ω kn ik ln en fr pl wr hY i (min (fwd σ (dig day) i) (10 - (fwd σ (dig day) i))) 1 hOkt (by omega) (by omega) (by omega)) (cwV 3 hts gX9_adjusts_X9_steps rfl rfl rfl (by decide +kernel) ⟨(Nat.le_of_ble_eq_true rfl), (Nat.le_of_ble_eq_true rfl)⟩) hY.1 rfl rfl rfl rfl hl.1 (Nat.le_of_ble_eq_true rfl) dX9_adjusts_45 ⟨Nat.zero_le _, Nat.zero_le _⟩ (fun μ19 n20 H locs hp21 hH hS => ?_)
          obtain ⟨hY, hfr1⟩ := hp21
          have hfr := hfr.tr hfr1
          clear hfr1
          have hq9 : (trn τ i (if (1 : Int) = 1 then (min (fwd σ (dig day) i) (10 - (fwd σ (dig day) i))) else -(min (fwd σ (dig day) i) (10 - (fwd σ (dig day) i))))) = (trn τ i (way σ i (dAt (dig day) i))) := (by rw [← fwd_way, if_pos (show (1 : Int) = 1 from rfl), if_pos (show fwd σ (dig day) i ≤ 5 by omega)])
          rw [hq9] at hY
          clear hq9
          refine j_iinc (lv' := [(3, .int (iv ((i : Int) + 1))), (4, .int (iv (fwd σ (dig day) i))), (0, .ref yy), (1, .int (iv day)), (2, .int (iv (wsm σ (dig day) 0 6)))]) hx hb dX9_adjusts_48 hl (k := 4) rfl (by decide) rfl (fun ls hl => ?_)
          refine lv_goto (tgt := 8) hx hb dX9_adjusts_51 (by decide) ?_
          exact ih5 (i + 1) (trn τ i (way σ i (dAt (dig day) i))) μ19 n20 hY hfr (by omega) (by rw [hτ]; exact adj_hi (by omega) (hOk.2.2.2.2 i (by omega)).2.1) (by omega) H locs ls hH hS (lv_sub hl [2, 3, 4, 0] rfl)
  exact lp8 (7) 0 σ μ n hY hfr (by omega) (adj_no (by omega)).symm (by omega) H locs ls hH hS (lv_sub hl [2, 3, 1, 0] rfl)

abbrev rm_c_X9_unclear : Room := { frames := 2, cells := 0, slots := 0, locals := 43 }
set_option maxHeartbeats 4000000 in
set_option maxRecDepth 100000 in
theorem c_X9_unclear (l : Launch) (G : wG) (μ : hM) (n : Nat) (yy : Nat) (σ α β κ χ ω : Nat → Int) (kn ik ln en fr pl wr : Int) (hY : IsMM G μ yy σ α β κ χ ω kn ik ln en fr pl wr) (k b : Int) (hOk : OkS σ) (hk : 0 ≤ k ∧ k ≤ 9) (hb1 : 0 ≤ b ∧ b ≤ 1) : Met l yX9_unclear wsX9_unclear rm_c_X9_unclear (mPc G μ n [.ref yy, .int (iv k), .int (iv b)]) (mQi G (fun z μ1 n1 => z = ((if b = 1 then fbN σ k 6 else sbN σ k 6 : Nat) : Int) ∧ μ1 = μ ∧ n1 = n)) 0 0 (gA G) := by
  refine Met.ofW (cc := cX9_unclear) (maxL := 6) (ret := (some .int)) (by decide) rfl ?_
  intro p e s m args below meth c s₁ B hml hv
  obtain ⟨hav, hK, hH⟩ := hv
  have hx := B.exec
  have hb := B.bytes
  have hr := B.returns
  have hts := atoms_spec (ws := wsX9_unclear) B.pre
  have hown : s.vm.findClass RX9 = some m.cls := findClass_of_methodNamed B.named
  have hlocks := B.notSynchronized
  have hS : va_S (gA G) s.heap s.heap [] := va_S.rf
  have hl := lv_entry ([.ref yy, .int (iv k), .int (iv b)]) (n := 6) (Nat.le_of_ble_eq_true rfl)
  have hfr : entryFrame m args 6 = entryFrame m ([.ref yy, .int (iv k), .int (iv b)] : List Value).toArray 6 := by rw [hav]
  rw [hfr, lg_entry_eq]
  generalize (lg_sl ([.ref yy, .int (iv k), .int (iv b)]) ++ List.replicate (6 - (lg_sl ([.ref yy, .int (iv k), .int (iv b)])).length) Slot.unset).toArray = ls at hl ⊢
  have hl : lv_has ls 6 [(0, .ref yy), (1, .int (iv k)), (2, .int (iv b))] := hl
  generalize hQ : MQ below _ args s 0 0 (gA G) = Q
  show W p l e rm_c_X9_unclear s m args below meth c s.heap [] 0 0 Q (F0 m 0 ls [])
  obtain ⟨H, hHe⟩ : ∃ H, H = s.heap := ⟨_, rfl⟩
  obtain ⟨locs, hlo⟩ : ∃ q : List Loc, q = [] := ⟨_, rfl⟩
  have hH : gP G μ n H := by rw [hHe]; exact hH
  have hS : va_S (gA G) s.heap H locs := by rw [hHe, hlo]; exact hS
  suffices hgo : W p l e rm_c_X9_unclear s m args below meth c H locs 0 0 Q (F0 m 0 ls []) by rw [hHe, hlo] at hgo; exact hgo
  clear hHe hlo hfr hav
  have f_0 := hts (.fieldLink RX9 7 "StampDaterModel" "s" "[I") (List.mem_of_getElem? (i := 1) rfl)
  have i_X9 : ∀ w ∈ u_ws RX9 TX9 13, w ∈ wsX9_unclear := by decide +kernel
  have hfr : MFr yy μ μ := MFr.rf
  refine j_const hx hb dX9_unclear_0 ?_
  refine lv_istore_n (lv' := [(3, .int (iv 0)), (0, .ref yy), (1, .int (iv k)), (2, .int (iv b))]) hx hb dX9_unclear_1 rfl hl (by decide) rfl (fun ls hl => ?_)
  refine j_const hx hb dX9_unclear_2 ?_
  refine lv_istore (lv' := [(4, .int (iv 0)), (3, .int (iv 0)), (0, .ref yy), (1, .int (iv k)), (2, .int (iv b))]) hx hb dX9_unclear_3 hl (by decide) rfl (fun ls hl => ?_)
  have lp5 : ∀ (fuel : Nat) (i : Nat) (a0 : Nat) (hi : i ≤ 6) (hm : a0 = if b = 1 then fbN σ k i else sbN σ k i) (_ : 6 - i < fuel) (H : Heap) (locs : List Loc) (ls : Array Slot) (_ : gP G μ n H) (_ : va_S (gA G) s.heap H locs) (_ : lv_has ls 6 [(0, .ref yy), (1, .int (iv k)), (2, .int (iv b)), (3, .int (iv (a0 : Int))), (4, .int (iv (i : Int)))]), W p l e rm_c_X9_unclear s m args below meth c H locs 0 0 Q (F0 m 5 ls []) := by
    intro fuel
    induction fuel with
    | zero => intro _ _ _ _ hfuel; exact absurd hfuel (Nat.not_lt_zero _)
    | succ fuel ih =>
      intro i a0 hi hm hfuel H locs ls hH hS hl
      have hlt : a0 < 2 ^ i := by rw [hm]; split; exact fbN_lt σ k i; exact sbN_lt σ k i
      have hl6 := pow6 i hi
      have hσ0 := hOk.1
      have hσ1 := hOk.2.1
      have ih1 := ih; clear ih
      refine lv_iload hx hb dX9_unclear_5 (lv_at hl 4 rfl) ?_
      refine j_bipush hx hb dX9_unclear_7 ?_ (by decide)
      refine j_icmp_ge (tgt := 67) hx hb dX9_unclear_9 (by decide) (fun c2 => ?_) (fun c2 => ?_) (by omega) (by omega)
      · skip
        refine lv_iload_n hx hb dX9_unclear_67 rfl (lv_at hl 3 rfl) ?_
        subst hQ
        refine m_iret hx hb hr hlocks hH hS dX9_unclear_68 ?_ (by omega)
        refine ⟨?_, rfl, rfl⟩
        rw [hm, show i = 6 by omega]
      · skip
        refine lv_aload_n hx hb dX9_unclear_12 rfl (lv_at hl 0 rfl) ?_
        refine lv_iload hx hb dX9_unclear_13 (lv_at hl 4 rfl) ?_
        refine lv_iload_n hx hb dX9_unclear_15 rfl (lv_at hl 1 rfl) ?_
        refine m_callVi (As := [.int (iv (i : Int)), .int (iv k)]) (rest := []) ⟨hx, hb, hml, hown, hts⟩ hK hH hS (c_X9_darkness l G μ n yy σ α β κ χ ω kn ik ln en fr pl wr hY i k hOk (by omega) (by omega)) (cwV 2 hts gX9_unclear_X9_darkness rfl rfl rfl (by decide +kernel) ⟨(Nat.le_of_ble_eq_true rfl), (Nat.le_of_ble_eq_true rfl)⟩) hY.1 rfl rfl rfl rfl hl.1 (Nat.le_of_ble_eq_true rfl) dX9_unclear_16 ⟨Nat.zero_le _, Nat.zero_le _⟩ (fun z6 μ3 n4 H locs hz6 hp5 hH hS => ?_)
        obtain ⟨hz2, hm2, hn2⟩ := hp5; rw [hz2]; rw [hm2, hn2] at hH; clear hz2 hm2 hn2
        refine lv_istore (lv' := [(5, .int (iv (drk σ i k))), (0, .ref yy), (1, .int (iv k)), (2, .int (iv b)), (3, .int (iv (a0 : Int))), (4, .int (iv (i : Int)))]) hx hb dX9_unclear_19 hl (by decide) rfl (fun ls hl => ?_)
        have hdr := drk_rng hOk (p := i) (by omega) hk
        refine lv_iload_n hx hb dX9_unclear_21 rfl (lv_at hl 4 rfl) ?_
        refine lv_iload_n hx hb dX9_unclear_22 rfl (lv_at hl 3 rfl) ?_
        refine j_if_eq (tgt := 40) hx hb dX9_unclear_23 (by decide) (fun c7 => ?_) (fun c7 => ?_) (by omega)
        · skip
          have hbb : ¬ b = 1 := by omega
          refine lv_iload hx hb dX9_unclear_40 (lv_at hl 0 rfl) ?_
          refine lv_aload_n hx hb dX9_unclear_42 rfl (lv_at hl 1 rfl) ?_
          refine m_get (C := RX9) (T := TX9) (N := 13) (ci := 8) hx hb hts i_X9 hown hK hH hY.1 rfl 0 (by decide) f_0 rfl dX9_unclear_43 ?_
          refine j_const hx hb dX9_unclear_46 ?_
          refine m_iald (nA := 163) (f := σ) hx hb hK hH hY.2.1 dX9_unclear_47 ?_ (by omega) (by omega)
          refine j_norm (y := (σ 1)) rfl ?_
          refine j_icmp_le (tgt := 58) hx hb dX9_unclear_48 (by decide) (fun c8 => ?_) (fun c8 => ?_) (by omega) (by omega)
          · skip
            refine j_const hx hb dX9_unclear_58 ?_
            refine j_ior (v := (a0 : Int)) hx hb dX9_unclear_59 (bit_or0 a0 (by omega)) ?_
            refine lv_istore_n (lv' := [(3, .int (iv (a0 : Int))), (5, .int (iv (drk σ i k))), (0, .ref yy), (1, .int (iv k)), (2, .int (iv b)), (4, .int (iv (i : Int)))]) hx hb dX9_unclear_60 rfl hl (by decide) rfl (fun ls hl => ?_)
            refine j_iinc (lv' := [(4, .int (iv ((i : Int) + 1))), (3, .int (iv (a0 : Int))), (5, .int (iv (drk σ i k))), (0, .ref yy), (1, .int (iv k)), (2, .int (iv b))]) hx hb dX9_unclear_61 hl (k := 5) rfl (by decide) rfl (fun ls hl => ?_)
            refine lv_goto (tgt := 5) hx hb dX9_unclear_64 (by decide) ?_
            exact ih1 (i + 1) a0 (by omega) (by rw [hm, if_neg hbb, if_neg hbb]; exact (sbN_n (by omega)).symm) (by omega) H locs ls hH hS (lv_sub hl [3, 4, 5, 1, 0] rfl)
          · skip
            refine j_const hx hb dX9_unclear_51 ?_
            refine lv_iload hx hb dX9_unclear_52 (lv_at hl 5 rfl) ?_
            refine j_ishl (v := ((2 ^ i : Nat) : Int)) hx hb dX9_unclear_54 (bit_shl i (by omega)) ?_
            refine lv_goto (tgt := 59) hx hb dX9_unclear_55 (by decide) ?_
            refine j_ior (v := ((a0 + 2 ^ i : Nat) : Int)) hx hb dX9_unclear_59 (bit_or i (by omega) a0 hlt) ?_
            refine lv_istore_n (lv' := [(3, .int (iv ((a0 + 2 ^ i : Nat) : Int))), (5, .int (iv (drk σ i k))), (0, .ref yy), (1, .int (iv k)), (2, .int (iv b)), (4, .int (iv (i : Int)))]) hx hb dX9_unclear_60 rfl hl (by decide) rfl (fun ls hl => ?_)
            refine j_iinc (lv' := [(4, .int (iv ((i : Int) + 1))), (3, .int (iv ((a0 + 2 ^ i : Nat) : Int))), (5, .int (iv (drk σ i k))), (0, .ref yy), (1, .int (iv k)), (2, .int (iv b))]) hx hb dX9_unclear_61 hl (k := 5) rfl (by decide) rfl (fun ls hl => ?_)
            refine lv_goto (tgt := 5) hx hb dX9_unclear_64 (by decide) ?_
            exact ih1 (i + 1) (a0 + 2 ^ i) (by omega) (by rw [hm, if_neg hbb, if_neg hbb]; exact (sbN_y (by omega)).symm) (by omega) H locs ls hH hS (lv_sub hl [3, 4, 5, 1, 0] rfl)
        · skip
          have hbb : b = 1 := by omega
          refine lv_iload hx hb dX9_unclear_26 (lv_at hl 0 rfl) ?_
          refine lv_aload_n hx hb dX9_unclear_28 rfl (lv_at hl 1 rfl) ?_
          refine m_get (C := RX9) (T := TX9) (N := 13) (ci := 8) hx hb hts i_X9 hown hK hH hY.1 rfl 0 (by decide) f_0 rfl dX9_unclear_29 ?_
          refine j_const hx hb dX9_unclear_32 ?_
          refine m_iald (nA := 163) (f := σ) hx hb hK hH hY.2.1 dX9_unclear_33 ?_ (by omega) (by omega)
          refine j_norm (y := (σ 0)) rfl ?_
          refine j_icmp_ge (tgt := 58) hx hb dX9_unclear_34 (by decide) (fun c9 => ?_) (fun c9 => ?_) (by omega) (by omega)
          · skip
            refine j_const hx hb dX9_unclear_58 ?_
            refine j_ior (v := (a0 : Int)) hx hb dX9_unclear_59 (bit_or0 a0 (by omega)) ?_
            refine lv_istore_n (lv' := [(3, .int (iv (a0 : Int))), (5, .int (iv (drk σ i k))), (0, .ref yy), (1, .int (iv k)), (2, .int (iv b)), (4, .int (iv (i : Int)))]) hx hb dX9_unclear_60 rfl hl (by decide) rfl (fun ls hl => ?_)
            refine j_iinc (lv' := [(4, .int (iv ((i : Int) + 1))), (3, .int (iv (a0 : Int))), (5, .int (iv (drk σ i k))), (0, .ref yy), (1, .int (iv k)), (2, .int (iv b))]) hx hb dX9_unclear_61 hl (k := 5) rfl (by decide) rfl (fun ls hl => ?_)
            refine lv_goto (tgt := 5) hx hb dX9_unclear_64 (by decide) ?_
            exact ih1 (i + 1) a0 (by omega) (by rw [hm, if_pos hbb, if_pos hbb]; exact (fbN_n (by omega)).symm) (by omega) H locs ls hH hS (lv_sub hl [3, 4, 5, 1, 0] rfl)
          · skip
            refine lv_goto (tgt := 51) hx hb dX9_unclear_37 (by decide) ?_
            refine j_const hx hb dX9_unclear_51 ?_
            refine lv_iload hx hb dX9_unclear_52 (lv_at hl 5 rfl) ?_
            refine j_ishl (v := ((2 ^ i : Nat) : Int)) hx hb dX9_unclear_54 (bit_shl i (by omega)) ?_
            refine lv_goto (tgt := 59) hx hb dX9_unclear_55 (by decide) ?_
            refine j_ior (v := ((a0 + 2 ^ i : Nat) : Int)) hx hb dX9_unclear_59 (bit_or i (by omega) a0 hlt) ?_
            refine lv_istore_n (lv' := [(3, .int (iv ((a0 + 2 ^ i : Nat) : Int))), (5, .int (iv (drk σ i k))), (0, .ref yy), (1, .int (iv k)), (2, .int (iv b)), (4, .int (iv (i : Int)))]) hx hb dX9_unclear_60 rfl hl (by decide) rfl (fun ls hl => ?_)
            refine j_iinc (lv' := [(4, .int (iv ((i : Int) + 1))), (3, .int (iv ((a0 + 2 ^ i : Nat) : Int))), (5, .int (iv (drk σ i k))), (0, .ref yy), (1, .int (iv k)), (2, .int (iv b))]) hx hb dX9_unclear_61 hl (k := 5) rfl (by decide) rfl (fun ls hl => ?_)
            refine lv_goto (tgt := 5) hx hb dX9_unclear_64 (by decide) ?_
            exact ih1 (i + 1) (a0 + 2 ^ i) (by omega) (by rw [hm, if_pos hbb, if_pos hbb]; exact (fbN_y (by omega)).symm) (by omega) H locs ls hH hS (lv_sub hl [3, 4, 5, 1, 0] rfl)
  exact lp5 (7) 0 0 (by omega) (by split <;> rfl) (by omega) H locs ls hH hS (lv_sub hl [2, 3, 4, 1, 0] rfl)

abbrev rm_c_X9_isRight : Room := { frames := 3, cells := 0, slots := 0, locals := 68 }
set_option maxHeartbeats 4000000 in
set_option maxRecDepth 100000 in
theorem c_X9_isRight (l : Launch) (G : wG) (μ : hM) (n : Nat) (yy : Nat) (σ α β κ χ ω : Nat → Int) (kn ik ln en fr pl wr : Int) (hY : IsMM G μ yy σ α β κ χ ω kn ik ln en fr pl wr) (k : Int) (hOk : OkS σ) (h3 : 0 ≤ σ 3 ∧ σ 3 ≤ 36524) (hk : 0 ≤ k ∧ k ≤ 9) : Met l yX9_isRight wsX9_isRight rm_c_X9_isRight (mPc G μ n [.ref yy, .int (iv k)]) (mQi G (fun z μ1 n1 => z = rtF σ (dig (σ 3)) k ∧ μ1 = μ ∧ n1 = n)) 0 0 (gA G) := by
  refine Met.ofW (cc := cX9_isRight) (maxL := 2) (ret := (some .boolean)) (by decide) rfl ?_
  intro p e s m args below meth c s₁ B hml hv
  obtain ⟨hav, hK, hH⟩ := hv
  have hx := B.exec
  have hb := B.bytes
  have hr := B.returns
  have hts := atoms_spec (ws := wsX9_isRight) B.pre
  have hown : s.vm.findClass RX9 = some m.cls := findClass_of_methodNamed B.named
  have hlocks := B.notSynchronized
  have hS : va_S (gA G) s.heap s.heap [] := va_S.rf
  have hl := lv_entry ([.ref yy, .int (iv k)]) (n := 2) (Nat.le_of_ble_eq_true rfl)
  have hfr : entryFrame m args 2 = entryFrame m ([.ref yy, .int (iv k)] : List Value).toArray 2 := by rw [hav]
  rw [hfr, lg_entry_eq]
  generalize (lg_sl ([.ref yy, .int (iv k)]) ++ List.replicate (2 - (lg_sl ([.ref yy, .int (iv k)])).length) Slot.unset).toArray = ls at hl ⊢
  have hl : lv_has ls 2 [(0, .ref yy), (1, .int (iv k))] := hl
  generalize hQ : MQ below _ args s 0 0 (gA G) = Q
  show W p l e rm_c_X9_isRight s m args below meth c s.heap [] 0 0 Q (F0 m 0 ls [])
  obtain ⟨H, hHe⟩ : ∃ H, H = s.heap := ⟨_, rfl⟩
  obtain ⟨locs, hlo⟩ : ∃ q : List Loc, q = [] := ⟨_, rfl⟩
  have hH : gP G μ n H := by rw [hHe]; exact hH
  have hS : va_S (gA G) s.heap H locs := by rw [hHe, hlo]; exact hS
  suffices hgo : W p l e rm_c_X9_isRight s m args below meth c H locs 0 0 Q (F0 m 0 ls []) by rw [hHe, hlo] at hgo; exact hgo
  clear hHe hlo hfr hav
  have f_0 := hts (.fieldLink RX9 7 "StampDaterModel" "s" "[I") (List.mem_of_getElem? (i := 1) rfl)
  have i_X9 : ∀ w ∈ u_ws RX9 TX9 13, w ∈ wsX9_isRight := by decide +kernel
  have hfr : MFr yy μ μ := MFr.rf
  have hf6 : fbN σ k 6 < 64 := fbN_lt σ k 6
  have hs6 : sbN σ k 6 < 64 := sbN_lt σ k 6
  have hor := or_0 (fbN σ k 6) hf6 (sbN σ k 6) hs6
  have hol := or_lt (fbN σ k 6) hf6 (sbN σ k 6) hs6
  refine lv_aload_n hx hb dX9_isRight_0 rfl (lv_at hl 0 rfl) ?_
  refine lv_aload_n hx hb dX9_isRight_1 rfl (lv_at hl 0 rfl) ?_
  refine m_get (C := RX9) (T := TX9) (N := 13) (ci := 8) hx hb hts i_X9 hown hK hH hY.1 rfl 0 (by decide) f_0 rfl dX9_isRight_2 ?_
  refine j_const hx hb dX9_isRight_5 ?_
  refine m_iald (nA := 163) (f := σ) hx hb hK hH hY.2.1 dX9_isRight_6 ?_ (by omega) (by omega)
  refine j_norm (y := (σ 3)) rfl ?_
  refine m_callVi (As := [.int (iv (σ 3))]) (rest := []) ⟨hx, hb, hml, hown, hts⟩ hK hH hS (c_X9_showsDay l G μ n yy σ α β κ χ ω kn ik ln en fr pl wr hY (σ 3) hOk (by omega)) (cwV 1 hts gX9_isRight_X9_showsDay rfl rfl rfl (by decide +kernel) ⟨(Nat.le_of_ble_eq_true rfl), (Nat.le_of_ble_eq_true rfl)⟩) hY.1 rfl rfl rfl rfl hl.1 (Nat.le_of_ble_eq_true rfl) dX9_isRight_7 ⟨Nat.zero_le _, Nat.zero_le _⟩ (fun z4 μ1 n2 H locs hz4 hp3 hH hS => ?_)
  obtain ⟨hz9, hm9, hn9⟩ := hp3
  rw [hm9, hn9] at hH
  have hz4c : (z4 = 1 ∧ (shw σ 6 = dig (σ 3))) ∨ (z4 = 0 ∧ ¬ (shw σ 6 = dig (σ 3))) := by
    by_cases q9 : shw σ 6 = dig (σ 3)
    · rw [if_pos q9] at hz9; exact Or.inl ⟨hz9, q9⟩
    · rw [if_neg q9] at hz9; exact Or.inr ⟨hz9, q9⟩
  clear hz9 hm9 hn9
  refine j_if_eq (tgt := 33) hx hb dX9_isRight_10 (by decide) (fun c5 => ?_) (fun c5 => ?_) (by omega)
  · skip
    refine j_const hx hb dX9_isRight_33 ?_
    subst hQ
    refine m_zret hx hb hr hlocks hH hS dX9_isRight_34 ?_ (by omega)
    refine ⟨?_, rfl, rfl⟩
    unfold rtF
    rw [if_neg (fun q => by have q1 := q.1; omega)]
  · skip
    refine lv_aload_n hx hb dX9_isRight_13 rfl (lv_at hl 0 rfl) ?_
    refine lv_iload_n hx hb dX9_isRight_14 rfl (lv_at hl 1 rfl) ?_
    refine j_const hx hb dX9_isRight_15 ?_
    refine m_callVi (As := [.int (iv k), .int (iv 1)]) (rest := []) ⟨hx, hb, hml, hown, hts⟩ hK hH hS (c_X9_unclear l G μ n yy σ α β κ χ ω kn ik ln en fr pl wr hY k 1 hOk (by omega) (by omega)) (cwV 2 hts gX9_isRight_X9_unclear rfl rfl rfl (by decide +kernel) ⟨(Nat.le_of_ble_eq_true rfl), (Nat.le_of_ble_eq_true rfl)⟩) hY.1 rfl rfl rfl rfl hl.1 (Nat.le_of_ble_eq_true rfl) dX9_isRight_16 ⟨Nat.zero_le _, Nat.zero_le _⟩ (fun z9 μ6 n7 H locs hz9 hp8 hH hS => ?_)
    obtain ⟨hz9, hm9, hn9⟩ := hp8
    rw [hm9, hn9] at hH
    rw [hz9, if_pos rfl]
    clear hz9 hm9 hn9
    refine lv_aload_n hx hb dX9_isRight_19 rfl (lv_at hl 0 rfl) ?_
    refine lv_iload_n hx hb dX9_isRight_20 rfl (lv_at hl 1 rfl) ?_
    refine j_const hx hb dX9_isRight_21 ?_
    refine m_callVi (As := [.int (iv k), .int (iv 0)]) (rest := [.int (iv ((fbN σ k 6 : Nat) : Int))]) ⟨hx, hb, hml, hown, hts⟩ hK hH hS (c_X9_unclear l G μ n yy σ α β κ χ ω kn ik ln en fr pl wr hY k 0 hOk (by omega) (by omega)) (cwV 2 hts gX9_isRight_X9_unclear rfl rfl rfl (by decide +kernel) ⟨(Nat.le_of_ble_eq_true rfl), (Nat.le_of_ble_eq_true rfl)⟩) hY.1 rfl rfl rfl rfl hl.1 (Nat.le_of_ble_eq_true rfl) dX9_isRight_22 ⟨Nat.zero_le _, Nat.zero_le _⟩ (fun z13 μ10 n11 H locs hz13 hp12 hH hS => ?_)
    obtain ⟨hz9, hm9, hn9⟩ := hp12
    rw [hm9, hn9] at hH
    rw [hz9, if_neg (show ¬ (0 : Int) = 1 by omega)]
    clear hz9 hm9 hn9
    refine j_ior (v := ((fbN σ k 6 ||| sbN σ k 6 : Nat) : Int)) hx hb dX9_isRight_25 (bit_or6 _ hf6 _ hs6) ?_
    refine j_if_ne (tgt := 33) hx hb dX9_isRight_26 (by decide) (fun c14 => ?_) (fun c14 => ?_) (by omega)
    · skip
      refine j_const hx hb dX9_isRight_33 ?_
      subst hQ
      refine m_zret hx hb hr hlocks hH hS dX9_isRight_34 ?_ (by omega)
      refine ⟨?_, rfl, rfl⟩
      unfold rtF
      rw [if_neg (fun q => by have q1 := hor.mpr q.2; omega)]
    · skip
      refine j_const hx hb dX9_isRight_29 ?_
      refine lv_goto (tgt := 34) hx hb dX9_isRight_30 (by decide) ?_
      subst hQ
      refine m_zret hx hb hr hlocks hH hS dX9_isRight_34 ?_ (by omega)
      refine ⟨?_, rfl, rfl⟩
      unfold rtF
      have h1 := hor.mp (by omega)
      rw [if_pos ⟨by omega, h1.1, h1.2⟩]

abbrev rm_c_X9_wearOut : Room := { frames := 1, cells := 0, slots := 0, locals := 21 }
set_option maxHeartbeats 4000000 in
set_option maxRecDepth 100000 in
theorem c_X9_wearOut (l : Launch) (G : wG) (μ : hM) (n : Nat) (yy : Nat) (σ α β κ χ ω : Nat → Int) (kn ik ln en fr pl wr : Int) (hY : IsMM G μ yy σ α β κ χ ω kn ik ln en fr pl wr) (k : Int) (hOk : OkS σ) (hk : 0 ≤ k ∧ k ≤ 9) : Met l yX9_wearOut wsX9_wearOut rm_c_X9_wearOut (mPc G μ n [.ref yy, .int (iv k)]) (mQv G (fun μ1 n1 => IsMM G μ1 yy (onceF σ k) α β κ χ ω kn ik ln en fr pl wr ∧ MFr yy μ μ1)) 0 0 (gA G) := by
  refine Met.ofW (cc := cX9_wearOut) (maxL := 4) (ret := none) (by decide) rfl ?_
  intro p e s m args below meth c s₁ B hml hv
  obtain ⟨hav, hK, hH⟩ := hv
  have hx := B.exec
  have hb := B.bytes
  have hr := B.returns
  have hts := atoms_spec (ws := wsX9_wearOut) B.pre
  have hown : s.vm.findClass RX9 = some m.cls := findClass_of_methodNamed B.named
  have hlocks := B.notSynchronized
  have hS : va_S (gA G) s.heap s.heap [] := va_S.rf
  have hl := lv_entry ([.ref yy, .int (iv k)]) (n := 4) (Nat.le_of_ble_eq_true rfl)
  have hfr : entryFrame m args 4 = entryFrame m ([.ref yy, .int (iv k)] : List Value).toArray 4 := by rw [hav]
  rw [hfr, lg_entry_eq]
  generalize (lg_sl ([.ref yy, .int (iv k)]) ++ List.replicate (4 - (lg_sl ([.ref yy, .int (iv k)])).length) Slot.unset).toArray = ls at hl ⊢
  have hl : lv_has ls 4 [(0, .ref yy), (1, .int (iv k))] := hl
  generalize hQ : MQ below _ args s 0 0 (gA G) = Q
  show W p l e rm_c_X9_wearOut s m args below meth c s.heap [] 0 0 Q (F0 m 0 ls [])
  obtain ⟨H, hHe⟩ : ∃ H, H = s.heap := ⟨_, rfl⟩
  obtain ⟨locs, hlo⟩ : ∃ q : List Loc, q = [] := ⟨_, rfl⟩
  have hH : gP G μ n H := by rw [hHe]; exact hH
  have hS : va_S (gA G) s.heap H locs := by rw [hHe, hlo]; exact hS
  suffices hgo : W p l e rm_c_X9_wearOut s m args below meth c H locs 0 0 Q (F0 m 0 ls []) by rw [hHe, hlo] at hgo; exact hgo
  clear hHe hlo hfr hav
  have f_0 := hts (.fieldLink RX9 7 "StampDaterModel" "s" "[I") (List.mem_of_getElem? (i := 1) rfl)
  have i_X9 : ∀ w ∈ u_ws RX9 TX9 13, w ∈ wsX9_wearOut := by decide +kernel
  have hfr : MFr yy μ μ := MFr.rf
  refine j_const hx hb dX9_wearOut_0 ?_
  refine lv_istore_n (lv' := [(2, .int (iv 0)), (0, .ref yy), (1, .int (iv k))]) hx hb dX9_wearOut_1 rfl hl (by decide) rfl (fun ls hl => ?_)
  have lp2 : ∀ (fuel : Nat) (i : Nat) (τ : Nat → Int) (ν : hM) (ν0 : Nat) (hY : IsMM G ν yy τ α β κ χ ω kn ik ln en fr pl wr) (hfr : MFr yy μ ν) (hi : i ≤ 6) (hτ : τ = wearF σ k i) (_ : 6 - i < fuel) (H : Heap) (locs : List Loc) (ls : Array Slot) (_ : gP G ν ν0 H) (_ : va_S (gA G) s.heap H locs) (_ : lv_has ls 4 [(0, .ref yy), (1, .int (iv k)), (2, .int (iv (i : Int)))]), W p l e rm_c_X9_wearOut s m args below meth c H locs 0 0 Q (F0 m 2 ls []) := by
    intro fuel
    induction fuel with
    | zero => intro _ _ _ _ _ _ _ _ hfuel; exact absurd hfuel (Nat.not_lt_zero _)
    | succ fuel ih =>
      intro i τ ν ν0 hY hfr hi hτ hfuel H locs ls hH hS hl
      have hOkt : OkS τ := by rw [hτ]; exact okS_wear hOk hk i hi
      have ih1 := ih; clear ih
      refine lv_iload_n hx hb dX9_wearOut_2 rfl (lv_at hl 2 rfl) ?_
      refine j_bipush hx hb dX9_wearOut_3 ?_ (by decide)
      refine j_icmp_ge (tgt := 54) hx hb dX9_wearOut_5 (by decide) (fun c2 => ?_) (fun c2 => ?_) (by omega) (by omega)
      · skip
        have hτ6 : τ = wearF σ k 6 := by rw [hτ, show i = 6 by omega]
        have hI4 := hOkt.2.2.2.1
        refine lv_aload_n hx hb dX9_wearOut_54 rfl (lv_at hl 0 rfl) ?_
        refine m_get (C := RX9) (T := TX9) (N := 13) (ci := 8) hx hb hts i_X9 hown hK hH hY.1 rfl 0 (by decide) f_0 rfl dX9_wearOut_55 ?_
        refine j_const hx hb dX9_wearOut_58 ?_
        refine lv_dup2_11 hx hb dX9_wearOut_59 rfl rfl ?_
        refine m_iald (nA := 163) (f := τ) hx hb hK hH hY.2.1 dX9_wearOut_60 ?_ (by omega) (by omega)
        refine j_norm (y := (τ 4)) rfl ?_
        refine lv_iload_n hx hb dX9_wearOut_61 rfl (lv_at hl 1 rfl) ?_
        refine lv_aload_n hx hb dX9_wearOut_62 rfl (lv_at hl 0 rfl) ?_
        refine m_get (C := RX9) (T := TX9) (N := 13) (ci := 8) hx hb hts i_X9 hown hK hH hY.1 rfl 0 (by decide) f_0 rfl dX9_wearOut_63 ?_
        refine j_const hx hb dX9_wearOut_66 ?_
        refine m_iald (nA := 163) (f := τ) hx hb hK hH hY.2.1 dX9_wearOut_67 ?_ (by omega) (by omega)
        refine j_norm (y := (τ 4)) rfl ?_
        refine m_callSi (As := [.int (iv k), .int (iv (τ 4))]) (rest := [.int (iv (τ 4)), .int (iv 4), .ref (yy + 1)]) ⟨hx, hb, hml, hown, hts⟩ hK hH hS (c_X9_least l G ν ν0 k (τ 4) (by omega) (by omega)) (va_cwS 2 hts gX9_wearOut_X9_least rfl rfl rfl (by decide +kernel) ⟨(Nat.le_of_ble_eq_true rfl), (Nat.le_of_ble_eq_true rfl)⟩) rfl rfl hl.1 (Nat.le_of_ble_eq_true rfl) dX9_wearOut_68 ⟨Nat.zero_le _, Nat.zero_le _⟩ (fun z6 μ3 n4 H locs hz6 hp5 hH hS => ?_)
        obtain ⟨hz2, hm2, hn2⟩ := hp5; rw [hz2]; rw [hm2, hn2] at hH; clear hz2 hm2 hn2
        refine j_isub hx hb dX9_wearOut_71 ?_
        refine m_iast (nA := 163) (f := τ) hx hb hK hH hS hY.2.1 dX9_wearOut_72 (fun H locs hH hS => ?_) (by omega) (by omega)
        obtain ⟨ν7, hY, hfr, hH⟩ : ∃ ξ : hM, IsMM G ξ yy (fu τ 4 ((τ 4) - (min k (τ 4)))) α β κ χ ω kn ik ln en fr pl wr ∧ MFr yy μ ξ ∧ gP G ξ ν0 H := hY.w1 hfr hH
        have hH : gP G ν7 ν0 H := hH
        have hq9 : fu τ 4 ((τ 4) - (min k (τ 4))) = (inkF σ k) := (by rw [hτ6]; unfold inkF; congr 1; rw [hτ6] at hI4; omega)
        rw [hq9] at hY
        clear hq9
        refine j_const hx hb dX9_wearOut_73 ?_
        refine lv_istore_n (lv' := [(2, .int (iv 0)), (0, .ref yy), (1, .int (iv k))]) hx hb dX9_wearOut_74 rfl hl (by decide) rfl (fun ls hl => ?_)
        have lp75 : ∀ (fuel : Nat) (i2 : Nat) (τ2 : Nat → Int) (ν : hM) (ν0 : Nat) (hY : IsMM G ν yy τ2 α β κ χ ω kn ik ln en fr pl wr) (hfr : MFr yy μ ν) (hi2 : i2 ≤ 6) (hτ2 : τ2 = if 7 ≤ k then slipF (inkF σ k) i2 else inkF σ k) (_ : 6 - i2 < fuel) (H : Heap) (locs : List Loc) (ls : Array Slot) (_ : gP G ν ν0 H) (_ : va_S (gA G) s.heap H locs) (_ : lv_has ls 4 [(0, .ref yy), (1, .int (iv k)), (2, .int (iv (i2 : Int)))]), W p l e rm_c_X9_wearOut s m args below meth c H locs 0 0 Q (F0 m 75 ls []) := by
          intro fuel
          induction fuel with
          | zero => intro _ _ _ _ _ _ _ _ hfuel; exact absurd hfuel (Nat.not_lt_zero _)
          | succ fuel ih =>
            intro i2 τ2 ν ν0 hY hfr hi2 hτ2 hfuel H locs ls hH hS hl
            have hOk2 : OkS τ2 := by rw [hτ2]; split; exact okS_slip (okS_ink hOk hk) i2 hi2; exact okS_ink hOk hk
            have ih8 := ih; clear ih
            refine lv_iload_n hx hb dX9_wearOut_75 rfl (lv_at hl 2 rfl) ?_
            refine j_bipush hx hb dX9_wearOut_76 ?_ (by decide)
            refine j_icmp_ge (tgt := 159) hx hb dX9_wearOut_78 (by decide) (fun c9 => ?_) (fun c9 => ?_) (by omega) (by omega)
            · skip
              subst hQ
              refine m_vret hx hb hr hlocks hH hS dX9_wearOut_159 ?_
              have hq9 : τ2 = (onceF σ k) := (by rw [hτ2, show i2 = 6 by omega]; rfl)
              rw [hq9] at hY
              clear hq9
              exact ⟨hY, hfr⟩
            · skip
              refine lv_iload_n hx hb dX9_wearOut_81 rfl (lv_at hl 1 rfl) ?_
              refine j_bipush hx hb dX9_wearOut_82 ?_ (by decide)
              refine j_icmp_lt (tgt := 153) hx hb dX9_wearOut_84 (by decide) (fun c10 => ?_) (fun c10 => ?_) (by omega) (by omega)
              · skip
                refine j_iinc (lv' := [(2, .int (iv ((i2 : Int) + 1))), (0, .ref yy), (1, .int (iv k))]) hx hb dX9_wearOut_153 hl (k := 2) rfl (by decide) rfl (fun ls hl => ?_)
                refine lv_goto (tgt := 75) hx hb dX9_wearOut_156 (by decide) ?_
                exact ih8 (i2 + 1) τ2 ν ν0 hY hfr (by omega) (by rw [hτ2, if_neg (by omega), if_neg (by omega)]) (by omega) H locs ls hH hS (lv_sub hl [1, 2, 0] rfl)
              · skip
                have hτ3 : τ2 = slipF (inkF σ k) i2 := by rw [hτ2, if_pos (by omega)]
                have hp2 := hOk2.2.2.2.2 i2 (by omega)
                have hq2 := hOk2.2.2.1
                refine lv_aload_n hx hb dX9_wearOut_87 rfl (lv_at hl 0 rfl) ?_
                refine m_get (C := RX9) (T := TX9) (N := 13) (ci := 8) hx hb hts i_X9 hown hK hH hY.1 rfl 0 (by decide) f_0 rfl dX9_wearOut_88 ?_
                refine lv_iload_n hx hb dX9_wearOut_91 rfl (lv_at hl 2 rfl) ?_
                refine j_const hx hb dX9_wearOut_92 ?_
                refine m_callSi (As := [.int (iv (i2 : Int)), .int (iv 2)]) (rest := [.ref (yy + 1)]) ⟨hx, hb, hml, hown, hts⟩ hK hH hS (c_X9_of l G ν ν0 (i2 : Int) 2 (by omega) (by omega)) (va_cwS 2 hts gX9_wearOut_X9_of rfl rfl rfl (by decide +kernel) ⟨(Nat.le_of_ble_eq_true rfl), (Nat.le_of_ble_eq_true rfl)⟩) rfl rfl hl.1 (Nat.le_of_ble_eq_true rfl) dX9_wearOut_93 ⟨Nat.zero_le _, Nat.zero_le _⟩ (fun z14 μ11 n12 H locs hz14 hp13 hH hS => ?_)
                obtain ⟨hz9, hm9, hn9⟩ := hp13
                rw [hm9, hn9] at hH
                rw [hz9]
                clear hz9 hm9 hn9
                refine j_norm (y := ((87 + 13 * i2 : Nat) : Int)) (by omega) ?_
                refine m_iald (nA := 163) (f := τ2) hx hb hK hH hY.2.1 dX9_wearOut_96 ?_ (by omega) (by omega)
                refine j_norm (y := (τ2 (87 + 13 * i2))) rfl ?_
                refine lv_aload_n hx hb dX9_wearOut_97 rfl (lv_at hl 0 rfl) ?_
                refine m_get (C := RX9) (T := TX9) (N := 13) (ci := 8) hx hb hts i_X9 hown hK hH hY.1 rfl 0 (by decide) f_0 rfl dX9_wearOut_98 ?_
                refine j_const hx hb dX9_wearOut_101 ?_
                refine m_iald (nA := 163) (f := τ2) hx hb hK hH hY.2.1 dX9_wearOut_102 ?_ (by omega) (by omega)
                refine j_norm (y := (τ2 2)) rfl ?_
                refine j_icmp_lt (tgt := 153) hx hb dX9_wearOut_103 (by decide) (fun c15 => ?_) (fun c15 => ?_) (by omega) (by omega)
                · skip
                  refine j_iinc (lv' := [(2, .int (iv ((i2 : Int) + 1))), (0, .ref yy), (1, .int (iv k))]) hx hb dX9_wearOut_153 hl (k := 2) rfl (by decide) rfl (fun ls hl => ?_)
                  refine lv_goto (tgt := 75) hx hb dX9_wearOut_156 (by decide) ?_
                  exact ih8 (i2 + 1) τ2 ν ν0 hY hfr (by omega) (by rw [if_pos (by omega)]; refine Eq.trans ?_ (slip_n ?_); exact hτ3; rw [← hτ3]; omega) (by omega) H locs ls hH hS (lv_sub hl [1, 2, 0] rfl)
                · skip
                  have hsl : τ2 2 ≤ τ2 (87 + 13 * i2) := by omega
                  refine lv_aload_n hx hb dX9_wearOut_106 rfl (lv_at hl 0 rfl) ?_
                  refine m_get (C := RX9) (T := TX9) (N := 13) (ci := 8) hx hb hts i_X9 hown hK hH hY.1 rfl 0 (by decide) f_0 rfl dX9_wearOut_107 ?_
                  refine lv_iload_n hx hb dX9_wearOut_110 rfl (lv_at hl 2 rfl) ?_
                  refine j_const hx hb dX9_wearOut_111 ?_
                  refine m_callSi (As := [.int (iv (i2 : Int)), .int (iv 1)]) (rest := [.ref (yy + 1)]) ⟨hx, hb, hml, hown, hts⟩ hK hH hS (c_X9_of l G ν ν0 (i2 : Int) 1 (by omega) (by omega)) (va_cwS 2 hts gX9_wearOut_X9_of rfl rfl rfl (by decide +kernel) ⟨(Nat.le_of_ble_eq_true rfl), (Nat.le_of_ble_eq_true rfl)⟩) rfl rfl hl.1 (Nat.le_of_ble_eq_true rfl) dX9_wearOut_112 ⟨Nat.zero_le _, Nat.zero_le _⟩ (fun z19 μ16 n17 H locs hz19 hp18 hH hS => ?_)
                  obtain ⟨hz9, hm9, hn9⟩ := hp18
                  rw [hm9, hn9] at hH
                  rw [hz9]
                  clear hz9 hm9 hn9
                  refine j_norm (y := ((86 + 13 * i2 : Nat) : Int)) (by omega) ?_
                  refine lv_aload_n hx hb dX9_wearOut_115 rfl (lv_at hl 0 rfl) ?_
                  refine m_get (C := RX9) (T := TX9) (N := 13) (ci := 8) hx hb hts i_X9 hown hK hH hY.1 rfl 0 (by decide) f_0 rfl dX9_wearOut_116 ?_
                  refine lv_iload_n hx hb dX9_wearOut_119 rfl (lv_at hl 2 rfl) ?_
                  refine j_const hx hb dX9_wearOut_120 ?_
                  refine m_callSi (As := [.int (iv (i2 : Int)), .int (iv 1)]) (rest := [.ref (yy + 1), .int (iv ((86 + 13 * i2 : Nat) : Int)), .ref (yy + 1)]) ⟨hx, hb, hml, hown, hts⟩ hK hH hS (c_X9_of l G ν ν0 (i2 : Int) 1 (by omega) (by omega)) (va_cwS 2 hts gX9_wearOut_X9_of rfl rfl rfl (by decide +kernel) ⟨(Nat.le_of_ble_eq_true rfl), (Nat.le_of_ble_eq_true rfl)⟩) rfl rfl hl.1 (Nat.le_of_ble_eq_true rfl) dX9_wearOut_121 ⟨Nat.zero_le _, Nat.zero_le _⟩ (fun z23 μ20 n21 H locs hz23 hp22 hH hS => ?_)
                  obtain ⟨hz9, hm9, hn9⟩ := hp22
                  rw [hm9, hn9] at hH
                  rw [hz9]
                  clear hz9 hm9 hn9
                  refine j_norm (y := ((86 + 13 * i2 : Nat) : Int)) (by omega) ?_
                  refine m_iald (nA := 163) (f := τ2) hx hb hK hH hY.2.1 dX9_wearOut_124 ?_ (by omega) (by omega)
                  refine j_norm (y := (τ2 (86 + 13 * i2))) rfl ?_
                  refine j_const hx hb dX9_wearOut_125 ?_
                  refine j_iadd hx hb dX9_wearOut_126 ?_
                  refine j_bipush hx hb dX9_wearOut_127 ?_ (by decide)
                  refine j_irem hx hb dX9_wearOut_129 ?_ (by omega) (by omega)
                  refine m_iast (nA := 163) (f := τ2) hx hb hK hH hS hY.2.1 dX9_wearOut_130 (fun H locs hH hS => ?_) (by omega) (by omega)
                  obtain ⟨ν24, hY, hfr, hH⟩ : ∃ ξ : hM, IsMM G ξ yy (fu τ2 (86 + 13 * i2) (((τ2 (86 + 13 * i2)) + 1) % 10)) α β κ χ ω kn ik ln en fr pl wr ∧ MFr yy μ ξ ∧ gP G ξ ν0 H := hY.w1 hfr hH
                  have hH : gP G ν24 ν0 H := hH
                  refine lv_aload_n hx hb dX9_wearOut_131 rfl (lv_at hl 0 rfl) ?_
                  refine m_get (C := RX9) (T := TX9) (N := 13) (ci := 8) hx hb hts i_X9 hown hK hH hY.1 rfl 0 (by decide) f_0 rfl dX9_wearOut_132 ?_
                  refine lv_iload_n hx hb dX9_wearOut_135 rfl (lv_at hl 2 rfl) ?_
                  refine j_const hx hb dX9_wearOut_136 ?_
                  refine m_callSi (As := [.int (iv (i2 : Int)), .int (iv 2)]) (rest := [.ref (yy + 1)]) ⟨hx, hb, hml, hown, hts⟩ hK hH hS (c_X9_of l G ν24 ν0 (i2 : Int) 2 (by omega) (by omega)) (va_cwS 2 hts gX9_wearOut_X9_of rfl rfl rfl (by decide +kernel) ⟨(Nat.le_of_ble_eq_true rfl), (Nat.le_of_ble_eq_true rfl)⟩) rfl rfl hl.1 (Nat.le_of_ble_eq_true rfl) dX9_wearOut_137 ⟨Nat.zero_le _, Nat.zero_le _⟩ (fun z28 μ25 n26 H locs hz28 hp27 hH hS => ?_)
                  obtain ⟨hz9, hm9, hn9⟩ := hp27
                  rw [hm9, hn9] at hH
                  rw [hz9]
                  clear hz9 hm9 hn9
                  refine j_norm (y := ((87 + 13 * i2 : Nat) : Int)) (by omega) ?_
                  refine j_const hx hb dX9_wearOut_140 ?_
                  refine m_iast (nA := 163) (f := (fu τ2 (86 + 13 * i2) (((τ2 (86 + 13 * i2)) + 1) % 10))) hx hb hK hH hS hY.2.1 dX9_wearOut_141 (fun H locs hH hS => ?_) (by omega) (by omega)
                  obtain ⟨ν29, hY, hfr, hH⟩ : ∃ ξ : hM, IsMM G ξ yy (fu (fu τ2 (86 + 13 * i2) (((τ2 (86 + 13 * i2)) + 1) % 10)) (87 + 13 * i2) 0) α β κ χ ω kn ik ln en fr pl wr ∧ MFr yy μ ξ ∧ gP G ξ ν0 H := hY.w1 hfr hH
                  have hH : gP G ν29 ν0 H := hH
                  refine lv_aload_n hx hb dX9_wearOut_142 rfl (lv_at hl 0 rfl) ?_
                  refine m_get (C := RX9) (T := TX9) (N := 13) (ci := 8) hx hb hts i_X9 hown hK hH hY.1 rfl 0 (by decide) f_0 rfl dX9_wearOut_143 ?_
                  refine j_bipush hx hb dX9_wearOut_146 ?_ (by decide)
                  refine lv_dup2_11 hx hb dX9_wearOut_148 rfl rfl ?_
                  refine m_iald (nA := 163) (f := (fu (fu τ2 (86 + 13 * i2) (((τ2 (86 + 13 * i2)) + 1) % 10)) (87 + 13 * i2) 0)) hx hb hK hH hY.2.1 dX9_wearOut_149 ?_ (by omega) (by omega)
                  refine j_norm (y := ((fu (fu τ2 (86 + 13 * i2) (((τ2 (86 + 13 * i2)) + 1) % 10)) (87 + 13 * i2) 0) 10)) rfl ?_
                  refine j_norm (y := (τ2 10)) (by rw [fu_n (by omega), fu_n (by omega)]) ?_
                  refine j_const hx hb dX9_wearOut_150 ?_
                  refine j_iadd hx hb dX9_wearOut_151 ?_
                  refine m_iast (nA := 163) (f := (fu (fu τ2 (86 + 13 * i2) (((τ2 (86 + 13 * i2)) + 1) % 10)) (87 + 13 * i2) 0)) hx hb hK hH hS hY.2.1 dX9_wearOut_152 (fun H locs hH hS => ?_) (by omega) (by omega)
                  obtain ⟨ν30, hY, hfr, hH⟩ : ∃ ξ : hM, IsMM G ξ yy (fu (fu (fu τ2 (86 + 13 * i2) (((τ2 (86 + 13 * i2)) + 1) % 10)) (87 + 13 * i2) 0) 10 ((τ2 10) + 1)) α β κ χ ω kn ik ln en fr pl wr ∧ MFr yy μ ξ ∧ gP G ξ ν0 H := hY.w1 hfr hH
                  have hH : gP G ν30 ν0 H := hH
                  refine j_iinc (lv' := [(2, .int (iv ((i2 : Int) + 1))), (0, .ref yy), (1, .int (iv k))]) hx hb dX9_wearOut_153 hl (k := 2) rfl (by decide) rfl (fun ls hl => ?_)
                  refine lv_goto (tgt := 75) hx hb dX9_wearOut_156 (by decide) ?_
                  exact ih8 (i2 + 1) (fu (fu (fu τ2 (86 + 13 * i2) (((τ2 (86 + 13 * i2)) + 1) % 10)) (87 + 13 * i2) 0) 10 ((τ2 10) + 1)) ν30 ν0 hY hfr (by omega) (by rw [if_pos (by omega), slip_m]; rw [hτ3] at hsl ⊢; exact (if_pos hsl).symm) (by omega) H locs ls hH hS (lv_sub hl [1, 2, 0] rfl)
        exact lp75 (7) 0 (inkF σ k) ν7 ν0 hY hfr (by omega) (by split <;> rfl) (by omega) H locs ls hH hS (lv_sub hl [1, 2, 0] rfl)
      · skip
        have h86_i := (hOk.2.2.2.2 i (by omega)).2.1
        have hwr := (hOkt.2.2.2.2 i (by omega)).2.2.2 (σ (86 + 13 * i)).toNat (by omega)
        refine lv_iload_n hx hb dX9_wearOut_8 rfl (lv_at hl 2 rfl) ?_
        refine j_const hx hb dX9_wearOut_9 ?_
        refine lv_aload_n hx hb dX9_wearOut_10 rfl (lv_at hl 0 rfl) ?_
        refine m_get (C := RX9) (T := TX9) (N := 13) (ci := 8) hx hb hts i_X9 hown hK hH hY.1 rfl 0 (by decide) f_0 rfl dX9_wearOut_11 ?_
        refine lv_iload_n hx hb dX9_wearOut_14 rfl (lv_at hl 2 rfl) ?_
        refine j_const hx hb dX9_wearOut_15 ?_
        refine m_callSi (As := [.int (iv (i : Int)), .int (iv 1)]) (rest := [.ref (yy + 1), .int (iv 3), .int (iv (i : Int))]) ⟨hx, hb, hml, hown, hts⟩ hK hH hS (c_X9_of l G ν ν0 (i : Int) 1 (by omega) (by omega)) (va_cwS 2 hts gX9_wearOut_X9_of rfl rfl rfl (by decide +kernel) ⟨(Nat.le_of_ble_eq_true rfl), (Nat.le_of_ble_eq_true rfl)⟩) rfl rfl hl.1 (Nat.le_of_ble_eq_true rfl) dX9_wearOut_16 ⟨Nat.zero_le _, Nat.zero_le _⟩ (fun z34 μ31 n32 H locs hz34 hp33 hH hS => ?_)
        obtain ⟨hz9, hm9, hn9⟩ := hp33
        rw [hm9, hn9] at hH
        rw [hz9]
        clear hz9 hm9 hn9
        refine j_norm (y := ((86 + 13 * i : Nat) : Int)) (by omega) ?_
        refine m_iald (nA := 163) (f := τ) hx hb hK hH hY.2.1 dX9_wearOut_19 ?_ (by omega) (by omega)
        refine j_norm (y := (τ (86 + 13 * i))) rfl ?_
        refine j_norm (y := (σ (86 + 13 * i))) (by rw [hτ]; exact wear_ot hOk k (by omega) i (by omega)) ?_
        refine j_iadd hx hb dX9_wearOut_20 ?_
        refine m_callSi (As := [.int (iv (i : Int)), .int (iv (3 + (σ (86 + 13 * i))))]) (rest := []) ⟨hx, hb, hml, hown, hts⟩ hK hH hS (c_X9_of l G ν ν0 (i : Int) (3 + (σ (86 + 13 * i))) (by omega) (by omega)) (va_cwS 2 hts gX9_wearOut_X9_of rfl rfl rfl (by decide +kernel) ⟨(Nat.le_of_ble_eq_true rfl), (Nat.le_of_ble_eq_true rfl)⟩) rfl rfl hl.1 (Nat.le_of_ble_eq_true rfl) dX9_wearOut_21 ⟨Nat.zero_le _, Nat.zero_le _⟩ (fun z38 μ35 n36 H locs hz38 hp37 hH hS => ?_)
        obtain ⟨hz9, hm9, hn9⟩ := hp37
        rw [hm9, hn9] at hH
        rw [hz9]
        clear hz9 hm9 hn9
        refine j_norm (y := ((88 + 13 * i + (((σ (86 + 13 * i))).toNat) : Nat) : Int)) (by omega) ?_
        refine lv_istore_n (lv' := [(3, .int (iv ((88 + 13 * i + (((σ (86 + 13 * i))).toNat) : Nat) : Int))), (0, .ref yy), (1, .int (iv k)), (2, .int (iv (i : Int)))]) hx hb dX9_wearOut_24 rfl hl (by decide) rfl (fun ls hl => ?_)
        refine lv_aload_n hx hb dX9_wearOut_25 rfl (lv_at hl 1 rfl) ?_
        refine m_get (C := RX9) (T := TX9) (N := 13) (ci := 8) hx hb hts i_X9 hown hK hH hY.1 rfl 0 (by decide) f_0 rfl dX9_wearOut_26 ?_
        refine lv_iload_n hx hb dX9_wearOut_29 rfl (lv_at hl 0 rfl) ?_
        refine lv_aload_n hx hb dX9_wearOut_30 rfl (lv_at hl 1 rfl) ?_
        refine m_get (C := RX9) (T := TX9) (N := 13) (ci := 8) hx hb hts i_X9 hown hK hH hY.1 rfl 0 (by decide) f_0 rfl dX9_wearOut_31 ?_
        refine lv_iload_n hx hb dX9_wearOut_34 rfl (lv_at hl 0 rfl) ?_
        refine m_iald (nA := 163) (f := τ) hx hb hK hH hY.2.1 dX9_wearOut_35 ?_ (by omega) (by omega)
        refine j_norm (y := (τ (88 + 13 * i + (((σ (86 + 13 * i))).toNat)))) rfl ?_
        refine j_const hx hb dX9_wearOut_36 ?_
        refine j_iadd hx hb dX9_wearOut_37 ?_
        refine lv_iload_n hx hb dX9_wearOut_38 rfl (lv_at hl 2 rfl) ?_
        refine j_const hx hb dX9_wearOut_39 ?_
        refine j_idiv hx hb dX9_wearOut_40 ?_ (by omega) (by omega)
        refine j_iadd hx hb dX9_wearOut_41 ?_
        refine j_bipush hx hb dX9_wearOut_42 ?_ (by decide)
        refine m_callSi (As := [.int (iv (((τ (88 + 13 * i + (((σ (86 + 13 * i))).toNat))) + 1) + (k / 4))), .int (iv 99)]) (rest := [.int (iv ((88 + 13 * i + (((σ (86 + 13 * i))).toNat) : Nat) : Int)), .ref (yy + 1)]) ⟨hx, hb, hml, hown, hts⟩ hK hH hS (c_X9_least l G ν ν0 (((τ (88 + 13 * i + (((σ (86 + 13 * i))).toNat))) + 1) + (k / 4)) 99 (by omega) (by omega)) (va_cwS 2 hts gX9_wearOut_X9_least rfl rfl rfl (by decide +kernel) ⟨(Nat.le_of_ble_eq_true rfl), (Nat.le_of_ble_eq_true rfl)⟩) rfl rfl hl.1 (Nat.le_of_ble_eq_true rfl) dX9_wearOut_44 ⟨Nat.zero_le _, Nat.zero_le _⟩ (fun z42 μ39 n40 H locs hz42 hp41 hH hS => ?_)
        obtain ⟨hz2, hm2, hn2⟩ := hp41; rw [hz2]; rw [hm2, hn2] at hH; clear hz2 hm2 hn2
        refine m_iast (nA := 163) (f := τ) hx hb hK hH hS hY.2.1 dX9_wearOut_47 (fun H locs hH hS => ?_) (by omega) (by omega)
        obtain ⟨ν43, hY, hfr, hH⟩ : ∃ ξ : hM, IsMM G ξ yy (fu τ (88 + 13 * i + (((σ (86 + 13 * i))).toNat)) (min (((τ (88 + 13 * i + (((σ (86 + 13 * i))).toNat))) + 1) + (k / 4)) 99)) α β κ χ ω kn ik ln en fr pl wr ∧ MFr yy μ ξ ∧ gP G ξ ν0 H := hY.w1 hfr hH
        have hH : gP G ν43 ν0 H := hH
        refine j_iinc (lv' := [(2, .int (iv ((i : Int) + 1))), (3, .int (iv ((88 + 13 * i + (((σ (86 + 13 * i))).toNat) : Nat) : Int))), (0, .ref yy), (1, .int (iv k))]) hx hb dX9_wearOut_48 hl (k := 3) rfl (by decide) rfl (fun ls hl => ?_)
        refine lv_goto (tgt := 2) hx hb dX9_wearOut_51 (by decide) ?_
        exact ih1 (i + 1) (fu τ (88 + 13 * i + (((σ (86 + 13 * i))).toNat)) (min (((τ (88 + 13 * i + (((σ (86 + 13 * i))).toNat))) + 1) + (k / 4)) 99)) ν43 ν0 hY hfr (by omega) (by rw [hτ]; show fu (wearF σ k i) _ _ = fu (wearF σ k i) _ _; congr 1; omega) (by omega) H locs ls hH hS (lv_sub hl [2, 3, 0] rfl)
  exact lp2 (7) 0 σ μ n hY hfr (by omega) rfl (by omega) H locs ls hH hS (lv_sub hl [1, 2, 0] rfl)

abbrev rm_c_X9_exchanges : Room := { frames := 1, cells := 0, slots := 0, locals := 21 }
set_option maxHeartbeats 4000000 in
set_option maxRecDepth 100000 in
theorem c_X9_exchanges (l : Launch) (G : wG) (μ : hM) (n : Nat) (yy : Nat) (σ α β κ χ ω : Nat → Int) (kn ik ln en fr pl wr : Int) (hY : IsMM G μ yy σ α β κ χ ω kn ik ln en fr pl wr) (p0 q0 : Nat) (hp : p0 < 6) (hq : q0 < 6) (hpq : p0 ≠ q0) : Met l yX9_exchanges wsX9_exchanges rm_c_X9_exchanges (mPc G μ n [.ref yy, .int (iv (p0 : Int)), .int (iv (q0 : Int))]) (mQv G (fun μ1 n1 => IsMM G μ1 yy (swpS σ p0 q0) α β κ χ ω kn ik ln en fr pl wr ∧ MFr yy μ μ1)) 0 0 (gA G) := by
  refine Met.ofW (cc := cX9_exchanges) (maxL := 5) (ret := none) (by decide) rfl ?_
  intro p e s m args below meth c s₁ B hml hv
  obtain ⟨hav, hK, hH⟩ := hv
  have hx := B.exec
  have hb := B.bytes
  have hr := B.returns
  have hts := atoms_spec (ws := wsX9_exchanges) B.pre
  have hown : s.vm.findClass RX9 = some m.cls := findClass_of_methodNamed B.named
  have hlocks := B.notSynchronized
  have hS : va_S (gA G) s.heap s.heap [] := va_S.rf
  have hl := lv_entry ([.ref yy, .int (iv (p0 : Int)), .int (iv (q0 : Int))]) (n := 5) (Nat.le_of_ble_eq_true rfl)
  have hfr : entryFrame m args 5 = entryFrame m ([.ref yy, .int (iv (p0 : Int)), .int (iv (q0 : Int))] : List Value).toArray 5 := by rw [hav]
  rw [hfr, lg_entry_eq]
  generalize (lg_sl ([.ref yy, .int (iv (p0 : Int)), .int (iv (q0 : Int))]) ++ List.replicate (5 - (lg_sl ([.ref yy, .int (iv (p0 : Int)), .int (iv (q0 : Int))])).length) Slot.unset).toArray = ls at hl ⊢
  have hl : lv_has ls 5 [(0, .ref yy), (1, .int (iv (p0 : Int))), (2, .int (iv (q0 : Int)))] := hl
  generalize hQ : MQ below _ args s 0 0 (gA G) = Q
  show W p l e rm_c_X9_exchanges s m args below meth c s.heap [] 0 0 Q (F0 m 0 ls [])
  obtain ⟨H, hHe⟩ : ∃ H, H = s.heap := ⟨_, rfl⟩
  obtain ⟨locs, hlo⟩ : ∃ q : List Loc, q = [] := ⟨_, rfl⟩
  have hH : gP G μ n H := by rw [hHe]; exact hH
  have hS : va_S (gA G) s.heap H locs := by rw [hHe, hlo]; exact hS
  suffices hgo : W p l e rm_c_X9_exchanges s m args below meth c H locs 0 0 Q (F0 m 0 ls []) by rw [hHe, hlo] at hgo; exact hgo
  clear hHe hlo hfr hav
  have f_0 := hts (.fieldLink RX9 7 "StampDaterModel" "s" "[I") (List.mem_of_getElem? (i := 1) rfl)
  have i_X9 : ∀ w ∈ u_ws RX9 TX9 13, w ∈ wsX9_exchanges := by decide +kernel
  have hfr : MFr yy μ μ := MFr.rf
  refine j_const hx hb dX9_exchanges_0 ?_
  refine lv_istore_n (lv' := [(3, .int (iv 0)), (0, .ref yy), (1, .int (iv (p0 : Int))), (2, .int (iv (q0 : Int)))]) hx hb dX9_exchanges_1 rfl hl (by decide) rfl (fun ls hl => ?_)
  have lp2 : ∀ (fuel : Nat) (kk : Nat) (τ : Nat → Int) (ν : hM) (ν0 : Nat) (hY : IsMM G ν yy τ α β κ χ ω kn ik ln en fr pl wr) (hfr : MFr yy μ ν) (hkk : kk ≤ 13) (hτ : τ = swK σ p0 q0 kk) (_ : 13 - kk < fuel) (H : Heap) (locs : List Loc) (ls : Array Slot) (_ : gP G ν ν0 H) (_ : va_S (gA G) s.heap H locs) (_ : lv_has ls 5 [(0, .ref yy), (1, .int (iv (p0 : Int))), (2, .int (iv (q0 : Int))), (3, .int (iv (kk : Int)))]), W p l e rm_c_X9_exchanges s m args below meth c H locs 0 0 Q (F0 m 2 ls []) := by
    intro fuel
    induction fuel with
    | zero => intro _ _ _ _ _ _ _ _ hfuel; exact absurd hfuel (Nat.not_lt_zero _)
    | succ fuel ih =>
      intro kk τ ν ν0 hY hfr hkk hτ hfuel H locs ls hH hS hl
      have ih1 := ih; clear ih
      refine lv_iload_n hx hb dX9_exchanges_2 rfl (lv_at hl 3 rfl) ?_
      refine j_bipush hx hb dX9_exchanges_3 ?_ (by decide)
      refine j_icmp_ge (tgt := 58) hx hb dX9_exchanges_5 (by decide) (fun c2 => ?_) (fun c2 => ?_) (by omega) (by omega)
      · skip
        subst hQ
        refine m_vret hx hb hr hlocks hH hS dX9_exchanges_58 ?_
        have hq9 : τ = (swpS σ p0 q0) := (by rw [hτ, show kk = 13 by omega]; exact swK_13 hp hq)
        rw [hq9] at hY
        clear hq9
        exact ⟨hY, hfr⟩
      · skip
        refine lv_aload_n hx hb dX9_exchanges_8 rfl (lv_at hl 0 rfl) ?_
        refine m_get (C := RX9) (T := TX9) (N := 13) (ci := 8) hx hb hts i_X9 hown hK hH hY.1 rfl 0 (by decide) f_0 rfl dX9_exchanges_9 ?_
        refine lv_iload_n hx hb dX9_exchanges_12 rfl (lv_at hl 1 rfl) ?_
        refine lv_iload_n hx hb dX9_exchanges_13 rfl (lv_at hl 3 rfl) ?_
        refine m_callSi (As := [.int (iv (p0 : Int)), .int (iv (kk : Int))]) (rest := [.ref (yy + 1)]) ⟨hx, hb, hml, hown, hts⟩ hK hH hS (c_X9_of l G ν ν0 (p0 : Int) (kk : Int) (by omega) (by omega)) (va_cwS 2 hts gX9_exchanges_X9_of rfl rfl rfl (by decide +kernel) ⟨(Nat.le_of_ble_eq_true rfl), (Nat.le_of_ble_eq_true rfl)⟩) rfl rfl hl.1 (Nat.le_of_ble_eq_true rfl) dX9_exchanges_14 ⟨Nat.zero_le _, Nat.zero_le _⟩ (fun z6 μ3 n4 H locs hz6 hp5 hH hS => ?_)
        obtain ⟨hz9, hm9, hn9⟩ := hp5
        rw [hm9, hn9] at hH
        rw [hz9]
        clear hz9 hm9 hn9
        refine j_norm (y := ((85 + 13 * p0 + kk : Nat) : Int)) (by omega) ?_
        refine m_iald (nA := 163) (f := τ) hx hb hK hH hY.2.1 dX9_exchanges_17 ?_ (by omega) (by omega)
        refine j_norm (y := (τ (85 + 13 * p0 + kk))) rfl ?_
        refine lv_istore (lv' := [(4, .int (iv (τ (85 + 13 * p0 + kk)))), (0, .ref yy), (1, .int (iv (p0 : Int))), (2, .int (iv (q0 : Int))), (3, .int (iv (kk : Int)))]) hx hb dX9_exchanges_18 hl (by decide) rfl (fun ls hl => ?_)
        refine lv_aload_n hx hb dX9_exchanges_20 rfl (lv_at hl 1 rfl) ?_
        refine m_get (C := RX9) (T := TX9) (N := 13) (ci := 8) hx hb hts i_X9 hown hK hH hY.1 rfl 0 (by decide) f_0 rfl dX9_exchanges_21 ?_
        refine lv_iload_n hx hb dX9_exchanges_24 rfl (lv_at hl 2 rfl) ?_
        refine lv_iload_n hx hb dX9_exchanges_25 rfl (lv_at hl 4 rfl) ?_
        refine m_callSi (As := [.int (iv (p0 : Int)), .int (iv (kk : Int))]) (rest := [.ref (yy + 1)]) ⟨hx, hb, hml, hown, hts⟩ hK hH hS (c_X9_of l G ν ν0 (p0 : Int) (kk : Int) (by omega) (by omega)) (va_cwS 2 hts gX9_exchanges_X9_of rfl rfl rfl (by decide +kernel) ⟨(Nat.le_of_ble_eq_true rfl), (Nat.le_of_ble_eq_true rfl)⟩) rfl rfl hl.1 (Nat.le_of_ble_eq_true rfl) dX9_exchanges_26 ⟨Nat.zero_le _, Nat.zero_le _⟩ (fun z10 μ7 n8 H locs hz10 hp9 hH hS => ?_)
        obtain ⟨hz9, hm9, hn9⟩ := hp9
        rw [hm9, hn9] at hH
        rw [hz9]
        clear hz9 hm9 hn9
        refine j_norm (y := ((85 + 13 * p0 + kk : Nat) : Int)) (by omega) ?_
        refine lv_aload_n hx hb dX9_exchanges_29 rfl (lv_at hl 1 rfl) ?_
        refine m_get (C := RX9) (T := TX9) (N := 13) (ci := 8) hx hb hts i_X9 hown hK hH hY.1 rfl 0 (by decide) f_0 rfl dX9_exchanges_30 ?_
        refine lv_iload_n hx hb dX9_exchanges_33 rfl (lv_at hl 3 rfl) ?_
        refine lv_iload_n hx hb dX9_exchanges_34 rfl (lv_at hl 4 rfl) ?_
        refine m_callSi (As := [.int (iv (q0 : Int)), .int (iv (kk : Int))]) (rest := [.ref (yy + 1), .int (iv ((85 + 13 * p0 + kk : Nat) : Int)), .ref (yy + 1)]) ⟨hx, hb, hml, hown, hts⟩ hK hH hS (c_X9_of l G ν ν0 (q0 : Int) (kk : Int) (by omega) (by omega)) (va_cwS 2 hts gX9_exchanges_X9_of rfl rfl rfl (by decide +kernel) ⟨(Nat.le_of_ble_eq_true rfl), (Nat.le_of_ble_eq_true rfl)⟩) rfl rfl hl.1 (Nat.le_of_ble_eq_true rfl) dX9_exchanges_35 ⟨Nat.zero_le _, Nat.zero_le _⟩ (fun z14 μ11 n12 H locs hz14 hp13 hH hS => ?_)
        obtain ⟨hz9, hm9, hn9⟩ := hp13
        rw [hm9, hn9] at hH
        rw [hz9]
        clear hz9 hm9 hn9
        refine j_norm (y := ((85 + 13 * q0 + kk : Nat) : Int)) (by omega) ?_
        refine m_iald (nA := 163) (f := τ) hx hb hK hH hY.2.1 dX9_exchanges_38 ?_ (by omega) (by omega)
        refine j_norm (y := (τ (85 + 13 * q0 + kk))) rfl ?_
        refine j_norm (y := (τ (85 + 13 * q0 + kk))) rfl ?_
        refine m_iast (nA := 163) (f := τ) hx hb hK hH hS hY.2.1 dX9_exchanges_39 (fun H locs hH hS => ?_) (by omega) (by omega)
        obtain ⟨ν15, hY, hfr, hH⟩ : ∃ ξ : hM, IsMM G ξ yy (fu τ (85 + 13 * p0 + kk) (τ (85 + 13 * q0 + kk))) α β κ χ ω kn ik ln en fr pl wr ∧ MFr yy μ ξ ∧ gP G ξ ν0 H := hY.w1 hfr hH
        have hH : gP G ν15 ν0 H := hH
        refine lv_aload_n hx hb dX9_exchanges_40 rfl (lv_at hl 1 rfl) ?_
        refine m_get (C := RX9) (T := TX9) (N := 13) (ci := 8) hx hb hts i_X9 hown hK hH hY.1 rfl 0 (by decide) f_0 rfl dX9_exchanges_41 ?_
        refine lv_iload_n hx hb dX9_exchanges_44 rfl (lv_at hl 3 rfl) ?_
        refine lv_iload_n hx hb dX9_exchanges_45 rfl (lv_at hl 4 rfl) ?_
        refine m_callSi (As := [.int (iv (q0 : Int)), .int (iv (kk : Int))]) (rest := [.ref (yy + 1)]) ⟨hx, hb, hml, hown, hts⟩ hK hH hS (c_X9_of l G ν15 ν0 (q0 : Int) (kk : Int) (by omega) (by omega)) (va_cwS 2 hts gX9_exchanges_X9_of rfl rfl rfl (by decide +kernel) ⟨(Nat.le_of_ble_eq_true rfl), (Nat.le_of_ble_eq_true rfl)⟩) rfl rfl hl.1 (Nat.le_of_ble_eq_true rfl) dX9_exchanges_46 ⟨Nat.zero_le _, Nat.zero_le _⟩ (fun z19 μ16 n17 H locs hz19 hp18 hH hS => ?_)
        obtain ⟨hz9, hm9, hn9⟩ := hp18
        rw [hm9, hn9] at hH
        rw [hz9]
        clear hz9 hm9 hn9
        refine j_norm (y := ((85 + 13 * q0 + kk : Nat) : Int)) (by omega) ?_
        refine lv_iload hx hb dX9_exchanges_49 (lv_at hl 0 rfl) ?_
        refine m_iast (nA := 163) (f := (fu τ (85 + 13 * p0 + kk) (τ (85 + 13 * q0 + kk)))) hx hb hK hH hS hY.2.1 dX9_exchanges_51 (fun H locs hH hS => ?_) (by omega) (by omega)
        obtain ⟨ν20, hY, hfr, hH⟩ : ∃ ξ : hM, IsMM G ξ yy (fu (fu τ (85 + 13 * p0 + kk) (τ (85 + 13 * q0 + kk))) (85 + 13 * q0 + kk) (τ (85 + 13 * p0 + kk))) α β κ χ ω kn ik ln en fr pl wr ∧ MFr yy μ ξ ∧ gP G ξ ν0 H := hY.w1 hfr hH
        have hH : gP G ν20 ν0 H := hH
        refine j_iinc (lv' := [(3, .int (iv ((kk : Int) + 1))), (4, .int (iv (τ (85 + 13 * p0 + kk)))), (0, .ref yy), (1, .int (iv (p0 : Int))), (2, .int (iv (q0 : Int)))]) hx hb dX9_exchanges_52 hl (k := 4) rfl (by decide) rfl (fun ls hl => ?_)
        refine lv_goto (tgt := 2) hx hb dX9_exchanges_55 (by decide) ?_
        exact ih1 (kk + 1) (fu (fu τ (85 + 13 * p0 + kk) (τ (85 + 13 * q0 + kk))) (85 + 13 * q0 + kk) (τ (85 + 13 * p0 + kk))) ν20 ν0 hY hfr (by omega) (by rw [hτ]; exact swK_s hpq (by omega)) (by omega) H locs ls hH hS (lv_sub hl [2, 3, 4, 0] rfl)
  exact lp2 (14) 0 σ μ n hY hfr (by omega) (swK_0 σ p0 q0).symm (by omega) H locs ls hH hS (lv_sub hl [1, 2, 3, 0] rfl)

abbrev rm_c_X9_prints : Room := { frames := 4, cells := 0, slots := 0, locals := 89 }
set_option maxHeartbeats 4000000 in
set_option maxRecDepth 100000 in
theorem c_X9_prints (l : Launch) (G : wG) (μ : hM) (n : Nat) (yy : Nat) (σ α β κ χ ω : Nat → Int) (kn ik ln en fr pl wr : Int) (hY : IsMM G μ yy σ α β κ χ ω kn ik ln en fr pl wr) (k : Int) (hOk : OkS σ) (h3 : 0 ≤ σ 3 ∧ σ 3 ≤ 36524) (h12 : 0 ≤ σ 12 ∧ σ 12 ≤ 12) (hk : 1 ≤ k ∧ k ≤ 9) : Met l yX9_prints wsX9_prints rm_c_X9_prints (mPc G μ n [.ref yy, .int (iv k)]) (mQi G (fun z μ1 n1 => z = rtF σ (dig (σ 3)) k ∧ IsMM G μ1 yy (prF σ k) α β κ χ ω kn ik ln en fr pl wr ∧ MFr yy μ μ1)) 0 0 (gA G) := by
  refine Met.ofW (cc := cX9_prints) (maxL := 3) (ret := (some .int)) (by decide) rfl ?_
  intro p e s m args below meth c s₁ B hml hv
  obtain ⟨hav, hK, hH⟩ := hv
  have hx := B.exec
  have hb := B.bytes
  have hr := B.returns
  have hts := atoms_spec (ws := wsX9_prints) B.pre
  have hown : s.vm.findClass RX9 = some m.cls := findClass_of_methodNamed B.named
  have hlocks := B.notSynchronized
  have hS : va_S (gA G) s.heap s.heap [] := va_S.rf
  have hl := lv_entry ([.ref yy, .int (iv k)]) (n := 3) (Nat.le_of_ble_eq_true rfl)
  have hfr : entryFrame m args 3 = entryFrame m ([.ref yy, .int (iv k)] : List Value).toArray 3 := by rw [hav]
  rw [hfr, lg_entry_eq]
  generalize (lg_sl ([.ref yy, .int (iv k)]) ++ List.replicate (3 - (lg_sl ([.ref yy, .int (iv k)])).length) Slot.unset).toArray = ls at hl ⊢
  have hl : lv_has ls 3 [(0, .ref yy), (1, .int (iv k))] := hl
  generalize hQ : MQ below _ args s 0 0 (gA G) = Q
  show W p l e rm_c_X9_prints s m args below meth c s.heap [] 0 0 Q (F0 m 0 ls [])
  obtain ⟨H, hHe⟩ : ∃ H, H = s.heap := ⟨_, rfl⟩
  obtain ⟨locs, hlo⟩ : ∃ q : List Loc, q = [] := ⟨_, rfl⟩
  have hH : gP G μ n H := by rw [hHe]; exact hH
  have hS : va_S (gA G) s.heap H locs := by rw [hHe, hlo]; exact hS
  suffices hgo : W p l e rm_c_X9_prints s m args below meth c H locs 0 0 Q (F0 m 0 ls []) by rw [hHe, hlo] at hgo; exact hgo
  clear hHe hlo hfr hav
  have f_0 := hts (.fieldLink RX9 7 "StampDaterModel" "s" "[I") (List.mem_of_getElem? (i := 1) rfl)
  have i_X9 : ∀ w ∈ u_ws RX9 TX9 13, w ∈ wsX9_prints := by decide +kernel
  have hfr : MFr yy μ μ := MFr.rf
  have hf6 : fbN σ k 6 < 64 := fbN_lt σ k 6
  have hs6 : sbN σ k 6 < 64 := sbN_lt σ k 6
  have hrr := rtF_01 σ (dig (σ 3)) k
  refine j_bipush hx hb dX9_prints_0 ?_ (by decide)
  refine lv_istore_n (lv' := [(2, .int (iv 71)), (0, .ref yy), (1, .int (iv k))]) hx hb dX9_prints_2 rfl hl (by decide) rfl (fun ls hl => ?_)
  have lp3 : ∀ (fuel : Nat) (kk : Int) (τ : Nat → Int) (ν : hM) (ν0 : Nat) (hY : IsMM G ν yy τ α β κ χ ω kn ik ln en fr pl wr) (hfr : MFr yy μ ν) (hkk : 5 ≤ kk ∧ kk ≤ 71) (hτ : τ = shK σ kk) (_ : (kk - 4).toNat < fuel) (H : Heap) (locs : List Loc) (ls : Array Slot) (_ : gP G ν ν0 H) (_ : va_S (gA G) s.heap H locs) (_ : lv_has ls 3 [(0, .ref yy), (1, .int (iv k)), (2, .int (iv kk))]), W p l e rm_c_X9_prints s m args below meth c H locs 0 0 Q (F0 m 3 ls []) := by
    intro fuel
    induction fuel with
    | zero => intro _ _ _ _ _ _ _ _ hfuel; exact absurd hfuel (Nat.not_lt_zero _)
    | succ fuel ih =>
      intro kk τ ν ν0 hY hfr hkk hτ hfuel H locs ls hH hS hl
      have ih1 := ih; clear ih
      refine lv_iload_n hx hb dX9_prints_3 rfl (lv_at hl 2 rfl) ?_
      refine j_bipush hx hb dX9_prints_4 ?_ (by decide)
      refine j_icmp_lt (tgt := 36) hx hb dX9_prints_6 (by decide) (fun c2 => ?_) (fun c2 => ?_) (by omega) (by omega)
      · skip
        have hq9 : τ = (shK σ 5) := (by rw [hτ, show kk = 5 by omega])
        rw [hq9] at hY
        clear hq9
        have hE : EqS (shK σ 5) σ := shK_e (by omega)
        refine lv_aload_n hx hb dX9_prints_36 rfl (lv_at hl 0 rfl) ?_
        refine lv_iload_n hx hb dX9_prints_37 rfl (lv_at hl 1 rfl) ?_
        refine m_callVi (As := [.int (iv k)]) (rest := []) ⟨hx, hb, hml, hown, hts⟩ hK hH hS (c_X9_isRight l G ν ν0 yy (shK σ 5) α β κ χ ω kn ik ln en fr pl wr hY k (hE.ok hOk) (by rw [shK_n (by omega)]; exact h3) (by omega)) (cwV 1 hts gX9_prints_X9_isRight rfl rfl rfl (by decide +kernel) ⟨(Nat.le_of_ble_eq_true rfl), (Nat.le_of_ble_eq_true rfl)⟩) hY.1 rfl rfl rfl rfl hl.1 (Nat.le_of_ble_eq_true rfl) dX9_prints_38 ⟨Nat.zero_le _, Nat.zero_le _⟩ (fun z6 μ3 n4 H locs hz6 hp5 hH hS => ?_)
        obtain ⟨hz2, hm2, hn2⟩ := hp5; rw [hz2]; rw [hm2, hn2] at hH; clear hz2 hm2 hn2
        refine j_norm (y := (rtF σ (dig (σ 3)) k)) (by rw [hE.rtE hOk, shK_n (by omega)]) ?_
        refine j_if_eq (tgt := 48) hx hb dX9_prints_41 (by decide) (fun c7 => ?_) (fun c7 => ?_) (by omega)
        · skip
          refine j_const hx hb dX9_prints_48 ?_
          have hrt : (0 : Int) = rtF σ (dig (σ 3)) k := by omega
          refine lv_istore_n (lv' := [(2, .int (iv 0)), (0, .ref yy), (1, .int (iv k))]) hx hb dX9_prints_49 rfl hl (by decide) rfl (fun ls hl => ?_)
          refine lv_aload_n hx hb dX9_prints_50 rfl (lv_at hl 1 rfl) ?_
          refine m_get (C := RX9) (T := TX9) (N := 13) (ci := 8) hx hb hts i_X9 hown hK hH hY.1 rfl 0 (by decide) f_0 rfl dX9_prints_51 ?_
          refine j_bipush hx hb dX9_prints_54 ?_ (by decide)
          refine lv_aload_n hx hb dX9_prints_56 rfl (lv_at hl 1 rfl) ?_
          refine m_callVi (As := []) (rest := [.int (iv 13), .ref (yy + 1)]) ⟨hx, hb, hml, hown, hts⟩ hK hH hS (c_X9_shows l G ν ν0 yy (shK σ 5) α β κ χ ω kn ik ln en fr pl wr hY (hE.ok hOk)) (cwV 0 hts gX9_prints_X9_shows rfl rfl rfl (by decide +kernel) ⟨(Nat.le_of_ble_eq_true rfl), (Nat.le_of_ble_eq_true rfl)⟩) hY.1 rfl rfl rfl rfl hl.1 (Nat.le_of_ble_eq_true rfl) dX9_prints_57 ⟨Nat.zero_le _, Nat.zero_le _⟩ (fun z11 μ8 n9 H locs hz11 hp10 hH hS => ?_)
          obtain ⟨hz2, hm2, hn2⟩ := hp10; rw [hz2]; rw [hm2, hn2] at hH; clear hz2 hm2 hn2
          refine j_norm (y := (shw σ 6)) (hE.shwE 6 (by omega)) ?_
          refine m_iast (nA := 163) (f := (shK σ 5)) hx hb hK hH hS hY.2.1 dX9_prints_60 (fun H locs hH hS => ?_) (by omega) (by omega)
          obtain ⟨ν12, hY, hfr, hH⟩ : ∃ ξ : hM, IsMM G ξ yy (fu (shK σ 5) 13 (shw σ 6)) α β κ χ ω kn ik ln en fr pl wr ∧ MFr yy μ ξ ∧ gP G ξ ν0 H := hY.w1 hfr hH
          have hH : gP G ν12 ν0 H := hH
          have hE : EqS (fu (shK σ 5) 13 (shw σ 6)) σ := hE.fl (i := 13) (by omega) _
          refine lv_aload_n hx hb dX9_prints_61 rfl (lv_at hl 1 rfl) ?_
          refine m_get (C := RX9) (T := TX9) (N := 13) (ci := 8) hx hb hts i_X9 hown hK hH hY.1 rfl 0 (by decide) f_0 rfl dX9_prints_62 ?_
          refine j_bipush hx hb dX9_prints_65 ?_ (by decide)
          refine lv_aload_n hx hb dX9_prints_67 rfl (lv_at hl 1 rfl) ?_
          refine m_get (C := RX9) (T := TX9) (N := 13) (ci := 8) hx hb hts i_X9 hown hK hH hY.1 rfl 0 (by decide) f_0 rfl dX9_prints_68 ?_
          refine j_const hx hb dX9_prints_71 ?_
          refine m_iald (nA := 163) (f := (fu (shK σ 5) 13 (shw σ 6))) hx hb hK hH hY.2.1 dX9_prints_72 ?_ (by omega) (by omega)
          refine j_norm (y := ((fu (shK σ 5) 13 (shw σ 6)) 3)) rfl ?_
          refine j_norm (y := (σ 3)) (show shK σ 5 3 = σ 3 from shK_n (by omega)) ?_
          refine m_iast (nA := 163) (f := (fu (shK σ 5) 13 (shw σ 6))) hx hb hK hH hS hY.2.1 dX9_prints_73 (fun H locs hH hS => ?_) (by omega) (by omega)
          obtain ⟨ν13, hY, hfr, hH⟩ : ∃ ξ : hM, IsMM G ξ yy (fu (fu (shK σ 5) 13 (shw σ 6)) 14 (σ 3)) α β κ χ ω kn ik ln en fr pl wr ∧ MFr yy μ ξ ∧ gP G ξ ν0 H := hY.w1 hfr hH
          have hH : gP G ν13 ν0 H := hH
          have hE : EqS (fu (fu (shK σ 5) 13 (shw σ 6)) 14 (σ 3)) σ := hE.fl (i := 14) (by omega) _
          refine lv_aload_n hx hb dX9_prints_74 rfl (lv_at hl 1 rfl) ?_
          refine m_get (C := RX9) (T := TX9) (N := 13) (ci := 8) hx hb hts i_X9 hown hK hH hY.1 rfl 0 (by decide) f_0 rfl dX9_prints_75 ?_
          refine j_bipush hx hb dX9_prints_78 ?_ (by decide)
          refine lv_aload_n hx hb dX9_prints_80 rfl (lv_at hl 1 rfl) ?_
          refine lv_iload_n hx hb dX9_prints_81 rfl (lv_at hl 2 rfl) ?_
          refine j_const hx hb dX9_prints_82 ?_
          refine m_callVi (As := [.int (iv k), .int (iv 1)]) (rest := [.int (iv 15), .ref (yy + 1)]) ⟨hx, hb, hml, hown, hts⟩ hK hH hS (c_X9_unclear l G ν13 ν0 yy (fu (fu (shK σ 5) 13 (shw σ 6)) 14 (σ 3)) α β κ χ ω kn ik ln en fr pl wr hY k 1 (hE.ok hOk) (by omega) (by omega)) (cwV 2 hts gX9_prints_X9_unclear rfl rfl rfl (by decide +kernel) ⟨(Nat.le_of_ble_eq_true rfl), (Nat.le_of_ble_eq_true rfl)⟩) hY.1 rfl rfl rfl rfl hl.1 (Nat.le_of_ble_eq_true rfl) dX9_prints_83 ⟨Nat.zero_le _, Nat.zero_le _⟩ (fun z17 μ14 n15 H locs hz17 hp16 hH hS => ?_)
          obtain ⟨hz9, hm9, hn9⟩ := hp16
          rw [hm9, hn9] at hH
          rw [hz9, if_pos rfl]
          clear hz9 hm9 hn9
          refine j_norm (y := ((fbN σ k 6 : Nat) : Int)) (by rw [hE.fbE hOk k 6 (by omega)]) ?_
          refine m_iast (nA := 163) (f := (fu (fu (shK σ 5) 13 (shw σ 6)) 14 (σ 3))) hx hb hK hH hS hY.2.1 dX9_prints_86 (fun H locs hH hS => ?_) (by omega) (by omega)
          obtain ⟨ν18, hY, hfr, hH⟩ : ∃ ξ : hM, IsMM G ξ yy (fu (fu (fu (shK σ 5) 13 (shw σ 6)) 14 (σ 3)) 15 ((fbN σ k 6 : Nat) : Int)) α β κ χ ω kn ik ln en fr pl wr ∧ MFr yy μ ξ ∧ gP G ξ ν0 H := hY.w1 hfr hH
          have hH : gP G ν18 ν0 H := hH
          have hE : EqS (fu (fu (fu (shK σ 5) 13 (shw σ 6)) 14 (σ 3)) 15 ((fbN σ k 6 : Nat) : Int)) σ := hE.fl (i := 15) (by omega) _
          refine lv_aload_n hx hb dX9_prints_87 rfl (lv_at hl 1 rfl) ?_
          refine m_get (C := RX9) (T := TX9) (N := 13) (ci := 8) hx hb hts i_X9 hown hK hH hY.1 rfl 0 (by decide) f_0 rfl dX9_prints_88 ?_
          refine j_bipush hx hb dX9_prints_91 ?_ (by decide)
          refine lv_aload_n hx hb dX9_prints_93 rfl (lv_at hl 1 rfl) ?_
          refine lv_iload_n hx hb dX9_prints_94 rfl (lv_at hl 2 rfl) ?_
          refine j_const hx hb dX9_prints_95 ?_
          refine m_callVi (As := [.int (iv k), .int (iv 0)]) (rest := [.int (iv 16), .ref (yy + 1)]) ⟨hx, hb, hml, hown, hts⟩ hK hH hS (c_X9_unclear l G ν18 ν0 yy (fu (fu (fu (shK σ 5) 13 (shw σ 6)) 14 (σ 3)) 15 ((fbN σ k 6 : Nat) : Int)) α β κ χ ω kn ik ln en fr pl wr hY k 0 (hE.ok hOk) (by omega) (by omega)) (cwV 2 hts gX9_prints_X9_unclear rfl rfl rfl (by decide +kernel) ⟨(Nat.le_of_ble_eq_true rfl), (Nat.le_of_ble_eq_true rfl)⟩) hY.1 rfl rfl rfl rfl hl.1 (Nat.le_of_ble_eq_true rfl) dX9_prints_96 ⟨Nat.zero_le _, Nat.zero_le _⟩ (fun z22 μ19 n20 H locs hz22 hp21 hH hS => ?_)
          obtain ⟨hz9, hm9, hn9⟩ := hp21
          rw [hm9, hn9] at hH
          rw [hz9, if_neg (show ¬ (0 : Int) = 1 by omega)]
          clear hz9 hm9 hn9
          refine j_norm (y := ((sbN σ k 6 : Nat) : Int)) (by rw [hE.sbE hOk k 6 (by omega)]) ?_
          refine m_iast (nA := 163) (f := (fu (fu (fu (shK σ 5) 13 (shw σ 6)) 14 (σ 3)) 15 ((fbN σ k 6 : Nat) : Int))) hx hb hK hH hS hY.2.1 dX9_prints_99 (fun H locs hH hS => ?_) (by omega) (by omega)
          obtain ⟨ν23, hY, hfr, hH⟩ : ∃ ξ : hM, IsMM G ξ yy (fu (fu (fu (fu (shK σ 5) 13 (shw σ 6)) 14 (σ 3)) 15 ((fbN σ k 6 : Nat) : Int)) 16 ((sbN σ k 6 : Nat) : Int)) α β κ χ ω kn ik ln en fr pl wr ∧ MFr yy μ ξ ∧ gP G ξ ν0 H := hY.w1 hfr hH
          have hH : gP G ν23 ν0 H := hH
          have hE : EqS (fu (fu (fu (fu (shK σ 5) 13 (shw σ 6)) 14 (σ 3)) 15 ((fbN σ k 6 : Nat) : Int)) 16 ((sbN σ k 6 : Nat) : Int)) σ := hE.fl (i := 16) (by omega) _
          refine lv_aload_n hx hb dX9_prints_100 rfl (lv_at hl 1 rfl) ?_
          refine m_get (C := RX9) (T := TX9) (N := 13) (ci := 8) hx hb hts i_X9 hown hK hH hY.1 rfl 0 (by decide) f_0 rfl dX9_prints_101 ?_
          refine j_bipush hx hb dX9_prints_104 ?_ (by decide)
          refine lv_iload_n hx hb dX9_prints_106 rfl (lv_at hl 0 rfl) ?_
          refine m_iast (nA := 163) (f := (fu (fu (fu (fu (shK σ 5) 13 (shw σ 6)) 14 (σ 3)) 15 ((fbN σ k 6 : Nat) : Int)) 16 ((sbN σ k 6 : Nat) : Int))) hx hb hK hH hS hY.2.1 dX9_prints_107 (fun H locs hH hS => ?_) (by omega) (by omega)
          obtain ⟨ν24, hY, hfr, hH⟩ : ∃ ξ : hM, IsMM G ξ yy (fu (fu (fu (fu (fu (shK σ 5) 13 (shw σ 6)) 14 (σ 3)) 15 ((fbN σ k 6 : Nat) : Int)) 16 ((sbN σ k 6 : Nat) : Int)) 17 0) α β κ χ ω kn ik ln en fr pl wr ∧ MFr yy μ ξ ∧ gP G ξ ν0 H := hY.w1 hfr hH
          have hH : gP G ν24 ν0 H := hH
          have hE : EqS (fu (fu (fu (fu (fu (shK σ 5) 13 (shw σ 6)) 14 (σ 3)) 15 ((fbN σ k 6 : Nat) : Int)) 16 ((sbN σ k 6 : Nat) : Int)) 17 0) σ := hE.fl (i := 17) (by omega) _
          refine lv_aload_n hx hb dX9_prints_108 rfl (lv_at hl 1 rfl) ?_
          refine m_get (C := RX9) (T := TX9) (N := 13) (ci := 8) hx hb hts i_X9 hown hK hH hY.1 rfl 0 (by decide) f_0 rfl dX9_prints_109 ?_
          refine j_bipush hx hb dX9_prints_112 ?_ (by decide)
          refine lv_iload_n hx hb dX9_prints_114 rfl (lv_at hl 2 rfl) ?_
          refine m_iast (nA := 163) (f := (fu (fu (fu (fu (fu (shK σ 5) 13 (shw σ 6)) 14 (σ 3)) 15 ((fbN σ k 6 : Nat) : Int)) 16 ((sbN σ k 6 : Nat) : Int)) 17 0)) hx hb hK hH hS hY.2.1 dX9_prints_115 (fun H locs hH hS => ?_) (by omega) (by omega)
          obtain ⟨ν25, hY, hfr, hH⟩ : ∃ ξ : hM, IsMM G ξ yy (fu (fu (fu (fu (fu (fu (shK σ 5) 13 (shw σ 6)) 14 (σ 3)) 15 ((fbN σ k 6 : Nat) : Int)) 16 ((sbN σ k 6 : Nat) : Int)) 17 0) 18 k) α β κ χ ω kn ik ln en fr pl wr ∧ MFr yy μ ξ ∧ gP G ξ ν0 H := hY.w1 hfr hH
          have hH : gP G ν25 ν0 H := hH
          have hE : EqS (fu (fu (fu (fu (fu (fu (shK σ 5) 13 (shw σ 6)) 14 (σ 3)) 15 ((fbN σ k 6 : Nat) : Int)) 16 ((sbN σ k 6 : Nat) : Int)) 17 0) 18 k) σ := hE.fl (i := 18) (by omega) _
          refine lv_aload_n hx hb dX9_prints_116 rfl (lv_at hl 1 rfl) ?_
          refine m_get (C := RX9) (T := TX9) (N := 13) (ci := 8) hx hb hts i_X9 hown hK hH hY.1 rfl 0 (by decide) f_0 rfl dX9_prints_117 ?_
          refine j_bipush hx hb dX9_prints_120 ?_ (by decide)
          refine lv_aload_n hx hb dX9_prints_122 rfl (lv_at hl 1 rfl) ?_
          refine m_get (C := RX9) (T := TX9) (N := 13) (ci := 8) hx hb hts i_X9 hown hK hH hY.1 rfl 0 (by decide) f_0 rfl dX9_prints_123 ?_
          refine j_bipush hx hb dX9_prints_126 ?_ (by decide)
          refine m_iald (nA := 163) (f := (fu (fu (fu (fu (fu (fu (shK σ 5) 13 (shw σ 6)) 14 (σ 3)) 15 ((fbN σ k 6 : Nat) : Int)) 16 ((sbN σ k 6 : Nat) : Int)) 17 0) 18 k)) hx hb hK hH hY.2.1 dX9_prints_128 ?_ (by omega) (by omega)
          refine j_norm (y := ((fu (fu (fu (fu (fu (fu (shK σ 5) 13 (shw σ 6)) 14 (σ 3)) 15 ((fbN σ k 6 : Nat) : Int)) 16 ((sbN σ k 6 : Nat) : Int)) 17 0) 18 k) 12)) rfl ?_
          refine j_norm (y := (σ 12)) (show shK σ 5 12 = σ 12 from shK_n (by omega)) ?_
          refine j_const hx hb dX9_prints_129 ?_
          refine j_iadd hx hb dX9_prints_130 ?_
          refine j_bipush hx hb dX9_prints_131 ?_ (by decide)
          refine m_callSi (As := [.int (iv ((σ 12) + 1)), .int (iv 12)]) (rest := [.int (iv 12), .ref (yy + 1)]) ⟨hx, hb, hml, hown, hts⟩ hK hH hS (c_X9_least l G ν25 ν0 ((σ 12) + 1) 12 (by omega) (by omega)) (va_cwS 2 hts gX9_prints_X9_least rfl rfl rfl (by decide +kernel) ⟨(Nat.le_of_ble_eq_true rfl), (Nat.le_of_ble_eq_true rfl)⟩) rfl rfl hl.1 (Nat.le_of_ble_eq_true rfl) dX9_prints_133 ⟨Nat.zero_le _, Nat.zero_le _⟩ (fun z29 μ26 n27 H locs hz29 hp28 hH hS => ?_)
          obtain ⟨hz2, hm2, hn2⟩ := hp28; rw [hz2]; rw [hm2, hn2] at hH; clear hz2 hm2 hn2
          refine m_iast (nA := 163) (f := (fu (fu (fu (fu (fu (fu (shK σ 5) 13 (shw σ 6)) 14 (σ 3)) 15 ((fbN σ k 6 : Nat) : Int)) 16 ((sbN σ k 6 : Nat) : Int)) 17 0) 18 k)) hx hb hK hH hS hY.2.1 dX9_prints_136 (fun H locs hH hS => ?_) (by omega) (by omega)
          obtain ⟨ν30, hY, hfr, hH⟩ : ∃ ξ : hM, IsMM G ξ yy (fu (fu (fu (fu (fu (fu (fu (shK σ 5) 13 (shw σ 6)) 14 (σ 3)) 15 ((fbN σ k 6 : Nat) : Int)) 16 ((sbN σ k 6 : Nat) : Int)) 17 0) 18 k) 12 (min ((σ 12) + 1) 12)) α β κ χ ω kn ik ln en fr pl wr ∧ MFr yy μ ξ ∧ gP G ξ ν0 H := hY.w1 hfr hH
          have hH : gP G ν30 ν0 H := hH
          have hE : EqS (fu (fu (fu (fu (fu (fu (fu (shK σ 5) 13 (shw σ 6)) 14 (σ 3)) 15 ((fbN σ k 6 : Nat) : Int)) 16 ((sbN σ k 6 : Nat) : Int)) 17 0) 18 k) 12 (min ((σ 12) + 1) 12)) σ := hE.fl (i := 12) (by omega) _
          refine lv_aload_n hx hb dX9_prints_137 rfl (lv_at hl 1 rfl) ?_
          refine m_get (C := RX9) (T := TX9) (N := 13) (ci := 8) hx hb hts i_X9 hown hK hH hY.1 rfl 0 (by decide) f_0 rfl dX9_prints_138 ?_
          refine j_const hx hb dX9_prints_141 ?_
          refine lv_dup2_11 hx hb dX9_prints_142 rfl rfl ?_
          refine m_iald (nA := 163) (f := (fu (fu (fu (fu (fu (fu (fu (shK σ 5) 13 (shw σ 6)) 14 (σ 3)) 15 ((fbN σ k 6 : Nat) : Int)) 16 ((sbN σ k 6 : Nat) : Int)) 17 0) 18 k) 12 (min ((σ 12) + 1) 12))) hx hb hK hH hY.2.1 dX9_prints_143 ?_ (by omega) (by omega)
          refine j_norm (y := ((fu (fu (fu (fu (fu (fu (fu (shK σ 5) 13 (shw σ 6)) 14 (σ 3)) 15 ((fbN σ k 6 : Nat) : Int)) 16 ((sbN σ k 6 : Nat) : Int)) 17 0) 18 k) 12 (min ((σ 12) + 1) 12)) 5)) rfl ?_
          refine j_norm (y := (σ 5)) (show shK σ 5 5 = σ 5 from shK_n (by omega)) ?_
          refine j_const hx hb dX9_prints_144 ?_
          refine j_iadd hx hb dX9_prints_145 ?_
          refine m_iast (nA := 163) (f := (fu (fu (fu (fu (fu (fu (fu (shK σ 5) 13 (shw σ 6)) 14 (σ 3)) 15 ((fbN σ k 6 : Nat) : Int)) 16 ((sbN σ k 6 : Nat) : Int)) 17 0) 18 k) 12 (min ((σ 12) + 1) 12))) hx hb hK hH hS hY.2.1 dX9_prints_146 (fun H locs hH hS => ?_) (by omega) (by omega)
          obtain ⟨ν31, hY, hfr, hH⟩ : ∃ ξ : hM, IsMM G ξ yy (fu (fu (fu (fu (fu (fu (fu (fu (shK σ 5) 13 (shw σ 6)) 14 (σ 3)) 15 ((fbN σ k 6 : Nat) : Int)) 16 ((sbN σ k 6 : Nat) : Int)) 17 0) 18 k) 12 (min ((σ 12) + 1) 12)) 5 ((σ 5) + 1)) α β κ χ ω kn ik ln en fr pl wr ∧ MFr yy μ ξ ∧ gP G ξ ν0 H := hY.w1 hfr hH
          have hH : gP G ν31 ν0 H := hH
          have hE : EqS (fu (fu (fu (fu (fu (fu (fu (fu (shK σ 5) 13 (shw σ 6)) 14 (σ 3)) 15 ((fbN σ k 6 : Nat) : Int)) 16 ((sbN σ k 6 : Nat) : Int)) 17 0) 18 k) 12 (min ((σ 12) + 1) 12)) 5 ((σ 5) + 1)) σ := hE.fl (i := 5) (by omega) _
          refine lv_aload_n hx hb dX9_prints_147 rfl (lv_at hl 1 rfl) ?_
          refine m_get (C := RX9) (T := TX9) (N := 13) (ci := 8) hx hb hts i_X9 hown hK hH hY.1 rfl 0 (by decide) f_0 rfl dX9_prints_148 ?_
          refine j_bipush hx hb dX9_prints_151 ?_ (by decide)
          refine lv_dup2_11 hx hb dX9_prints_153 rfl rfl ?_
          refine m_iald (nA := 163) (f := (fu (fu (fu (fu (fu (fu (fu (fu (shK σ 5) 13 (shw σ 6)) 14 (σ 3)) 15 ((fbN σ k 6 : Nat) : Int)) 16 ((sbN σ k 6 : Nat) : Int)) 17 0) 18 k) 12 (min ((σ 12) + 1) 12)) 5 ((σ 5) + 1))) hx hb hK hH hY.2.1 dX9_prints_154 ?_ (by omega) (by omega)
          refine j_norm (y := ((fu (fu (fu (fu (fu (fu (fu (fu (shK σ 5) 13 (shw σ 6)) 14 (σ 3)) 15 ((fbN σ k 6 : Nat) : Int)) 16 ((sbN σ k 6 : Nat) : Int)) 17 0) 18 k) 12 (min ((σ 12) + 1) 12)) 5 ((σ 5) + 1)) 6)) rfl ?_
          refine j_norm (y := (σ 6)) (show shK σ 5 6 = σ 6 from shK_n (by omega)) ?_
          refine lv_iload_n hx hb dX9_prints_155 rfl (lv_at hl 0 rfl) ?_
          refine j_iadd hx hb dX9_prints_156 ?_
          refine m_iast (nA := 163) (f := (fu (fu (fu (fu (fu (fu (fu (fu (shK σ 5) 13 (shw σ 6)) 14 (σ 3)) 15 ((fbN σ k 6 : Nat) : Int)) 16 ((sbN σ k 6 : Nat) : Int)) 17 0) 18 k) 12 (min ((σ 12) + 1) 12)) 5 ((σ 5) + 1))) hx hb hK hH hS hY.2.1 dX9_prints_157 (fun H locs hH hS => ?_) (by omega) (by omega)
          obtain ⟨ν32, hY, hfr, hH⟩ : ∃ ξ : hM, IsMM G ξ yy (fu (fu (fu (fu (fu (fu (fu (fu (fu (shK σ 5) 13 (shw σ 6)) 14 (σ 3)) 15 ((fbN σ k 6 : Nat) : Int)) 16 ((sbN σ k 6 : Nat) : Int)) 17 0) 18 k) 12 (min ((σ 12) + 1) 12)) 5 ((σ 5) + 1)) 6 ((σ 6) + 0)) α β κ χ ω kn ik ln en fr pl wr ∧ MFr yy μ ξ ∧ gP G ξ ν0 H := hY.w1 hfr hH
          have hH : gP G ν32 ν0 H := hH
          have hE : EqS (fu (fu (fu (fu (fu (fu (fu (fu (fu (shK σ 5) 13 (shw σ 6)) 14 (σ 3)) 15 ((fbN σ k 6 : Nat) : Int)) 16 ((sbN σ k 6 : Nat) : Int)) 17 0) 18 k) 12 (min ((σ 12) + 1) 12)) 5 ((σ 5) + 1)) 6 ((σ 6) + 0)) σ := hE.fl (i := 6) (by omega) _
          refine lv_aload_n hx hb dX9_prints_158 rfl (lv_at hl 1 rfl) ?_
          refine m_get (C := RX9) (T := TX9) (N := 13) (ci := 8) hx hb hts i_X9 hown hK hH hY.1 rfl 0 (by decide) f_0 rfl dX9_prints_159 ?_
          refine j_bipush hx hb dX9_prints_162 ?_ (by decide)
          refine lv_dup2_11 hx hb dX9_prints_164 rfl rfl ?_
          refine m_iald (nA := 163) (f := (fu (fu (fu (fu (fu (fu (fu (fu (fu (shK σ 5) 13 (shw σ 6)) 14 (σ 3)) 15 ((fbN σ k 6 : Nat) : Int)) 16 ((sbN σ k 6 : Nat) : Int)) 17 0) 18 k) 12 (min ((σ 12) + 1) 12)) 5 ((σ 5) + 1)) 6 ((σ 6) + 0))) hx hb hK hH hY.2.1 dX9_prints_165 ?_ (by omega) (by omega)
          refine j_norm (y := ((fu (fu (fu (fu (fu (fu (fu (fu (fu (shK σ 5) 13 (shw σ 6)) 14 (σ 3)) 15 ((fbN σ k 6 : Nat) : Int)) 16 ((sbN σ k 6 : Nat) : Int)) 17 0) 18 k) 12 (min ((σ 12) + 1) 12)) 5 ((σ 5) + 1)) 6 ((σ 6) + 0)) 7)) rfl ?_
          refine j_norm (y := (σ 7)) (show shK σ 5 7 = σ 7 from shK_n (by omega)) ?_
          refine lv_aload_n hx hb dX9_prints_166 rfl (lv_at hl 1 rfl) ?_
          refine m_get (C := RX9) (T := TX9) (N := 13) (ci := 8) hx hb hts i_X9 hown hK hH hY.1 rfl 0 (by decide) f_0 rfl dX9_prints_167 ?_
          refine j_bipush hx hb dX9_prints_170 ?_ (by decide)
          refine m_iald (nA := 163) (f := (fu (fu (fu (fu (fu (fu (fu (fu (fu (shK σ 5) 13 (shw σ 6)) 14 (σ 3)) 15 ((fbN σ k 6 : Nat) : Int)) 16 ((sbN σ k 6 : Nat) : Int)) 17 0) 18 k) 12 (min ((σ 12) + 1) 12)) 5 ((σ 5) + 1)) 6 ((σ 6) + 0))) hx hb hK hH hY.2.1 dX9_prints_172 ?_ (by omega) (by omega)
          refine j_norm (y := ((fu (fu (fu (fu (fu (fu (fu (fu (fu (shK σ 5) 13 (shw σ 6)) 14 (σ 3)) 15 ((fbN σ k 6 : Nat) : Int)) 16 ((sbN σ k 6 : Nat) : Int)) 17 0) 18 k) 12 (min ((σ 12) + 1) 12)) 5 ((σ 5) + 1)) 6 ((σ 6) + 0)) 15)) rfl ?_
          refine j_norm (y := ((fbN σ k 6 : Nat) : Int)) rfl ?_
          refine m_callSi (As := [.int (iv ((fbN σ k 6 : Nat) : Int))]) (rest := [.int (iv (σ 7)), .int (iv 7), .ref (yy + 1)]) ⟨hx, hb, hml, hown, hts⟩ hK hH hS (c_X9_places l G ν32 ν0 (fbN σ k 6) (by omega)) (va_cwS 1 hts gX9_prints_X9_places rfl rfl rfl (by decide +kernel) ⟨(Nat.le_of_ble_eq_true rfl), (Nat.le_of_ble_eq_true rfl)⟩) rfl rfl hl.1 (Nat.le_of_ble_eq_true rfl) dX9_prints_173 ⟨Nat.zero_le _, Nat.zero_le _⟩ (fun z36 μ33 n34 H locs hz36 hp35 hH hS => ?_)
          obtain ⟨hz2, hm2, hn2⟩ := hp35; rw [hz2]; rw [hm2, hn2] at hH; clear hz2 hm2 hn2
          refine j_iadd hx hb dX9_prints_176 ?_
          refine m_iast (nA := 163) (f := (fu (fu (fu (fu (fu (fu (fu (fu (fu (shK σ 5) 13 (shw σ 6)) 14 (σ 3)) 15 ((fbN σ k 6 : Nat) : Int)) 16 ((sbN σ k 6 : Nat) : Int)) 17 0) 18 k) 12 (min ((σ 12) + 1) 12)) 5 ((σ 5) + 1)) 6 ((σ 6) + 0))) hx hb hK hH hS hY.2.1 dX9_prints_177 (fun H locs hH hS => ?_) (by omega) (by omega)
          obtain ⟨ν37, hY, hfr, hH⟩ : ∃ ξ : hM, IsMM G ξ yy (fu (fu (fu (fu (fu (fu (fu (fu (fu (fu (shK σ 5) 13 (shw σ 6)) 14 (σ 3)) 15 ((fbN σ k 6 : Nat) : Int)) 16 ((sbN σ k 6 : Nat) : Int)) 17 0) 18 k) 12 (min ((σ 12) + 1) 12)) 5 ((σ 5) + 1)) 6 ((σ 6) + 0)) 7 ((σ 7) + ((pc6 (fbN σ k 6) : Nat) : Int))) α β κ χ ω kn ik ln en fr pl wr ∧ MFr yy μ ξ ∧ gP G ξ ν0 H := hY.w1 hfr hH
          have hH : gP G ν37 ν0 H := hH
          have hE : EqS (fu (fu (fu (fu (fu (fu (fu (fu (fu (fu (shK σ 5) 13 (shw σ 6)) 14 (σ 3)) 15 ((fbN σ k 6 : Nat) : Int)) 16 ((sbN σ k 6 : Nat) : Int)) 17 0) 18 k) 12 (min ((σ 12) + 1) 12)) 5 ((σ 5) + 1)) 6 ((σ 6) + 0)) 7 ((σ 7) + ((pc6 (fbN σ k 6) : Nat) : Int))) σ := hE.fl (i := 7) (by omega) _
          refine lv_aload_n hx hb dX9_prints_178 rfl (lv_at hl 1 rfl) ?_
          refine m_get (C := RX9) (T := TX9) (N := 13) (ci := 8) hx hb hts i_X9 hown hK hH hY.1 rfl 0 (by decide) f_0 rfl dX9_prints_179 ?_
          refine j_bipush hx hb dX9_prints_182 ?_ (by decide)
          refine lv_dup2_11 hx hb dX9_prints_184 rfl rfl ?_
          refine m_iald (nA := 163) (f := (fu (fu (fu (fu (fu (fu (fu (fu (fu (fu (shK σ 5) 13 (shw σ 6)) 14 (σ 3)) 15 ((fbN σ k 6 : Nat) : Int)) 16 ((sbN σ k 6 : Nat) : Int)) 17 0) 18 k) 12 (min ((σ 12) + 1) 12)) 5 ((σ 5) + 1)) 6 ((σ 6) + 0)) 7 ((σ 7) + ((pc6 (fbN σ k 6) : Nat) : Int)))) hx hb hK hH hY.2.1 dX9_prints_185 ?_ (by omega) (by omega)
          refine j_norm (y := ((fu (fu (fu (fu (fu (fu (fu (fu (fu (fu (shK σ 5) 13 (shw σ 6)) 14 (σ 3)) 15 ((fbN σ k 6 : Nat) : Int)) 16 ((sbN σ k 6 : Nat) : Int)) 17 0) 18 k) 12 (min ((σ 12) + 1) 12)) 5 ((σ 5) + 1)) 6 ((σ 6) + 0)) 7 ((σ 7) + ((pc6 (fbN σ k 6) : Nat) : Int))) 8)) rfl ?_
          refine j_norm (y := (σ 8)) (show shK σ 5 8 = σ 8 from shK_n (by omega)) ?_
          refine lv_aload_n hx hb dX9_prints_186 rfl (lv_at hl 1 rfl) ?_
          refine m_get (C := RX9) (T := TX9) (N := 13) (ci := 8) hx hb hts i_X9 hown hK hH hY.1 rfl 0 (by decide) f_0 rfl dX9_prints_187 ?_
          refine j_bipush hx hb dX9_prints_190 ?_ (by decide)
          refine m_iald (nA := 163) (f := (fu (fu (fu (fu (fu (fu (fu (fu (fu (fu (shK σ 5) 13 (shw σ 6)) 14 (σ 3)) 15 ((fbN σ k 6 : Nat) : Int)) 16 ((sbN σ k 6 : Nat) : Int)) 17 0) 18 k) 12 (min ((σ 12) + 1) 12)) 5 ((σ 5) + 1)) 6 ((σ 6) + 0)) 7 ((σ 7) + ((pc6 (fbN σ k 6) : Nat) : Int)))) hx hb hK hH hY.2.1 dX9_prints_192 ?_ (by omega) (by omega)
          refine j_norm (y := ((fu (fu (fu (fu (fu (fu (fu (fu (fu (fu (shK σ 5) 13 (shw σ 6)) 14 (σ 3)) 15 ((fbN σ k 6 : Nat) : Int)) 16 ((sbN σ k 6 : Nat) : Int)) 17 0) 18 k) 12 (min ((σ 12) + 1) 12)) 5 ((σ 5) + 1)) 6 ((σ 6) + 0)) 7 ((σ 7) + ((pc6 (fbN σ k 6) : Nat) : Int))) 16)) rfl ?_
          refine j_norm (y := ((sbN σ k 6 : Nat) : Int)) rfl ?_
          refine m_callSi (As := [.int (iv ((sbN σ k 6 : Nat) : Int))]) (rest := [.int (iv (σ 8)), .int (iv 8), .ref (yy + 1)]) ⟨hx, hb, hml, hown, hts⟩ hK hH hS (c_X9_places l G ν37 ν0 (sbN σ k 6) (by omega)) (va_cwS 1 hts gX9_prints_X9_places rfl rfl rfl (by decide +kernel) ⟨(Nat.le_of_ble_eq_true rfl), (Nat.le_of_ble_eq_true rfl)⟩) rfl rfl hl.1 (Nat.le_of_ble_eq_true rfl) dX9_prints_193 ⟨Nat.zero_le _, Nat.zero_le _⟩ (fun z41 μ38 n39 H locs hz41 hp40 hH hS => ?_)
          obtain ⟨hz2, hm2, hn2⟩ := hp40; rw [hz2]; rw [hm2, hn2] at hH; clear hz2 hm2 hn2
          refine j_iadd hx hb dX9_prints_196 ?_
          refine m_iast (nA := 163) (f := (fu (fu (fu (fu (fu (fu (fu (fu (fu (fu (shK σ 5) 13 (shw σ 6)) 14 (σ 3)) 15 ((fbN σ k 6 : Nat) : Int)) 16 ((sbN σ k 6 : Nat) : Int)) 17 0) 18 k) 12 (min ((σ 12) + 1) 12)) 5 ((σ 5) + 1)) 6 ((σ 6) + 0)) 7 ((σ 7) + ((pc6 (fbN σ k 6) : Nat) : Int)))) hx hb hK hH hS hY.2.1 dX9_prints_197 (fun H locs hH hS => ?_) (by omega) (by omega)
          obtain ⟨ν42, hY, hfr, hH⟩ : ∃ ξ : hM, IsMM G ξ yy (fu (fu (fu (fu (fu (fu (fu (fu (fu (fu (fu (shK σ 5) 13 (shw σ 6)) 14 (σ 3)) 15 ((fbN σ k 6 : Nat) : Int)) 16 ((sbN σ k 6 : Nat) : Int)) 17 0) 18 k) 12 (min ((σ 12) + 1) 12)) 5 ((σ 5) + 1)) 6 ((σ 6) + 0)) 7 ((σ 7) + ((pc6 (fbN σ k 6) : Nat) : Int))) 8 ((σ 8) + ((pc6 (sbN σ k 6) : Nat) : Int))) α β κ χ ω kn ik ln en fr pl wr ∧ MFr yy μ ξ ∧ gP G ξ ν0 H := hY.w1 hfr hH
          have hH : gP G ν42 ν0 H := hH
          have hE : EqS (fu (fu (fu (fu (fu (fu (fu (fu (fu (fu (fu (shK σ 5) 13 (shw σ 6)) 14 (σ 3)) 15 ((fbN σ k 6 : Nat) : Int)) 16 ((sbN σ k 6 : Nat) : Int)) 17 0) 18 k) 12 (min ((σ 12) + 1) 12)) 5 ((σ 5) + 1)) 6 ((σ 6) + 0)) 7 ((σ 7) + ((pc6 (fbN σ k 6) : Nat) : Int))) 8 ((σ 8) + ((pc6 (sbN σ k 6) : Nat) : Int))) σ := hE.fl (i := 8) (by omega) _
          refine lv_aload_n hx hb dX9_prints_198 rfl (lv_at hl 1 rfl) ?_
          refine lv_iload_n hx hb dX9_prints_199 rfl (lv_at hl 2 rfl) ?_
          refine m_callVv (As := [.int (iv k)]) (rest := []) ⟨hx, hb, hml, hown, hts⟩ hK hH hS (c_X9_wearOut l G ν42 ν0 yy (fu (fu (fu (fu (fu (fu (fu (fu (fu (fu (fu (shK σ 5) 13 (shw σ 6)) 14 (σ 3)) 15 ((fbN σ k 6 : Nat) : Int)) 16 ((sbN σ k 6 : Nat) : Int)) 17 0) 18 k) 12 (min ((σ 12) + 1) 12)) 5 ((σ 5) + 1)) 6 ((σ 6) + 0)) 7 ((σ 7) + ((pc6 (fbN σ k 6) : Nat) : Int))) 8 ((σ 8) + ((pc6 (sbN σ k 6) : Nat) : Int))) α β κ χ ω kn ik ln en fr pl wr hY k (hE.ok hOk) (by omega)) (cwV 1 hts gX9_prints_X9_wearOut rfl rfl rfl (by decide +kernel) ⟨(Nat.le_of_ble_eq_true rfl), (Nat.le_of_ble_eq_true rfl)⟩) hY.1 rfl rfl rfl rfl hl.1 (Nat.le_of_ble_eq_true rfl) dX9_prints_200 ⟨Nat.zero_le _, Nat.zero_le _⟩ (fun μ43 n44 H locs hp45 hH hS => ?_)
          obtain ⟨hY, hfr1⟩ := hp45
          have hfr := hfr.tr hfr1
          clear hfr1
          refine lv_iload_n hx hb dX9_prints_203 rfl (lv_at hl 0 rfl) ?_
          subst hQ
          refine m_iret hx hb hr hlocks hH hS dX9_prints_204 ?_ (by omega)
          have hq9 : (onceF (fu (fu (fu (fu (fu (fu (fu (fu (fu (fu (fu (shK σ 5) 13 (shw σ 6)) 14 (σ 3)) 15 ((fbN σ k 6 : Nat) : Int)) 16 ((sbN σ k 6 : Nat) : Int)) 17 0) 18 k) 12 (min ((σ 12) + 1) 12)) 5 ((σ 5) + 1)) 6 ((σ 6) + 0)) 7 ((σ 7) + ((pc6 (fbN σ k 6) : Nat) : Int))) 8 ((σ 8) + ((pc6 (sbN σ k 6) : Nat) : Int))) k) = (prF σ k) := (pr_m hOk (Int.min_comm _ _) hrt rfl rfl rfl rfl rfl)
          rw [hq9] at hY
          clear hq9
          exact ⟨hrt, hY, hfr⟩
        · skip
          refine j_const hx hb dX9_prints_44 ?_
          refine lv_goto (tgt := 49) hx hb dX9_prints_45 (by decide) ?_
          have hrt : (1 : Int) = rtF σ (dig (σ 3)) k := by omega
          refine lv_istore_n (lv' := [(2, .int (iv 1)), (0, .ref yy), (1, .int (iv k))]) hx hb dX9_prints_49 rfl hl (by decide) rfl (fun ls hl => ?_)
          refine lv_aload_n hx hb dX9_prints_50 rfl (lv_at hl 1 rfl) ?_
          refine m_get (C := RX9) (T := TX9) (N := 13) (ci := 8) hx hb hts i_X9 hown hK hH hY.1 rfl 0 (by decide) f_0 rfl dX9_prints_51 ?_
          refine j_bipush hx hb dX9_prints_54 ?_ (by decide)
          refine lv_aload_n hx hb dX9_prints_56 rfl (lv_at hl 1 rfl) ?_
          refine m_callVi (As := []) (rest := [.int (iv 13), .ref (yy + 1)]) ⟨hx, hb, hml, hown, hts⟩ hK hH hS (c_X9_shows l G ν ν0 yy (shK σ 5) α β κ χ ω kn ik ln en fr pl wr hY (hE.ok hOk)) (cwV 0 hts gX9_prints_X9_shows rfl rfl rfl (by decide +kernel) ⟨(Nat.le_of_ble_eq_true rfl), (Nat.le_of_ble_eq_true rfl)⟩) hY.1 rfl rfl rfl rfl hl.1 (Nat.le_of_ble_eq_true rfl) dX9_prints_57 ⟨Nat.zero_le _, Nat.zero_le _⟩ (fun z49 μ46 n47 H locs hz49 hp48 hH hS => ?_)
          obtain ⟨hz2, hm2, hn2⟩ := hp48; rw [hz2]; rw [hm2, hn2] at hH; clear hz2 hm2 hn2
          refine j_norm (y := (shw σ 6)) (hE.shwE 6 (by omega)) ?_
          refine m_iast (nA := 163) (f := (shK σ 5)) hx hb hK hH hS hY.2.1 dX9_prints_60 (fun H locs hH hS => ?_) (by omega) (by omega)
          obtain ⟨ν50, hY, hfr, hH⟩ : ∃ ξ : hM, IsMM G ξ yy (fu (shK σ 5) 13 (shw σ 6)) α β κ χ ω kn ik ln en fr pl wr ∧ MFr yy μ ξ ∧ gP G ξ ν0 H := hY.w1 hfr hH
          have hH : gP G ν50 ν0 H := hH
          have hE : EqS (fu (shK σ 5) 13 (shw σ 6)) σ := hE.fl (i := 13) (by omega) _
          refine lv_aload_n hx hb dX9_prints_61 rfl (lv_at hl 1 rfl) ?_
          refine m_get (C := RX9) (T := TX9) (N := 13) (ci := 8) hx hb hts i_X9 hown hK hH hY.1 rfl 0 (by decide) f_0 rfl dX9_prints_62 ?_
          refine j_bipush hx hb dX9_prints_65 ?_ (by decide)
          refine lv_aload_n hx hb dX9_prints_67 rfl (lv_at hl 1 rfl) ?_
          refine m_get (C := RX9) (T := TX9) (N := 13) (ci := 8) hx hb hts i_X9 hown hK hH hY.1 rfl 0 (by decide) f_0 rfl dX9_prints_68 ?_
          refine j_const hx hb dX9_prints_71 ?_
          refine m_iald (nA := 163) (f := (fu (shK σ 5) 13 (shw σ 6))) hx hb hK hH hY.2.1 dX9_prints_72 ?_ (by omega) (by omega)
          refine j_norm (y := ((fu (shK σ 5) 13 (shw σ 6)) 3)) rfl ?_
          refine j_norm (y := (σ 3)) (show shK σ 5 3 = σ 3 from shK_n (by omega)) ?_
          refine m_iast (nA := 163) (f := (fu (shK σ 5) 13 (shw σ 6))) hx hb hK hH hS hY.2.1 dX9_prints_73 (fun H locs hH hS => ?_) (by omega) (by omega)
          obtain ⟨ν51, hY, hfr, hH⟩ : ∃ ξ : hM, IsMM G ξ yy (fu (fu (shK σ 5) 13 (shw σ 6)) 14 (σ 3)) α β κ χ ω kn ik ln en fr pl wr ∧ MFr yy μ ξ ∧ gP G ξ ν0 H := hY.w1 hfr hH
          have hH : gP G ν51 ν0 H := hH
          have hE : EqS (fu (fu (shK σ 5) 13 (shw σ 6)) 14 (σ 3)) σ := hE.fl (i := 14) (by omega) _
          refine lv_aload_n hx hb dX9_prints_74 rfl (lv_at hl 1 rfl) ?_
          refine m_get (C := RX9) (T := TX9) (N := 13) (ci := 8) hx hb hts i_X9 hown hK hH hY.1 rfl 0 (by decide) f_0 rfl dX9_prints_75 ?_
          refine j_bipush hx hb dX9_prints_78 ?_ (by decide)
          refine lv_aload_n hx hb dX9_prints_80 rfl (lv_at hl 1 rfl) ?_
          refine lv_iload_n hx hb dX9_prints_81 rfl (lv_at hl 2 rfl) ?_
          refine j_const hx hb dX9_prints_82 ?_
          refine m_callVi (As := [.int (iv k), .int (iv 1)]) (rest := [.int (iv 15), .ref (yy + 1)]) ⟨hx, hb, hml, hown, hts⟩ hK hH hS (c_X9_unclear l G ν51 ν0 yy (fu (fu (shK σ 5) 13 (shw σ 6)) 14 (σ 3)) α β κ χ ω kn ik ln en fr pl wr hY k 1 (hE.ok hOk) (by omega) (by omega)) (cwV 2 hts gX9_prints_X9_unclear rfl rfl rfl (by decide +kernel) ⟨(Nat.le_of_ble_eq_true rfl), (Nat.le_of_ble_eq_true rfl)⟩) hY.1 rfl rfl rfl rfl hl.1 (Nat.le_of_ble_eq_true rfl) dX9_prints_83 ⟨Nat.zero_le _, Nat.zero_le _⟩ (fun z55 μ52 n53 H locs hz55 hp54 hH hS => ?_)
          obtain ⟨hz9, hm9, hn9⟩ := hp54
          rw [hm9, hn9] at hH
          rw [hz9, if_pos rfl]
          clear hz9 hm9 hn9
          refine j_norm (y := ((fbN σ k 6 : Nat) : Int)) (by rw [hE.fbE hOk k 6 (by omega)]) ?_
          refine m_iast (nA := 163) (f := (fu (fu (shK σ 5) 13 (shw σ 6)) 14 (σ 3))) hx hb hK hH hS hY.2.1 dX9_prints_86 (fun H locs hH hS => ?_) (by omega) (by omega)
          obtain ⟨ν56, hY, hfr, hH⟩ : ∃ ξ : hM, IsMM G ξ yy (fu (fu (fu (shK σ 5) 13 (shw σ 6)) 14 (σ 3)) 15 ((fbN σ k 6 : Nat) : Int)) α β κ χ ω kn ik ln en fr pl wr ∧ MFr yy μ ξ ∧ gP G ξ ν0 H := hY.w1 hfr hH
          have hH : gP G ν56 ν0 H := hH
          have hE : EqS (fu (fu (fu (shK σ 5) 13 (shw σ 6)) 14 (σ 3)) 15 ((fbN σ k 6 : Nat) : Int)) σ := hE.fl (i := 15) (by omega) _
          refine lv_aload_n hx hb dX9_prints_87 rfl (lv_at hl 1 rfl) ?_
          refine m_get (C := RX9) (T := TX9) (N := 13) (ci := 8) hx hb hts i_X9 hown hK hH hY.1 rfl 0 (by decide) f_0 rfl dX9_prints_88 ?_
          refine j_bipush hx hb dX9_prints_91 ?_ (by decide)
          refine lv_aload_n hx hb dX9_prints_93 rfl (lv_at hl 1 rfl) ?_
          refine lv_iload_n hx hb dX9_prints_94 rfl (lv_at hl 2 rfl) ?_
          refine j_const hx hb dX9_prints_95 ?_
          refine m_callVi (As := [.int (iv k), .int (iv 0)]) (rest := [.int (iv 16), .ref (yy + 1)]) ⟨hx, hb, hml, hown, hts⟩ hK hH hS (c_X9_unclear l G ν56 ν0 yy (fu (fu (fu (shK σ 5) 13 (shw σ 6)) 14 (σ 3)) 15 ((fbN σ k 6 : Nat) : Int)) α β κ χ ω kn ik ln en fr pl wr hY k 0 (hE.ok hOk) (by omega) (by omega)) (cwV 2 hts gX9_prints_X9_unclear rfl rfl rfl (by decide +kernel) ⟨(Nat.le_of_ble_eq_true rfl), (Nat.le_of_ble_eq_true rfl)⟩) hY.1 rfl rfl rfl rfl hl.1 (Nat.le_of_ble_eq_true rfl) dX9_prints_96 ⟨Nat.zero_le _, Nat.zero_le _⟩ (fun z60 μ57 n58 H locs hz60 hp59 hH hS => ?_)
          obtain ⟨hz9, hm9, hn9⟩ := hp59
          rw [hm9, hn9] at hH
          rw [hz9, if_neg (show ¬ (0 : Int) = 1 by omega)]
          clear hz9 hm9 hn9
          refine j_norm (y := ((sbN σ k 6 : Nat) : Int)) (by rw [hE.sbE hOk k 6 (by omega)]) ?_
          refine m_iast (nA := 163) (f := (fu (fu (fu (shK σ 5) 13 (shw σ 6)) 14 (σ 3)) 15 ((fbN σ k 6 : Nat) : Int))) hx hb hK hH hS hY.2.1 dX9_prints_99 (fun H locs hH hS => ?_) (by omega) (by omega)
          obtain ⟨ν61, hY, hfr, hH⟩ : ∃ ξ : hM, IsMM G ξ yy (fu (fu (fu (fu (shK σ 5) 13 (shw σ 6)) 14 (σ 3)) 15 ((fbN σ k 6 : Nat) : Int)) 16 ((sbN σ k 6 : Nat) : Int)) α β κ χ ω kn ik ln en fr pl wr ∧ MFr yy μ ξ ∧ gP G ξ ν0 H := hY.w1 hfr hH
          have hH : gP G ν61 ν0 H := hH
          have hE : EqS (fu (fu (fu (fu (shK σ 5) 13 (shw σ 6)) 14 (σ 3)) 15 ((fbN σ k 6 : Nat) : Int)) 16 ((sbN σ k 6 : Nat) : Int)) σ := hE.fl (i := 16) (by omega) _
          refine lv_aload_n hx hb dX9_prints_100 rfl (lv_at hl 1 rfl) ?_
          refine m_get (C := RX9) (T := TX9) (N := 13) (ci := 8) hx hb hts i_X9 hown hK hH hY.1 rfl 0 (by decide) f_0 rfl dX9_prints_101 ?_
          refine j_bipush hx hb dX9_prints_104 ?_ (by decide)
          refine lv_iload_n hx hb dX9_prints_106 rfl (lv_at hl 0 rfl) ?_
          refine m_iast (nA := 163) (f := (fu (fu (fu (fu (shK σ 5) 13 (shw σ 6)) 14 (σ 3)) 15 ((fbN σ k 6 : Nat) : Int)) 16 ((sbN σ k 6 : Nat) : Int))) hx hb hK hH hS hY.2.1 dX9_prints_107 (fun H locs hH hS => ?_) (by omega) (by omega)
          obtain ⟨ν62, hY, hfr, hH⟩ : ∃ ξ : hM, IsMM G ξ yy (fu (fu (fu (fu (fu (shK σ 5) 13 (shw σ 6)) 14 (σ 3)) 15 ((fbN σ k 6 : Nat) : Int)) 16 ((sbN σ k 6 : Nat) : Int)) 17 1) α β κ χ ω kn ik ln en fr pl wr ∧ MFr yy μ ξ ∧ gP G ξ ν0 H := hY.w1 hfr hH
          have hH : gP G ν62 ν0 H := hH
          have hE : EqS (fu (fu (fu (fu (fu (shK σ 5) 13 (shw σ 6)) 14 (σ 3)) 15 ((fbN σ k 6 : Nat) : Int)) 16 ((sbN σ k 6 : Nat) : Int)) 17 1) σ := hE.fl (i := 17) (by omega) _
          refine lv_aload_n hx hb dX9_prints_108 rfl (lv_at hl 1 rfl) ?_
          refine m_get (C := RX9) (T := TX9) (N := 13) (ci := 8) hx hb hts i_X9 hown hK hH hY.1 rfl 0 (by decide) f_0 rfl dX9_prints_109 ?_
          refine j_bipush hx hb dX9_prints_112 ?_ (by decide)
          refine lv_iload_n hx hb dX9_prints_114 rfl (lv_at hl 2 rfl) ?_
          refine m_iast (nA := 163) (f := (fu (fu (fu (fu (fu (shK σ 5) 13 (shw σ 6)) 14 (σ 3)) 15 ((fbN σ k 6 : Nat) : Int)) 16 ((sbN σ k 6 : Nat) : Int)) 17 1)) hx hb hK hH hS hY.2.1 dX9_prints_115 (fun H locs hH hS => ?_) (by omega) (by omega)
          obtain ⟨ν63, hY, hfr, hH⟩ : ∃ ξ : hM, IsMM G ξ yy (fu (fu (fu (fu (fu (fu (shK σ 5) 13 (shw σ 6)) 14 (σ 3)) 15 ((fbN σ k 6 : Nat) : Int)) 16 ((sbN σ k 6 : Nat) : Int)) 17 1) 18 k) α β κ χ ω kn ik ln en fr pl wr ∧ MFr yy μ ξ ∧ gP G ξ ν0 H := hY.w1 hfr hH
          have hH : gP G ν63 ν0 H := hH
          have hE : EqS (fu (fu (fu (fu (fu (fu (shK σ 5) 13 (shw σ 6)) 14 (σ 3)) 15 ((fbN σ k 6 : Nat) : Int)) 16 ((sbN σ k 6 : Nat) : Int)) 17 1) 18 k) σ := hE.fl (i := 18) (by omega) _
          refine lv_aload_n hx hb dX9_prints_116 rfl (lv_at hl 1 rfl) ?_
          refine m_get (C := RX9) (T := TX9) (N := 13) (ci := 8) hx hb hts i_X9 hown hK hH hY.1 rfl 0 (by decide) f_0 rfl dX9_prints_117 ?_
          refine j_bipush hx hb dX9_prints_120 ?_ (by decide)
          refine lv_aload_n hx hb dX9_prints_122 rfl (lv_at hl 1 rfl) ?_
          refine m_get (C := RX9) (T := TX9) (N := 13) (ci := 8) hx hb hts i_X9 hown hK hH hY.1 rfl 0 (by decide) f_0 rfl dX9_prints_123 ?_
          refine j_bipush hx hb dX9_prints_126 ?_ (by decide)
          refine m_iald (nA := 163) (f := (fu (fu (fu (fu (fu (fu (shK σ 5) 13 (shw σ 6)) 14 (σ 3)) 15 ((fbN σ k 6 : Nat) : Int)) 16 ((sbN σ k 6 : Nat) : Int)) 17 1) 18 k)) hx hb hK hH hY.2.1 dX9_prints_128 ?_ (by omega) (by omega)
          refine j_norm (y := ((fu (fu (fu (fu (fu (fu (shK σ 5) 13 (shw σ 6)) 14 (σ 3)) 15 ((fbN σ k 6 : Nat) : Int)) 16 ((sbN σ k 6 : Nat) : Int)) 17 1) 18 k) 12)) rfl ?_
          refine j_norm (y := (σ 12)) (show shK σ 5 12 = σ 12 from shK_n (by omega)) ?_
          refine j_const hx hb dX9_prints_129 ?_
          refine j_iadd hx hb dX9_prints_130 ?_
          refine j_bipush hx hb dX9_prints_131 ?_ (by decide)
          refine m_callSi (As := [.int (iv ((σ 12) + 1)), .int (iv 12)]) (rest := [.int (iv 12), .ref (yy + 1)]) ⟨hx, hb, hml, hown, hts⟩ hK hH hS (c_X9_least l G ν63 ν0 ((σ 12) + 1) 12 (by omega) (by omega)) (va_cwS 2 hts gX9_prints_X9_least rfl rfl rfl (by decide +kernel) ⟨(Nat.le_of_ble_eq_true rfl), (Nat.le_of_ble_eq_true rfl)⟩) rfl rfl hl.1 (Nat.le_of_ble_eq_true rfl) dX9_prints_133 ⟨Nat.zero_le _, Nat.zero_le _⟩ (fun z67 μ64 n65 H locs hz67 hp66 hH hS => ?_)
          obtain ⟨hz2, hm2, hn2⟩ := hp66; rw [hz2]; rw [hm2, hn2] at hH; clear hz2 hm2 hn2
          refine m_iast (nA := 163) (f := (fu (fu (fu (fu (fu (fu (shK σ 5) 13 (shw σ 6)) 14 (σ 3)) 15 ((fbN σ k 6 : Nat) : Int)) 16 ((sbN σ k 6 : Nat) : Int)) 17 1) 18 k)) hx hb hK hH hS hY.2.1 dX9_prints_136 (fun H locs hH hS => ?_) (by omega) (by omega)
          obtain ⟨ν68, hY, hfr, hH⟩ : ∃ ξ : hM, IsMM G ξ yy (fu (fu (fu (fu (fu (fu (fu (shK σ 5) 13 (shw σ 6)) 14 (σ 3)) 15 ((fbN σ k 6 : Nat) : Int)) 16 ((sbN σ k 6 : Nat) : Int)) 17 1) 18 k) 12 (min ((σ 12) + 1) 12)) α β κ χ ω kn ik ln en fr pl wr ∧ MFr yy μ ξ ∧ gP G ξ ν0 H := hY.w1 hfr hH
          have hH : gP G ν68 ν0 H := hH
          have hE : EqS (fu (fu (fu (fu (fu (fu (fu (shK σ 5) 13 (shw σ 6)) 14 (σ 3)) 15 ((fbN σ k 6 : Nat) : Int)) 16 ((sbN σ k 6 : Nat) : Int)) 17 1) 18 k) 12 (min ((σ 12) + 1) 12)) σ := hE.fl (i := 12) (by omega) _
          refine lv_aload_n hx hb dX9_prints_137 rfl (lv_at hl 1 rfl) ?_
          refine m_get (C := RX9) (T := TX9) (N := 13) (ci := 8) hx hb hts i_X9 hown hK hH hY.1 rfl 0 (by decide) f_0 rfl dX9_prints_138 ?_
          refine j_const hx hb dX9_prints_141 ?_
          refine lv_dup2_11 hx hb dX9_prints_142 rfl rfl ?_
          refine m_iald (nA := 163) (f := (fu (fu (fu (fu (fu (fu (fu (shK σ 5) 13 (shw σ 6)) 14 (σ 3)) 15 ((fbN σ k 6 : Nat) : Int)) 16 ((sbN σ k 6 : Nat) : Int)) 17 1) 18 k) 12 (min ((σ 12) + 1) 12))) hx hb hK hH hY.2.1 dX9_prints_143 ?_ (by omega) (by omega)
          refine j_norm (y := ((fu (fu (fu (fu (fu (fu (fu (shK σ 5) 13 (shw σ 6)) 14 (σ 3)) 15 ((fbN σ k 6 : Nat) : Int)) 16 ((sbN σ k 6 : Nat) : Int)) 17 1) 18 k) 12 (min ((σ 12) + 1) 12)) 5)) rfl ?_
          refine j_norm (y := (σ 5)) (show shK σ 5 5 = σ 5 from shK_n (by omega)) ?_
          refine j_const hx hb dX9_prints_144 ?_
          refine j_iadd hx hb dX9_prints_145 ?_
          refine m_iast (nA := 163) (f := (fu (fu (fu (fu (fu (fu (fu (shK σ 5) 13 (shw σ 6)) 14 (σ 3)) 15 ((fbN σ k 6 : Nat) : Int)) 16 ((sbN σ k 6 : Nat) : Int)) 17 1) 18 k) 12 (min ((σ 12) + 1) 12))) hx hb hK hH hS hY.2.1 dX9_prints_146 (fun H locs hH hS => ?_) (by omega) (by omega)
          obtain ⟨ν69, hY, hfr, hH⟩ : ∃ ξ : hM, IsMM G ξ yy (fu (fu (fu (fu (fu (fu (fu (fu (shK σ 5) 13 (shw σ 6)) 14 (σ 3)) 15 ((fbN σ k 6 : Nat) : Int)) 16 ((sbN σ k 6 : Nat) : Int)) 17 1) 18 k) 12 (min ((σ 12) + 1) 12)) 5 ((σ 5) + 1)) α β κ χ ω kn ik ln en fr pl wr ∧ MFr yy μ ξ ∧ gP G ξ ν0 H := hY.w1 hfr hH
          have hH : gP G ν69 ν0 H := hH
          have hE : EqS (fu (fu (fu (fu (fu (fu (fu (fu (shK σ 5) 13 (shw σ 6)) 14 (σ 3)) 15 ((fbN σ k 6 : Nat) : Int)) 16 ((sbN σ k 6 : Nat) : Int)) 17 1) 18 k) 12 (min ((σ 12) + 1) 12)) 5 ((σ 5) + 1)) σ := hE.fl (i := 5) (by omega) _
          refine lv_aload_n hx hb dX9_prints_147 rfl (lv_at hl 1 rfl) ?_
          refine m_get (C := RX9) (T := TX9) (N := 13) (ci := 8) hx hb hts i_X9 hown hK hH hY.1 rfl 0 (by decide) f_0 rfl dX9_prints_148 ?_
          refine j_bipush hx hb dX9_prints_151 ?_ (by decide)
          refine lv_dup2_11 hx hb dX9_prints_153 rfl rfl ?_
          refine m_iald (nA := 163) (f := (fu (fu (fu (fu (fu (fu (fu (fu (shK σ 5) 13 (shw σ 6)) 14 (σ 3)) 15 ((fbN σ k 6 : Nat) : Int)) 16 ((sbN σ k 6 : Nat) : Int)) 17 1) 18 k) 12 (min ((σ 12) + 1) 12)) 5 ((σ 5) + 1))) hx hb hK hH hY.2.1 dX9_prints_154 ?_ (by omega) (by omega)
          refine j_norm (y := ((fu (fu (fu (fu (fu (fu (fu (fu (shK σ 5) 13 (shw σ 6)) 14 (σ 3)) 15 ((fbN σ k 6 : Nat) : Int)) 16 ((sbN σ k 6 : Nat) : Int)) 17 1) 18 k) 12 (min ((σ 12) + 1) 12)) 5 ((σ 5) + 1)) 6)) rfl ?_
          refine j_norm (y := (σ 6)) (show shK σ 5 6 = σ 6 from shK_n (by omega)) ?_
          refine lv_iload_n hx hb dX9_prints_155 rfl (lv_at hl 0 rfl) ?_
          refine j_iadd hx hb dX9_prints_156 ?_
          refine m_iast (nA := 163) (f := (fu (fu (fu (fu (fu (fu (fu (fu (shK σ 5) 13 (shw σ 6)) 14 (σ 3)) 15 ((fbN σ k 6 : Nat) : Int)) 16 ((sbN σ k 6 : Nat) : Int)) 17 1) 18 k) 12 (min ((σ 12) + 1) 12)) 5 ((σ 5) + 1))) hx hb hK hH hS hY.2.1 dX9_prints_157 (fun H locs hH hS => ?_) (by omega) (by omega)
          obtain ⟨ν70, hY, hfr, hH⟩ : ∃ ξ : hM, IsMM G ξ yy (fu (fu (fu (fu (fu (fu (fu (fu (fu (shK σ 5) 13 (shw σ 6)) 14 (σ 3)) 15 ((fbN σ k 6 : Nat) : Int)) 16 ((sbN σ k 6 : Nat) : Int)) 17 1) 18 k) 12 (min ((σ 12) + 1) 12)) 5 ((σ 5) + 1)) 6 ((σ 6) + 1)) α β κ χ ω kn ik ln en fr pl wr ∧ MFr yy μ ξ ∧ gP G ξ ν0 H := hY.w1 hfr hH
          have hH : gP G ν70 ν0 H := hH
          have hE : EqS (fu (fu (fu (fu (fu (fu (fu (fu (fu (shK σ 5) 13 (shw σ 6)) 14 (σ 3)) 15 ((fbN σ k 6 : Nat) : Int)) 16 ((sbN σ k 6 : Nat) : Int)) 17 1) 18 k) 12 (min ((σ 12) + 1) 12)) 5 ((σ 5) + 1)) 6 ((σ 6) + 1)) σ := hE.fl (i := 6) (by omega) _
          refine lv_aload_n hx hb dX9_prints_158 rfl (lv_at hl 1 rfl) ?_
          refine m_get (C := RX9) (T := TX9) (N := 13) (ci := 8) hx hb hts i_X9 hown hK hH hY.1 rfl 0 (by decide) f_0 rfl dX9_prints_159 ?_
          refine j_bipush hx hb dX9_prints_162 ?_ (by decide)
          refine lv_dup2_11 hx hb dX9_prints_164 rfl rfl ?_
          refine m_iald (nA := 163) (f := (fu (fu (fu (fu (fu (fu (fu (fu (fu (shK σ 5) 13 (shw σ 6)) 14 (σ 3)) 15 ((fbN σ k 6 : Nat) : Int)) 16 ((sbN σ k 6 : Nat) : Int)) 17 1) 18 k) 12 (min ((σ 12) + 1) 12)) 5 ((σ 5) + 1)) 6 ((σ 6) + 1))) hx hb hK hH hY.2.1 dX9_prints_165 ?_ (by omega) (by omega)
          refine j_norm (y := ((fu (fu (fu (fu (fu (fu (fu (fu (fu (shK σ 5) 13 (shw σ 6)) 14 (σ 3)) 15 ((fbN σ k 6 : Nat) : Int)) 16 ((sbN σ k 6 : Nat) : Int)) 17 1) 18 k) 12 (min ((σ 12) + 1) 12)) 5 ((σ 5) + 1)) 6 ((σ 6) + 1)) 7)) rfl ?_
          refine j_norm (y := (σ 7)) (show shK σ 5 7 = σ 7 from shK_n (by omega)) ?_
          refine lv_aload_n hx hb dX9_prints_166 rfl (lv_at hl 1 rfl) ?_
          refine m_get (C := RX9) (T := TX9) (N := 13) (ci := 8) hx hb hts i_X9 hown hK hH hY.1 rfl 0 (by decide) f_0 rfl dX9_prints_167 ?_
          refine j_bipush hx hb dX9_prints_170 ?_ (by decide)
          refine m_iald (nA := 163) (f := (fu (fu (fu (fu (fu (fu (fu (fu (fu (shK σ 5) 13 (shw σ 6)) 14 (σ 3)) 15 ((fbN σ k 6 : Nat) : Int)) 16 ((sbN σ k 6 : Nat) : Int)) 17 1) 18 k) 12 (min ((σ 12) + 1) 12)) 5 ((σ 5) + 1)) 6 ((σ 6) + 1))) hx hb hK hH hY.2.1 dX9_prints_172 ?_ (by omega) (by omega)
          refine j_norm (y := ((fu (fu (fu (fu (fu (fu (fu (fu (fu (shK σ 5) 13 (shw σ 6)) 14 (σ 3)) 15 ((fbN σ k 6 : Nat) : Int)) 16 ((sbN σ k 6 : Nat) : Int)) 17 1) 18 k) 12 (min ((σ 12) + 1) 12)) 5 ((σ 5) + 1)) 6 ((σ 6) + 1)) 15)) rfl ?_
          refine j_norm (y := ((fbN σ k 6 : Nat) : Int)) rfl ?_
          refine m_callSi (As := [.int (iv ((fbN σ k 6 : Nat) : Int))]) (rest := [.int (iv (σ 7)), .int (iv 7), .ref (yy + 1)]) ⟨hx, hb, hml, hown, hts⟩ hK hH hS (c_X9_places l G ν70 ν0 (fbN σ k 6) (by omega)) (va_cwS 1 hts gX9_prints_X9_places rfl rfl rfl (by decide +kernel) ⟨(Nat.le_of_ble_eq_true rfl), (Nat.le_of_ble_eq_true rfl)⟩) rfl rfl hl.1 (Nat.le_of_ble_eq_true rfl) dX9_prints_173 ⟨Nat.zero_le _, Nat.zero_le _⟩ (fun z74 μ71 n72 H locs hz74 hp73 hH hS => ?_)
          obtain ⟨hz2, hm2, hn2⟩ := hp73; rw [hz2]; rw [hm2, hn2] at hH; clear hz2 hm2 hn2
          refine j_iadd hx hb dX9_prints_176 ?_
          refine m_iast (nA := 163) (f := (fu (fu (fu (fu (fu (fu (fu (fu (fu (shK σ 5) 13 (shw σ 6)) 14 (σ 3)) 15 ((fbN σ k 6 : Nat) : Int)) 16 ((sbN σ k 6 : Nat) : Int)) 17 1) 18 k) 12 (min ((σ 12) + 1) 12)) 5 ((σ 5) + 1)) 6 ((σ 6) + 1))) hx hb hK hH hS hY.2.1 dX9_prints_177 (fun H locs hH hS => ?_) (by omega) (by omega)
          obtain ⟨ν75, hY, hfr, hH⟩ : ∃ ξ : hM, IsMM G ξ yy (fu (fu (fu (fu (fu (fu (fu (fu (fu (fu (shK σ 5) 13 (shw σ 6)) 14 (σ 3)) 15 ((fbN σ k 6 : Nat) : Int)) 16 ((sbN σ k 6 : Nat) : Int)) 17 1) 18 k) 12 (min ((σ 12) + 1) 12)) 5 ((σ 5) + 1)) 6 ((σ 6) + 1)) 7 ((σ 7) + ((pc6 (fbN σ k 6) : Nat) : Int))) α β κ χ ω kn ik ln en fr pl wr ∧ MFr yy μ ξ ∧ gP G ξ ν0 H := hY.w1 hfr hH
          have hH : gP G ν75 ν0 H := hH
          have hE : EqS (fu (fu (fu (fu (fu (fu (fu (fu (fu (fu (shK σ 5) 13 (shw σ 6)) 14 (σ 3)) 15 ((fbN σ k 6 : Nat) : Int)) 16 ((sbN σ k 6 : Nat) : Int)) 17 1) 18 k) 12 (min ((σ 12) + 1) 12)) 5 ((σ 5) + 1)) 6 ((σ 6) + 1)) 7 ((σ 7) + ((pc6 (fbN σ k 6) : Nat) : Int))) σ := hE.fl (i := 7) (by omega) _
          refine lv_aload_n hx hb dX9_prints_178 rfl (lv_at hl 1 rfl) ?_
          refine m_get (C := RX9) (T := TX9) (N := 13) (ci := 8) hx hb hts i_X9 hown hK hH hY.1 rfl 0 (by decide) f_0 rfl dX9_prints_179 ?_
          refine j_bipush hx hb dX9_prints_182 ?_ (by decide)
          refine lv_dup2_11 hx hb dX9_prints_184 rfl rfl ?_
          refine m_iald (nA := 163) (f := (fu (fu (fu (fu (fu (fu (fu (fu (fu (fu (shK σ 5) 13 (shw σ 6)) 14 (σ 3)) 15 ((fbN σ k 6 : Nat) : Int)) 16 ((sbN σ k 6 : Nat) : Int)) 17 1) 18 k) 12 (min ((σ 12) + 1) 12)) 5 ((σ 5) + 1)) 6 ((σ 6) + 1)) 7 ((σ 7) + ((pc6 (fbN σ k 6) : Nat) : Int)))) hx hb hK hH hY.2.1 dX9_prints_185 ?_ (by omega) (by omega)
          refine j_norm (y := ((fu (fu (fu (fu (fu (fu (fu (fu (fu (fu (shK σ 5) 13 (shw σ 6)) 14 (σ 3)) 15 ((fbN σ k 6 : Nat) : Int)) 16 ((sbN σ k 6 : Nat) : Int)) 17 1) 18 k) 12 (min ((σ 12) + 1) 12)) 5 ((σ 5) + 1)) 6 ((σ 6) + 1)) 7 ((σ 7) + ((pc6 (fbN σ k 6) : Nat) : Int))) 8)) rfl ?_
          refine j_norm (y := (σ 8)) (show shK σ 5 8 = σ 8 from shK_n (by omega)) ?_
          refine lv_aload_n hx hb dX9_prints_186 rfl (lv_at hl 1 rfl) ?_
          refine m_get (C := RX9) (T := TX9) (N := 13) (ci := 8) hx hb hts i_X9 hown hK hH hY.1 rfl 0 (by decide) f_0 rfl dX9_prints_187 ?_
          refine j_bipush hx hb dX9_prints_190 ?_ (by decide)
          refine m_iald (nA := 163) (f := (fu (fu (fu (fu (fu (fu (fu (fu (fu (fu (shK σ 5) 13 (shw σ 6)) 14 (σ 3)) 15 ((fbN σ k 6 : Nat) : Int)) 16 ((sbN σ k 6 : Nat) : Int)) 17 1) 18 k) 12 (min ((σ 12) + 1) 12)) 5 ((σ 5) + 1)) 6 ((σ 6) + 1)) 7 ((σ 7) + ((pc6 (fbN σ k 6) : Nat) : Int)))) hx hb hK hH hY.2.1 dX9_prints_192 ?_ (by omega) (by omega)
          refine j_norm (y := ((fu (fu (fu (fu (fu (fu (fu (fu (fu (fu (shK σ 5) 13 (shw σ 6)) 14 (σ 3)) 15 ((fbN σ k 6 : Nat) : Int)) 16 ((sbN σ k 6 : Nat) : Int)) 17 1) 18 k) 12 (min ((σ 12) + 1) 12)) 5 ((σ 5) + 1)) 6 ((σ 6) + 1)) 7 ((σ 7) + ((pc6 (fbN σ k 6) : Nat) : Int))) 16)) rfl ?_
          refine j_norm (y := ((sbN σ k 6 : Nat) : Int)) rfl ?_
          refine m_callSi (As := [.int (iv ((sbN σ k 6 : Nat) : Int))]) (rest := [.int (iv (σ 8)), .int (iv 8), .ref (yy + 1)]) ⟨hx, hb, hml, hown, hts⟩ hK hH hS (c_X9_places l G ν75 ν0 (sbN σ k 6) (by omega)) (va_cwS 1 hts gX9_prints_X9_places rfl rfl rfl (by decide +kernel) ⟨(Nat.le_of_ble_eq_true rfl), (Nat.le_of_ble_eq_true rfl)⟩) rfl rfl hl.1 (Nat.le_of_ble_eq_true rfl) dX9_prints_193 ⟨Nat.zero_le _, Nat.zero_le _⟩ (fun z79 μ76 n77 H locs hz79 hp78 hH hS => ?_)
          obtain ⟨hz2, hm2, hn2⟩ := hp78; rw [hz2]; rw [hm2, hn2] at hH; clear hz2 hm2 hn2
          refine j_iadd hx hb dX9_prints_196 ?_
          refine m_iast (nA := 163) (f := (fu (fu (fu (fu (fu (fu (fu (fu (fu (fu (shK σ 5) 13 (shw σ 6)) 14 (σ 3)) 15 ((fbN σ k 6 : Nat) : Int)) 16 ((sbN σ k 6 : Nat) : Int)) 17 1) 18 k) 12 (min ((σ 12) + 1) 12)) 5 ((σ 5) + 1)) 6 ((σ 6) + 1)) 7 ((σ 7) + ((pc6 (fbN σ k 6) : Nat) : Int)))) hx hb hK hH hS hY.2.1 dX9_prints_197 (fun H locs hH hS => ?_) (by omega) (by omega)
          obtain ⟨ν80, hY, hfr, hH⟩ : ∃ ξ : hM, IsMM G ξ yy (fu (fu (fu (fu (fu (fu (fu (fu (fu (fu (fu (shK σ 5) 13 (shw σ 6)) 14 (σ 3)) 15 ((fbN σ k 6 : Nat) : Int)) 16 ((sbN σ k 6 : Nat) : Int)) 17 1) 18 k) 12 (min ((σ 12) + 1) 12)) 5 ((σ 5) + 1)) 6 ((σ 6) + 1)) 7 ((σ 7) + ((pc6 (fbN σ k 6) : Nat) : Int))) 8 ((σ 8) + ((pc6 (sbN σ k 6) : Nat) : Int))) α β κ χ ω kn ik ln en fr pl wr ∧ MFr yy μ ξ ∧ gP G ξ ν0 H := hY.w1 hfr hH
          have hH : gP G ν80 ν0 H := hH
          have hE : EqS (fu (fu (fu (fu (fu (fu (fu (fu (fu (fu (fu (shK σ 5) 13 (shw σ 6)) 14 (σ 3)) 15 ((fbN σ k 6 : Nat) : Int)) 16 ((sbN σ k 6 : Nat) : Int)) 17 1) 18 k) 12 (min ((σ 12) + 1) 12)) 5 ((σ 5) + 1)) 6 ((σ 6) + 1)) 7 ((σ 7) + ((pc6 (fbN σ k 6) : Nat) : Int))) 8 ((σ 8) + ((pc6 (sbN σ k 6) : Nat) : Int))) σ := hE.fl (i := 8) (by omega) _
          refine lv_aload_n hx hb dX9_prints_198 rfl (lv_at hl 1 rfl) ?_
          refine lv_iload_n hx hb dX9_prints_199 rfl (lv_at hl 2 rfl) ?_
          refine m_callVv (As := [.int (iv k)]) (rest := []) ⟨hx, hb, hml, hown, hts⟩ hK hH hS (c_X9_wearOut l G ν80 ν0 yy (fu (fu (fu (fu (fu (fu (fu (fu (fu (fu (fu (shK σ 5) 13 (shw σ 6)) 14 (σ 3)) 15 ((fbN σ k 6 : Nat) : Int)) 16 ((sbN σ k 6 : Nat) : Int)) 17 1) 18 k) 12 (min ((σ 12) + 1) 12)) 5 ((σ 5) + 1)) 6 ((σ 6) + 1)) 7 ((σ 7) + ((pc6 (fbN σ k 6) : Nat) : Int))) 8 ((σ 8) + ((pc6 (sbN σ k 6) : Nat) : Int))) α β κ χ ω kn ik ln en fr pl wr hY k (hE.ok hOk) (by omega)) (cwV 1 hts gX9_prints_X9_wearOut rfl rfl rfl (by decide +kernel) ⟨(Nat.le_of_ble_eq_true rfl), (Nat.le_of_ble_eq_true rfl)⟩) hY.1 rfl rfl rfl rfl hl.1 (Nat.le_of_ble_eq_true rfl) dX9_prints_200 ⟨Nat.zero_le _, Nat.zero_le _⟩ (fun μ81 n82 H locs hp83 hH hS => ?_)
          obtain ⟨hY, hfr1⟩ := hp83
          have hfr := hfr.tr hfr1
          clear hfr1
          refine lv_iload_n hx hb dX9_prints_203 rfl (lv_at hl 0 rfl) ?_
          subst hQ
          refine m_iret hx hb hr hlocks hH hS dX9_prints_204 ?_ (by omega)
          have hq9 : (onceF (fu (fu (fu (fu (fu (fu (fu (fu (fu (fu (fu (shK σ 5) 13 (shw σ 6)) 14 (σ 3)) 15 ((fbN σ k 6 : Nat) : Int)) 16 ((sbN σ k 6 : Nat) : Int)) 17 1) 18 k) 12 (min ((σ 12) + 1) 12)) 5 ((σ 5) + 1)) 6 ((σ 6) + 1)) 7 ((σ 7) + ((pc6 (fbN σ k 6) : Nat) : Int))) 8 ((σ 8) + ((pc6 (sbN σ k 6) : Nat) : Int))) k) = (prF σ k) := (pr_m hOk (Int.min_comm _ _) hrt rfl rfl rfl rfl rfl)
          rw [hq9] at hY
          clear hq9
          exact ⟨hrt, hY, hfr⟩
      · skip
        refine lv_aload_n hx hb dX9_prints_9 rfl (lv_at hl 0 rfl) ?_
        refine m_get (C := RX9) (T := TX9) (N := 13) (ci := 8) hx hb hts i_X9 hown hK hH hY.1 rfl 0 (by decide) f_0 rfl dX9_prints_10 ?_
        refine j_bipush hx hb dX9_prints_13 ?_ (by decide)
        refine lv_iload_n hx hb dX9_prints_15 rfl (lv_at hl 2 rfl) ?_
        refine j_iadd hx hb dX9_prints_16 ?_
        refine lv_aload_n hx hb dX9_prints_17 rfl (lv_at hl 0 rfl) ?_
        refine m_get (C := RX9) (T := TX9) (N := 13) (ci := 8) hx hb hts i_X9 hown hK hH hY.1 rfl 0 (by decide) f_0 rfl dX9_prints_18 ?_
        refine j_bipush hx hb dX9_prints_21 ?_ (by decide)
        refine lv_iload_n hx hb dX9_prints_23 rfl (lv_at hl 2 rfl) ?_
        refine j_iadd hx hb dX9_prints_24 ?_
        refine j_bipush hx hb dX9_prints_25 ?_ (by decide)
        refine j_isub hx hb dX9_prints_27 ?_
        refine m_iald (nA := 163) (f := τ) hx hb hK hH hY.2.1 dX9_prints_28 ?_ (by omega) (by omega)
        refine j_norm (y := (τ (((13 + kk) - 6)).toNat)) rfl ?_
        refine m_iast (nA := 163) (f := τ) hx hb hK hH hS hY.2.1 dX9_prints_29 (fun H locs hH hS => ?_) (by omega) (by omega)
        obtain ⟨ν84, hY, hfr, hH⟩ : ∃ ξ : hM, IsMM G ξ yy (fu τ ((13 + kk)).toNat (τ (((13 + kk) - 6)).toNat)) α β κ χ ω kn ik ln en fr pl wr ∧ MFr yy μ ξ ∧ gP G ξ ν0 H := hY.w1 hfr hH
        have hH : gP G ν84 ν0 H := hH
        refine j_iinc (lv' := [(2, .int (iv (kk + -1))), (0, .ref yy), (1, .int (iv k))]) hx hb dX9_prints_30 hl (k := 2) rfl (by decide) rfl (fun ls hl => ?_)
        refine lv_goto (tgt := 3) hx hb dX9_prints_33 (by decide) ?_
        exact ih1 (kk + -1) (fu τ ((13 + kk)).toNat (τ (((13 + kk) - 6)).toNat)) ν84 ν0 hY hfr (by omega) (by rw [hτ, shK_s (by omega)]; rfl) (by omega) H locs ls hH hS (lv_sub hl [1, 2, 0] rfl)
  exact lp3 (68) 71 σ μ n hY hfr (by omega) (shK_71 σ).symm (by omega) H locs ls hH hS (lv_sub hl [1, 2, 0] rfl)

abbrev rm_c_X9_worn : Room := { frames := 1, cells := 0, slots := 0, locals := 21 }
set_option maxHeartbeats 4000000 in
set_option maxRecDepth 100000 in
theorem c_X9_worn (l : Launch) (G : wG) (μ : hM) (n : Nat) (yy : Nat) (σ α β κ χ ω : Nat → Int) (kn ik ln en fr pl wr : Int) (hY : IsMM G μ yy σ α β κ χ ω kn ik ln en fr pl wr) (p0 : Nat) (b : Int) (hOk : OkS σ) (hp : p0 < 6) (hb1 : 0 ≤ b ∧ b ≤ 1) : Met l yX9_worn wsX9_worn rm_c_X9_worn (mPc G μ n [.ref yy, .int (iv (p0 : Int)), .int (iv b)]) (mQi G (fun z μ1 n1 => z = ((if b = 1 then bmost (roww σ p0) 9 else bleix (roww σ p0) 9 : Nat) : Int) ∧ μ1 = μ ∧ n1 = n)) 0 0 (gA G) := by
  refine Met.ofW (cc := cX9_worn) (maxL := 6) (ret := (some .int)) (by decide) rfl ?_
  intro p e s m args below meth c s₁ B hml hv
  obtain ⟨hav, hK, hH⟩ := hv
  have hx := B.exec
  have hb := B.bytes
  have hr := B.returns
  have hts := atoms_spec (ws := wsX9_worn) B.pre
  have hown : s.vm.findClass RX9 = some m.cls := findClass_of_methodNamed B.named
  have hlocks := B.notSynchronized
  have hS : va_S (gA G) s.heap s.heap [] := va_S.rf
  have hl := lv_entry ([.ref yy, .int (iv (p0 : Int)), .int (iv b)]) (n := 6) (Nat.le_of_ble_eq_true rfl)
  have hfr : entryFrame m args 6 = entryFrame m ([.ref yy, .int (iv (p0 : Int)), .int (iv b)] : List Value).toArray 6 := by rw [hav]
  rw [hfr, lg_entry_eq]
  generalize (lg_sl ([.ref yy, .int (iv (p0 : Int)), .int (iv b)]) ++ List.replicate (6 - (lg_sl ([.ref yy, .int (iv (p0 : Int)), .int (iv b)])).length) Slot.unset).toArray = ls at hl ⊢
  have hl : lv_has ls 6 [(0, .ref yy), (1, .int (iv (p0 : Int))), (2, .int (iv b))] := hl
  generalize hQ : MQ below _ args s 0 0 (gA G) = Q
  show W p l e rm_c_X9_worn s m args below meth c s.heap [] 0 0 Q (F0 m 0 ls [])
  obtain ⟨H, hHe⟩ : ∃ H, H = s.heap := ⟨_, rfl⟩
  obtain ⟨locs, hlo⟩ : ∃ q : List Loc, q = [] := ⟨_, rfl⟩
  have hH : gP G μ n H := by rw [hHe]; exact hH
  have hS : va_S (gA G) s.heap H locs := by rw [hHe, hlo]; exact hS
  suffices hgo : W p l e rm_c_X9_worn s m args below meth c H locs 0 0 Q (F0 m 0 ls []) by rw [hHe, hlo] at hgo; exact hgo
  clear hHe hlo hfr hav
  have f_0 := hts (.fieldLink RX9 7 "StampDaterModel" "s" "[I") (List.mem_of_getElem? (i := 1) rfl)
  have i_X9 : ∀ w ∈ u_ws RX9 TX9 13, w ∈ wsX9_worn := by decide +kernel
  have hfr : MFr yy μ μ := MFr.rf
  refine j_const hx hb dX9_worn_0 ?_
  refine lv_istore_n (lv' := [(3, .int (iv 0)), (0, .ref yy), (1, .int (iv (p0 : Int))), (2, .int (iv b))]) hx hb dX9_worn_1 rfl hl (by decide) rfl (fun ls hl => ?_)
  refine j_const hx hb dX9_worn_2 ?_
  refine lv_istore (lv' := [(4, .int (iv 1)), (3, .int (iv 0)), (0, .ref yy), (1, .int (iv (p0 : Int))), (2, .int (iv b))]) hx hb dX9_worn_3 hl (by decide) rfl (fun ls hl => ?_)
  have lp5 : ∀ (fuel : Nat) (ee : Nat) (f0 : Nat) (he : ee ≤ 9) (hf : f0 = if b = 1 then bmost (roww σ p0) ee else bleix (roww σ p0) ee) (_ : 9 - ee < fuel) (H : Heap) (locs : List Loc) (ls : Array Slot) (_ : gP G μ n H) (_ : va_S (gA G) s.heap H locs) (_ : lv_has ls 6 [(0, .ref yy), (1, .int (iv (p0 : Int))), (2, .int (iv b)), (3, .int (iv (f0 : Int))), (4, .int (iv ((ee + 1 : Nat) : Int)))]), W p l e rm_c_X9_worn s m args below meth c H locs 0 0 Q (F0 m 5 ls []) := by
    intro fuel
    induction fuel with
    | zero => intro _ _ _ _ hfuel; exact absurd hfuel (Nat.not_lt_zero _)
    | succ fuel ih =>
      intro ee f0 he hf hfuel H locs ls hH hS hl
      have hfl : f0 ≤ ee := by rw [hf]; split; exact bmost_le _ ee; exact bleix_le _ ee
      have ih1 := ih; clear ih
      refine lv_iload hx hb dX9_worn_5 (lv_at hl 4 rfl) ?_
      refine j_bipush hx hb dX9_worn_7 ?_ (by decide)
      refine j_icmp_ge (tgt := 70) hx hb dX9_worn_9 (by decide) (fun c2 => ?_) (fun c2 => ?_) (by omega) (by omega)
      · skip
        refine lv_iload_n hx hb dX9_worn_70 rfl (lv_at hl 3 rfl) ?_
        subst hQ
        refine m_iret hx hb hr hlocks hH hS dX9_worn_71 ?_ (by omega)
        refine ⟨?_, rfl, rfl⟩
        rw [hf, show ee = 9 by omega]
      · skip
        have hw1 := (hOk.2.2.2.2 p0 hp).2.2.2 (ee + 1) (by omega)
        have hw2 := (hOk.2.2.2.2 p0 hp).2.2.2 f0 (by omega)
        refine lv_aload_n hx hb dX9_worn_12 rfl (lv_at hl 0 rfl) ?_
        refine m_get (C := RX9) (T := TX9) (N := 13) (ci := 8) hx hb hts i_X9 hown hK hH hY.1 rfl 0 (by decide) f_0 rfl dX9_worn_13 ?_
        refine lv_iload_n hx hb dX9_worn_16 rfl (lv_at hl 1 rfl) ?_
        refine j_const hx hb dX9_worn_17 ?_
        refine lv_iload hx hb dX9_worn_18 (lv_at hl 4 rfl) ?_
        refine j_iadd hx hb dX9_worn_20 ?_
        refine m_callSi (As := [.int (iv (p0 : Int)), .int (iv (3 + ((ee + 1 : Nat) : Int)))]) (rest := [.ref (yy + 1)]) ⟨hx, hb, hml, hown, hts⟩ hK hH hS (c_X9_of l G μ n (p0 : Int) (3 + ((ee + 1 : Nat) : Int)) (by omega) (by omega)) (va_cwS 2 hts gX9_worn_X9_of rfl rfl rfl (by decide +kernel) ⟨(Nat.le_of_ble_eq_true rfl), (Nat.le_of_ble_eq_true rfl)⟩) rfl rfl hl.1 (Nat.le_of_ble_eq_true rfl) dX9_worn_21 ⟨Nat.zero_le _, Nat.zero_le _⟩ (fun z6 μ3 n4 H locs hz6 hp5 hH hS => ?_)
        obtain ⟨hz9, hm9, hn9⟩ := hp5
        rw [hm9, hn9] at hH
        rw [hz9]
        clear hz9 hm9 hn9
        refine j_norm (y := ((88 + 13 * p0 + (ee + 1) : Nat) : Int)) (by omega) ?_
        refine m_iald (nA := 163) (f := σ) hx hb hK hH hY.2.1 dX9_worn_24 ?_ (by omega) (by omega)
        refine j_norm (y := (σ (88 + 13 * p0 + (ee + 1)))) rfl ?_
        refine lv_aload_n hx hb dX9_worn_25 rfl (lv_at hl 0 rfl) ?_
        refine m_get (C := RX9) (T := TX9) (N := 13) (ci := 8) hx hb hts i_X9 hown hK hH hY.1 rfl 0 (by decide) f_0 rfl dX9_worn_26 ?_
        refine lv_iload_n hx hb dX9_worn_29 rfl (lv_at hl 1 rfl) ?_
        refine j_const hx hb dX9_worn_30 ?_
        refine lv_iload_n hx hb dX9_worn_31 rfl (lv_at hl 3 rfl) ?_
        refine j_iadd hx hb dX9_worn_32 ?_
        refine m_callSi (As := [.int (iv (p0 : Int)), .int (iv (3 + (f0 : Int)))]) (rest := [.ref (yy + 1), .int (iv (σ (88 + 13 * p0 + (ee + 1))))]) ⟨hx, hb, hml, hown, hts⟩ hK hH hS (c_X9_of l G μ n (p0 : Int) (3 + (f0 : Int)) (by omega) (by omega)) (va_cwS 2 hts gX9_worn_X9_of rfl rfl rfl (by decide +kernel) ⟨(Nat.le_of_ble_eq_true rfl), (Nat.le_of_ble_eq_true rfl)⟩) rfl rfl hl.1 (Nat.le_of_ble_eq_true rfl) dX9_worn_33 ⟨Nat.zero_le _, Nat.zero_le _⟩ (fun z10 μ7 n8 H locs hz10 hp9 hH hS => ?_)
        obtain ⟨hz9, hm9, hn9⟩ := hp9
        rw [hm9, hn9] at hH
        rw [hz9]
        clear hz9 hm9 hn9
        refine j_norm (y := ((88 + 13 * p0 + f0 : Nat) : Int)) (by omega) ?_
        refine m_iald (nA := 163) (f := σ) hx hb hK hH hY.2.1 dX9_worn_36 ?_ (by omega) (by omega)
        refine j_norm (y := (σ (88 + 13 * p0 + f0))) rfl ?_
        refine j_isub hx hb dX9_worn_37 ?_
        refine lv_istore (lv' := [(5, .int (iv ((σ (88 + 13 * p0 + (ee + 1))) - (σ (88 + 13 * p0 + f0))))), (0, .ref yy), (1, .int (iv (p0 : Int))), (2, .int (iv b)), (3, .int (iv (f0 : Int))), (4, .int (iv ((ee + 1 : Nat) : Int)))]) hx hb dX9_worn_38 hl (by decide) rfl (fun ls hl => ?_)
        refine lv_iload_n hx hb dX9_worn_40 rfl (lv_at hl 3 rfl) ?_
        refine j_if_eq (tgt := 52) hx hb dX9_worn_41 (by decide) (fun c11 => ?_) (fun c11 => ?_) (by omega)
        · skip
          have hbb : ¬ b = 1 := by omega
          refine lv_iload hx hb dX9_worn_52 (lv_at hl 0 rfl) ?_
          refine j_if_ge (tgt := 62) hx hb dX9_worn_54 (by decide) (fun c12 => ?_) (fun c12 => ?_) (by omega)
          · skip
            refine lv_iload_n hx hb dX9_worn_62 rfl (lv_at hl 4 rfl) ?_
            refine lv_istore_n (lv' := [(3, .int (iv (f0 : Int))), (5, .int (iv ((σ (88 + 13 * p0 + (ee + 1))) - (σ (88 + 13 * p0 + f0))))), (0, .ref yy), (1, .int (iv (p0 : Int))), (2, .int (iv b)), (4, .int (iv ((ee + 1 : Nat) : Int)))]) hx hb dX9_worn_63 rfl hl (by decide) rfl (fun ls hl => ?_)
            refine j_iinc (lv' := [(4, .int (iv (((ee + 1 : Nat) : Int) + 1))), (3, .int (iv (f0 : Int))), (5, .int (iv ((σ (88 + 13 * p0 + (ee + 1))) - (σ (88 + 13 * p0 + f0))))), (0, .ref yy), (1, .int (iv (p0 : Int))), (2, .int (iv b))]) hx hb dX9_worn_64 hl (k := 5) rfl (by decide) rfl (fun ls hl => ?_)
            refine lv_goto (tgt := 5) hx hb dX9_worn_67 (by decide) ?_
            exact ih1 (ee + 1) f0 (by omega) (by rw [if_neg hbb] at hf; rw [if_neg hbb]; show _ = (if roww σ p0 (ee + 1) < roww σ p0 (bleix (roww σ p0) ee) then ee + 1 else bleix (roww σ p0) ee); rw [← hf, roww_at (k := f0) (by omega), roww_at (k := ee + 1) (by omega), if_neg (by omega)]) (by omega) H locs ls hH hS (lv_sub hl [3, 4, 5, 1, 0] rfl)
          · skip
            refine lv_iload hx hb dX9_worn_57 (lv_at hl 5 rfl) ?_
            refine lv_goto (tgt := 63) hx hb dX9_worn_59 (by decide) ?_
            refine lv_istore_n (lv' := [(3, .int (iv ((ee + 1 : Nat) : Int))), (5, .int (iv ((σ (88 + 13 * p0 + (ee + 1))) - (σ (88 + 13 * p0 + f0))))), (0, .ref yy), (1, .int (iv (p0 : Int))), (2, .int (iv b)), (4, .int (iv ((ee + 1 : Nat) : Int)))]) hx hb dX9_worn_63 rfl hl (by decide) rfl (fun ls hl => ?_)
            refine j_iinc (lv' := [(4, .int (iv (((ee + 1 : Nat) : Int) + 1))), (3, .int (iv ((ee + 1 : Nat) : Int))), (5, .int (iv ((σ (88 + 13 * p0 + (ee + 1))) - (σ (88 + 13 * p0 + f0))))), (0, .ref yy), (1, .int (iv (p0 : Int))), (2, .int (iv b))]) hx hb dX9_worn_64 hl (k := 5) rfl (by decide) rfl (fun ls hl => ?_)
            refine lv_goto (tgt := 5) hx hb dX9_worn_67 (by decide) ?_
            exact ih1 (ee + 1) (ee + 1) (by omega) (by rw [if_neg hbb] at hf; rw [if_neg hbb]; show _ = (if roww σ p0 (ee + 1) < roww σ p0 (bleix (roww σ p0) ee) then ee + 1 else bleix (roww σ p0) ee); rw [← hf, roww_at (k := f0) (by omega), roww_at (k := ee + 1) (by omega), if_pos (by omega)]) (by omega) H locs ls hH hS (lv_sub hl [3, 4, 5, 1, 0] rfl)
        · skip
          have hbb : b = 1 := by omega
          refine lv_iload hx hb dX9_worn_44 (lv_at hl 0 rfl) ?_
          refine j_if_le (tgt := 62) hx hb dX9_worn_46 (by decide) (fun c13 => ?_) (fun c13 => ?_) (by omega)
          · skip
            refine lv_iload_n hx hb dX9_worn_62 rfl (lv_at hl 4 rfl) ?_
            refine lv_istore_n (lv' := [(3, .int (iv (f0 : Int))), (5, .int (iv ((σ (88 + 13 * p0 + (ee + 1))) - (σ (88 + 13 * p0 + f0))))), (0, .ref yy), (1, .int (iv (p0 : Int))), (2, .int (iv b)), (4, .int (iv ((ee + 1 : Nat) : Int)))]) hx hb dX9_worn_63 rfl hl (by decide) rfl (fun ls hl => ?_)
            refine j_iinc (lv' := [(4, .int (iv (((ee + 1 : Nat) : Int) + 1))), (3, .int (iv (f0 : Int))), (5, .int (iv ((σ (88 + 13 * p0 + (ee + 1))) - (σ (88 + 13 * p0 + f0))))), (0, .ref yy), (1, .int (iv (p0 : Int))), (2, .int (iv b))]) hx hb dX9_worn_64 hl (k := 5) rfl (by decide) rfl (fun ls hl => ?_)
            refine lv_goto (tgt := 5) hx hb dX9_worn_67 (by decide) ?_
            exact ih1 (ee + 1) f0 (by omega) (by rw [if_pos hbb] at hf; rw [if_pos hbb]; show _ = (if roww σ p0 (bmost (roww σ p0) ee) < roww σ p0 (ee + 1) then ee + 1 else bmost (roww σ p0) ee); rw [← hf, roww_at (k := f0) (by omega), roww_at (k := ee + 1) (by omega), if_neg (by omega)]) (by omega) H locs ls hH hS (lv_sub hl [3, 4, 5, 1, 0] rfl)
          · skip
            refine lv_goto (tgt := 57) hx hb dX9_worn_49 (by decide) ?_
            refine lv_iload hx hb dX9_worn_57 (lv_at hl 5 rfl) ?_
            refine lv_goto (tgt := 63) hx hb dX9_worn_59 (by decide) ?_
            refine lv_istore_n (lv' := [(3, .int (iv ((ee + 1 : Nat) : Int))), (5, .int (iv ((σ (88 + 13 * p0 + (ee + 1))) - (σ (88 + 13 * p0 + f0))))), (0, .ref yy), (1, .int (iv (p0 : Int))), (2, .int (iv b)), (4, .int (iv ((ee + 1 : Nat) : Int)))]) hx hb dX9_worn_63 rfl hl (by decide) rfl (fun ls hl => ?_)
            refine j_iinc (lv' := [(4, .int (iv (((ee + 1 : Nat) : Int) + 1))), (3, .int (iv ((ee + 1 : Nat) : Int))), (5, .int (iv ((σ (88 + 13 * p0 + (ee + 1))) - (σ (88 + 13 * p0 + f0))))), (0, .ref yy), (1, .int (iv (p0 : Int))), (2, .int (iv b))]) hx hb dX9_worn_64 hl (k := 5) rfl (by decide) rfl (fun ls hl => ?_)
            refine lv_goto (tgt := 5) hx hb dX9_worn_67 (by decide) ?_
            exact ih1 (ee + 1) (ee + 1) (by omega) (by rw [if_pos hbb] at hf; rw [if_pos hbb]; show _ = (if roww σ p0 (bmost (roww σ p0) ee) < roww σ p0 (ee + 1) then ee + 1 else bmost (roww σ p0) ee); rw [← hf, roww_at (k := f0) (by omega), roww_at (k := ee + 1) (by omega), if_pos (by omega)]) (by omega) H locs ls hH hS (lv_sub hl [3, 4, 5, 1, 0] rfl)
  exact lp5 (10) 0 0 (by omega) (by split <;> rfl) (by omega) H locs ls hH hS (lv_sub hl [2, 3, 4, 1, 0] rfl)
