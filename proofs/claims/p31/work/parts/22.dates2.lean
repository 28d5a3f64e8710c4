theorem dig_y (x : Int) : dig x % 100 = yearOf x % 100 := by
  unfold dig
  omega
abbrev rm_c_X1_daysOfMonthAgreeing : Room := { frames := 2, cells := 0, slots := 0, locals := 44 }
set_option maxHeartbeats 4000000 in
set_option maxRecDepth 100000 in
theorem c_X1_daysOfMonthAgreeing (l : Launch) (G : wG) (μ : hM) (n : Nat) (mo : Int) (D : Int) (P : Nat) (hmo : 1 ≤ mo ∧ mo ≤ 12) (hD : 0 ≤ D ∧ D ≤ 999999) (hP : P < 64) : Met l yX1_daysOfMonthAgreeing wsX1_daysOfMonthAgreeing rm_c_X1_daysOfMonthAgreeing (mPc G μ n [.int (iv mo), .int (iv D), .int (iv (P : Int))]) (mQi G (fun z μ1 n1 => z = agm D P mo ∧ μ1 = μ ∧ n1 = n)) 0 0 (gA G) := by
  refine Met.ofW (cc := cX1_daysOfMonthAgreeing) (maxL := 5) (ret := (some .int)) (by decide) rfl ?_
  intro p e s m args below meth c s₁ B hml hv
  obtain ⟨hav, hK, hH⟩ := hv
  have hx := B.exec
  have hb := B.bytes
  have hr := B.returns
  have hts := atoms_spec (ws := wsX1_daysOfMonthAgreeing) B.pre
  have hown : s.vm.findClass RX1 = some m.cls := findClass_of_methodNamed B.named
  have hlocks := B.notSynchronized
  have hS : va_S (gA G) s.heap s.heap [] := va_S.rf
  have hl := lv_entry ([.int (iv mo), .int (iv D), .int (iv (P : Int))]) (n := 5) (Nat.le_of_ble_eq_true rfl)
  have hfr : entryFrame m args 5 = entryFrame m ([.int (iv mo), .int (iv D), .int (iv (P : Int))] : List Value).toArray 5 := by rw [hav]
  rw [hfr, lg_entry_eq]
  generalize (lg_sl ([.int (iv mo), .int (iv D), .int (iv (P : Int))]) ++ List.replicate (5 - (lg_sl ([.int (iv mo), .int (iv D), .int (iv (P : Int))])).length) Slot.unset).toArray = ls at hl ⊢
  have hl : lv_has ls 5 [(0, .int (iv mo)), (1, .int (iv D)), (2, .int (iv (P : Int)))] := hl
  generalize hQ : MQ below _ args s 0 0 (gA G) = Q
  show W p l e rm_c_X1_daysOfMonthAgreeing s m args below meth c s.heap [] 0 0 Q (F0 m 0 ls [])
  obtain ⟨H, hHe⟩ : ∃ H, H = s.heap := ⟨_, rfl⟩
  obtain ⟨locs, hlo⟩ : ∃ q : List Loc, q = [] := ⟨_, rfl⟩
  have hH : gP G μ n H := by rw [hHe]; exact hH
  have hS : va_S (gA G) s.heap H locs := by rw [hHe, hlo]; exact hS
  suffices hgo : W p l e rm_c_X1_daysOfMonthAgreeing s m args below meth c H locs 0 0 Q (F0 m 0 ls []) by rw [hHe, hlo] at hgo; exact hgo
  clear hHe hlo hfr hav
  refine lv_iload_n hx hb dX1_daysOfMonthAgreeing_0 rfl (lv_at hl 0 rfl) ?_
  refine lv_iload_n hx hb dX1_daysOfMonthAgreeing_1 rfl (lv_at hl 1 rfl) ?_
  refine lv_iload_n hx hb dX1_daysOfMonthAgreeing_2 rfl (lv_at hl 2 rfl) ?_
  refine m_callSi (As := [.int (iv mo), .int (iv D), .int (iv (P : Int))]) (rest := []) ⟨hx, hb, hml, hown, hts⟩ hK hH hS (c_X1_monthAgrees l G μ n mo D P (by omega) hD hP) (va_cwS 3 hts gX1_daysOfMonthAgreeing_X1_monthAgrees rfl rfl rfl (by decide +kernel) ⟨(Nat.le_of_ble_eq_true rfl), (Nat.le_of_ble_eq_true rfl)⟩) rfl rfl hl.1 (Nat.le_of_ble_eq_true rfl) dX1_daysOfMonthAgreeing_3 ⟨Nat.zero_le _, Nat.zero_le _⟩ (fun z4 μ1 n2 H locs hz4 hp3 hH hS => ?_)
  obtain ⟨hz2, hm2, hn2⟩ := hp3; rw [hz2]; rw [hm2, hn2] at hH; clear hz2 hm2 hn2
  have hpm := pag_rng mo (D / 100 % 100) (P / 4)
  have hlr := lgst_rng mo
  refine j_if_ne (tgt := 11) hx hb dX1_daysOfMonthAgreeing_6 (by decide) (fun c5 => ?_) (fun c5 => ?_) (by omega)
  · skip
    refine j_const hx hb dX1_daysOfMonthAgreeing_11 ?_
    refine lv_istore_n (lv' := [(3, .int (iv 0)), (0, .int (iv mo)), (1, .int (iv D)), (2, .int (iv (P : Int)))]) hx hb dX1_daysOfMonthAgreeing_12 rfl hl (by decide) rfl (fun ls hl => ?_)
    refine j_const hx hb dX1_daysOfMonthAgreeing_13 ?_
    refine lv_istore (lv' := [(4, .int (iv 1)), (3, .int (iv 0)), (0, .int (iv mo)), (1, .int (iv D)), (2, .int (iv (P : Int)))]) hx hb dX1_daysOfMonthAgreeing_14 hl (by decide) rfl (fun ls hl => ?_)
    have lp16 : ∀ (fuel : Nat) (i : Int) (dn : Int) (hi : 1 ≤ i ∧ i ≤ lgst mo + 1) (hdn : dn = dcn D P (i - 1).toNat) (_ : (32 - i).toNat < fuel) (H : Heap) (locs : List Loc) (ls : Array Slot) (_ : gP G μ n H) (_ : va_S (gA G) s.heap H locs) (_ : lv_has ls 5 [(0, .int (iv mo)), (1, .int (iv D)), (2, .int (iv (P : Int))), (3, .int (iv dn)), (4, .int (iv i))]), W p l e rm_c_X1_daysOfMonthAgreeing s m args below meth c H locs 0 0 Q (F0 m 16 ls []) := by
      intro fuel
      induction fuel with
      | zero => intro _ _ _ _ hfuel; exact absurd hfuel (Nat.not_lt_zero _)
      | succ fuel ih =>
        intro i dn hi hdn hfuel H locs ls hH hS hl
        have ih6 := ih; clear ih
        refine lv_iload hx hb dX1_daysOfMonthAgreeing_16 (lv_at hl 4 rfl) ?_
        refine lv_iload_n hx hb dX1_daysOfMonthAgreeing_18 rfl (lv_at hl 0 rfl) ?_
        refine m_callSi (As := [.int (iv mo)]) (rest := [.int (iv i)]) ⟨hx, hb, hml, hown, hts⟩ hK hH hS (c_X1_longestOf l G μ n mo (by omega)) (va_cwS 1 hts gX1_daysOfMonthAgreeing_X1_longestOf rfl rfl rfl (by decide +kernel) ⟨(Nat.le_of_ble_eq_true rfl), (Nat.le_of_ble_eq_true rfl)⟩) rfl rfl hl.1 (Nat.le_of_ble_eq_true rfl) dX1_daysOfMonthAgreeing_19 ⟨Nat.zero_le _, Nat.zero_le _⟩ (fun z10 μ7 n8 H locs hz10 hp9 hH hS => ?_)
        obtain ⟨hz2, hm2, hn2⟩ := hp9; rw [hz2]; rw [hm2, hn2] at hH; clear hz2 hm2 hn2
        refine j_icmp_gt (tgt := 49) hx hb dX1_daysOfMonthAgreeing_22 (by decide) (fun c11 => ?_) (fun c11 => ?_) (by omega) (by omega)
        · skip
          have hdr := dcn_rng D P (i - 1).toNat
          refine lv_iload_n hx hb dX1_daysOfMonthAgreeing_49 rfl (lv_at hl 3 rfl) ?_
          subst hQ
          refine m_iret hx hb hr hlocks hH hS dX1_daysOfMonthAgreeing_50 ?_ (by omega)
          refine ⟨?_, rfl, rfl⟩
          unfold agm
          rw [if_neg (by omega), hdn, show (i - 1).toNat = (lgst mo).toNat by omega]
        · skip
          refine lv_iload_n hx hb dX1_daysOfMonthAgreeing_25 rfl (lv_at hl 3 rfl) ?_
          refine lv_iload hx hb dX1_daysOfMonthAgreeing_26 (lv_at hl 4 rfl) ?_
          refine lv_iload_n hx hb dX1_daysOfMonthAgreeing_28 rfl (lv_at hl 1 rfl) ?_
          refine lv_iload_n hx hb dX1_daysOfMonthAgreeing_29 rfl (lv_at hl 2 rfl) ?_
          refine m_callSi (As := [.int (iv i), .int (iv D), .int (iv (P : Int))]) (rest := [.int (iv dn)]) ⟨hx, hb, hml, hown, hts⟩ hK hH hS (c_X1_dayAgrees l G μ n i D P (by omega) hD hP) (va_cwS 3 hts gX1_daysOfMonthAgreeing_X1_dayAgrees rfl rfl rfl (by decide +kernel) ⟨(Nat.le_of_ble_eq_true rfl), (Nat.le_of_ble_eq_true rfl)⟩) rfl rfl hl.1 (Nat.le_of_ble_eq_true rfl) dX1_daysOfMonthAgreeing_30 ⟨Nat.zero_le _, Nat.zero_le _⟩ (fun z15 μ12 n13 H locs hz15 hp14 hH hS => ?_)
          obtain ⟨hz2, hm2, hn2⟩ := hp14; rw [hz2]; rw [hm2, hn2] at hH; clear hz2 hm2 hn2
          have hpd := pag_rng i (D / 10000) P
          refine j_if_eq (tgt := 40) hx hb dX1_daysOfMonthAgreeing_33 (by decide) (fun c16 => ?_) (fun c16 => ?_) (by omega)
          · skip
            refine j_const hx hb dX1_daysOfMonthAgreeing_40 ?_
            refine j_iadd hx hb dX1_daysOfMonthAgreeing_41 ?_
            refine lv_istore_n (lv' := [(3, .int (iv (dn + 0))), (0, .int (iv mo)), (1, .int (iv D)), (2, .int (iv (P : Int))), (4, .int (iv i))]) hx hb dX1_daysOfMonthAgreeing_42 rfl hl (by decide) rfl (fun ls hl => ?_)
            refine j_iinc (lv' := [(4, .int (iv (i + 1))), (3, .int (iv (dn + 0))), (0, .int (iv mo)), (1, .int (iv D)), (2, .int (iv (P : Int)))]) hx hb dX1_daysOfMonthAgreeing_43 hl (k := 4) rfl (by decide) rfl (fun ls hl => ?_)
            refine lv_goto (tgt := 16) hx hb dX1_daysOfMonthAgreeing_46 (by decide) ?_
            exact ih6 (i + 1) (dn + 0) (by omega) (by rw [hdn, show (i + 1 - 1).toNat = (i - 1).toNat + 1 by omega]; show _ = dcn D P (i - 1).toNat + pag (((i - 1).toNat : Nat) + 1) (D / 10000) P; rw [show (((i - 1).toNat : Nat) : Int) + 1 = i by omega]; omega) (by omega) H locs ls hH hS (lv_sub hl [2, 3, 4, 1, 0] rfl)
          · skip
            refine j_const hx hb dX1_daysOfMonthAgreeing_36 ?_
            refine lv_goto (tgt := 41) hx hb dX1_daysOfMonthAgreeing_37 (by decide) ?_
            refine j_iadd hx hb dX1_daysOfMonthAgreeing_41 ?_
            refine lv_istore_n (lv' := [(3, .int (iv (dn + 1))), (0, .int (iv mo)), (1, .int (iv D)), (2, .int (iv (P : Int))), (4, .int (iv i))]) hx hb dX1_daysOfMonthAgreeing_42 rfl hl (by decide) rfl (fun ls hl => ?_)
            refine j_iinc (lv' := [(4, .int (iv (i + 1))), (3, .int (iv (dn + 1))), (0, .int (iv mo)), (1, .int (iv D)), (2, .int (iv (P : Int)))]) hx hb dX1_daysOfMonthAgreeing_43 hl (k := 4) rfl (by decide) rfl (fun ls hl => ?_)
            refine lv_goto (tgt := 16) hx hb dX1_daysOfMonthAgreeing_46 (by decide) ?_
            exact ih6 (i + 1) (dn + 1) (by omega) (by rw [hdn, show (i + 1 - 1).toNat = (i - 1).toNat + 1 by omega]; show _ = dcn D P (i - 1).toNat + pag (((i - 1).toNat : Nat) + 1) (D / 10000) P; rw [show (((i - 1).toNat : Nat) : Int) + 1 = i by omega]; omega) (by omega) H locs ls hH hS (lv_sub hl [2, 3, 4, 1, 0] rfl)
    exact lp16 (32) 1 0 (by omega) rfl (by omega) H locs ls hH hS (lv_sub hl [2, 3, 4, 1, 0] rfl)
  · skip
    refine j_const hx hb dX1_daysOfMonthAgreeing_9 ?_
    subst hQ
    refine m_iret hx hb hr hlocks hH hS dX1_daysOfMonthAgreeing_10 ?_ (by omega)
    refine ⟨?_, rfl, rfl⟩
    unfold agm
    rw [if_pos (by omega)]

abbrev rm_c_X1_daysAgreeing : Room := { frames := 3, cells := 0, slots := 0, locals := 68 }
set_option maxHeartbeats 4000000 in
set_option maxRecDepth 100000 in
theorem c_X1_daysAgreeing (l : Launch) (G : wG) (μ : hM) (n : Nat) (D : Int) (P : Nat) (hD : 0 ≤ D ∧ D ≤ 999999) (hP : P < 64) : Met l yX1_daysAgreeing wsX1_daysAgreeing rm_c_X1_daysAgreeing (mPc G μ n [.int (iv D), .int (iv (P : Int))]) (mQi G (fun z μ1 n1 => z = acnt D P 36525 ∧ μ1 = μ ∧ n1 = n)) 0 0 (gA G) := by
  refine Met.ofW (cc := cX1_daysAgreeing) (maxL := 7) (ret := (some .int)) (by decide) rfl ?_
  intro p e s m args below meth c s₁ B hml hv
  obtain ⟨hav, hK, hH⟩ := hv
  have hx := B.exec
  have hb := B.bytes
  have hr := B.returns
  have hts := atoms_spec (ws := wsX1_daysAgreeing) B.pre
  have hown : s.vm.findClass RX1 = some m.cls := findClass_of_methodNamed B.named
  have hlocks := B.notSynchronized
  have hS : va_S (gA G) s.heap s.heap [] := va_S.rf
  have hl := lv_entry ([.int (iv D), .int (iv (P : Int))]) (n := 7) (Nat.le_of_ble_eq_true rfl)
  have hfr : entryFrame m args 7 = entryFrame m ([.int (iv D), .int (iv (P : Int))] : List Value).toArray 7 := by rw [hav]
  rw [hfr, lg_entry_eq]
  generalize (lg_sl ([.int (iv D), .int (iv (P : Int))]) ++ List.replicate (7 - (lg_sl ([.int (iv D), .int (iv (P : Int))])).length) Slot.unset).toArray = ls at hl ⊢
  have hl : lv_has ls 7 [(0, .int (iv D)), (1, .int (iv (P : Int)))] := hl
  generalize hQ : MQ below _ args s 0 0 (gA G) = Q
  show W p l e rm_c_X1_daysAgreeing s m args below meth c s.heap [] 0 0 Q (F0 m 0 ls [])
  obtain ⟨H, hHe⟩ : ∃ H, H = s.heap := ⟨_, rfl⟩
  obtain ⟨locs, hlo⟩ : ∃ q : List Loc, q = [] := ⟨_, rfl⟩
  have hH : gP G μ n H := by rw [hHe]; exact hH
  have hS : va_S (gA G) s.heap H locs := by rw [hHe, hlo]; exact hS
  suffices hgo : W p l e rm_c_X1_daysAgreeing s m args below meth c H locs 0 0 Q (F0 m 0 ls []) by rw [hHe, hlo] at hgo; exact hgo
  clear hHe hlo hfr hav
  refine j_const hx hb dX1_daysAgreeing_0 ?_
  refine lv_istore_n (lv' := [(2, .int (iv 0)), (0, .int (iv D)), (1, .int (iv (P : Int)))]) hx hb dX1_daysAgreeing_1 rfl hl (by decide) rfl (fun ls hl => ?_)
  refine j_const hx hb dX1_daysAgreeing_2 ?_
  refine lv_istore_n (lv' := [(3, .int (iv 0)), (2, .int (iv 0)), (0, .int (iv D)), (1, .int (iv (P : Int)))]) hx hb dX1_daysAgreeing_3 rfl hl (by decide) rfl (fun ls hl => ?_)
  refine j_const hx hb dX1_daysAgreeing_4 ?_
  refine lv_istore (lv' := [(4, .int (iv 0)), (3, .int (iv 0)), (2, .int (iv 0)), (0, .int (iv D)), (1, .int (iv (P : Int)))]) hx hb dX1_daysAgreeing_5 hl (by decide) rfl (fun ls hl => ?_)
  have lp7 : ∀ (fuel : Nat) (y : Int) (yc : Int) (lc : Int) (hy : 0 ≤ y ∧ y ≤ 100) (hyc : yc = ycn D P y.toNat) (hlc : lc = lyc D P y.toNat) (_ : (100 - y).toNat < fuel) (H : Heap) (locs : List Loc) (ls : Array Slot) (_ : gP G μ n H) (_ : va_S (gA G) s.heap H locs) (_ : lv_has ls 7 [(0, .int (iv D)), (1, .int (iv (P : Int))), (2, .int (iv yc)), (3, .int (iv lc)), (4, .int (iv y))]), W p l e rm_c_X1_daysAgreeing s m args below meth c H locs 0 0 Q (F0 m 7 ls []) := by
    intro fuel
    induction fuel with
    | zero => intro _ _ _ _ _ _ hfuel; exact absurd hfuel (Nat.not_lt_zero _)
    | succ fuel ih =>
      intro y yc lc hy hyc hlc hfuel H locs ls hH hS hl
      have ih1 := ih; clear ih
      refine lv_iload hx hb dX1_daysAgreeing_7 (lv_at hl 4 rfl) ?_
      refine j_bipush hx hb dX1_daysAgreeing_9 ?_ (by decide)
      refine j_icmp_ge (tgt := 49) hx hb dX1_daysAgreeing_11 (by decide) (fun c2 => ?_) (fun c2 => ?_) (by omega) (by omega)
      · skip
        have h100 : y.toNat = 100 := by omega
        rw [h100] at hyc hlc
        have hyb := ycn_rng D P 100
        refine j_const hx hb dX1_daysAgreeing_49 ?_
        refine lv_istore (lv' := [(4, .int (iv 0)), (0, .int (iv D)), (1, .int (iv (P : Int))), (2, .int (iv yc)), (3, .int (iv lc))]) hx hb dX1_daysAgreeing_50 hl (by decide) rfl (fun ls hl => ?_)
        refine j_const hx hb dX1_daysAgreeing_52 ?_
        refine lv_istore (lv' := [(5, .int (iv 1)), (4, .int (iv 0)), (0, .int (iv D)), (1, .int (iv (P : Int))), (2, .int (iv yc)), (3, .int (iv lc))]) hx hb dX1_daysAgreeing_53 hl (by decide) rfl (fun ls hl => ?_)
        have lp55 : ∀ (fuel : Nat) (k : Int) (dn : Int) (hkk : 1 ≤ k ∧ k ≤ 13) (hdn : dn = msm D P yc lc (k - 1).toNat) (_ : (13 - k).toNat < fuel) (H : Heap) (locs : List Loc) (ls : Array Slot) (_ : gP G μ n H) (_ : va_S (gA G) s.heap H locs) (_ : lv_has ls 7 [(0, .int (iv D)), (1, .int (iv (P : Int))), (2, .int (iv yc)), (3, .int (iv lc)), (4, .int (iv dn)), (5, .int (iv k))]), W p l e rm_c_X1_daysAgreeing s m args below meth c H locs 0 0 Q (F0 m 55 ls []) := by
          intro fuel
          induction fuel with
          | zero => intro _ _ _ _ hfuel; exact absurd hfuel (Nat.not_lt_zero _)
          | succ fuel ih =>
            intro k dn hkk hdn hfuel H locs ls hH hS hl
            have ih3 := ih; clear ih
            refine lv_iload hx hb dX1_daysAgreeing_55 (lv_at hl 5 rfl) ?_
            refine j_bipush hx hb dX1_daysAgreeing_57 ?_ (by decide)
            refine j_icmp_gt (tgt := 115) hx hb dX1_daysAgreeing_59 (by decide) (fun c4 => ?_) (fun c4 => ?_) (by omega) (by omega)
            · skip
              have hfin : dn = acnt D P 36525 := by
                rw [hdn, hyc, hlc, show (k - 1).toNat = 12 by omega, ← acnt_all 100 (by omega)]
                rfl
              have hac := acnt_rng D P 36525
              refine lv_iload hx hb dX1_daysAgreeing_115 (lv_at hl 4 rfl) ?_
              subst hQ
              refine m_iret hx hb hr hlocks hH hS dX1_daysAgreeing_117 ?_ (by omega)
              exact ⟨hfin, rfl, rfl⟩
            · skip
              refine lv_iload hx hb dX1_daysAgreeing_62 (lv_at hl 5 rfl) ?_
              refine lv_iload_n hx hb dX1_daysAgreeing_64 rfl (lv_at hl 0 rfl) ?_
              refine lv_iload_n hx hb dX1_daysAgreeing_65 rfl (lv_at hl 1 rfl) ?_
              refine m_callSi (As := [.int (iv k), .int (iv D), .int (iv (P : Int))]) (rest := []) ⟨hx, hb, hml, hown, hts⟩ hK hH hS (c_X1_daysOfMonthAgreeing l G μ n k D P (by omega) hD hP) (va_cwS 3 hts gX1_daysAgreeing_X1_daysOfMonthAgreeing rfl rfl rfl (by decide +kernel) ⟨(Nat.le_of_ble_eq_true rfl), (Nat.le_of_ble_eq_true rfl)⟩) rfl rfl hl.1 (Nat.le_of_ble_eq_true rfl) dX1_daysAgreeing_66 ⟨Nat.zero_le _, Nat.zero_le _⟩ (fun z8 μ5 n6 H locs hz8 hp7 hH hS => ?_)
              obtain ⟨hz2, hm2, hn2⟩ := hp7; rw [hz2]; rw [hm2, hn2] at hH; clear hz2 hm2 hn2
              have har := agm_rng D P k
              refine lv_istore (lv' := [(6, .int (iv (agm D P k))), (0, .int (iv D)), (1, .int (iv (P : Int))), (2, .int (iv yc)), (3, .int (iv lc)), (4, .int (iv dn)), (5, .int (iv k))]) hx hb dX1_daysAgreeing_69 hl (by decide) rfl (fun ls hl => ?_)
              refine lv_iload hx hb dX1_daysAgreeing_71 (lv_at hl 5 rfl) ?_
              refine lv_iload hx hb dX1_daysAgreeing_73 (lv_at hl 0 rfl) ?_
              refine lv_iload_n hx hb dX1_daysAgreeing_75 rfl (lv_at hl 3 rfl) ?_
              refine j_imul hx hb dX1_daysAgreeing_76 ?_
              refine j_iadd hx hb dX1_daysAgreeing_77 ?_
              refine lv_istore (lv' := [(4, .int (iv (dn + ((agm D P k) * yc)))), (6, .int (iv (agm D P k))), (0, .int (iv D)), (1, .int (iv (P : Int))), (2, .int (iv yc)), (3, .int (iv lc)), (5, .int (iv k))]) hx hb dX1_daysAgreeing_78 hl (by decide) rfl (fun ls hl => ?_)
              refine lv_iload hx hb dX1_daysAgreeing_80 (lv_at hl 6 rfl) ?_
              refine j_const hx hb dX1_daysAgreeing_82 ?_
              refine j_icmp_ne (tgt := 109) hx hb dX1_daysAgreeing_83 (by decide) (fun c9 => ?_) (fun c9 => ?_) (by omega) (by omega)
              · skip
                have hkn : (dn + ((agm D P k) * yc)) = msm D P yc lc (k + 1 - 1).toNat := by
                  rw [show (k + 1 - 1).toNat = (k - 1).toNat + 1 by omega]
                  show (dn + ((agm D P k) * yc)) = msm D P yc lc (k - 1).toNat + agm D P (((k - 1).toNat : Nat) + 1) * yc - (if (k - 1).toNat = 1 ∧ 0 < agm D P 2 ∧ pag 29 (D / 10000) P = 1 then yc - lc else 0)
                  rw [show (((k - 1).toNat : Nat) : Int) + 1 = k by omega, ← hdn]
                  by_cases c : (k - 1).toNat = 1 ∧ 0 < agm D P 2 ∧ pag 29 (D / 10000) P = 1
                  · have hk2 : k = 2 := by omega
                    subst hk2
                    rw [if_pos c] <;> omega
                  · rw [if_neg c]
                    by_cases c2 : k = 2
                    · subst c2
                      have c3 : ¬ (0 < agm D P 2 ∧ pag 29 (D / 10000) P = 1) := fun h => c ⟨rfl, h⟩
                      omega
                    · omega
                refine j_iinc (lv' := [(5, .int (iv (k + 1))), (4, .int (iv (dn + ((agm D P k) * yc)))), (6, .int (iv (agm D P k))), (0, .int (iv D)), (1, .int (iv (P : Int))), (2, .int (iv yc)), (3, .int (iv lc))]) hx hb dX1_daysAgreeing_109 hl (k := 6) rfl (by decide) rfl (fun ls hl => ?_)
                refine lv_goto (tgt := 55) hx hb dX1_daysAgreeing_112 (by decide) ?_
                exact ih3 (k + 1) (dn + ((agm D P k) * yc)) (by omega) hkn (by omega) H locs ls hH hS (lv_sub hl [3, 4, 5, 6, 1, 0] rfl)
              · skip
                refine lv_iload hx hb dX1_daysAgreeing_86 (lv_at hl 1 rfl) ?_
                refine j_if_le (tgt := 109) hx hb dX1_daysAgreeing_88 (by decide) (fun c10 => ?_) (fun c10 => ?_) (by omega)
                · skip
                  have hkn : (dn + ((agm D P k) * yc)) = msm D P yc lc (k + 1 - 1).toNat := by
                    rw [show (k + 1 - 1).toNat = (k - 1).toNat + 1 by omega]
                    show (dn + ((agm D P k) * yc)) = msm D P yc lc (k - 1).toNat + agm D P (((k - 1).toNat : Nat) + 1) * yc - (if (k - 1).toNat = 1 ∧ 0 < agm D P 2 ∧ pag 29 (D / 10000) P = 1 then yc - lc else 0)
                    rw [show (((k - 1).toNat : Nat) : Int) + 1 = k by omega, ← hdn]
                    by_cases c : (k - 1).toNat = 1 ∧ 0 < agm D P 2 ∧ pag 29 (D / 10000) P = 1
                    · have hk2 : k = 2 := by omega
                      subst hk2
                      rw [if_pos c] <;> omega
                    · rw [if_neg c]
                      by_cases c2 : k = 2
                      · subst c2
                        have c3 : ¬ (0 < agm D P 2 ∧ pag 29 (D / 10000) P = 1) := fun h => c ⟨rfl, h⟩
                        omega
                      · omega
                  refine j_iinc (lv' := [(5, .int (iv (k + 1))), (4, .int (iv (dn + ((agm D P k) * yc)))), (6, .int (iv (agm D P k))), (0, .int (iv D)), (1, .int (iv (P : Int))), (2, .int (iv yc)), (3, .int (iv lc))]) hx hb dX1_daysAgreeing_109 hl (k := 6) rfl (by decide) rfl (fun ls hl => ?_)
                  refine lv_goto (tgt := 55) hx hb dX1_daysAgreeing_112 (by decide) ?_
                  exact ih3 (k + 1) (dn + ((agm D P k) * yc)) (by omega) hkn (by omega) H locs ls hH hS (lv_sub hl [3, 4, 5, 6, 1, 0] rfl)
                · skip
                  refine j_bipush hx hb dX1_daysAgreeing_91 ?_ (by decide)
                  refine lv_iload_n hx hb dX1_daysAgreeing_93 rfl (lv_at hl 2 rfl) ?_
                  refine lv_iload_n hx hb dX1_daysAgreeing_94 rfl (lv_at hl 3 rfl) ?_
                  refine m_callSi (As := [.int (iv 29), .int (iv D), .int (iv (P : Int))]) (rest := []) ⟨hx, hb, hml, hown, hts⟩ hK hH hS (c_X1_dayAgrees l G μ n 29 D P (by omega) hD hP) (va_cwS 3 hts gX1_daysAgreeing_X1_dayAgrees rfl rfl rfl (by decide +kernel) ⟨(Nat.le_of_ble_eq_true rfl), (Nat.le_of_ble_eq_true rfl)⟩) rfl rfl hl.1 (Nat.le_of_ble_eq_true rfl) dX1_daysAgreeing_95 ⟨Nat.zero_le _, Nat.zero_le _⟩ (fun z14 μ11 n12 H locs hz14 hp13 hH hS => ?_)
                  obtain ⟨hz2, hm2, hn2⟩ := hp13; rw [hz2]; rw [hm2, hn2] at hH; clear hz2 hm2 hn2
                  have hp9 := pag_rng 29 (D / 10000) P
                  refine j_if_eq (tgt := 109) hx hb dX1_daysAgreeing_98 (by decide) (fun c15 => ?_) (fun c15 => ?_) (by omega)
                  · skip
                    have hkn : (dn + ((agm D P k) * yc)) = msm D P yc lc (k + 1 - 1).toNat := by
                      rw [show (k + 1 - 1).toNat = (k - 1).toNat + 1 by omega]
                      show (dn + ((agm D P k) * yc)) = msm D P yc lc (k - 1).toNat + agm D P (((k - 1).toNat : Nat) + 1) * yc - (if (k - 1).toNat = 1 ∧ 0 < agm D P 2 ∧ pag 29 (D / 10000) P = 1 then yc - lc else 0)
                      rw [show (((k - 1).toNat : Nat) : Int) + 1 = k by omega, ← hdn]
                      by_cases c : (k - 1).toNat = 1 ∧ 0 < agm D P 2 ∧ pag 29 (D / 10000) P = 1
                      · have hk2 : k = 2 := by omega
                        subst hk2
                        rw [if_pos c] <;> omega
                      · rw [if_neg c]
                        by_cases c2 : k = 2
                        · subst c2
                          have c3 : ¬ (0 < agm D P 2 ∧ pag 29 (D / 10000) P = 1) := fun h => c ⟨rfl, h⟩
                          omega
                        · omega
                    refine j_iinc (lv' := [(5, .int (iv (k + 1))), (4, .int (iv (dn + ((agm D P k) * yc)))), (6, .int (iv (agm D P k))), (0, .int (iv D)), (1, .int (iv (P : Int))), (2, .int (iv yc)), (3, .int (iv lc))]) hx hb dX1_daysAgreeing_109 hl (k := 6) rfl (by decide) rfl (fun ls hl => ?_)
                    refine lv_goto (tgt := 55) hx hb dX1_daysAgreeing_112 (by decide) ?_
                    exact ih3 (k + 1) (dn + ((agm D P k) * yc)) (by omega) hkn (by omega) H locs ls hH hS (lv_sub hl [3, 4, 5, 6, 1, 0] rfl)
                  · skip
                    refine lv_iload hx hb dX1_daysAgreeing_101 (lv_at hl 0 rfl) ?_
                    refine lv_iload_n hx hb dX1_daysAgreeing_103 rfl (lv_at hl 4 rfl) ?_
                    refine lv_iload_n hx hb dX1_daysAgreeing_104 rfl (lv_at hl 5 rfl) ?_
                    refine j_isub hx hb dX1_daysAgreeing_105 ?_
                    refine j_isub hx hb dX1_daysAgreeing_106 ?_
                    refine lv_istore (lv' := [(4, .int (iv ((dn + ((agm D P k) * yc)) - (yc - lc)))), (6, .int (iv (agm D P k))), (0, .int (iv D)), (1, .int (iv (P : Int))), (2, .int (iv yc)), (3, .int (iv lc)), (5, .int (iv k))]) hx hb dX1_daysAgreeing_107 hl (by decide) rfl (fun ls hl => ?_)
                    have hkn : ((dn + ((agm D P k) * yc)) - (yc - lc)) = msm D P yc lc (k + 1 - 1).toNat := by
                      rw [show (k + 1 - 1).toNat = (k - 1).toNat + 1 by omega]
                      show ((dn + ((agm D P k) * yc)) - (yc - lc)) = msm D P yc lc (k - 1).toNat + agm D P (((k - 1).toNat : Nat) + 1) * yc - (if (k - 1).toNat = 1 ∧ 0 < agm D P 2 ∧ pag 29 (D / 10000) P = 1 then yc - lc else 0)
                      rw [show (((k - 1).toNat : Nat) : Int) + 1 = k by omega, ← hdn]
                      by_cases c : (k - 1).toNat = 1 ∧ 0 < agm D P 2 ∧ pag 29 (D / 10000) P = 1
                      · have hk2 : k = 2 := by omega
                        subst hk2
                        rw [if_pos c] <;> omega
                      · rw [if_neg c]
                        by_cases c2 : k = 2
                        · subst c2
                          have c3 : ¬ (0 < agm D P 2 ∧ pag 29 (D / 10000) P = 1) := fun h => c ⟨rfl, h⟩
                          omega
                        · omega
                    refine j_iinc (lv' := [(5, .int (iv (k + 1))), (4, .int (iv ((dn + ((agm D P k) * yc)) - (yc - lc)))), (6, .int (iv (agm D P k))), (0, .int (iv D)), (1, .int (iv (P : Int))), (2, .int (iv yc)), (3, .int (iv lc))]) hx hb dX1_daysAgreeing_109 hl (k := 6) rfl (by decide) rfl (fun ls hl => ?_)
                    refine lv_goto (tgt := 55) hx hb dX1_daysAgreeing_112 (by decide) ?_
                    exact ih3 (k + 1) ((dn + ((agm D P k) * yc)) - (yc - lc)) (by omega) hkn (by omega) H locs ls hH hS (lv_sub hl [3, 4, 5, 6, 1, 0] rfl)
        exact lp55 (13) 1 0 (by omega) rfl (by omega) H locs ls hH hS (lv_sub hl [2, 3, 4, 5, 1, 0] rfl)
      · skip
        refine lv_iload hx hb dX1_daysAgreeing_14 (lv_at hl 4 rfl) ?_
        refine lv_iload_n hx hb dX1_daysAgreeing_16 rfl (lv_at hl 0 rfl) ?_
        refine lv_iload_n hx hb dX1_daysAgreeing_17 rfl (lv_at hl 1 rfl) ?_
        refine m_callSi (As := [.int (iv y), .int (iv D), .int (iv (P : Int))]) (rest := []) ⟨hx, hb, hml, hown, hts⟩ hK hH hS (c_X1_yearAgrees l G μ n y D P (by omega) hD hP) (va_cwS 3 hts gX1_daysAgreeing_X1_yearAgrees rfl rfl rfl (by decide +kernel) ⟨(Nat.le_of_ble_eq_true rfl), (Nat.le_of_ble_eq_true rfl)⟩) rfl rfl hl.1 (Nat.le_of_ble_eq_true rfl) dX1_daysAgreeing_18 ⟨Nat.zero_le _, Nat.zero_le _⟩ (fun z19 μ16 n17 H locs hz19 hp18 hH hS => ?_)
        obtain ⟨hz2, hm2, hn2⟩ := hp18; rw [hz2]; rw [hm2, hn2] at hH; clear hz2 hm2 hn2
        have hpy := pag_rng y (D % 100) (P / 16)
        have hyb := ycn_rng D P y.toNat
        refine j_if_eq (tgt := 43) hx hb dX1_daysAgreeing_21 (by decide) (fun c20 => ?_) (fun c20 => ?_) (by omega)
        · skip
          have hyn : yc = ycn D P (y + 1).toNat := by
            rw [show (y + 1).toNat = y.toNat + 1 by omega]
            show yc = ycn D P y.toNat + pag ((y.toNat : Nat) : Int) (D % 100) (P / 16)
            rw [show ((y.toNat : Nat) : Int) = y by omega]
            omega
          have hln : lc = lyc D P (y + 1).toNat := by
            rw [show (y + 1).toNat = y.toNat + 1 by omega]
            show lc = lyc D P y.toNat + (if pag ((y.toNat : Nat) : Int) (D % 100) (P / 16) = 1 ∧ ((y.toNat : Nat) : Int) % 4 = 0 then 1 else 0)
            rw [show ((y.toNat : Nat) : Int) = y by omega]
            split <;> omega
          refine j_iinc (lv' := [(4, .int (iv (y + 1))), (0, .int (iv D)), (1, .int (iv (P : Int))), (2, .int (iv yc)), (3, .int (iv lc))]) hx hb dX1_daysAgreeing_43 hl (k := 4) rfl (by decide) rfl (fun ls hl => ?_)
          refine lv_goto (tgt := 7) hx hb dX1_daysAgreeing_46 (by decide) ?_
          exact ih1 (y + 1) yc lc (by omega) hyn hln (by omega) H locs ls hH hS (lv_sub hl [1, 2, 3, 4, 0] rfl)
        · skip
          refine j_iinc (lv' := [(2, .int (iv (yc + 1))), (0, .int (iv D)), (1, .int (iv (P : Int))), (3, .int (iv lc)), (4, .int (iv y))]) hx hb dX1_daysAgreeing_24 hl (k := 2) rfl (by decide) rfl (fun ls hl => ?_)
          refine lv_iload_n hx hb dX1_daysAgreeing_27 rfl (lv_at hl 3 rfl) ?_
          refine lv_iload hx hb dX1_daysAgreeing_28 (lv_at hl 4 rfl) ?_
          refine m_callSi (As := [.int (iv y)]) (rest := [.int (iv lc)]) ⟨hx, hb, hml, hown, hts⟩ hK hH hS (c_X1_isLeap l G μ n y (by omega)) (va_cwS 1 hts gX1_daysAgreeing_X1_isLeap rfl rfl rfl (by decide +kernel) ⟨(Nat.le_of_ble_eq_true rfl), (Nat.le_of_ble_eq_true rfl)⟩) rfl rfl hl.1 (Nat.le_of_ble_eq_true rfl) dX1_daysAgreeing_30 ⟨Nat.zero_le _, Nat.zero_le _⟩ (fun z24 μ21 n22 H locs hz24 hp23 hH hS => ?_)
          obtain ⟨hz2, hm2, hn2⟩ := hp23; rw [hz2]; rw [hm2, hn2] at hH; clear hz2 hm2 hn2
          refine j_if_eq (tgt := 40) hx hb dX1_daysAgreeing_33 (by decide) (fun c25 => ?_) (fun c25 => ?_) (by omega)
          · skip
            refine j_const hx hb dX1_daysAgreeing_40 ?_
            refine j_iadd hx hb dX1_daysAgreeing_41 ?_
            refine lv_istore_n (lv' := [(3, .int (iv (lc + 0))), (2, .int (iv (yc + 1))), (0, .int (iv D)), (1, .int (iv (P : Int))), (4, .int (iv y))]) hx hb dX1_daysAgreeing_42 rfl hl (by decide) rfl (fun ls hl => ?_)
            have hyn : (yc + 1) = ycn D P (y + 1).toNat := by
              rw [show (y + 1).toNat = y.toNat + 1 by omega]
              show (yc + 1) = ycn D P y.toNat + pag ((y.toNat : Nat) : Int) (D % 100) (P / 16)
              rw [show ((y.toNat : Nat) : Int) = y by omega]
              omega
            have hln : (lc + 0) = lyc D P (y + 1).toNat := by
              rw [show (y + 1).toNat = y.toNat + 1 by omega]
              show (lc + 0) = lyc D P y.toNat + (if pag ((y.toNat : Nat) : Int) (D % 100) (P / 16) = 1 ∧ ((y.toNat : Nat) : Int) % 4 = 0 then 1 else 0)
              rw [show ((y.toNat : Nat) : Int) = y by omega]
              split <;> omega
            refine j_iinc (lv' := [(4, .int (iv (y + 1))), (3, .int (iv (lc + 0))), (2, .int (iv (yc + 1))), (0, .int (iv D)), (1, .int (iv (P : Int)))]) hx hb dX1_daysAgreeing_43 hl (k := 4) rfl (by decide) rfl (fun ls hl => ?_)
            refine lv_goto (tgt := 7) hx hb dX1_daysAgreeing_46 (by decide) ?_
            exact ih1 (y + 1) (yc + 1) (lc + 0) (by omega) hyn hln (by omega) H locs ls hH hS (lv_sub hl [3, 4, 2, 1, 0] rfl)
          · skip
            refine j_const hx hb dX1_daysAgreeing_36 ?_
            refine lv_goto (tgt := 41) hx hb dX1_daysAgreeing_37 (by decide) ?_
            refine j_iadd hx hb dX1_daysAgreeing_41 ?_
            refine lv_istore_n (lv' := [(3, .int (iv (lc + 1))), (2, .int (iv (yc + 1))), (0, .int (iv D)), (1, .int (iv (P : Int))), (4, .int (iv y))]) hx hb dX1_daysAgreeing_42 rfl hl (by decide) rfl (fun ls hl => ?_)
            have hyn : (yc + 1) = ycn D P (y + 1).toNat := by
              rw [show (y + 1).toNat = y.toNat + 1 by omega]
              show (yc + 1) = ycn D P y.toNat + pag ((y.toNat : Nat) : Int) (D % 100) (P / 16)
              rw [show ((y.toNat : Nat) : Int) = y by omega]
              omega
            have hln : (lc + 1) = lyc D P (y + 1).toNat := by
              rw [show (y + 1).toNat = y.toNat + 1 by omega]
              show (lc + 1) = lyc D P y.toNat + (if pag ((y.toNat : Nat) : Int) (D % 100) (P / 16) = 1 ∧ ((y.toNat : Nat) : Int) % 4 = 0 then 1 else 0)
              rw [show ((y.toNat : Nat) : Int) = y by omega]
              split <;> omega
            refine j_iinc (lv' := [(4, .int (iv (y + 1))), (3, .int (iv (lc + 1))), (2, .int (iv (yc + 1))), (0, .int (iv D)), (1, .int (iv (P : Int)))]) hx hb dX1_daysAgreeing_43 hl (k := 4) rfl (by decide) rfl (fun ls hl => ?_)
            refine lv_goto (tgt := 7) hx hb dX1_daysAgreeing_46 (by decide) ?_
            exact ih1 (y + 1) (yc + 1) (lc + 1) (by omega) hyn hln (by omega) H locs ls hH hS (lv_sub hl [3, 4, 2, 1, 0] rfl)
  exact lp7 (101) 0 0 0 (by omega) rfl rfl (by omega) H locs ls hH hS (lv_sub hl [3, 4, 2, 1, 0] rfl)

abbrev rm_c_X1_firstAgreeingOf : Room := { frames := 3, cells := 0, slots := 0, locals := 66 }
set_option maxHeartbeats 4000000 in
set_option maxRecDepth 100000 in
theorem c_X1_firstAgreeingOf (l : Launch) (G : wG) (μ : hM) (n : Nat) (y D : Int) (P : Nat) (hy : 0 ≤ y ∧ y ≤ 99) (hD : 0 ≤ D ∧ D ≤ 999999) (hP : P < 64) (hpy : pag y (D % 100) (P / 16) = 1) (hbe : ∀ j : Nat, (j : Int) < ystart y → agx D P j = 0) : Met l yX1_firstAgreeingOf wsX1_firstAgreeingOf rm_c_X1_firstAgreeingOf (mPc G μ n [.int (iv y), .int (iv D), .int (iv (P : Int))]) (mQi G (fun z μ1 n1 => ((z = -5 ∧ ∀ j : Nat, (j : Int) < ystart (y + 1) → agx D P j = 0) ∨ (0 ≤ z ∧ z = afst D P 36525)) ∧ μ1 = μ ∧ n1 = n)) 0 0 (gA G) := by
  refine Met.ofW (cc := cX1_firstAgreeingOf) (maxL := 6) (ret := (some .int)) (by decide) rfl ?_
  intro p e s m args below meth c s₁ B hml hv
  obtain ⟨hav, hK, hH⟩ := hv
  have hx := B.exec
  have hb := B.bytes
  have hr := B.returns
  have hts := atoms_spec (ws := wsX1_firstAgreeingOf) B.pre
  have hown : s.vm.findClass RX1 = some m.cls := findClass_of_methodNamed B.named
  have hlocks := B.notSynchronized
  have hS : va_S (gA G) s.heap s.heap [] := va_S.rf
  have hl := lv_entry ([.int (iv y), .int (iv D), .int (iv (P : Int))]) (n := 6) (Nat.le_of_ble_eq_true rfl)
  have hfr : entryFrame m args 6 = entryFrame m ([.int (iv y), .int (iv D), .int (iv (P : Int))] : List Value).toArray 6 := by rw [hav]
  rw [hfr, lg_entry_eq]
  generalize (lg_sl ([.int (iv y), .int (iv D), .int (iv (P : Int))]) ++ List.replicate (6 - (lg_sl ([.int (iv y), .int (iv D), .int (iv (P : Int))])).length) Slot.unset).toArray = ls at hl ⊢
  have hl : lv_has ls 6 [(0, .int (iv y)), (1, .int (iv D)), (2, .int (iv (P : Int)))] := hl
  generalize hQ : MQ below _ args s 0 0 (gA G) = Q
  show W p l e rm_c_X1_firstAgreeingOf s m args below meth c s.heap [] 0 0 Q (F0 m 0 ls [])
  obtain ⟨H, hHe⟩ : ∃ H, H = s.heap := ⟨_, rfl⟩
  obtain ⟨locs, hlo⟩ : ∃ q : List Loc, q = [] := ⟨_, rfl⟩
  have hH : gP G μ n H := by rw [hHe]; exact hH
  have hS : va_S (gA G) s.heap H locs := by rw [hHe, hlo]; exact hS
  suffices hgo : W p l e rm_c_X1_firstAgreeingOf s m args below meth c H locs 0 0 Q (F0 m 0 ls []) by rw [hHe, hlo] at hgo; exact hgo
  clear hHe hlo hfr hav
  refine j_const hx hb dX1_firstAgreeingOf_0 ?_
  refine lv_istore_n (lv' := [(3, .int (iv 1)), (0, .int (iv y)), (1, .int (iv D)), (2, .int (iv (P : Int)))]) hx hb dX1_firstAgreeingOf_1 rfl hl (by decide) rfl (fun ls hl => ?_)
  have lp2 : ∀ (fuel : Nat) (k : Int) (hkk : 1 ≤ k ∧ k ≤ 13) (hno : ∀ j : Nat, (j : Int) < ystart y + cum k y → agx D P j = 0) (_ : (13 - k).toNat < fuel) (H : Heap) (locs : List Loc) (ls : Array Slot) (_ : gP G μ n H) (_ : va_S (gA G) s.heap H locs) (_ : lv_has ls 6 [(0, .int (iv y)), (1, .int (iv D)), (2, .int (iv (P : Int))), (3, .int (iv k))]), W p l e rm_c_X1_firstAgreeingOf s m args below meth c H locs 0 0 Q (F0 m 2 ls []) := by
    intro fuel
    induction fuel with
    | zero => intro _ _ _ hfuel; exact absurd hfuel (Nat.not_lt_zero _)
    | succ fuel ih =>
      intro k hkk hno hfuel H locs ls hH hS hl
      have ih1 := ih; clear ih
      refine lv_iload_n hx hb dX1_firstAgreeingOf_2 rfl (lv_at hl 3 rfl) ?_
      refine j_bipush hx hb dX1_firstAgreeingOf_3 ?_ (by decide)
      refine j_icmp_gt (tgt := 77) hx hb dX1_firstAgreeingOf_5 (by decide) (fun c2 => ?_) (fun c2 => ?_) (by omega) (by omega)
      · skip
        refine j_bipush hx hb dX1_firstAgreeingOf_77 ?_ (by decide)
        subst hQ
        refine m_iret hx hb hr hlocks hH hS dX1_firstAgreeingOf_79 ?_ (by omega)
        exact ⟨Or.inl ⟨rfl, fun j hj => hno j (by rw [ystart_s] at hj; rw [show k = 13 by omega]; exact hj)⟩, rfl, rfl⟩
      · skip
        have hpm := pag_rng k (D / 100 % 100) (P / 4)
        have hmr := mlen_rng k y
        have hcl := clen_m (m := k) (by omega) y
        have hcu := cum13 (y := y) (m := k) (by omega)
        have hcs := cum_s (m := k) (by omega) y
        have hys : 0 ≤ ystart y ∧ ystart (y + 1) ≤ 36525 := by unfold ystart; omega
        have hyz := ystart_s y
        rw [cum_13] at hyz
        refine lv_iload_n hx hb dX1_firstAgreeingOf_8 rfl (lv_at hl 3 rfl) ?_
        refine lv_iload_n hx hb dX1_firstAgreeingOf_9 rfl (lv_at hl 1 rfl) ?_
        refine lv_iload_n hx hb dX1_firstAgreeingOf_10 rfl (lv_at hl 2 rfl) ?_
        refine m_callSi (As := [.int (iv k), .int (iv D), .int (iv (P : Int))]) (rest := []) ⟨hx, hb, hml, hown, hts⟩ hK hH hS (c_X1_monthAgrees l G μ n k D P (by omega) hD hP) (va_cwS 3 hts gX1_firstAgreeingOf_X1_monthAgrees rfl rfl rfl (by decide +kernel) ⟨(Nat.le_of_ble_eq_true rfl), (Nat.le_of_ble_eq_true rfl)⟩) rfl rfl hl.1 (Nat.le_of_ble_eq_true rfl) dX1_firstAgreeingOf_11 ⟨Nat.zero_le _, Nat.zero_le _⟩ (fun z6 μ3 n4 H locs hz6 hp5 hH hS => ?_)
        obtain ⟨hz2, hm2, hn2⟩ := hp5; rw [hz2]; rw [hm2, hn2] at hH; clear hz2 hm2 hn2
        refine j_if_eq (tgt := 25) hx hb dX1_firstAgreeingOf_14 (by decide) (fun c7 => ?_) (fun c7 => ?_) (by omega)
        · skip
          refine j_const hx hb dX1_firstAgreeingOf_25 ?_
          refine lv_istore (lv' := [(4, .int (iv 0)), (0, .int (iv y)), (1, .int (iv D)), (2, .int (iv (P : Int))), (3, .int (iv k))]) hx hb dX1_firstAgreeingOf_26 hl (by decide) rfl (fun ls hl => ?_)
          have hdl0 : 0 = if pag k (D / 100 % 100) (P / 4) = 1 then mlen k y else 0 := by split <;> omega
          refine j_const hx hb dX1_firstAgreeingOf_28 ?_
          refine lv_istore (lv' := [(5, .int (iv 1)), (4, .int (iv 0)), (0, .int (iv y)), (1, .int (iv D)), (2, .int (iv (P : Int))), (3, .int (iv k))]) hx hb dX1_firstAgreeingOf_29 hl (by decide) rfl (fun ls hl => ?_)
          have lp31 : ∀ (fuel : Nat) (dm : Int) (dl : Int) (hdl : dl = if pag k (D / 100 % 100) (P / 4) = 1 then mlen k y else 0) (hdm : 1 ≤ dm ∧ dm ≤ dl + 1) (hnd : ∀ j : Nat, (j : Int) < ystart y + cum k y + (dm - 1) → agx D P j = 0) (_ : (32 - dm).toNat < fuel) (H : Heap) (locs : List Loc) (ls : Array Slot) (_ : gP G μ n H) (_ : va_S (gA G) s.heap H locs) (_ : lv_has ls 6 [(0, .int (iv y)), (1, .int (iv D)), (2, .int (iv (P : Int))), (3, .int (iv k)), (4, .int (iv dl)), (5, .int (iv dm))]), W p l e rm_c_X1_firstAgreeingOf s m args below meth c H locs 0 0 Q (F0 m 31 ls []) := by
            intro fuel
            induction fuel with
            | zero => intro _ _ _ _ _ hfuel; exact absurd hfuel (Nat.not_lt_zero _)
            | succ fuel ih =>
              intro dm dl hdl hdm hnd hfuel H locs ls hH hS hl
              have ih8 := ih; clear ih
              refine lv_iload hx hb dX1_firstAgreeingOf_31 (lv_at hl 5 rfl) ?_
              refine lv_iload hx hb dX1_firstAgreeingOf_33 (lv_at hl 4 rfl) ?_
              refine j_icmp_gt (tgt := 71) hx hb dX1_firstAgreeingOf_35 (by decide) (fun c9 => ?_) (fun c9 => ?_) (by omega) (by omega)
              · skip
                have hnk : ∀ j : Nat, (j : Int) < ystart y + cum (k + 1) y → agx D P j = 0 := by
                  intro j hj
                  by_cases q : (j : Int) < ystart y + cum k y + (dm - 1)
                  · exact hnd j q
                  · split at hdl
                    · omega
                    · rename_i q2
                      have ha := agx_at (D := D) (P := P) hy (m := k) (by omega) (d := (j : Int) - (ystart y + cum k y) + 1) (by omega)
                      rw [show ystart y + cum k y + ((j : Int) - (ystart y + cum k y) + 1) - 1 = j by omega] at ha
                      rw [ha, if_neg (fun h => q2 h.2.1)]
                refine j_iinc (lv' := [(3, .int (iv (k + 1))), (0, .int (iv y)), (1, .int (iv D)), (2, .int (iv (P : Int))), (4, .int (iv dl)), (5, .int (iv dm))]) hx hb dX1_firstAgreeingOf_71 hl (k := 3) rfl (by decide) rfl (fun ls hl => ?_)
                refine lv_goto (tgt := 2) hx hb dX1_firstAgreeingOf_74 (by decide) ?_
                exact ih1 (k + 1) (by omega) hnk (by omega) H locs ls hH hS (lv_sub hl [1, 2, 3, 0] rfl)
              · skip
                have hpk : pag k (D / 100 % 100) (P / 4) = 1 ∧ dl = mlen k y := by split at hdl <;> omega
                have hat := agx_at (D := D) (P := P) hy (m := k) (by omega) (d := dm) (by omega)
                refine lv_iload hx hb dX1_firstAgreeingOf_38 (lv_at hl 5 rfl) ?_
                refine lv_iload_n hx hb dX1_firstAgreeingOf_40 rfl (lv_at hl 1 rfl) ?_
                refine lv_iload_n hx hb dX1_firstAgreeingOf_41 rfl (lv_at hl 2 rfl) ?_
                refine m_callSi (As := [.int (iv dm), .int (iv D), .int (iv (P : Int))]) (rest := []) ⟨hx, hb, hml, hown, hts⟩ hK hH hS (c_X1_dayAgrees l G μ n dm D P (by omega) hD hP) (va_cwS 3 hts gX1_firstAgreeingOf_X1_dayAgrees rfl rfl rfl (by decide +kernel) ⟨(Nat.le_of_ble_eq_true rfl), (Nat.le_of_ble_eq_true rfl)⟩) rfl rfl hl.1 (Nat.le_of_ble_eq_true rfl) dX1_firstAgreeingOf_42 ⟨Nat.zero_le _, Nat.zero_le _⟩ (fun z13 μ10 n11 H locs hz13 hp12 hH hS => ?_)
                obtain ⟨hz2, hm2, hn2⟩ := hp12; rw [hz2]; rw [hm2, hn2] at hH; clear hz2 hm2 hn2
                have hpd := pag_rng dm (D / 10000) P
                refine j_if_eq (tgt := 65) hx hb dX1_firstAgreeingOf_45 (by decide) (fun c14 => ?_) (fun c14 => ?_) (by omega)
                · skip
                  have hdn : ∀ j : Nat, (j : Int) < ystart y + cum k y + (dm + 1 - 1) → agx D P j = 0 := by
                    intro j hj
                    by_cases q : (j : Int) < ystart y + cum k y + (dm - 1)
                    · exact hnd j q
                    · rw [show (j : Int) = ystart y + cum k y + dm - 1 by omega, hat, if_neg (fun h => absurd h.1 (by omega))]
                  refine j_iinc (lv' := [(5, .int (iv (dm + 1))), (0, .int (iv y)), (1, .int (iv D)), (2, .int (iv (P : Int))), (3, .int (iv k)), (4, .int (iv dl))]) hx hb dX1_firstAgreeingOf_65 hl (k := 5) rfl (by decide) rfl (fun ls hl => ?_)
                  refine lv_goto (tgt := 31) hx hb dX1_firstAgreeingOf_68 (by decide) ?_
                  exact ih8 (dm + 1) dl (by omega) (by omega) hdn (by omega) H locs ls hH hS (lv_sub hl [1, 2, 3, 4, 5, 0] rfl)
                · skip
                  have hx1 : agx D P (ystart y + cum k y + dm - 1) = 1 := by rw [hat, if_pos ⟨by omega, hpk.1, hpy⟩]
                  have hfs := afst_y (D := D) (P := P) (x := (ystart y + cum k y + dm - 1).toNat) (fun j hj => hnd j (by omega)) (by rw [show (((ystart y + cum k y + dm - 1).toNat : Nat) : Int) = ystart y + cum k y + dm - 1 by omega]; exact hx1) 36525 (by omega)
                  have hdd : dday (10000 * dm + 100 * k + y) = ystart y + cum k y + dm - 1 := by
                    unfold dday
                    rw [show (10000 * dm + 100 * k + y) / 100 % 100 = k by omega, show (10000 * dm + 100 * k + y) / 10000 = dm by omega, show (10000 * dm + 100 * k + y) % 100 = y by omega, if_pos (by omega)]
                  refine j_sipush hx hb dX1_firstAgreeingOf_48 ?_ (by decide)
                  refine lv_iload hx hb dX1_firstAgreeingOf_51 (lv_at hl 5 rfl) ?_
                  refine j_imul hx hb dX1_firstAgreeingOf_53 ?_
                  refine j_bipush hx hb dX1_firstAgreeingOf_54 ?_ (by decide)
                  refine lv_iload_n hx hb dX1_firstAgreeingOf_56 rfl (lv_at hl 3 rfl) ?_
                  refine j_imul hx hb dX1_firstAgreeingOf_57 ?_
                  refine j_iadd hx hb dX1_firstAgreeingOf_58 ?_
                  refine lv_iload_n hx hb dX1_firstAgreeingOf_59 rfl (lv_at hl 0 rfl) ?_
                  refine j_iadd hx hb dX1_firstAgreeingOf_60 ?_
                  refine m_callSi (As := [.int (iv (((10000 * dm) + (100 * k)) + y))]) (rest := []) ⟨hx, hb, hml, hown, hts⟩ hK hH hS (c_X1_dayOf l G μ n (((10000 * dm) + (100 * k)) + y) (by omega)) (va_cwS 1 hts gX1_firstAgreeingOf_X1_dayOf rfl rfl rfl (by decide +kernel) ⟨(Nat.le_of_ble_eq_true rfl), (Nat.le_of_ble_eq_true rfl)⟩) rfl rfl hl.1 (Nat.le_of_ble_eq_true rfl) dX1_firstAgreeingOf_61 ⟨Nat.zero_le _, Nat.zero_le _⟩ (fun z18 μ15 n16 H locs hz18 hp17 hH hS => ?_)
                  obtain ⟨hz2, hm2, hn2⟩ := hp17; rw [hz2]; rw [hm2, hn2] at hH; clear hz2 hm2 hn2
                  subst hQ
                  refine m_iret hx hb hr hlocks hH hS dX1_firstAgreeingOf_64 ?_ (by omega)
                  exact ⟨Or.inr ⟨by omega, by omega⟩, rfl, rfl⟩
          exact lp31 (32) 1 0 hdl0 (by omega) (fun j hj => hno j (by omega)) (by omega) H locs ls hH hS (lv_sub hl [2, 3, 4, 5, 1, 0] rfl)
        · skip
          refine lv_iload_n hx hb dX1_firstAgreeingOf_17 rfl (lv_at hl 3 rfl) ?_
          refine lv_iload_n hx hb dX1_firstAgreeingOf_18 rfl (lv_at hl 0 rfl) ?_
          refine m_callSi (As := [.int (iv k), .int (iv y)]) (rest := []) ⟨hx, hb, hml, hown, hts⟩ hK hH hS (c_X1_daysOf l G μ n k y (by omega) (by omega)) (va_cwS 2 hts gX1_firstAgreeingOf_X1_daysOf rfl rfl rfl (by decide +kernel) ⟨(Nat.le_of_ble_eq_true rfl), (Nat.le_of_ble_eq_true rfl)⟩) rfl rfl hl.1 (Nat.le_of_ble_eq_true rfl) dX1_firstAgreeingOf_19 ⟨Nat.zero_le _, Nat.zero_le _⟩ (fun z22 μ19 n20 H locs hz22 hp21 hH hS => ?_)
          obtain ⟨hz2, hm2, hn2⟩ := hp21; rw [hz2]; rw [hm2, hn2] at hH; clear hz2 hm2 hn2
          refine lv_goto (tgt := 26) hx hb dX1_firstAgreeingOf_22 (by decide) ?_
          refine lv_istore (lv' := [(4, .int (iv (clen k y))), (0, .int (iv y)), (1, .int (iv D)), (2, .int (iv (P : Int))), (3, .int (iv k))]) hx hb dX1_firstAgreeingOf_26 hl (by decide) rfl (fun ls hl => ?_)
          have hdl0 : (clen k y) = if pag k (D / 100 % 100) (P / 4) = 1 then mlen k y else 0 := by split <;> omega
          refine j_const hx hb dX1_firstAgreeingOf_28 ?_
          refine lv_istore (lv' := [(5, .int (iv 1)), (4, .int (iv (clen k y))), (0, .int (iv y)), (1, .int (iv D)), (2, .int (iv (P : Int))), (3, .int (iv k))]) hx hb dX1_firstAgreeingOf_29 hl (by decide) rfl (fun ls hl => ?_)
          have lp31 : ∀ (fuel : Nat) (dm : Int) (dl : Int) (hdl : dl = if pag k (D / 100 % 100) (P / 4) = 1 then mlen k y else 0) (hdm : 1 ≤ dm ∧ dm ≤ dl + 1) (hnd : ∀ j : Nat, (j : Int) < ystart y + cum k y + (dm - 1) → agx D P j = 0) (_ : (32 - dm).toNat < fuel) (H : Heap) (locs : List Loc) (ls : Array Slot) (_ : gP G μ n H) (_ : va_S (gA G) s.heap H locs) (_ : lv_has ls 6 [(0, .int (iv y)), (1, .int (iv D)), (2, .int (iv (P : Int))), (3, .int (iv k)), (4, .int (iv dl)), (5, .int (iv dm))]), W p l e rm_c_X1_firstAgreeingOf s m args below meth c H locs 0 0 Q (F0 m 31 ls []) := by
            intro fuel
            induction fuel with
            | zero => intro _ _ _ _ _ hfuel; exact absurd hfuel (Nat.not_lt_zero _)
            | succ fuel ih =>
              intro dm dl hdl hdm hnd hfuel H locs ls hH hS hl
              have ih23 := ih; clear ih
              refine lv_iload hx hb dX1_firstAgreeingOf_31 (lv_at hl 5 rfl) ?_
              refine lv_iload hx hb dX1_firstAgreeingOf_33 (lv_at hl 4 rfl) ?_
              refine j_icmp_gt (tgt := 71) hx hb dX1_firstAgreeingOf_35 (by decide) (fun c24 => ?_) (fun c24 => ?_) (by omega) (by omega)
              · skip
                have hnk : ∀ j : Nat, (j : Int) < ystart y + cum (k + 1) y → agx D P j = 0 := by
                  intro j hj
                  by_cases q : (j : Int) < ystart y + cum k y + (dm - 1)
                  · exact hnd j q
                  · split at hdl
                    · omega
                    · rename_i q2
                      have ha := agx_at (D := D) (P := P) hy (m := k) (by omega) (d := (j : Int) - (ystart y + cum k y) + 1) (by omega)
                      rw [show ystart y + cum k y + ((j : Int) - (ystart y + cum k y) + 1) - 1 = j by omega] at ha
                      rw [ha, if_neg (fun h => q2 h.2.1)]
                refine j_iinc (lv' := [(3, .int (iv (k + 1))), (0, .int (iv y)), (1, .int (iv D)), (2, .int (iv (P : Int))), (4, .int (iv dl)), (5, .int (iv dm))]) hx hb dX1_firstAgreeingOf_71 hl (k := 3) rfl (by decide) rfl (fun ls hl => ?_)
                refine lv_goto (tgt := 2) hx hb dX1_firstAgreeingOf_74 (by decide) ?_
                exact ih1 (k + 1) (by omega) hnk (by omega) H locs ls hH hS (lv_sub hl [1, 2, 3, 0] rfl)
              · skip
                have hpk : pag k (D / 100 % 100) (P / 4) = 1 ∧ dl = mlen k y := by split at hdl <;> omega
                have hat := agx_at (D := D) (P := P) hy (m := k) (by omega) (d := dm) (by omega)
                refine lv_iload hx hb dX1_firstAgreeingOf_38 (lv_at hl 5 rfl) ?_
                refine lv_iload_n hx hb dX1_firstAgreeingOf_40 rfl (lv_at hl 1 rfl) ?_
                refine lv_iload_n hx hb dX1_firstAgreeingOf_41 rfl (lv_at hl 2 rfl) ?_
                refine m_callSi (As := [.int (iv dm), .int (iv D), .int (iv (P : Int))]) (rest := []) ⟨hx, hb, hml, hown, hts⟩ hK hH hS (c_X1_dayAgrees l G μ n dm D P (by omega) hD hP) (va_cwS 3 hts gX1_firstAgreeingOf_X1_dayAgrees rfl rfl rfl (by decide +kernel) ⟨(Nat.le_of_ble_eq_true rfl), (Nat.le_of_ble_eq_true rfl)⟩) rfl rfl hl.1 (Nat.le_of_ble_eq_true rfl) dX1_firstAgreeingOf_42 ⟨Nat.zero_le _, Nat.zero_le _⟩ (fun z28 μ25 n26 H locs hz28 hp27 hH hS => ?_)
                obtain ⟨hz2, hm2, hn2⟩ := hp27; rw [hz2]; rw [hm2, hn2] at hH; clear hz2 hm2 hn2
                have hpd := pag_rng dm (D / 10000) P
                refine j_if_eq (tgt := 65) hx hb dX1_firstAgreeingOf_45 (by decide) (fun c29 => ?_) (fun c29 => ?_) (by omega)
                · skip
                  have hdn : ∀ j : Nat, (j : Int) < ystart y + cum k y + (dm + 1 - 1) → agx D P j = 0 := by
                    intro j hj
                    by_cases q : (j : Int) < ystart y + cum k y + (dm - 1)
                    · exact hnd j q
                    · rw [show (j : Int) = ystart y + cum k y + dm - 1 by omega, hat, if_neg (fun h => absurd h.1 (by omega))]
                  refine j_iinc (lv' := [(5, .int (iv (dm + 1))), (0, .int (iv y)), (1, .int (iv D)), (2, .int (iv (P : Int))), (3, .int (iv k)), (4, .int (iv dl))]) hx hb dX1_firstAgreeingOf_65 hl (k := 5) rfl (by decide) rfl (fun ls hl => ?_)
                  refine lv_goto (tgt := 31) hx hb dX1_firstAgreeingOf_68 (by decide) ?_
                  exact ih23 (dm + 1) dl (by omega) (by omega) hdn (by omega) H locs ls hH hS (lv_sub hl [1, 2, 3, 4, 5, 0] rfl)
                · skip
                  have hx1 : agx D P (ystart y + cum k y + dm - 1) = 1 := by rw [hat, if_pos ⟨by omega, hpk.1, hpy⟩]
                  have hfs := afst_y (D := D) (P := P) (x := (ystart y + cum k y + dm - 1).toNat) (fun j hj => hnd j (by omega)) (by rw [show (((ystart y + cum k y + dm - 1).toNat : Nat) : Int) = ystart y + cum k y + dm - 1 by omega]; exact hx1) 36525 (by omega)
                  have hdd : dday (10000 * dm + 100 * k + y) = ystart y + cum k y + dm - 1 := by
                    unfold dday
                    rw [show (10000 * dm + 100 * k + y) / 100 % 100 = k by omega, show (10000 * dm + 100 * k + y) / 10000 = dm by omega, show (10000 * dm + 100 * k + y) % 100 = y by omega, if_pos (by omega)]
                  refine j_sipush hx hb dX1_firstAgreeingOf_48 ?_ (by decide)
                  refine lv_iload hx hb dX1_firstAgreeingOf_51 (lv_at hl 5 rfl) ?_
                  refine j_imul hx hb dX1_firstAgreeingOf_53 ?_
                  refine j_bipush hx hb dX1_firstAgreeingOf_54 ?_ (by decide)
                  refine lv_iload_n hx hb dX1_firstAgreeingOf_56 rfl (lv_at hl 3 rfl) ?_
                  refine j_imul hx hb dX1_firstAgreeingOf_57 ?_
                  refine j_iadd hx hb dX1_firstAgreeingOf_58 ?_
                  refine lv_iload_n hx hb dX1_firstAgreeingOf_59 rfl (lv_at hl 0 rfl) ?_
                  refine j_iadd hx hb dX1_firstAgreeingOf_60 ?_
                  refine m_callSi (As := [.int (iv (((10000 * dm) + (100 * k)) + y))]) (rest := []) ⟨hx, hb, hml, hown, hts⟩ hK hH hS (c_X1_dayOf l G μ n (((10000 * dm) + (100 * k)) + y) (by omega)) (va_cwS 1 hts gX1_firstAgreeingOf_X1_dayOf rfl rfl rfl (by decide +kernel) ⟨(Nat.le_of_ble_eq_true rfl), (Nat.le_of_ble_eq_true rfl)⟩) rfl rfl hl.1 (Nat.le_of_ble_eq_true rfl) dX1_firstAgreeingOf_61 ⟨Nat.zero_le _, Nat.zero_le _⟩ (fun z33 μ30 n31 H locs hz33 hp32 hH hS => ?_)
                  obtain ⟨hz2, hm2, hn2⟩ := hp32; rw [hz2]; rw [hm2, hn2] at hH; clear hz2 hm2 hn2
                  subst hQ
                  refine m_iret hx hb hr hlocks hH hS dX1_firstAgreeingOf_64 ?_ (by omega)
                  exact ⟨Or.inr ⟨by omega, by omega⟩, rfl, rfl⟩
          exact lp31 (32) 1 (clen k y) hdl0 (by omega) (fun j hj => hno j (by omega)) (by omega) H locs ls hH hS (lv_sub hl [2, 3, 4, 5, 1, 0] rfl)
  exact lp2 (13) 1 (by omega) (fun j hj => hbe j (by rw [cum_1] at hj; omega)) (by omega) H locs ls hH hS (lv_sub hl [1, 2, 3, 0] rfl)

abbrev rm_c_X1_firstAgreeing : Room := { frames := 4, cells := 0, slots := 0, locals := 94 }
set_option maxHeartbeats 4000000 in
set_option maxRecDepth 100000 in
theorem c_X1_firstAgreeing (l : Launch) (G : wG) (μ : hM) (n : Nat) (D : Int) (P : Nat) (hD : 0 ≤ D ∧ D ≤ 999999) (hP : P < 64) : Met l yX1_firstAgreeing wsX1_firstAgreeing rm_c_X1_firstAgreeing (mPc G μ n [.int (iv D), .int (iv (P : Int))]) (mQi G (fun z μ1 n1 => z = afst D P 36525 ∧ μ1 = μ ∧ n1 = n)) 0 0 (gA G) := by
  refine Met.ofW (cc := cX1_firstAgreeing) (maxL := 4) (ret := (some .int)) (by decide) rfl ?_
  intro p e s m args below meth c s₁ B hml hv
  obtain ⟨hav, hK, hH⟩ := hv
  have hx := B.exec
  have hb := B.bytes
  have hr := B.returns
  have hts := atoms_spec (ws := wsX1_firstAgreeing) B.pre
  have hown : s.vm.findClass RX1 = some m.cls := findClass_of_methodNamed B.named
  have hlocks := B.notSynchronized
  have hS : va_S (gA G) s.heap s.heap [] := va_S.rf
  have hl := lv_entry ([.int (iv D), .int (iv (P : Int))]) (n := 4) (Nat.le_of_ble_eq_true rfl)
  have hfr : entryFrame m args 4 = entryFrame m ([.int (iv D), .int (iv (P : Int))] : List Value).toArray 4 := by rw [hav]
  rw [hfr, lg_entry_eq]
  generalize (lg_sl ([.int (iv D), .int (iv (P : Int))]) ++ List.replicate (4 - (lg_sl ([.int (iv D), .int (iv (P : Int))])).length) Slot.unset).toArray = ls at hl ⊢
  have hl : lv_has ls 4 [(0, .int (iv D)), (1, .int (iv (P : Int)))] := hl
  generalize hQ : MQ below _ args s 0 0 (gA G) = Q
  show W p l e rm_c_X1_firstAgreeing s m args below meth c s.heap [] 0 0 Q (F0 m 0 ls [])
  obtain ⟨H, hHe⟩ : ∃ H, H = s.heap := ⟨_, rfl⟩
  obtain ⟨locs, hlo⟩ : ∃ q : List Loc, q = [] := ⟨_, rfl⟩
  have hH : gP G μ n H := by rw [hHe]; exact hH
  have hS : va_S (gA G) s.heap H locs := by rw [hHe, hlo]; exact hS
  suffices hgo : W p l e rm_c_X1_firstAgreeing s m args below meth c H locs 0 0 Q (F0 m 0 ls []) by rw [hHe, hlo] at hgo; exact hgo
  clear hHe hlo hfr hav
  refine lv_iload_n hx hb dX1_firstAgreeing_0 rfl (lv_at hl 0 rfl) ?_
  refine lv_iload_n hx hb dX1_firstAgreeing_1 rfl (lv_at hl 1 rfl) ?_
  refine m_callSi (As := [.int (iv D), .int (iv (P : Int))]) (rest := []) ⟨hx, hb, hml, hown, hts⟩ hK hH hS (c_X1_daysAgreeing l G μ n D P hD hP) (va_cwS 2 hts gX1_firstAgreeing_X1_daysAgreeing rfl rfl rfl (by decide +kernel) ⟨(Nat.le_of_ble_eq_true rfl), (Nat.le_of_ble_eq_true rfl)⟩) rfl rfl hl.1 (Nat.le_of_ble_eq_true rfl) dX1_firstAgreeing_2 ⟨Nat.zero_le _, Nat.zero_le _⟩ (fun z4 μ1 n2 H locs hz4 hp3 hH hS => ?_)
  obtain ⟨hz2, hm2, hn2⟩ := hp3; rw [hz2]; rw [hm2, hn2] at hH; clear hz2 hm2 hn2
  have hac := acnt_rng D P 36525
  refine j_if_ne (tgt := 11) hx hb dX1_firstAgreeing_5 (by decide) (fun c5 => ?_) (fun c5 => ?_) (by omega)
  · skip
    refine j_const hx hb dX1_firstAgreeing_11 ?_
    refine lv_istore_n (lv' := [(2, .int (iv 0)), (0, .int (iv D)), (1, .int (iv (P : Int)))]) hx hb dX1_firstAgreeing_12 rfl hl (by decide) rfl (fun ls hl => ?_)
    have lp13 : ∀ (fuel : Nat) (y : Int) (hy : 0 ≤ y ∧ y ≤ 100) (hno : ∀ j : Nat, (j : Int) < ystart y → agx D P j = 0) (_ : (100 - y).toNat < fuel) (H : Heap) (locs : List Loc) (ls : Array Slot) (_ : gP G μ n H) (_ : va_S (gA G) s.heap H locs) (_ : lv_has ls 4 [(0, .int (iv D)), (1, .int (iv (P : Int))), (2, .int (iv y))]), W p l e rm_c_X1_firstAgreeing s m args below meth c H locs 0 0 Q (F0 m 13 ls []) := by
      intro fuel
      induction fuel with
      | zero => intro _ _ _ hfuel; exact absurd hfuel (Nat.not_lt_zero _)
      | succ fuel ih =>
        intro y hy hno hfuel H locs ls hH hS hl
        have ih6 := ih; clear ih
        refine lv_iload_n hx hb dX1_firstAgreeing_13 rfl (lv_at hl 2 rfl) ?_
        refine j_bipush hx hb dX1_firstAgreeing_14 ?_ (by decide)
        refine j_icmp_ge (tgt := 54) hx hb dX1_firstAgreeing_16 (by decide) (fun c7 => ?_) (fun c7 => ?_) (by omega) (by omega)
        · skip
          refine j_bipush hx hb dX1_firstAgreeing_54 ?_ (by decide)
          subst hQ
          refine m_iret hx hb hr hlocks hH hS dX1_firstAgreeing_56 ?_ (by omega)
          refine ⟨?_, rfl, rfl⟩
          exact (afst_n 36525 (fun j hj => hno j (by rw [show y = 100 by omega]; have : ystart 100 = 36525 := rfl; omega))).symm
        · skip
          refine lv_iload_n hx hb dX1_firstAgreeing_19 rfl (lv_at hl 2 rfl) ?_
          refine lv_iload_n hx hb dX1_firstAgreeing_20 rfl (lv_at hl 0 rfl) ?_
          refine lv_iload_n hx hb dX1_firstAgreeing_21 rfl (lv_at hl 1 rfl) ?_
          refine m_callSi (As := [.int (iv y), .int (iv D), .int (iv (P : Int))]) (rest := []) ⟨hx, hb, hml, hown, hts⟩ hK hH hS (c_X1_yearAgrees l G μ n y D P (by omega) hD hP) (va_cwS 3 hts gX1_firstAgreeing_X1_yearAgrees rfl rfl rfl (by decide +kernel) ⟨(Nat.le_of_ble_eq_true rfl), (Nat.le_of_ble_eq_true rfl)⟩) rfl rfl hl.1 (Nat.le_of_ble_eq_true rfl) dX1_firstAgreeing_22 ⟨Nat.zero_le _, Nat.zero_le _⟩ (fun z11 μ8 n9 H locs hz11 hp10 hH hS => ?_)
          obtain ⟨hz2, hm2, hn2⟩ := hp10; rw [hz2]; rw [hm2, hn2] at hH; clear hz2 hm2 hn2
          have hpy := pag_rng y (D % 100) (P / 16)
          refine j_if_eq (tgt := 37) hx hb dX1_firstAgreeing_25 (by decide) (fun c12 => ?_) (fun c12 => ?_) (by omega)
          · skip
            refine j_bipush hx hb dX1_firstAgreeing_37 ?_ (by decide)
            refine lv_istore_n (lv' := [(3, .int (iv (-5))), (0, .int (iv D)), (1, .int (iv (P : Int))), (2, .int (iv y))]) hx hb dX1_firstAgreeing_39 rfl hl (by decide) rfl (fun ls hl => ?_)
            refine lv_iload_n hx hb dX1_firstAgreeing_40 rfl (lv_at hl 0 rfl) ?_
            refine j_bipush hx hb dX1_firstAgreeing_41 ?_ (by decide)
            refine j_icmp_eq (tgt := 48) hx hb dX1_firstAgreeing_43 (by decide) (fun c13 => ?_) (fun c13 => absurd c13 (by omega)) (by omega) (by omega)
            have hny : ∀ j : Nat, (j : Int) < ystart (y + 1) → agx D P j = 0 := by
              intro j hj
              by_cases q : (j : Int) < ystart y
              · exact hno j q
              · have hyo : yearOf j = y := year_eq (by omega) hj
                have hd2 := dig_y j
                unfold agx
                rw [hd2, hyo, show y % 100 = y by omega, if_neg (fun h => absurd h.2.2 (by omega))]
            refine j_iinc (lv' := [(2, .int (iv (y + 1))), (3, .int (iv (-5))), (0, .int (iv D)), (1, .int (iv (P : Int)))]) hx hb dX1_firstAgreeing_48 hl (k := 3) rfl (by decide) rfl (fun ls hl => ?_)
            refine lv_goto (tgt := 13) hx hb dX1_firstAgreeing_51 (by decide) ?_
            exact ih6 (y + 1) (by omega) hny (by omega) H locs ls hH hS (lv_sub hl [2, 3, 0] rfl)
          · skip
            refine lv_iload_n hx hb dX1_firstAgreeing_28 rfl (lv_at hl 2 rfl) ?_
            refine lv_iload_n hx hb dX1_firstAgreeing_29 rfl (lv_at hl 0 rfl) ?_
            refine lv_iload_n hx hb dX1_firstAgreeing_30 rfl (lv_at hl 1 rfl) ?_
            refine m_callSi (As := [.int (iv y), .int (iv D), .int (iv (P : Int))]) (rest := []) ⟨hx, hb, hml, hown, hts⟩ hK hH hS (c_X1_firstAgreeingOf l G μ n y D P (by omega) hD hP (by omega) hno) (va_cwS 3 hts gX1_firstAgreeing_X1_firstAgreeingOf rfl rfl rfl (by decide +kernel) ⟨(Nat.le_of_ble_eq_true rfl), (Nat.le_of_ble_eq_true rfl)⟩) rfl rfl hl.1 (Nat.le_of_ble_eq_true rfl) dX1_firstAgreeing_31 ⟨Nat.zero_le _, Nat.zero_le _⟩ (fun z17 μ14 n15 H locs hz17 hp16 hH hS => ?_)
            obtain ⟨hzf, hm1, hn1⟩ := hp16
            rw [hm1, hn1] at hH
            refine lv_goto (tgt := 39) hx hb dX1_firstAgreeing_34 (by decide) ?_
            refine lv_istore_n (lv' := [(3, .int (iv z17)), (0, .int (iv D)), (1, .int (iv (P : Int))), (2, .int (iv y))]) hx hb dX1_firstAgreeing_39 rfl hl (by decide) rfl (fun ls hl => ?_)
            refine lv_iload_n hx hb dX1_firstAgreeing_40 rfl (lv_at hl 0 rfl) ?_
            refine j_bipush hx hb dX1_firstAgreeing_41 ?_ (by decide)
            refine j_icmp_eq (tgt := 48) hx hb dX1_firstAgreeing_43 (by decide) (fun c18 => ?_) (fun c18 => ?_) (by omega) (by omega)
            · skip
              have hny : ∀ j : Nat, (j : Int) < ystart (y + 1) → agx D P j = 0 := by
                exact (hzf.resolve_right (fun h => by omega)).2
              refine j_iinc (lv' := [(2, .int (iv (y + 1))), (3, .int (iv z17)), (0, .int (iv D)), (1, .int (iv (P : Int)))]) hx hb dX1_firstAgreeing_48 hl (k := 3) rfl (by decide) rfl (fun ls hl => ?_)
              refine lv_goto (tgt := 13) hx hb dX1_firstAgreeing_51 (by decide) ?_
              exact ih6 (y + 1) (by omega) hny (by omega) H locs ls hH hS (lv_sub hl [2, 3, 0] rfl)
            · skip
              refine lv_iload_n hx hb dX1_firstAgreeing_46 rfl (lv_at hl 0 rfl) ?_
              subst hQ
              refine m_iret hx hb hr hlocks hH hS dX1_firstAgreeing_47 ?_ (by omega)
              refine ⟨?_, rfl, rfl⟩
              omega
    exact lp13 (101) 0 (by omega) (fun j hj => by have : ystart 0 = 0 := rfl; omega) (by omega) H locs ls hH hS (lv_sub hl [1, 2, 0] rfl)
  · skip
    refine j_bipush hx hb dX1_firstAgreeing_8 ?_ (by decide)
    subst hQ
    refine m_iret hx hb hr hlocks hH hS dX1_firstAgreeing_10 ?_ (by omega)
    refine ⟨?_, rfl, rfl⟩
    exact (afst_n 36525 (acnt_0 36525 (by omega))).symm
