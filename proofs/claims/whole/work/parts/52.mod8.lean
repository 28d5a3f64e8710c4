abbrev rm_c_X9_date : Room := { frames := 3, cells := 0, slots := 0, locals := 72 }
set_option maxHeartbeats 4000000 in
set_option maxRecDepth 100000 in
theorem c_X9_date (l : Launch) (G : wG) (μ : hM) (n : Nat) (yy : Nat) (σ α β κ χ ω : Nat → Int) (kn ik ln en fr pl wr : Int) (hY : IsMM G μ yy σ α β κ χ ω kn ik ln en fr pl wr)  (hOC : OkC χ ln) (hpl : 0 ≤ pl ∧ pl ≤ ln) (hwr : wr = 0) : Met l yX9_date wsX9_date rm_c_X9_date (mPc G μ n [.ref yy]) (mQi G (fun z μ1 n1 => (∃ pl1 wr1 : Int, IsMM G μ1 yy σ α β κ χ ω kn ik ln en fr pl1 wr1 ∧ ((wr1 = 0 ∧ (rdat χ ln 6 1 0 pl) = (1, z, pl1) ∧ PrfV z 7) ∨ (wr1 = 1 ∧ (rdat χ ln 6 1 0 pl).1 = 0 ∧ (rdat χ ln 6 1 0 pl).2.2 = pl1))) ∧ MFr yy μ μ1)) 0 0 (gA G) := by
  refine Met.ofW (cc := cX9_date) (maxL := 4) (ret := (some .int)) (by decide) rfl ?_
  intro p e s m args below meth c s₁ B hml hv
  obtain ⟨hav, hK, hH⟩ := hv
  have hx := B.exec
  have hb := B.bytes
  have hr := B.returns
  have hts := atoms_spec (ws := wsX9_date) B.pre
  have hown : s.vm.findClass RX9 = some m.cls := findClass_of_methodNamed B.named
  have hlocks := B.notSynchronized
  have hS : va_S (gA G) s.heap s.heap [] := va_S.rf
  have hl := lv_entry ([.ref yy]) (n := 4) (Nat.le_of_ble_eq_true rfl)
  have hfr : entryFrame m args 4 = entryFrame m ([.ref yy] : List Value).toArray 4 := by rw [hav]
  rw [hfr, lg_entry_eq]
  generalize (lg_sl ([.ref yy]) ++ List.replicate (4 - (lg_sl ([.ref yy])).length) Slot.unset).toArray = ls at hl ⊢
  have hl : lv_has ls 4 [(0, .ref yy)] := hl
  generalize hQ : MQ below _ args s 0 0 (gA G) = Q
  show W p l e rm_c_X9_date s m args below meth c s.heap [] 0 0 Q (F0 m 0 ls [])
  obtain ⟨H, hHe⟩ : ∃ H, H = s.heap := ⟨_, rfl⟩
  obtain ⟨locs, hlo⟩ : ∃ q : List Loc, q = [] := ⟨_, rfl⟩
  have hH : gP G μ n H := by rw [hHe]; exact hH
  have hS : va_S (gA G) s.heap H locs := by rw [hHe, hlo]; exact hS
  suffices hgo : W p l e rm_c_X9_date s m args below meth c H locs 0 0 Q (F0 m 0 ls []) by rw [hHe, hlo] at hgo; exact hgo
  clear hHe hlo hfr hav
  have f_0 := hts (.fieldLink RX9 132 "StampDaterModel" "isWrong" "Z") (List.mem_of_getElem? (i := 1) rfl)
  have i_X9 : ∀ w ∈ u_ws RX9 TX9 13, w ∈ wsX9_date := by decide +kernel
  have f_2 := hts (.fieldLink RX9 129 "StampDaterModel" "place" "I") (List.mem_of_getElem? (i := 2) rfl)
  have f_3 := hts (.fieldLink RX9 126 "StampDaterModel" "length" "I") (List.mem_of_getElem? (i := 3) rfl)
  have f_4 := hts (.fieldLink RX9 22 "StampDaterModel" "text" "[I") (List.mem_of_getElem? (i := 4) rfl)
  have hfr : MFr yy μ μ := MFr.rf
  have hl0 := hOC.1
  have hnx := nxt_or (c := χ) (L := ln) hpl.1
  have hcr := hOC.2 pl.toNat
  refine j_const hx hb dX9_date_0 ?_
  refine lv_istore_n (lv' := [(1, .int (iv 0)), (0, .ref yy)]) hx hb dX9_date_1 rfl hl (by decide) rfl (fun ls hl => ?_)
  refine j_const hx hb dX9_date_2 ?_
  refine lv_istore_n (lv' := [(2, .int (iv 1)), (1, .int (iv 0)), (0, .ref yy)]) hx hb dX9_date_3 rfl hl (by decide) rfl (fun ls hl => ?_)
  have lp4 : ∀ (fuel : Nat) (v : Int) (mo : Int) (pl2 : Int) (wr2 : Int) (ν : hM) (ν0 : Nat) (hY : IsMM G ν yy σ α β κ χ ω kn ik ln en fr pl2 wr2) (hfr : MFr yy μ ν) (hmo : 1 ≤ mo ∧ mo ≤ 7) (hpr : pl ≤ pl2 ∧ pl2 ≤ ln) (hwr2 : 0 ≤ wr2 ∧ wr2 ≤ 1) (hvr : -1000000 ≤ v ∧ v ≤ 100000000) (hc : (wr2 = 0 ∧ (rdat χ ln 6 1 0 pl) = rdat χ ln (7 - mo).toNat mo v pl2 ∧ PrfV v mo) ∨ (wr2 = 1 ∧ (rdat χ ln 6 1 0 pl).1 = 0 ∧ (rdat χ ln 6 1 0 pl).2.2 = pl2)) (_ : (8 - mo).toNat < fuel) (H : Heap) (locs : List Loc) (ls : Array Slot) (_ : gP G ν ν0 H) (_ : va_S (gA G) s.heap H locs) (_ : lv_has ls 4 [(0, .ref yy), (1, .int (iv v)), (2, .int (iv mo))]), W p l e rm_c_X9_date s m args below meth c H locs 0 0 Q (F0 m 4 ls []) := by
    intro fuel
    induction fuel with
    | zero => intro _ _ _ _ _ _ _ _ _ _ _ _ _ hfuel; exact absurd hfuel (Nat.not_lt_zero _)
    | succ fuel ih =>
      intro v mo pl2 wr2 ν ν0 hY hfr hmo hpr hwr2 hvr hc hfuel H locs ls hH hS hl
      have hnx2 := nxt_or (c := χ) (L := ln) (a := pl2) (by omega)
      have hcr2 := hOC.2 pl2.toNat
      have ih1 := ih; clear ih
      refine lv_iload_n hx hb dX9_date_4 rfl (lv_at hl 2 rfl) ?_
      refine j_bipush hx hb dX9_date_5 ?_ (by decide)
      refine j_icmp_gt (tgt := 115) hx hb dX9_date_7 (by decide) (fun c2 => ?_) (fun c2 => ?_) (by omega) (by omega)
      · skip
        have hfin : (wr2 = 0 ∧ (rdat χ ln 6 1 0 pl) = (1, v, pl2) ∧ PrfV v 7) ∨ (wr2 = 1 ∧ (rdat χ ln 6 1 0 pl).1 = 0 ∧ (rdat χ ln 6 1 0 pl).2.2 = pl2) := by
          rcases hc with ⟨e1, e2, e3⟩ | e
          · have h7 : mo = 7 := by omega
            subst h7
            exact Or.inl ⟨e1, e2, e3⟩
          · exact Or.inr e
        refine lv_iload_n hx hb dX9_date_115 rfl (lv_at hl 1 rfl) ?_
        subst hQ
        refine m_iret hx hb hr hlocks hH hS dX9_date_116 ?_ (by omega)
        exact ⟨⟨_, _, hY, hfin⟩, hfr⟩
      · skip
        refine lv_aload_n hx hb dX9_date_10 rfl (lv_at hl 0 rfl) ?_
        refine m_get (C := RX9) (T := TX9) (N := 13) (ci := 8) hx hb hts i_X9 hown hK hH hY.1 rfl 12 (by decide) f_0 rfl dX9_date_11 ?_
        refine j_if_ne (tgt := 115) hx hb dX9_date_14 (by decide) (fun c3 => ?_) (fun c3 => ?_) (by omega)
        · skip
          have hfin : (wr2 = 0 ∧ (rdat χ ln 6 1 0 pl) = (1, v, pl2) ∧ PrfV v 7) ∨ (wr2 = 1 ∧ (rdat χ ln 6 1 0 pl).1 = 0 ∧ (rdat χ ln 6 1 0 pl).2.2 = pl2) := by
            rcases hc with ⟨e1, e2, e3⟩ | e
            · have h7 : mo = 7 := by omega
              subst h7
              exact Or.inl ⟨e1, e2, e3⟩
            · exact Or.inr e
          refine lv_iload_n hx hb dX9_date_115 rfl (lv_at hl 1 rfl) ?_
          subst hQ
          refine m_iret hx hb hr hlocks hH hS dX9_date_116 ?_ (by omega)
          exact ⟨⟨_, _, hY, hfin⟩, hfr⟩
        · skip
          have hc2 : (rdat χ ln 6 1 0 pl) = rdat χ ln (7 - mo).toNat mo v pl2 ∧ PrfV v mo := (hc.resolve_right (fun q => by have q1 := q.1; omega)).2
          have hpv := hc2.2.rng (by omega)
          have hpv1 := hpv.1
          have hpv2 := hpv.2.1
          have hpv3 := hpv.2.2 (by omega)
          clear hpv
          have hstep : (7 - mo).toNat = (7 - (mo + 1)).toNat + 1 := by omega
          refine lv_aload_n hx hb dX9_date_17 rfl (lv_at hl 0 rfl) ?_
          refine m_get (C := RX9) (T := TX9) (N := 13) (ci := 8) hx hb hts i_X9 hown hK hH hY.1 rfl 11 (by decide) f_2 rfl dX9_date_18 ?_
          refine lv_aload_n hx hb dX9_date_21 rfl (lv_at hl 0 rfl) ?_
          refine m_get (C := RX9) (T := TX9) (N := 13) (ci := 8) hx hb hts i_X9 hown hK hH hY.1 rfl 7 (by decide) f_3 rfl dX9_date_22 ?_
          refine j_icmp_ge (tgt := 40) hx hb dX9_date_25 (by decide) (fun c4 => ?_) (fun c4 => ?_) (by omega) (by omega)
          · skip
            have hn2 : nxt χ ln pl2 = -1 := by omega
            refine j_const hx hb dX9_date_40 ?_
            refine lv_istore_n (lv' := [(3, .int (iv 0)), (0, .ref yy), (1, .int (iv v)), (2, .int (iv mo))]) hx hb dX9_date_41 rfl hl (by decide) rfl (fun ls hl => ?_)
            refine lv_aload_n hx hb dX9_date_42 rfl (lv_at hl 1 rfl) ?_
            refine lv_iload_n hx hb dX9_date_43 rfl (lv_at hl 0 rfl) ?_
            refine j_bipush hx hb dX9_date_44 ?_ (by decide)
            refine j_bipush hx hb dX9_date_46 ?_ (by decide)
            refine m_callSi (As := [.int (iv 0), .int (iv 48), .int (iv 57)]) (rest := [.ref yy]) ⟨hx, hb, hml, hown, hts⟩ hK hH hS (c_X9_in l G ν ν0 0 48 57 (by omega) (by omega) (by omega)) (va_cwS 3 hts gX9_date_X9_in rfl rfl rfl (by decide +kernel) ⟨(Nat.le_of_ble_eq_true rfl), (Nat.le_of_ble_eq_true rfl)⟩) rfl rfl hl.1 (Nat.le_of_ble_eq_true rfl) dX9_date_48 ⟨Nat.zero_le _, Nat.zero_le _⟩ (fun z8 μ5 n6 H locs hz8 hp7 hH hS => ?_)
            obtain ⟨hz9, hm9, hn9⟩ := hp7
            rw [hm9, hn9] at hH
            have hz8c : (z8 = 1 ∧ ((48 : Int) ≤ (0 : Int) ∧ (0 : Int) ≤ (57 : Int))) ∨ (z8 = 0 ∧ ¬ ((48 : Int) ≤ (0 : Int) ∧ (0 : Int) ≤ (57 : Int))) := by
              by_cases q9 : (48 : Int) ≤ (0 : Int) ∧ (0 : Int) ≤ (57 : Int)
              · rw [if_pos q9] at hz9; exact Or.inl ⟨hz9, q9⟩
              · rw [if_neg q9] at hz9; exact Or.inr ⟨hz9, q9⟩
            clear hz9 hm9 hn9
            refine j_if_eq (tgt := 70) hx hb dX9_date_51 (by decide) (fun c9 => ?_) (fun c9 => absurd c9 (by omega)) (by omega)
            have hbad : (rdat χ ln 6 1 0 pl).1 = 0 ∧ (rdat χ ln 6 1 0 pl).2.2 = pl2 := by rw [hc2.1, hstep, rdat_n (Or.inl (dgt_n (by omega)))]; exact ⟨rfl, rfl⟩
            refine j_const hx hb dX9_date_70 ?_
            refine lv_goto (tgt := 75) hx hb dX9_date_71 (by decide) ?_
            refine m_put (C := RX9) (T := TX9) (N := 13) (ci := 8) hx hb hts i_X9 tyX9 tyX9_ok nmX9 hown hK hH hS hY.1 rfl 12 (by decide) f_0 rfl (nar_z (by omega)) (fit_z (by omega)) (Nat.le_of_ble_eq_true rfl) dX9_date_75 (fun H locs hH hS => ?_)
            obtain ⟨ν10, hY, hfr, hH⟩ : ∃ ξ : hM, IsMM G ξ yy σ α β κ χ ω kn ik ln en fr pl2 1 ∧ MFr yy μ ξ ∧ gP G ξ ν0 H := hY.w0 hfr hH
            have hH : gP G ν10 ν0 H := hH
            refine j_bipush hx hb dX9_date_78 ?_ (by decide)
            refine lv_iload_n hx hb dX9_date_80 rfl (lv_at hl 2 rfl) ?_
            refine j_imul hx hb dX9_date_81 ?_
            refine lv_iload_n hx hb dX9_date_82 rfl (lv_at hl 0 rfl) ?_
            refine j_iadd hx hb dX9_date_83 ?_
            refine j_bipush hx hb dX9_date_84 ?_ (by decide)
            refine j_isub hx hb dX9_date_86 ?_
            refine lv_istore_n (lv' := [(1, .int (iv (((10 * v) + 0) - 48))), (3, .int (iv 0)), (0, .ref yy), (2, .int (iv mo))]) hx hb dX9_date_87 rfl hl (by decide) rfl (fun ls hl => ?_)
            refine lv_aload_n hx hb dX9_date_88 rfl (lv_at hl 2 rfl) ?_
            refine lv_dup hx hb dX9_date_89 rfl ?_
            refine m_get (C := RX9) (T := TX9) (N := 13) (ci := 8) hx hb hts i_X9 hown hK hH hY.1 rfl 11 (by decide) f_2 rfl dX9_date_90 ?_
            refine lv_aload_n hx hb dX9_date_93 rfl (lv_at hl 2 rfl) ?_
            refine m_get (C := RX9) (T := TX9) (N := 13) (ci := 8) hx hb hts i_X9 hown hK hH hY.1 rfl 12 (by decide) f_0 rfl dX9_date_94 ?_
            refine j_if_eq (tgt := 104) hx hb dX9_date_97 (by decide) (fun c11 => absurd c11 (by omega)) (fun c11 => ?_) (by omega)
            refine j_const hx hb dX9_date_100 ?_
            refine lv_goto (tgt := 105) hx hb dX9_date_101 (by decide) ?_
            refine j_iadd hx hb dX9_date_105 ?_
            refine m_put (C := RX9) (T := TX9) (N := 13) (ci := 8) hx hb hts i_X9 tyX9 tyX9_ok nmX9 hown hK hH hS hY.1 rfl 11 (by decide) f_2 rfl rfl rfl (Nat.le_of_ble_eq_true rfl) dX9_date_106 (fun H locs hH hS => ?_)
            obtain ⟨ν12, hY, hfr, hH⟩ : ∃ ξ : hM, IsMM G ξ yy σ α β κ χ ω kn ik ln en fr (pl2 + 0) 1 ∧ MFr yy μ ξ ∧ gP G ξ ν0 H := hY.w0 hfr hH
            have hH : gP G ν12 ν0 H := hH
            have hq9 : (pl2 + 0) = pl2 := (by omega)
            rw [hq9] at hY
            clear hq9
            refine j_iinc (lv' := [(2, .int (iv (mo + 1))), (1, .int (iv (((10 * v) + 0) - 48))), (3, .int (iv 0)), (0, .ref yy)]) hx hb dX9_date_109 hl (k := 3) rfl (by decide) rfl (fun ls hl => ?_)
            refine lv_goto (tgt := 4) hx hb dX9_date_112 (by decide) ?_
            exact ih1 (((10 * v) + 0) - 48) (mo + 1) pl2 1 ν12 ν0 hY hfr (by omega) (by omega) (by omega) (by omega) (Or.inr ⟨rfl, hbad⟩) (by omega) H locs ls hH hS (lv_sub hl [3, 1, 0] rfl)
          · skip
            have hn2 : nxt χ ln pl2 = χ pl2.toNat := by omega
            refine lv_aload_n hx hb dX9_date_28 rfl (lv_at hl 0 rfl) ?_
            refine m_get (C := RX9) (T := TX9) (N := 13) (ci := 8) hx hb hts i_X9 hown hK hH hY.1 rfl 6 (by decide) f_4 rfl dX9_date_29 ?_
            refine lv_aload_n hx hb dX9_date_32 rfl (lv_at hl 0 rfl) ?_
            refine m_get (C := RX9) (T := TX9) (N := 13) (ci := 8) hx hb hts i_X9 hown hK hH hY.1 rfl 11 (by decide) f_2 rfl dX9_date_33 ?_
            refine m_iald (nA := 60) (f := χ) hx hb hK hH hY.2.2.2.2.2.1 dX9_date_36 ?_ (by omega) (by omega)
            refine j_norm (y := (χ (pl2).toNat)) rfl ?_
            refine lv_goto (tgt := 41) hx hb dX9_date_37 (by decide) ?_
            refine lv_istore_n (lv' := [(3, .int (iv (χ (pl2).toNat))), (0, .ref yy), (1, .int (iv v)), (2, .int (iv mo))]) hx hb dX9_date_41 rfl hl (by decide) rfl (fun ls hl => ?_)
            refine lv_aload_n hx hb dX9_date_42 rfl (lv_at hl 1 rfl) ?_
            refine lv_iload_n hx hb dX9_date_43 rfl (lv_at hl 0 rfl) ?_
            refine j_bipush hx hb dX9_date_44 ?_ (by decide)
            refine j_bipush hx hb dX9_date_46 ?_ (by decide)
            refine m_callSi (As := [.int (iv (χ (pl2).toNat)), .int (iv 48), .int (iv 57)]) (rest := [.ref yy]) ⟨hx, hb, hml, hown, hts⟩ hK hH hS (c_X9_in l G ν ν0 (χ (pl2).toNat) 48 57 (by omega) (by omega) (by omega)) (va_cwS 3 hts gX9_date_X9_in rfl rfl rfl (by decide +kernel) ⟨(Nat.le_of_ble_eq_true rfl), (Nat.le_of_ble_eq_true rfl)⟩) rfl rfl hl.1 (Nat.le_of_ble_eq_true rfl) dX9_date_48 ⟨Nat.zero_le _, Nat.zero_le _⟩ (fun z16 μ13 n14 H locs hz16 hp15 hH hS => ?_)
            obtain ⟨hz9, hm9, hn9⟩ := hp15
            rw [hm9, hn9] at hH
            have hz16c : (z16 = 1 ∧ ((48 : Int) ≤ (χ (pl2).toNat) ∧ (χ (pl2).toNat) ≤ (57 : Int))) ∨ (z16 = 0 ∧ ¬ ((48 : Int) ≤ (χ (pl2).toNat) ∧ (χ (pl2).toNat) ≤ (57 : Int))) := by
              by_cases q9 : (48 : Int) ≤ (χ (pl2).toNat) ∧ (χ (pl2).toNat) ≤ (57 : Int)
              · rw [if_pos q9] at hz9; exact Or.inl ⟨hz9, q9⟩
              · rw [if_neg q9] at hz9; exact Or.inr ⟨hz9, q9⟩
            clear hz9 hm9 hn9
            refine j_if_eq (tgt := 70) hx hb dX9_date_51 (by decide) (fun c17 => ?_) (fun c17 => ?_) (by omega)
            · skip
              have hbad : (rdat χ ln 6 1 0 pl).1 = 0 ∧ (rdat χ ln 6 1 0 pl).2.2 = pl2 := by rw [hc2.1, hstep, rdat_n (Or.inl (dgt_n (by omega)))]; exact ⟨rfl, rfl⟩
              refine j_const hx hb dX9_date_70 ?_
              refine lv_goto (tgt := 75) hx hb dX9_date_71 (by decide) ?_
              refine m_put (C := RX9) (T := TX9) (N := 13) (ci := 8) hx hb hts i_X9 tyX9 tyX9_ok nmX9 hown hK hH hS hY.1 rfl 12 (by decide) f_0 rfl (nar_z (by omega)) (fit_z (by omega)) (Nat.le_of_ble_eq_true rfl) dX9_date_75 (fun H locs hH hS => ?_)
              obtain ⟨ν18, hY, hfr, hH⟩ : ∃ ξ : hM, IsMM G ξ yy σ α β κ χ ω kn ik ln en fr pl2 1 ∧ MFr yy μ ξ ∧ gP G ξ ν0 H := hY.w0 hfr hH
              have hH : gP G ν18 ν0 H := hH
              refine j_bipush hx hb dX9_date_78 ?_ (by decide)
              refine lv_iload_n hx hb dX9_date_80 rfl (lv_at hl 2 rfl) ?_
              refine j_imul hx hb dX9_date_81 ?_
              refine lv_iload_n hx hb dX9_date_82 rfl (lv_at hl 0 rfl) ?_
              refine j_iadd hx hb dX9_date_83 ?_
              refine j_bipush hx hb dX9_date_84 ?_ (by decide)
              refine j_isub hx hb dX9_date_86 ?_
              refine lv_istore_n (lv' := [(1, .int (iv (((10 * v) + (χ (pl2).toNat)) - 48))), (3, .int (iv (χ (pl2).toNat))), (0, .ref yy), (2, .int (iv mo))]) hx hb dX9_date_87 rfl hl (by decide) rfl (fun ls hl => ?_)
              refine lv_aload_n hx hb dX9_date_88 rfl (lv_at hl 2 rfl) ?_
              refine lv_dup hx hb dX9_date_89 rfl ?_
              refine m_get (C := RX9) (T := TX9) (N := 13) (ci := 8) hx hb hts i_X9 hown hK hH hY.1 rfl 11 (by decide) f_2 rfl dX9_date_90 ?_
              refine lv_aload_n hx hb dX9_date_93 rfl (lv_at hl 2 rfl) ?_
              refine m_get (C := RX9) (T := TX9) (N := 13) (ci := 8) hx hb hts i_X9 hown hK hH hY.1 rfl 12 (by decide) f_0 rfl dX9_date_94 ?_
              refine j_if_eq (tgt := 104) hx hb dX9_date_97 (by decide) (fun c19 => absurd c19 (by omega)) (fun c19 => ?_) (by omega)
              refine j_const hx hb dX9_date_100 ?_
              refine lv_goto (tgt := 105) hx hb dX9_date_101 (by decide) ?_
              refine j_iadd hx hb dX9_date_105 ?_
              refine m_put (C := RX9) (T := TX9) (N := 13) (ci := 8) hx hb hts i_X9 tyX9 tyX9_ok nmX9 hown hK hH hS hY.1 rfl 11 (by decide) f_2 rfl rfl rfl (Nat.le_of_ble_eq_true rfl) dX9_date_106 (fun H locs hH hS => ?_)
              obtain ⟨ν20, hY, hfr, hH⟩ : ∃ ξ : hM, IsMM G ξ yy σ α β κ χ ω kn ik ln en fr (pl2 + 0) 1 ∧ MFr yy μ ξ ∧ gP G ξ ν0 H := hY.w0 hfr hH
              have hH : gP G ν20 ν0 H := hH
              have hq9 : (pl2 + 0) = pl2 := (by omega)
              rw [hq9] at hY
              clear hq9
              refine j_iinc (lv' := [(2, .int (iv (mo + 1))), (1, .int (iv (((10 * v) + (χ (pl2).toNat)) - 48))), (3, .int (iv (χ (pl2).toNat))), (0, .ref yy)]) hx hb dX9_date_109 hl (k := 3) rfl (by decide) rfl (fun ls hl => ?_)
              refine lv_goto (tgt := 4) hx hb dX9_date_112 (by decide) ?_
              exact ih1 (((10 * v) + (χ (pl2).toNat)) - 48) (mo + 1) pl2 1 ν20 ν0 hY hfr (by omega) (by omega) (by omega) (by omega) (Or.inr ⟨rfl, hbad⟩) (by omega) H locs ls hH hS (lv_sub hl [3, 1, 0] rfl)
            · skip
              refine j_bipush hx hb dX9_date_54 ?_ (by decide)
              refine lv_iload_n hx hb dX9_date_56 rfl (lv_at hl 2 rfl) ?_
              refine j_imul hx hb dX9_date_57 ?_
              refine lv_iload_n hx hb dX9_date_58 rfl (lv_at hl 0 rfl) ?_
              refine j_iadd hx hb dX9_date_59 ?_
              refine j_bipush hx hb dX9_date_60 ?_ (by decide)
              refine j_isub hx hb dX9_date_62 ?_
              refine lv_iload_n hx hb dX9_date_63 rfl (lv_at hl 3 rfl) ?_
              refine m_callSi (As := [.int (iv (((10 * v) + (χ (pl2).toNat)) - 48)), .int (iv mo)]) (rest := [.ref yy]) ⟨hx, hb, hml, hown, hts⟩ hK hH hS (c_X9_begins l G ν ν0 (((10 * v) + (χ (pl2).toNat)) - 48) mo (by omega) (by omega) ⟨by omega, by rw [show (((10 * v) + (χ (pl2).toNat)) - 48) / 10 = v by omega]; exact hc2.2⟩) (va_cwS 2 hts gX9_date_X9_begins rfl rfl rfl (by decide +kernel) ⟨(Nat.le_of_ble_eq_true rfl), (Nat.le_of_ble_eq_true rfl)⟩) rfl rfl hl.1 (Nat.le_of_ble_eq_true rfl) dX9_date_64 ⟨Nat.zero_le _, Nat.zero_le _⟩ (fun z24 μ21 n22 H locs hz24 hp23 hH hS => ?_)
              obtain ⟨hz2, hm2, hn2⟩ := hp23; rw [hz2]; rw [hm2, hn2] at hH; clear hz2 hm2 hn2
              have hsb := sbg_rng (((10 * v) + (χ (pl2).toNat)) - 48) mo
              refine j_if_ne (tgt := 74) hx hb dX9_date_67 (by decide) (fun c25 => ?_) (fun c25 => ?_) (by omega)
              · skip
                have hdg := dgt_y (c := χ) (L := ln) (a := pl2) (by omega)
                have hD9 : 10 * v + dgt χ ln pl2 = (((10 * v) + (χ (pl2).toNat)) - 48) := by omega
                have hgood : (rdat χ ln 6 1 0 pl) = rdat χ ln (7 - (mo + 1)).toNat (mo + 1) (((10 * v) + (χ (pl2).toNat)) - 48) (pl2 + 1) ∧ PrfV (((10 * v) + (χ (pl2).toNat)) - 48) (mo + 1) := ⟨by rw [hc2.1, hstep, rdat_y (by rw [hD9]; omega), hD9], by rw [← hD9]; exact hc2.2.s (by omega) (by omega) (by rw [hD9]; omega)⟩
                refine j_const hx hb dX9_date_74 ?_
                refine m_put (C := RX9) (T := TX9) (N := 13) (ci := 8) hx hb hts i_X9 tyX9 tyX9_ok nmX9 hown hK hH hS hY.1 rfl 12 (by decide) f_0 rfl (nar_z (by omega)) (fit_z (by omega)) (Nat.le_of_ble_eq_true rfl) dX9_date_75 (fun H locs hH hS => ?_)
                obtain ⟨ν26, hY, hfr, hH⟩ : ∃ ξ : hM, IsMM G ξ yy σ α β κ χ ω kn ik ln en fr pl2 0 ∧ MFr yy μ ξ ∧ gP G ξ ν0 H := hY.w0 hfr hH
                have hH : gP G ν26 ν0 H := hH
                refine j_bipush hx hb dX9_date_78 ?_ (by decide)
                refine lv_iload_n hx hb dX9_date_80 rfl (lv_at hl 2 rfl) ?_
                refine j_imul hx hb dX9_date_81 ?_
                refine lv_iload_n hx hb dX9_date_82 rfl (lv_at hl 0 rfl) ?_
                refine j_iadd hx hb dX9_date_83 ?_
                refine j_bipush hx hb dX9_date_84 ?_ (by decide)
                refine j_isub hx hb dX9_date_86 ?_
                refine lv_istore_n (lv' := [(1, .int (iv (((10 * v) + (χ (pl2).toNat)) - 48))), (3, .int (iv (χ (pl2).toNat))), (0, .ref yy), (2, .int (iv mo))]) hx hb dX9_date_87 rfl hl (by decide) rfl (fun ls hl => ?_)
                refine lv_aload_n hx hb dX9_date_88 rfl (lv_at hl 2 rfl) ?_
                refine lv_dup hx hb dX9_date_89 rfl ?_
                refine m_get (C := RX9) (T := TX9) (N := 13) (ci := 8) hx hb hts i_X9 hown hK hH hY.1 rfl 11 (by decide) f_2 rfl dX9_date_90 ?_
                refine lv_aload_n hx hb dX9_date_93 rfl (lv_at hl 2 rfl) ?_
                refine m_get (C := RX9) (T := TX9) (N := 13) (ci := 8) hx hb hts i_X9 hown hK hH hY.1 rfl 12 (by decide) f_0 rfl dX9_date_94 ?_
                refine j_if_eq (tgt := 104) hx hb dX9_date_97 (by decide) (fun c27 => ?_) (fun c27 => absurd c27 (by omega)) (by omega)
                refine j_const hx hb dX9_date_104 ?_
                refine j_iadd hx hb dX9_date_105 ?_
                refine m_put (C := RX9) (T := TX9) (N := 13) (ci := 8) hx hb hts i_X9 tyX9 tyX9_ok nmX9 hown hK hH hS hY.1 rfl 11 (by decide) f_2 rfl rfl rfl (Nat.le_of_ble_eq_true rfl) dX9_date_106 (fun H locs hH hS => ?_)
                obtain ⟨ν28, hY, hfr, hH⟩ : ∃ ξ : hM, IsMM G ξ yy σ α β κ χ ω kn ik ln en fr (pl2 + 1) 0 ∧ MFr yy μ ξ ∧ gP G ξ ν0 H := hY.w0 hfr hH
                have hH : gP G ν28 ν0 H := hH
                refine j_iinc (lv' := [(2, .int (iv (mo + 1))), (1, .int (iv (((10 * v) + (χ (pl2).toNat)) - 48))), (3, .int (iv (χ (pl2).toNat))), (0, .ref yy)]) hx hb dX9_date_109 hl (k := 3) rfl (by decide) rfl (fun ls hl => ?_)
                refine lv_goto (tgt := 4) hx hb dX9_date_112 (by decide) ?_
                exact ih1 (((10 * v) + (χ (pl2).toNat)) - 48) (mo + 1) (pl2 + 1) 0 ν28 ν0 hY hfr (by omega) (by omega) (by omega) (by omega) (Or.inl ⟨rfl, hgood⟩) (by omega) H locs ls hH hS (lv_sub hl [3, 1, 0] rfl)
              · skip
                have hdg := dgt_y (c := χ) (L := ln) (a := pl2) (by omega)
                have hD9 : 10 * v + dgt χ ln pl2 = (((10 * v) + (χ (pl2).toNat)) - 48) := by omega
                have hbad : (rdat χ ln 6 1 0 pl).1 = 0 ∧ (rdat χ ln 6 1 0 pl).2.2 = pl2 := by rw [hc2.1, hstep, rdat_n (Or.inr (by rw [hD9]; omega))]; exact ⟨rfl, rfl⟩
                refine j_const hx hb dX9_date_70 ?_
                refine lv_goto (tgt := 75) hx hb dX9_date_71 (by decide) ?_
                refine m_put (C := RX9) (T := TX9) (N := 13) (ci := 8) hx hb hts i_X9 tyX9 tyX9_ok nmX9 hown hK hH hS hY.1 rfl 12 (by decide) f_0 rfl (nar_z (by omega)) (fit_z (by omega)) (Nat.le_of_ble_eq_true rfl) dX9_date_75 (fun H locs hH hS => ?_)
                obtain ⟨ν29, hY, hfr, hH⟩ : ∃ ξ : hM, IsMM G ξ yy σ α β κ χ ω kn ik ln en fr pl2 1 ∧ MFr yy μ ξ ∧ gP G ξ ν0 H := hY.w0 hfr hH
                have hH : gP G ν29 ν0 H := hH
                refine j_bipush hx hb dX9_date_78 ?_ (by decide)
                refine lv_iload_n hx hb dX9_date_80 rfl (lv_at hl 2 rfl) ?_
                refine j_imul hx hb dX9_date_81 ?_
                refine lv_iload_n hx hb dX9_date_82 rfl (lv_at hl 0 rfl) ?_
                refine j_iadd hx hb dX9_date_83 ?_
                refine j_bipush hx hb dX9_date_84 ?_ (by decide)
                refine j_isub hx hb dX9_date_86 ?_
                refine lv_istore_n (lv' := [(1, .int (iv (((10 * v) + (χ (pl2).toNat)) - 48))), (3, .int (iv (χ (pl2).toNat))), (0, .ref yy), (2, .int (iv mo))]) hx hb dX9_date_87 rfl hl (by decide) rfl (fun ls hl => ?_)
                refine lv_aload_n hx hb dX9_date_88 rfl (lv_at hl 2 rfl) ?_
                refine lv_dup hx hb dX9_date_89 rfl ?_
                refine m_get (C := RX9) (T := TX9) (N := 13) (ci := 8) hx hb hts i_X9 hown hK hH hY.1 rfl 11 (by decide) f_2 rfl dX9_date_90 ?_
                refine lv_aload_n hx hb dX9_date_93 rfl (lv_at hl 2 rfl) ?_
                refine m_get (C := RX9) (T := TX9) (N := 13) (ci := 8) hx hb hts i_X9 hown hK hH hY.1 rfl 12 (by decide) f_0 rfl dX9_date_94 ?_
                refine j_if_eq (tgt := 104) hx hb dX9_date_97 (by decide) (fun c30 => absurd c30 (by omega)) (fun c30 => ?_) (by omega)
                refine j_const hx hb dX9_date_100 ?_
                refine lv_goto (tgt := 105) hx hb dX9_date_101 (by decide) ?_
                refine j_iadd hx hb dX9_date_105 ?_
                refine m_put (C := RX9) (T := TX9) (N := 13) (ci := 8) hx hb hts i_X9 tyX9 tyX9_ok nmX9 hown hK hH hS hY.1 rfl 11 (by decide) f_2 rfl rfl rfl (Nat.le_of_ble_eq_true rfl) dX9_date_106 (fun H locs hH hS => ?_)
                obtain ⟨ν31, hY, hfr, hH⟩ : ∃ ξ : hM, IsMM G ξ yy σ α β κ χ ω kn ik ln en fr (pl2 + 0) 1 ∧ MFr yy μ ξ ∧ gP G ξ ν0 H := hY.w0 hfr hH
                have hH : gP G ν31 ν0 H := hH
                have hq9 : (pl2 + 0) = pl2 := (by omega)
                rw [hq9] at hY
                clear hq9
                refine j_iinc (lv' := [(2, .int (iv (mo + 1))), (1, .int (iv (((10 * v) + (χ (pl2).toNat)) - 48))), (3, .int (iv (χ (pl2).toNat))), (0, .ref yy)]) hx hb dX9_date_109 hl (k := 3) rfl (by decide) rfl (fun ls hl => ?_)
                refine lv_goto (tgt := 4) hx hb dX9_date_112 (by decide) ?_
                exact ih1 (((10 * v) + (χ (pl2).toNat)) - 48) (mo + 1) pl2 1 ν31 ν0 hY hfr (by omega) (by omega) (by omega) (by omega) (Or.inr ⟨rfl, hbad⟩) (by omega) H locs ls hH hS (lv_sub hl [3, 1, 0] rfl)
  exact lp4 (9) 0 1 pl wr μ n hY hfr (by omega) (by omega) (by omega) (by omega) (Or.inl ⟨hwr, rfl, rfl⟩) (by omega) H locs ls hH hS (lv_sub hl [2, 1, 0] rfl)

abbrev rm_c_X9_order0 : Room := { frames := 4, cells := 0, slots := 0, locals := 95 }
set_option maxHeartbeats 4000000 in
set_option maxRecDepth 100000 in
theorem c_X9_order0 (l : Launch) (G : wG) (μ : hM) (n : Nat) (yy : Nat) (σ α β κ χ ω : Nat → Int) (kn ik ln en fr pl wr : Int) (hY : IsMM G μ yy σ α β κ χ ω kn ik ln en fr pl wr)  (hOC : OkC χ ln) (hpl : 0 ≤ pl ∧ pl ≤ ln) (hwr : wr = 0) (h3 : 0 ≤ σ 3 ∧ σ 3 ≤ 36524) : Met l yX9_order wsX9_order rm_c_X9_order0 (mPc G μ n [.ref yy, .int (iv 0)]) (mQi G (fun z μ1 n1 => z = 1 ∧ (∃ pl1 wr1 : Int, IsMM G μ1 yy σ α β κ χ ω kn ik ln en fr pl1 wr1 ∧ (pl1 = (ordF χ ln pl).2.1 ∧ ((wr1 = 0 ∧ (ordF χ ln pl).1 = 1) ∨ (wr1 = 1 ∧ (ordF χ ln pl).1 = 0)))) ∧ MFr yy μ μ1)) 0 0 (gA G) := by
  refine Met.ofW (cc := cX9_order) (maxL := 5) (ret := (some .boolean)) (by decide) rfl ?_
  intro p e s m args below meth c s₁ B hml hv
  obtain ⟨hav, hK, hH⟩ := hv
  have hx := B.exec
  have hb := B.bytes
  have hr := B.returns
  have hts := atoms_spec (ws := wsX9_order) B.pre
  have hown : s.vm.findClass RX9 = some m.cls := findClass_of_methodNamed B.named
  have hlocks := B.notSynchronized
  have hS : va_S (gA G) s.heap s.heap [] := va_S.rf
  have hl := lv_entry ([.ref yy, .int (iv 0)]) (n := 5) (Nat.le_of_ble_eq_true rfl)
  have hfr : entryFrame m args 5 = entryFrame m ([.ref yy, .int (iv 0)] : List Value).toArray 5 := by rw [hav]
  rw [hfr, lg_entry_eq]
  generalize (lg_sl ([.ref yy, .int (iv 0)]) ++ List.replicate (5 - (lg_sl ([.ref yy, .int (iv 0)])).length) Slot.unset).toArray = ls at hl ⊢
  have hl : lv_has ls 5 [(0, .ref yy), (1, .int (iv 0))] := hl
  generalize hQ : MQ below _ args s 0 0 (gA G) = Q
  show W p l e rm_c_X9_order0 s m args below meth c s.heap [] 0 0 Q (F0 m 0 ls [])
  obtain ⟨H, hHe⟩ : ∃ H, H = s.heap := ⟨_, rfl⟩
  obtain ⟨locs, hlo⟩ : ∃ q : List Loc, q = [] := ⟨_, rfl⟩
  have hH : gP G μ n H := by rw [hHe]; exact hH
  have hS : va_S (gA G) s.heap H locs := by rw [hHe, hlo]; exact hS
  suffices hgo : W p l e rm_c_X9_order0 s m args below meth c H locs 0 0 Q (F0 m 0 ls []) by rw [hHe, hlo] at hgo; exact hgo
  clear hHe hlo hfr hav
  have f_0 := hts (.fieldLink RX9 132 "StampDaterModel" "isWrong" "Z") (List.mem_of_getElem? (i := 3) rfl)
  have i_X9 : ∀ w ∈ u_ws RX9 TX9 13, w ∈ wsX9_order := by decide +kernel
  have f_2 := hts (.fieldLink RX9 7 "StampDaterModel" "s" "[I") (List.mem_of_getElem? (i := 2) rfl)
  have f_3 := hts (.constant RX9 36 (36524)) (List.mem_of_getElem? (i := 4) rfl)
  have f_4 := hts (.fieldLink RX9 129 "StampDaterModel" "place" "I") (List.mem_of_getElem? (i := 1) rfl)
  have hfr : MFr yy μ μ := MFr.rf
  have hl0 := hOC.1
  have hnx := nxt_or (c := χ) (L := ln) hpl.1
  have hcr := hOC.2 pl.toNat
  refine lv_aload_n hx hb dX9_order_0 rfl (lv_at hl 0 rfl) ?_
  refine j_bipush hx hb dX9_order_1 ?_ (by decide)
  refine m_callVi (As := [.int (iv 100)]) (rest := []) ⟨hx, hb, hml, hown, hts⟩ hK hH hS (c_X9_isNext l G μ n yy σ α β κ χ ω kn ik ln en fr pl wr hY 100 hOC (by omega) (by omega) (by omega)) (cwV 1 hts gX9_order_X9_isNext rfl rfl rfl (by decide +kernel) ⟨(Nat.le_of_ble_eq_true rfl), (Nat.le_of_ble_eq_true rfl)⟩) hY.1 rfl rfl rfl rfl hl.1 (Nat.le_of_ble_eq_true rfl) dX9_order_3 ⟨Nat.zero_le _, Nat.zero_le _⟩ (fun z4 μ1 n2 H locs hz4 hp3 hH hS => ?_)
  obtain ⟨hz9, hm9, hn9⟩ := hp3
  rw [hm9, hn9] at hH
  have hz4c : (z4 = 1 ∧ (wr = 0 ∧ nxt χ ln pl = (100 : Int))) ∨ (z4 = 0 ∧ ¬ (wr = 0 ∧ nxt χ ln pl = (100 : Int))) := by
    by_cases q9 : wr = 0 ∧ nxt χ ln pl = (100 : Int)
    · rw [if_pos q9] at hz9; exact Or.inl ⟨hz9, q9⟩
    · rw [if_neg q9] at hz9; exact Or.inr ⟨hz9, q9⟩
  clear hz9 hm9 hn9
  refine j_if_eq (tgt := 44) hx hb dX9_order_6 (by decide) (fun c5 => ?_) (fun c5 => ?_) (by omega)
  · skip
    refine lv_aload_n hx hb dX9_order_44 rfl (lv_at hl 0 rfl) ?_
    refine j_bipush hx hb dX9_order_45 ?_ (by decide)
    refine m_callVi (As := [.int (iv 97)]) (rest := []) ⟨hx, hb, hml, hown, hts⟩ hK hH hS (c_X9_isNext l G μ n yy σ α β κ χ ω kn ik ln en fr pl wr hY 97 hOC (by omega) (by omega) (by omega)) (cwV 1 hts gX9_order_X9_isNext rfl rfl rfl (by decide +kernel) ⟨(Nat.le_of_ble_eq_true rfl), (Nat.le_of_ble_eq_true rfl)⟩) hY.1 rfl rfl rfl rfl hl.1 (Nat.le_of_ble_eq_true rfl) dX9_order_47 ⟨Nat.zero_le _, Nat.zero_le _⟩ (fun z9 μ6 n7 H locs hz9 hp8 hH hS => ?_)
    obtain ⟨hz9, hm9, hn9⟩ := hp8
    rw [hm9, hn9] at hH
    have hz9c : (z9 = 1 ∧ (wr = 0 ∧ nxt χ ln pl = (97 : Int))) ∨ (z9 = 0 ∧ ¬ (wr = 0 ∧ nxt χ ln pl = (97 : Int))) := by
      by_cases q9 : wr = 0 ∧ nxt χ ln pl = (97 : Int)
      · rw [if_pos q9] at hz9; exact Or.inl ⟨hz9, q9⟩
      · rw [if_neg q9] at hz9; exact Or.inr ⟨hz9, q9⟩
    clear hz9 hm9 hn9
    refine j_if_eq (tgt := 85) hx hb dX9_order_50 (by decide) (fun c10 => ?_) (fun c10 => ?_) (by omega)
    · skip
      refine lv_aload_n hx hb dX9_order_85 rfl (lv_at hl 0 rfl) ?_
      refine j_bipush hx hb dX9_order_86 ?_ (by decide)
      refine m_callVi (As := [.int (iv 112)]) (rest := []) ⟨hx, hb, hml, hown, hts⟩ hK hH hS (c_X9_isNext l G μ n yy σ α β κ χ ω kn ik ln en fr pl wr hY 112 hOC (by omega) (by omega) (by omega)) (cwV 1 hts gX9_order_X9_isNext rfl rfl rfl (by decide +kernel) ⟨(Nat.le_of_ble_eq_true rfl), (Nat.le_of_ble_eq_true rfl)⟩) hY.1 rfl rfl rfl rfl hl.1 (Nat.le_of_ble_eq_true rfl) dX9_order_88 ⟨Nat.zero_le _, Nat.zero_le _⟩ (fun z14 μ11 n12 H locs hz14 hp13 hH hS => ?_)
      obtain ⟨hz9, hm9, hn9⟩ := hp13
      rw [hm9, hn9] at hH
      have hz14c : (z14 = 1 ∧ (wr = 0 ∧ nxt χ ln pl = (112 : Int))) ∨ (z14 = 0 ∧ ¬ (wr = 0 ∧ nxt χ ln pl = (112 : Int))) := by
        by_cases q9 : wr = 0 ∧ nxt χ ln pl = (112 : Int)
        · rw [if_pos q9] at hz9; exact Or.inl ⟨hz9, q9⟩
        · rw [if_neg q9] at hz9; exact Or.inr ⟨hz9, q9⟩
      clear hz9 hm9 hn9
      refine j_if_eq (tgt := 163) hx hb dX9_order_91 (by decide) (fun c15 => ?_) (fun c15 => ?_) (by omega)
      · skip
        refine lv_aload_n hx hb dX9_order_163 rfl (lv_at hl 0 rfl) ?_
        refine j_bipush hx hb dX9_order_164 ?_ (by decide)
        refine m_callVi (As := [.int (iv 43)]) (rest := []) ⟨hx, hb, hml, hown, hts⟩ hK hH hS (c_X9_isNext l G μ n yy σ α β κ χ ω kn ik ln en fr pl wr hY 43 hOC (by omega) (by omega) (by omega)) (cwV 1 hts gX9_order_X9_isNext rfl rfl rfl (by decide +kernel) ⟨(Nat.le_of_ble_eq_true rfl), (Nat.le_of_ble_eq_true rfl)⟩) hY.1 rfl rfl rfl rfl hl.1 (Nat.le_of_ble_eq_true rfl) dX9_order_166 ⟨Nat.zero_le _, Nat.zero_le _⟩ (fun z19 μ16 n17 H locs hz19 hp18 hH hS => ?_)
        obtain ⟨hz9, hm9, hn9⟩ := hp18
        rw [hm9, hn9] at hH
        have hz19c : (z19 = 1 ∧ (wr = 0 ∧ nxt χ ln pl = (43 : Int))) ∨ (z19 = 0 ∧ ¬ (wr = 0 ∧ nxt χ ln pl = (43 : Int))) := by
          by_cases q9 : wr = 0 ∧ nxt χ ln pl = (43 : Int)
          · rw [if_pos q9] at hz9; exact Or.inl ⟨hz9, q9⟩
          · rw [if_neg q9] at hz9; exact Or.inr ⟨hz9, q9⟩
        clear hz9 hm9 hn9
        refine j_if_eq (tgt := 211) hx hb dX9_order_169 (by decide) (fun c20 => ?_) (fun c20 => ?_) (by omega)
        · skip
          have hk0 : (nxt χ ln pl) ≠ 100 ∧ (nxt χ ln pl) ≠ 97 ∧ (nxt χ ln pl) ≠ 112 ∧ (nxt χ ln pl) ≠ 43 := by omega
          refine lv_aload_n hx hb dX9_order_211 rfl (lv_at hl 0 rfl) ?_
          refine j_bipush hx hb dX9_order_212 ?_ (by decide)
          refine j_bipush hx hb dX9_order_214 ?_ (by decide)
          refine m_callVi (As := [.int (iv 105), .int (iv 105)]) (rest := []) ⟨hx, hb, hml, hown, hts⟩ hK hH hS (c_X9_sign l G μ n yy σ α β κ χ ω kn ik ln en fr pl wr hY 105 105 hOC (by omega) (by omega) (by omega) (by omega)) (cwV 2 hts gX9_order_X9_sign rfl rfl rfl (by decide +kernel) ⟨(Nat.le_of_ble_eq_true rfl), (Nat.le_of_ble_eq_true rfl)⟩) hY.1 rfl rfl rfl rfl hl.1 (Nat.le_of_ble_eq_true rfl) dX9_order_216 ⟨Nat.zero_le _, Nat.zero_le _⟩ (fun z24 μ21 n22 H locs hz24 hp23 hH hS => ?_)
          obtain ⟨hz24s, ⟨pl25, wr26, hY, hsg⟩, hfr1⟩ := hp23
          have hfr := hfr.tr hfr1
          clear hfr1
          refine lv_istore_n (lv' := [(2, .int (iv z24)), (0, .ref yy), (1, .int (iv 0))]) hx hb dX9_order_219 rfl hl (by decide) rfl (fun ls hl => ?_)
          refine lv_aload_n hx hb dX9_order_220 rfl (lv_at hl 1 rfl) ?_
          refine m_get (C := RX9) (T := TX9) (N := 13) (ci := 8) hx hb hts i_X9 hown hK hH hY.1 rfl 12 (by decide) f_0 rfl dX9_order_221 ?_
          refine j_if_eq (tgt := 231) hx hb dX9_order_224 (by decide) (fun c27 => ?_) (fun c27 => ?_) (by omega)
          · skip
            refine lv_aload_n hx hb dX9_order_231 rfl (lv_at hl 1 rfl) ?_
            refine j_sipush hx hb dX9_order_232 ?_ (by decide)
            refine m_callVi (As := [.int (iv 200)]) (rest := []) ⟨hx, hb, hml, hown, hts⟩ hK hH hS (c_X9_number l G μ21 n22 yy σ α β κ χ ω kn ik ln en fr pl25 wr26 hY 200 hOC (by omega) (by omega) (by omega)) (cwV 1 hts gX9_order_X9_number rfl rfl rfl (by decide +kernel) ⟨(Nat.le_of_ble_eq_true rfl), (Nat.le_of_ble_eq_true rfl)⟩) hY.1 rfl rfl rfl rfl hl.1 (Nat.le_of_ble_eq_true rfl) dX9_order_235 ⟨Nat.zero_le _, Nat.zero_le _⟩ (fun z31 μ28 n29 H locs hz31 hp30 hH hS => ?_)
            obtain ⟨⟨pl32, wr33, hY, hnb⟩, hfr1⟩ := hp30
            have hfr := hfr.tr hfr1
            clear hfr1
            refine lv_istore_n (lv' := [(3, .int (iv z31)), (2, .int (iv z24)), (0, .ref yy), (1, .int (iv 0))]) hx hb dX9_order_238 rfl hl (by decide) rfl (fun ls hl => ?_)
            refine lv_aload_n hx hb dX9_order_239 rfl (lv_at hl 2 rfl) ?_
            refine m_get (C := RX9) (T := TX9) (N := 13) (ci := 8) hx hb hts i_X9 hown hK hH hY.1 rfl 0 (by decide) f_2 rfl dX9_order_240 ?_
            refine j_const hx hb dX9_order_243 ?_
            refine lv_iload_n hx hb dX9_order_244 rfl (lv_at hl 3 rfl) ?_
            refine j_if_eq (tgt := 265) hx hb dX9_order_245 (by decide) (fun c34 => ?_) (fun c34 => absurd c34 (by omega)) (by omega)
            refine lv_aload_n hx hb dX9_order_265 rfl (lv_at hl 2 rfl) ?_
            refine m_get (C := RX9) (T := TX9) (N := 13) (ci := 8) hx hb hts i_X9 hown hK hH hY.1 rfl 0 (by decide) f_2 rfl dX9_order_266 ?_
            refine j_const hx hb dX9_order_269 ?_
            refine m_iald (nA := 163) (f := σ) hx hb hK hH hY.2.1 dX9_order_270 ?_ (by omega) (by omega)
            refine j_norm (y := (σ 4)) rfl ?_
            refine m_iast (nA := 163) (f := σ) hx hb hK hH hS hY.2.1 dX9_order_271 (fun H locs hH hS => ?_) (by omega) (by omega)
            obtain ⟨ν35, hY, hfr, hH⟩ : ∃ ξ : hM, IsMM G ξ yy (fu σ 4 (σ 4)) α β κ χ ω kn ik ln en fr pl32 wr33 ∧ MFr yy μ ξ ∧ gP G ξ n29 H := hY.w1 hfr hH
            have hH : gP G ν35 n29 H := hH
            have hq9 : fu σ 4 (σ 4) = σ := (fu_i (by omega))
            rw [hq9] at hY
            clear hq9
            refine lv_aload_n hx hb dX9_order_272 rfl (lv_at hl 2 rfl) ?_
            refine m_get (C := RX9) (T := TX9) (N := 13) (ci := 8) hx hb hts i_X9 hown hK hH hY.1 rfl 0 (by decide) f_2 rfl dX9_order_273 ?_
            refine j_const hx hb dX9_order_276 ?_
            refine m_iald (nA := 163) (f := σ) hx hb hK hH hY.2.1 dX9_order_277 ?_ (by omega) (by omega)
            refine j_norm (y := (σ 3)) rfl ?_
            refine j_ldc hx hb (36524) hown f_3 dX9_order_278 ?_ (by decide)
            refine j_icmp_gt (tgt := 287) hx hb dX9_order_280 (by decide) (fun c36 => absurd c36 (by omega)) (fun c36 => ?_) (by omega) (by omega)
            refine j_const hx hb dX9_order_283 ?_
            refine lv_goto (tgt := 288) hx hb dX9_order_284 (by decide) ?_
            subst hQ
            refine m_zret hx hb hr hlocks hH hS dX9_order_288 ?_ (by omega)
            refine ⟨rfl, ⟨_, _, hY, ?_⟩, hfr⟩
            rcases hsg with ⟨e1, e2, e3, e4, e5, e6⟩ | ⟨e1, e2, e3⟩
            · have hk : nxt χ ln pl = 105 := by omega
              rw [e2] at hnb
              rcases hnb with ⟨q1, q2, q3, q4, q5⟩ | ⟨q1, q2, q3⟩
              · rw [ordF_i hk q2, if_pos (by omega)]; exact ⟨rfl, Or.inl ⟨q1, rfl⟩⟩
              · rw [ordF_i hk q3]; exact ⟨q2, Or.inr ⟨q1, rfl⟩⟩
            · omega
          · skip
            refine j_const hx hb dX9_order_227 ?_
            refine lv_goto (tgt := 238) hx hb dX9_order_228 (by decide) ?_
            refine lv_istore_n (lv' := [(3, .int (iv 0)), (2, .int (iv z24)), (0, .ref yy), (1, .int (iv 0))]) hx hb dX9_order_238 rfl hl (by decide) rfl (fun ls hl => ?_)
            refine lv_aload_n hx hb dX9_order_239 rfl (lv_at hl 2 rfl) ?_
            refine m_get (C := RX9) (T := TX9) (N := 13) (ci := 8) hx hb hts i_X9 hown hK hH hY.1 rfl 0 (by decide) f_2 rfl dX9_order_240 ?_
            refine j_const hx hb dX9_order_243 ?_
            refine lv_iload_n hx hb dX9_order_244 rfl (lv_at hl 3 rfl) ?_
            refine j_if_eq (tgt := 265) hx hb dX9_order_245 (by decide) (fun c37 => ?_) (fun c37 => absurd c37 (by omega)) (by omega)
            refine lv_aload_n hx hb dX9_order_265 rfl (lv_at hl 2 rfl) ?_
            refine m_get (C := RX9) (T := TX9) (N := 13) (ci := 8) hx hb hts i_X9 hown hK hH hY.1 rfl 0 (by decide) f_2 rfl dX9_order_266 ?_
            refine j_const hx hb dX9_order_269 ?_
            refine m_iald (nA := 163) (f := σ) hx hb hK hH hY.2.1 dX9_order_270 ?_ (by omega) (by omega)
            refine j_norm (y := (σ 4)) rfl ?_
            refine m_iast (nA := 163) (f := σ) hx hb hK hH hS hY.2.1 dX9_order_271 (fun H locs hH hS => ?_) (by omega) (by omega)
            obtain ⟨ν38, hY, hfr, hH⟩ : ∃ ξ : hM, IsMM G ξ yy (fu σ 4 (σ 4)) α β κ χ ω kn ik ln en fr pl25 wr26 ∧ MFr yy μ ξ ∧ gP G ξ n22 H := hY.w1 hfr hH
            have hH : gP G ν38 n22 H := hH
            have hq9 : fu σ 4 (σ 4) = σ := (fu_i (by omega))
            rw [hq9] at hY
            clear hq9
            refine lv_aload_n hx hb dX9_order_272 rfl (lv_at hl 2 rfl) ?_
            refine m_get (C := RX9) (T := TX9) (N := 13) (ci := 8) hx hb hts i_X9 hown hK hH hY.1 rfl 0 (by decide) f_2 rfl dX9_order_273 ?_
            refine j_const hx hb dX9_order_276 ?_
            refine m_iald (nA := 163) (f := σ) hx hb hK hH hY.2.1 dX9_order_277 ?_ (by omega) (by omega)
            refine j_norm (y := (σ 3)) rfl ?_
            refine j_ldc hx hb (36524) hown f_3 dX9_order_278 ?_ (by decide)
            refine j_icmp_gt (tgt := 287) hx hb dX9_order_280 (by decide) (fun c39 => absurd c39 (by omega)) (fun c39 => ?_) (by omega) (by omega)
            refine j_const hx hb dX9_order_283 ?_
            refine lv_goto (tgt := 288) hx hb dX9_order_284 (by decide) ?_
            subst hQ
            refine m_zret hx hb hr hlocks hH hS dX9_order_288 ?_ (by omega)
            refine ⟨rfl, ⟨_, _, hY, ?_⟩, hfr⟩
            rcases hsg with ⟨e1, e2, e3, e4, e5, e6⟩ | ⟨e1, e2, e3⟩
            · omega
            · have hx9 := ordF_x hk0.1 hk0.2.1 hk0.2.2.1 hk0.2.2.2 (by omega)
              exact ⟨e2.trans hx9.2.symm, Or.inr ⟨e1, hx9.1⟩⟩
        · skip
          have hk : (nxt χ ln pl) = 43 := by omega
          have hpn : pl < ln := by omega
          refine lv_aload_n hx hb dX9_order_172 rfl (lv_at hl 0 rfl) ?_
          refine lv_dup hx hb dX9_order_173 rfl ?_
          refine m_get (C := RX9) (T := TX9) (N := 13) (ci := 8) hx hb hts i_X9 hown hK hH hY.1 rfl 11 (by decide) f_4 rfl dX9_order_174 ?_
          refine j_const hx hb dX9_order_177 ?_
          refine j_iadd hx hb dX9_order_178 ?_
          refine m_put (C := RX9) (T := TX9) (N := 13) (ci := 8) hx hb hts i_X9 tyX9 tyX9_ok nmX9 hown hK hH hS hY.1 rfl 11 (by decide) f_4 rfl rfl rfl (Nat.le_of_ble_eq_true rfl) dX9_order_179 (fun H locs hH hS => ?_)
          obtain ⟨ν40, hY, hfr, hH⟩ : ∃ ξ : hM, IsMM G ξ yy σ α β κ χ ω kn ik ln en fr (pl + 1) wr ∧ MFr yy μ ξ ∧ gP G ξ n H := hY.w0 hfr hH
          have hH : gP G ν40 n H := hH
          refine lv_aload_n hx hb dX9_order_182 rfl (lv_at hl 0 rfl) ?_
          refine j_sipush hx hb dX9_order_183 ?_ (by decide)
          refine m_callVi (As := [.int (iv 999)]) (rest := []) ⟨hx, hb, hml, hown, hts⟩ hK hH hS (c_X9_number l G ν40 n yy σ α β κ χ ω kn ik ln en fr (pl + 1) wr hY 999 hOC (by omega) (by omega) (by omega)) (cwV 1 hts gX9_order_X9_number rfl rfl rfl (by decide +kernel) ⟨(Nat.le_of_ble_eq_true rfl), (Nat.le_of_ble_eq_true rfl)⟩) hY.1 rfl rfl rfl rfl hl.1 (Nat.le_of_ble_eq_true rfl) dX9_order_186 ⟨Nat.zero_le _, Nat.zero_le _⟩ (fun z44 μ41 n42 H locs hz44 hp43 hH hS => ?_)
          obtain ⟨⟨pl45, wr46, hY, hnb⟩, hfr1⟩ := hp43
          have hfr := hfr.tr hfr1
          clear hfr1
          refine lv_istore_n (lv' := [(2, .int (iv z44)), (0, .ref yy), (1, .int (iv 0))]) hx hb dX9_order_189 rfl hl (by decide) rfl (fun ls hl => ?_)
          refine lv_aload_n hx hb dX9_order_190 rfl (lv_at hl 1 rfl) ?_
          refine m_get (C := RX9) (T := TX9) (N := 13) (ci := 8) hx hb hts i_X9 hown hK hH hY.1 rfl 0 (by decide) f_2 rfl dX9_order_191 ?_
          refine j_const hx hb dX9_order_194 ?_
          refine lv_dup2_11 hx hb dX9_order_195 rfl rfl ?_
          refine m_iald (nA := 163) (f := σ) hx hb hK hH hY.2.1 dX9_order_196 ?_ (by omega) (by omega)
          refine j_norm (y := (σ 3)) rfl ?_
          refine lv_iload_n hx hb dX9_order_197 rfl (lv_at hl 2 rfl) ?_
          refine j_if_eq (tgt := 205) hx hb dX9_order_198 (by decide) (fun c47 => ?_) (fun c47 => absurd c47 (by omega)) (by omega)
          refine j_const hx hb dX9_order_205 ?_
          refine j_iadd hx hb dX9_order_206 ?_
          refine m_iast (nA := 163) (f := σ) hx hb hK hH hS hY.2.1 dX9_order_207 (fun H locs hH hS => ?_) (by omega) (by omega)
          obtain ⟨ν48, hY, hfr, hH⟩ : ∃ ξ : hM, IsMM G ξ yy (fu σ 3 ((σ 3) + 0)) α β κ χ ω kn ik ln en fr pl45 wr46 ∧ MFr yy μ ξ ∧ gP G ξ n42 H := hY.w1 hfr hH
          have hH : gP G ν48 n42 H := hH
          refine lv_goto (tgt := 272) hx hb dX9_order_208 (by decide) ?_
          have hq9 : fu σ 3 ((σ 3) + 0) = σ := (fu_i (by omega))
          rw [hq9] at hY
          clear hq9
          refine lv_aload_n hx hb dX9_order_272 rfl (lv_at hl 1 rfl) ?_
          refine m_get (C := RX9) (T := TX9) (N := 13) (ci := 8) hx hb hts i_X9 hown hK hH hY.1 rfl 0 (by decide) f_2 rfl dX9_order_273 ?_
          refine j_const hx hb dX9_order_276 ?_
          refine m_iald (nA := 163) (f := σ) hx hb hK hH hY.2.1 dX9_order_277 ?_ (by omega) (by omega)
          refine j_norm (y := (σ 3)) rfl ?_
          refine j_ldc hx hb (36524) hown f_3 dX9_order_278 ?_ (by decide)
          refine j_icmp_gt (tgt := 287) hx hb dX9_order_280 (by decide) (fun c49 => absurd c49 (by omega)) (fun c49 => ?_) (by omega) (by omega)
          refine j_const hx hb dX9_order_283 ?_
          refine lv_goto (tgt := 288) hx hb dX9_order_284 (by decide) ?_
          subst hQ
          refine m_zret hx hb hr hlocks hH hS dX9_order_288 ?_ (by omega)
          refine ⟨rfl, ⟨_, _, hY, ?_⟩, hfr⟩
          rcases hnb with ⟨q1, q2, q3, q4, q5⟩ | ⟨q1, q2, q3⟩
          · rw [ordF_plus hk q2, if_pos (by omega)]; exact ⟨rfl, Or.inl ⟨q1, rfl⟩⟩
          · rw [ordF_plus hk q3]; exact ⟨q2, Or.inr ⟨q1, rfl⟩⟩
      · skip
        have hk : (nxt χ ln pl) = 112 := by omega
        have hpn : pl < ln := by omega
        have hnp := nxt_or (c := χ) (L := ln) (a := pl + 1) (by omega)
        refine lv_aload_n hx hb dX9_order_94 rfl (lv_at hl 0 rfl) ?_
        refine lv_dup hx hb dX9_order_95 rfl ?_
        refine m_get (C := RX9) (T := TX9) (N := 13) (ci := 8) hx hb hts i_X9 hown hK hH hY.1 rfl 11 (by decide) f_4 rfl dX9_order_96 ?_
        refine j_const hx hb dX9_order_99 ?_
        refine j_iadd hx hb dX9_order_100 ?_
        refine m_put (C := RX9) (T := TX9) (N := 13) (ci := 8) hx hb hts i_X9 tyX9 tyX9_ok nmX9 hown hK hH hS hY.1 rfl 11 (by decide) f_4 rfl rfl rfl (Nat.le_of_ble_eq_true rfl) dX9_order_101 (fun H locs hH hS => ?_)
        obtain ⟨ν50, hY, hfr, hH⟩ : ∃ ξ : hM, IsMM G ξ yy σ α β κ χ ω kn ik ln en fr (pl + 1) wr ∧ MFr yy μ ξ ∧ gP G ξ n H := hY.w0 hfr hH
        have hH : gP G ν50 n H := hH
        refine lv_aload_n hx hb dX9_order_104 rfl (lv_at hl 0 rfl) ?_
        refine j_bipush hx hb dX9_order_105 ?_ (by decide)
        refine j_bipush hx hb dX9_order_107 ?_ (by decide)
        refine m_callVi (As := [.int (iv 49), .int (iv 57)]) (rest := []) ⟨hx, hb, hml, hown, hts⟩ hK hH hS (c_X9_sign l G ν50 n yy σ α β κ χ ω kn ik ln en fr (pl + 1) wr hY 49 57 hOC (by omega) (by omega) (by omega) (by omega)) (cwV 2 hts gX9_order_X9_sign rfl rfl rfl (by decide +kernel) ⟨(Nat.le_of_ble_eq_true rfl), (Nat.le_of_ble_eq_true rfl)⟩) hY.1 rfl rfl rfl rfl hl.1 (Nat.le_of_ble_eq_true rfl) dX9_order_109 ⟨Nat.zero_le _, Nat.zero_le _⟩ (fun z54 μ51 n52 H locs hz54 hp53 hH hS => ?_)
        obtain ⟨hz54s, ⟨pl55, wr56, hY, hsg⟩, hfr1⟩ := hp53
        have hfr := hfr.tr hfr1
        clear hfr1
        refine j_bipush hx hb dX9_order_112 ?_ (by decide)
        refine j_isub hx hb dX9_order_114 ?_
        refine lv_istore_n (lv' := [(2, .int (iv (z54 - 48))), (0, .ref yy), (1, .int (iv 0))]) hx hb dX9_order_115 rfl hl (by decide) rfl (fun ls hl => ?_)
        refine j_const hx hb dX9_order_116 ?_
        refine lv_istore_n (lv' := [(3, .int (iv 1)), (2, .int (iv (z54 - 48))), (0, .ref yy), (1, .int (iv 0))]) hx hb dX9_order_117 rfl hl (by decide) rfl (fun ls hl => ?_)
        refine lv_aload_n hx hb dX9_order_118 rfl (lv_at hl 2 rfl) ?_
        refine j_bipush hx hb dX9_order_119 ?_ (by decide)
        refine m_callVi (As := [.int (iv 120)]) (rest := []) ⟨hx, hb, hml, hown, hts⟩ hK hH hS (c_X9_isNext l G μ51 n52 yy σ α β κ χ ω kn ik ln en fr pl55 wr56 hY 120 hOC (by omega) (by omega) (by omega)) (cwV 1 hts gX9_order_X9_isNext rfl rfl rfl (by decide +kernel) ⟨(Nat.le_of_ble_eq_true rfl), (Nat.le_of_ble_eq_true rfl)⟩) hY.1 rfl rfl rfl rfl hl.1 (Nat.le_of_ble_eq_true rfl) dX9_order_121 ⟨Nat.zero_le _, Nat.zero_le _⟩ (fun z60 μ57 n58 H locs hz60 hp59 hH hS => ?_)
        obtain ⟨hz9, hm9, hn9⟩ := hp59
        rw [hm9, hn9] at hH
        have hz60c : (z60 = 1 ∧ (wr56 = 0 ∧ nxt χ ln pl55 = (120 : Int))) ∨ (z60 = 0 ∧ ¬ (wr56 = 0 ∧ nxt χ ln pl55 = (120 : Int))) := by
          by_cases q9 : wr56 = 0 ∧ nxt χ ln pl55 = (120 : Int)
          · rw [if_pos q9] at hz9; exact Or.inl ⟨hz9, q9⟩
          · rw [if_neg q9] at hz9; exact Or.inr ⟨hz9, q9⟩
        clear hz9 hm9 hn9
        refine j_if_eq (tgt := 144) hx hb dX9_order_124 (by decide) (fun c61 => ?_) (fun c61 => ?_) (by omega)
        · skip
          refine lv_iload_n hx hb dX9_order_144 rfl (lv_at hl 3 rfl) ?_
          refine j_if_eq (tgt := 157) hx hb dX9_order_145 (by decide) (fun c62 => ?_) (fun c62 => absurd c62 (by omega)) (by omega)
          refine j_const hx hb dX9_order_157 ?_
          refine lv_istore (lv' := [(4, .int (iv 0)), (3, .int (iv 1)), (2, .int (iv (z54 - 48))), (0, .ref yy), (1, .int (iv 0))]) hx hb dX9_order_158 hl (by decide) rfl (fun ls hl => ?_)
          refine lv_goto (tgt := 272) hx hb dX9_order_160 (by decide) ?_
          refine lv_aload_n hx hb dX9_order_272 rfl (lv_at hl 3 rfl) ?_
          refine m_get (C := RX9) (T := TX9) (N := 13) (ci := 8) hx hb hts i_X9 hown hK hH hY.1 rfl 0 (by decide) f_2 rfl dX9_order_273 ?_
          refine j_const hx hb dX9_order_276 ?_
          refine m_iald (nA := 163) (f := σ) hx hb hK hH hY.2.1 dX9_order_277 ?_ (by omega) (by omega)
          refine j_norm (y := (σ 3)) rfl ?_
          refine j_ldc hx hb (36524) hown f_3 dX9_order_278 ?_ (by decide)
          refine j_icmp_gt (tgt := 287) hx hb dX9_order_280 (by decide) (fun c63 => absurd c63 (by omega)) (fun c63 => ?_) (by omega) (by omega)
          refine j_const hx hb dX9_order_283 ?_
          refine lv_goto (tgt := 288) hx hb dX9_order_284 (by decide) ?_
          subst hQ
          refine m_zret hx hb hr hlocks hH hS dX9_order_288 ?_ (by omega)
          refine ⟨rfl, ⟨_, _, hY, ?_⟩, hfr⟩
          have h9 := num_9 (c := χ) (L := ln) (a := pl + 1)
          rcases hsg with ⟨e1, e2, e3, e4, e5, e6⟩ | ⟨e1, e2, e3⟩
          · have h91 := (h9.resolve_right (fun q => q.1 ⟨e4, e5⟩)).2.2
            rw [← e2] at h91
            rw [ordF_p1 hk h91 (by omega) (by omega)]
            exact ⟨rfl, Or.inl ⟨e1, rfl⟩⟩
          · have h92 := (h9.resolve_left (fun q => e3 ⟨by omega, q.1, q.2.1⟩)).2
            rw [ordF_pn hk h92]
            exact ⟨e2, Or.inr ⟨e1, rfl⟩⟩
        · skip
          have hnq := nxt_or (c := χ) (L := ln) (a := pl55) (by omega)
          refine lv_aload_n hx hb dX9_order_127 rfl (lv_at hl 2 rfl) ?_
          refine lv_dup hx hb dX9_order_128 rfl ?_
          refine m_get (C := RX9) (T := TX9) (N := 13) (ci := 8) hx hb hts i_X9 hown hK hH hY.1 rfl 11 (by decide) f_4 rfl dX9_order_129 ?_
          refine j_const hx hb dX9_order_132 ?_
          refine j_iadd hx hb dX9_order_133 ?_
          refine m_put (C := RX9) (T := TX9) (N := 13) (ci := 8) hx hb hts i_X9 tyX9 tyX9_ok nmX9 hown hK hH hS hY.1 rfl 11 (by decide) f_4 rfl rfl rfl (Nat.le_of_ble_eq_true rfl) dX9_order_134 (fun H locs hH hS => ?_)
          obtain ⟨ν64, hY, hfr, hH⟩ : ∃ ξ : hM, IsMM G ξ yy σ α β κ χ ω kn ik ln en fr (pl55 + 1) wr56 ∧ MFr yy μ ξ ∧ gP G ξ n52 H := hY.w0 hfr hH
          have hH : gP G ν64 n52 H := hH
          refine lv_aload_n hx hb dX9_order_137 rfl (lv_at hl 2 rfl) ?_
          refine j_bipush hx hb dX9_order_138 ?_ (by decide)
          refine m_callVi (As := [.int (iv 99)]) (rest := []) ⟨hx, hb, hml, hown, hts⟩ hK hH hS (c_X9_number l G ν64 n52 yy σ α β κ χ ω kn ik ln en fr (pl55 + 1) wr56 hY 99 hOC (by omega) (by omega) (by omega)) (cwV 1 hts gX9_order_X9_number rfl rfl rfl (by decide +kernel) ⟨(Nat.le_of_ble_eq_true rfl), (Nat.le_of_ble_eq_true rfl)⟩) hY.1 rfl rfl rfl rfl hl.1 (Nat.le_of_ble_eq_true rfl) dX9_order_140 ⟨Nat.zero_le _, Nat.zero_le _⟩ (fun z68 μ65 n66 H locs hz68 hp67 hH hS => ?_)
          obtain ⟨⟨pl69, wr70, hY, hnb⟩, hfr1⟩ := hp67
          have hfr := hfr.tr hfr1
          clear hfr1
          refine lv_istore_n (lv' := [(3, .int (iv z68)), (2, .int (iv (z54 - 48))), (0, .ref yy), (1, .int (iv 0))]) hx hb dX9_order_143 rfl hl (by decide) rfl (fun ls hl => ?_)
          refine lv_iload_n hx hb dX9_order_144 rfl (lv_at hl 3 rfl) ?_
          refine j_if_eq (tgt := 157) hx hb dX9_order_145 (by decide) (fun c71 => ?_) (fun c71 => absurd c71 (by omega)) (by omega)
          refine j_const hx hb dX9_order_157 ?_
          refine lv_istore (lv' := [(4, .int (iv 0)), (3, .int (iv z68)), (2, .int (iv (z54 - 48))), (0, .ref yy), (1, .int (iv 0))]) hx hb dX9_order_158 hl (by decide) rfl (fun ls hl => ?_)
          refine lv_goto (tgt := 272) hx hb dX9_order_160 (by decide) ?_
          refine lv_aload_n hx hb dX9_order_272 rfl (lv_at hl 3 rfl) ?_
          refine m_get (C := RX9) (T := TX9) (N := 13) (ci := 8) hx hb hts i_X9 hown hK hH hY.1 rfl 0 (by decide) f_2 rfl dX9_order_273 ?_
          refine j_const hx hb dX9_order_276 ?_
          refine m_iald (nA := 163) (f := σ) hx hb hK hH hY.2.1 dX9_order_277 ?_ (by omega) (by omega)
          refine j_norm (y := (σ 3)) rfl ?_
          refine j_ldc hx hb (36524) hown f_3 dX9_order_278 ?_ (by decide)
          refine j_icmp_gt (tgt := 287) hx hb dX9_order_280 (by decide) (fun c72 => absurd c72 (by omega)) (fun c72 => ?_) (by omega) (by omega)
          refine j_const hx hb dX9_order_283 ?_
          refine lv_goto (tgt := 288) hx hb dX9_order_284 (by decide) ?_
          subst hQ
          refine m_zret hx hb hr hlocks hH hS dX9_order_288 ?_ (by omega)
          refine ⟨rfl, ⟨_, _, hY, ?_⟩, hfr⟩
          have h9 := num_9 (c := χ) (L := ln) (a := pl + 1)
          rcases hsg with ⟨e1, e2, e3, e4, e5, e6⟩ | ⟨e1, e2, e3⟩
          · have h91 := (h9.resolve_right (fun q => q.1 ⟨e4, e5⟩)).2.2
            rw [← e2] at h91
            rcases hnb with ⟨q1, q2, q3, q4, q5⟩ | ⟨q1, q2, q3⟩
            · rw [ordF_px hk h91 (by omega) (by omega) q2, if_pos (by omega)]; exact ⟨rfl, Or.inl ⟨q1, rfl⟩⟩
            · rw [ordF_px hk h91 (by omega) (by omega) q3]; exact ⟨q2, Or.inr ⟨q1, rfl⟩⟩
          · omega
    · skip
      have hk : (nxt χ ln pl) = 97 := by omega
      have hpn : pl < ln := by omega
      refine lv_aload_n hx hb dX9_order_53 rfl (lv_at hl 0 rfl) ?_
      refine lv_dup hx hb dX9_order_54 rfl ?_
      refine m_get (C := RX9) (T := TX9) (N := 13) (ci := 8) hx hb hts i_X9 hown hK hH hY.1 rfl 11 (by decide) f_4 rfl dX9_order_55 ?_
      refine j_const hx hb dX9_order_58 ?_
      refine j_iadd hx hb dX9_order_59 ?_
      refine m_put (C := RX9) (T := TX9) (N := 13) (ci := 8) hx hb hts i_X9 tyX9 tyX9_ok nmX9 hown hK hH hS hY.1 rfl 11 (by decide) f_4 rfl rfl rfl (Nat.le_of_ble_eq_true rfl) dX9_order_60 (fun H locs hH hS => ?_)
      obtain ⟨ν73, hY, hfr, hH⟩ : ∃ ξ : hM, IsMM G ξ yy σ α β κ χ ω kn ik ln en fr (pl + 1) wr ∧ MFr yy μ ξ ∧ gP G ξ n H := hY.w0 hfr hH
      have hH : gP G ν73 n H := hH
      refine lv_iload_n hx hb dX9_order_63 rfl (lv_at hl 1 rfl) ?_
      refine j_if_eq (tgt := 80) hx hb dX9_order_64 (by decide) (fun c74 => ?_) (fun c74 => absurd c74 (by omega)) (by omega)
      refine j_const hx hb dX9_order_80 ?_
      refine lv_istore_n (lv' := [(2, .int (iv 0)), (0, .ref yy), (1, .int (iv 0))]) hx hb dX9_order_81 rfl hl (by decide) rfl (fun ls hl => ?_)
      refine lv_goto (tgt := 272) hx hb dX9_order_82 (by decide) ?_
      refine lv_aload_n hx hb dX9_order_272 rfl (lv_at hl 1 rfl) ?_
      refine m_get (C := RX9) (T := TX9) (N := 13) (ci := 8) hx hb hts i_X9 hown hK hH hY.1 rfl 0 (by decide) f_2 rfl dX9_order_273 ?_
      refine j_const hx hb dX9_order_276 ?_
      refine m_iald (nA := 163) (f := σ) hx hb hK hH hY.2.1 dX9_order_277 ?_ (by omega) (by omega)
      refine j_norm (y := (σ 3)) rfl ?_
      refine j_ldc hx hb (36524) hown f_3 dX9_order_278 ?_ (by decide)
      refine j_icmp_gt (tgt := 287) hx hb dX9_order_280 (by decide) (fun c75 => absurd c75 (by omega)) (fun c75 => ?_) (by omega) (by omega)
      refine j_const hx hb dX9_order_283 ?_
      refine lv_goto (tgt := 288) hx hb dX9_order_284 (by decide) ?_
      subst hQ
      refine m_zret hx hb hr hlocks hH hS dX9_order_288 ?_ (by omega)
      refine ⟨rfl, ⟨_, _, hY, ?_⟩, hfr⟩
      rw [ordF_a hk]
      exact ⟨rfl, Or.inl ⟨hwr, rfl⟩⟩
  · skip
    have hk : (nxt χ ln pl) = 100 := by omega
    have hpn : pl < ln := by omega
    refine lv_aload_n hx hb dX9_order_9 rfl (lv_at hl 0 rfl) ?_
    refine lv_dup hx hb dX9_order_10 rfl ?_
    refine m_get (C := RX9) (T := TX9) (N := 13) (ci := 8) hx hb hts i_X9 hown hK hH hY.1 rfl 11 (by decide) f_4 rfl dX9_order_11 ?_
    refine j_const hx hb dX9_order_14 ?_
    refine j_iadd hx hb dX9_order_15 ?_
    refine m_put (C := RX9) (T := TX9) (N := 13) (ci := 8) hx hb hts i_X9 tyX9 tyX9_ok nmX9 hown hK hH hS hY.1 rfl 11 (by decide) f_4 rfl rfl rfl (Nat.le_of_ble_eq_true rfl) dX9_order_16 (fun H locs hH hS => ?_)
    obtain ⟨ν76, hY, hfr, hH⟩ : ∃ ξ : hM, IsMM G ξ yy σ α β κ χ ω kn ik ln en fr (pl + 1) wr ∧ MFr yy μ ξ ∧ gP G ξ n H := hY.w0 hfr hH
    have hH : gP G ν76 n H := hH
    refine lv_aload_n hx hb dX9_order_19 rfl (lv_at hl 0 rfl) ?_
    refine m_callVi (As := []) (rest := []) ⟨hx, hb, hml, hown, hts⟩ hK hH hS (c_X9_date l G ν76 n yy σ α β κ χ ω kn ik ln en fr (pl + 1) wr hY hOC (by omega) (by omega)) (cwV 0 hts gX9_order_X9_date rfl rfl rfl (by decide +kernel) ⟨(Nat.le_of_ble_eq_true rfl), (Nat.le_of_ble_eq_true rfl)⟩) hY.1 rfl rfl rfl rfl hl.1 (Nat.le_of_ble_eq_true rfl) dX9_order_20 ⟨Nat.zero_le _, Nat.zero_le _⟩ (fun z80 μ77 n78 H locs hz80 hp79 hH hS => ?_)
    obtain ⟨⟨pl81, wr82, hY, hdt⟩, hfr1⟩ := hp79
    have hfr := hfr.tr hfr1
    clear hfr1
    refine lv_istore_n (lv' := [(2, .int (iv z80)), (0, .ref yy), (1, .int (iv 0))]) hx hb dX9_order_23 rfl hl (by decide) rfl (fun ls hl => ?_)
    refine lv_iload_n hx hb dX9_order_24 rfl (lv_at hl 2 rfl) ?_
    refine j_if_eq (tgt := 39) hx hb dX9_order_25 (by decide) (fun c83 => ?_) (fun c83 => absurd c83 (by omega)) (by omega)
    refine j_const hx hb dX9_order_39 ?_
    refine lv_istore_n (lv' := [(3, .int (iv 0)), (2, .int (iv z80)), (0, .ref yy), (1, .int (iv 0))]) hx hb dX9_order_40 rfl hl (by decide) rfl (fun ls hl => ?_)
    refine lv_goto (tgt := 272) hx hb dX9_order_41 (by decide) ?_
    refine lv_aload_n hx hb dX9_order_272 rfl (lv_at hl 2 rfl) ?_
    refine m_get (C := RX9) (T := TX9) (N := 13) (ci := 8) hx hb hts i_X9 hown hK hH hY.1 rfl 0 (by decide) f_2 rfl dX9_order_273 ?_
    refine j_const hx hb dX9_order_276 ?_
    refine m_iald (nA := 163) (f := σ) hx hb hK hH hY.2.1 dX9_order_277 ?_ (by omega) (by omega)
    refine j_norm (y := (σ 3)) rfl ?_
    refine j_ldc hx hb (36524) hown f_3 dX9_order_278 ?_ (by decide)
    refine j_icmp_gt (tgt := 287) hx hb dX9_order_280 (by decide) (fun c84 => absurd c84 (by omega)) (fun c84 => ?_) (by omega) (by omega)
    refine j_const hx hb dX9_order_283 ?_
    refine lv_goto (tgt := 288) hx hb dX9_order_284 (by decide) ?_
    subst hQ
    refine m_zret hx hb hr hlocks hH hS dX9_order_288 ?_ (by omega)
    refine ⟨rfl, ⟨_, _, hY, ?_⟩, hfr⟩
    rw [ordF_d hk]
    dsimp only
    rcases hdt with ⟨e1, e2, e3⟩ | ⟨e1, e2, e3⟩
    · rw [e2]; exact ⟨rfl, Or.inl ⟨e1, rfl⟩⟩
    · exact ⟨e3.symm, Or.inr ⟨e1, e2⟩⟩

/-- what an order does to the pool -/
def OrP (ω ω1 : Nat → Int) (en e1 h h1 fr td k : Int) (ch2 : List (Int × Int)) : Prop :=
  PCh ω1 h1 ch2 ∧ h1 ≤ e1 ∧ (en ≤ e1 ∧ e1 ≤ en + 1) ∧ (∀ j : Nat, (j : Int) < 4 * (fr - 1) → ω1 j = ω j) ∧ ((ω1 = ω ∧ e1 = en ∧ h1 = h) ∨ (k = 112 ∧ Frh ω1 h1 td fr ∧ (Frh ω h td fr → e1 = en)))
theorem OrP.no {ω : Nat → Int} {en h fr td k : Int} {ch : List (Int × Int)} (hc : PCh ω h ch) (hl : h ≤ en) : OrP ω ω en en h h fr td k ch := ⟨hc, hl, by omega, fun _ _ => rfl, Or.inl ⟨rfl, rfl, rfl⟩⟩
theorem OrP.pr {ω ω1 : Nat → Int} {en e1 h h1 fr td mo k : Int} {ch : List (Int × Int)} (hk : k = 112) (hp : PrP ω ω1 en e1 h h1 fr td mo ch) : OrP ω ω1 en e1 h h1 fr td k (chAdd ch td mo) := by
  obtain ⟨a, b, c, d, e⟩ := hp
  exact ⟨a, b, c, d, e.elim Or.inl (fun q => Or.inr ⟨hk, q.1, q.2⟩)⟩

abbrev rm_c_X9_order1 : Room := { frames := 6, cells := 0, slots := 0, locals := 140 }
set_option maxHeartbeats 4000000 in
set_option maxRecDepth 100000 in
theorem c_X9_order1 (l : Launch) (G : wG) (μ : hM) (n : Nat) (yy : Nat) (σ α β κ χ ω : Nat → Int) (kn ik ln en fr pl wr : Int) (hY : IsMM G μ yy σ α β κ χ ω kn ik ln en fr pl wr) (cl : List (Int × Int)) (hOC : OkC χ ln) (hpl : 0 ≤ pl ∧ pl ≤ ln) (hwr : wr = 0) (hT : OkT σ) (h5 : σ 5 + 99 ≤ 2000000000) (hPC : PCh ω (σ 11) cl) (hle : σ 11 ≤ en) (hen : 0 ≤ en ∧ en ≤ 5990) (hfx : 1 ≤ fr ∧ fr ≤ en + 1) (hcl : ∀ x ∈ cl, 0 ≤ x.1 ∧ x.1 ≤ 40000) (hor : (ordF χ ln pl).1 = 1) : Met l yX9_order wsX9_order rm_c_X9_order1 (mPc G μ n [.ref yy, .int (iv 1)]) (mQi G (fun z μ1 n1 => z = (if (ordD (nxt χ ln pl) (ordF χ ln pl).2.2.1 (ordF χ ln pl).2.2.2 (σ, cl)).1 3 ≤ 36524 then 1 else 0) ∧ (∃ (ω1 : Nat → Int) (e1 h1 : Int), IsMM G μ1 yy (fu (ordD (nxt χ ln pl) (ordF χ ln pl).2.2.1 (ordF χ ln pl).2.2.2 (σ, cl)).1 11 h1) α β κ χ ω1 kn ik ln e1 fr ((ordF χ ln pl).2.1) 0 ∧ OrP ω ω1 en e1 (σ 11) h1 fr (σ 3) (nxt χ ln pl) (ordD (nxt χ ln pl) (ordF χ ln pl).2.2.1 (ordF χ ln pl).2.2.2 (σ, cl)).2) ∧ MFr yy μ μ1)) 0 0 (gA G) := by
  refine Met.ofW (cc := cX9_order) (maxL := 5) (ret := (some .boolean)) (by decide) rfl ?_
  intro p e s m args below meth c s₁ B hml hv
  obtain ⟨hav, hK, hH⟩ := hv
  have hx := B.exec
  have hb := B.bytes
  have hr := B.returns
  have hts := atoms_spec (ws := wsX9_order) B.pre
  have hown : s.vm.findClass RX9 = some m.cls := findClass_of_methodNamed B.named
  have hlocks := B.notSynchronized
  have hS : va_S (gA G) s.heap s.heap [] := va_S.rf
  have hl := lv_entry ([.ref yy, .int (iv 1)]) (n := 5) (Nat.le_of_ble_eq_true rfl)
  have hfr : entryFrame m args 5 = entryFrame m ([.ref yy, .int (iv 1)] : List Value).toArray 5 := by rw [hav]
  rw [hfr, lg_entry_eq]
  generalize (lg_sl ([.ref yy, .int (iv 1)]) ++ List.replicate (5 - (lg_sl ([.ref yy, .int (iv 1)])).length) Slot.unset).toArray = ls at hl ⊢
  have hl : lv_has ls 5 [(0, .ref yy), (1, .int (iv 1))] := hl
  generalize hQ : MQ below _ args s 0 0 (gA G) = Q
  show W p l e rm_c_X9_order1 s m args below meth c s.heap [] 0 0 Q (F0 m 0 ls [])
  obtain ⟨H, hHe⟩ : ∃ H, H = s.heap := ⟨_, rfl⟩
  obtain ⟨locs, hlo⟩ : ∃ q : List Loc, q = [] := ⟨_, rfl⟩
  have hH : gP G μ n H := by rw [hHe]; exact hH
  have hS : va_S (gA G) s.heap H locs := by rw [hHe, hlo]; exact hS
  suffices hgo : W p l e rm_c_X9_order1 s m args below meth c H locs 0 0 Q (F0 m 0 ls []) by rw [hHe, hlo] at hgo; exact hgo
  clear hHe hlo hfr hav
  have f_0 := hts (.fieldLink RX9 132 "StampDaterModel" "isWrong" "Z") (List.mem_of_getElem? (i := 3) rfl)
  have i_X9 : ∀ w ∈ u_ws RX9 TX9 13, w ∈ wsX9_order := by decide +kernel
  have f_2 := hts (.fieldLink RX9 7 "StampDaterModel" "s" "[I") (List.mem_of_getElem? (i := 2) rfl)
  have f_3 := hts (.constant RX9 36 (36524)) (List.mem_of_getElem? (i := 4) rfl)
  have f_4 := hts (.fieldLink RX9 129 "StampDaterModel" "place" "I") (List.mem_of_getElem? (i := 1) rfl)
  have hfr : MFr yy μ μ := MFr.rf
  have hOk := hT.1
  have h3 := hT.2.1
  have h4 := hOk.2.2.2.1
  have hl0 := hOC.1
  have hnx := nxt_or (c := χ) (L := ln) hpl.1
  have hcr := hOC.2 pl.toNat
  refine lv_aload_n hx hb dX9_order_0 rfl (lv_at hl 0 rfl) ?_
  refine j_bipush hx hb dX9_order_1 ?_ (by decide)
  refine m_callVi (As := [.int (iv 100)]) (rest := []) ⟨hx, hb, hml, hown, hts⟩ hK hH hS (c_X9_isNext l G μ n yy σ α β κ χ ω kn ik ln en fr pl wr hY 100 hOC (by omega) (by omega) (by omega)) (cwV 1 hts gX9_order_X9_isNext rfl rfl rfl (by decide +kernel) ⟨(Nat.le_of_ble_eq_true rfl), (Nat.le_of_ble_eq_true rfl)⟩) hY.1 rfl rfl rfl rfl hl.1 (Nat.le_of_ble_eq_true rfl) dX9_order_3 ⟨Nat.zero_le _, Nat.zero_le _⟩ (fun z4 μ1 n2 H locs hz4 hp3 hH hS => ?_)
  obtain ⟨hz9, hm9, hn9⟩ := hp3
  rw [hm9, hn9] at hH
  have hz4c : (z4 = 1 ∧ (wr = 0 ∧ nxt χ ln pl = (100 : Int))) ∨ (z4 = 0 ∧ ¬ (wr = 0 ∧ nxt χ ln pl = (100 : Int))) := by
    by_cases q9 : wr = 0 ∧ nxt χ ln pl = (100 : Int)
    · rw [if_pos q9] at hz9; exact Or.inl ⟨hz9, q9⟩
    · rw [if_neg q9] at hz9; exact Or.inr ⟨hz9, q9⟩
  clear hz9 hm9 hn9
  refine j_if_eq (tgt := 44) hx hb dX9_order_6 (by decide) (fun c5 => ?_) (fun c5 => ?_) (by omega)
  · skip
    refine lv_aload_n hx hb dX9_order_44 rfl (lv_at hl 0 rfl) ?_
    refine j_bipush hx hb dX9_order_45 ?_ (by decide)
    refine m_callVi (As := [.int (iv 97)]) (rest := []) ⟨hx, hb, hml, hown, hts⟩ hK hH hS (c_X9_isNext l G μ n yy σ α β κ χ ω kn ik ln en fr pl wr hY 97 hOC (by omega) (by omega) (by omega)) (cwV 1 hts gX9_order_X9_isNext rfl rfl rfl (by decide +kernel) ⟨(Nat.le_of_ble_eq_true rfl), (Nat.le_of_ble_eq_true rfl)⟩) hY.1 rfl rfl rfl rfl hl.1 (Nat.le_of_ble_eq_true rfl) dX9_order_47 ⟨Nat.zero_le _, Nat.zero_le _⟩ (fun z9 μ6 n7 H locs hz9 hp8 hH hS => ?_)
    obtain ⟨hz9, hm9, hn9⟩ := hp8
    rw [hm9, hn9] at hH
    have hz9c : (z9 = 1 ∧ (wr = 0 ∧ nxt χ ln pl = (97 : Int))) ∨ (z9 = 0 ∧ ¬ (wr = 0 ∧ nxt χ ln pl = (97 : Int))) := by
      by_cases q9 : wr = 0 ∧ nxt χ ln pl = (97 : Int)
      · rw [if_pos q9] at hz9; exact Or.inl ⟨hz9, q9⟩
      · rw [if_neg q9] at hz9; exact Or.inr ⟨hz9, q9⟩
    clear hz9 hm9 hn9
    refine j_if_eq (tgt := 85) hx hb dX9_order_50 (by decide) (fun c10 => ?_) (fun c10 => ?_) (by omega)
    · skip
      refine lv_aload_n hx hb dX9_order_85 rfl (lv_at hl 0 rfl) ?_
      refine j_bipush hx hb dX9_order_86 ?_ (by decide)
      refine m_callVi (As := [.int (iv 112)]) (rest := []) ⟨hx, hb, hml, hown, hts⟩ hK hH hS (c_X9_isNext l G μ n yy σ α β κ χ ω kn ik ln en fr pl wr hY 112 hOC (by omega) (by omega) (by omega)) (cwV 1 hts gX9_order_X9_isNext rfl rfl rfl (by decide +kernel) ⟨(Nat.le_of_ble_eq_true rfl), (Nat.le_of_ble_eq_true rfl)⟩) hY.1 rfl rfl rfl rfl hl.1 (Nat.le_of_ble_eq_true rfl) dX9_order_88 ⟨Nat.zero_le _, Nat.zero_le _⟩ (fun z14 μ11 n12 H locs hz14 hp13 hH hS => ?_)
      obtain ⟨hz9, hm9, hn9⟩ := hp13
      rw [hm9, hn9] at hH
      have hz14c : (z14 = 1 ∧ (wr = 0 ∧ nxt χ ln pl = (112 : Int))) ∨ (z14 = 0 ∧ ¬ (wr = 0 ∧ nxt χ ln pl = (112 : Int))) := by
        by_cases q9 : wr = 0 ∧ nxt χ ln pl = (112 : Int)
        · rw [if_pos q9] at hz9; exact Or.inl ⟨hz9, q9⟩
        · rw [if_neg q9] at hz9; exact Or.inr ⟨hz9, q9⟩
      clear hz9 hm9 hn9
      refine j_if_eq (tgt := 163) hx hb dX9_order_91 (by decide) (fun c15 => ?_) (fun c15 => ?_) (by omega)
      · skip
        refine lv_aload_n hx hb dX9_order_163 rfl (lv_at hl 0 rfl) ?_
        refine j_bipush hx hb dX9_order_164 ?_ (by decide)
        refine m_callVi (As := [.int (iv 43)]) (rest := []) ⟨hx, hb, hml, hown, hts⟩ hK hH hS (c_X9_isNext l G μ n yy σ α β κ χ ω kn ik ln en fr pl wr hY 43 hOC (by omega) (by omega) (by omega)) (cwV 1 hts gX9_order_X9_isNext rfl rfl rfl (by decide +kernel) ⟨(Nat.le_of_ble_eq_true rfl), (Nat.le_of_ble_eq_true rfl)⟩) hY.1 rfl rfl rfl rfl hl.1 (Nat.le_of_ble_eq_true rfl) dX9_order_166 ⟨Nat.zero_le _, Nat.zero_le _⟩ (fun z19 μ16 n17 H locs hz19 hp18 hH hS => ?_)
        obtain ⟨hz9, hm9, hn9⟩ := hp18
        rw [hm9, hn9] at hH
        have hz19c : (z19 = 1 ∧ (wr = 0 ∧ nxt χ ln pl = (43 : Int))) ∨ (z19 = 0 ∧ ¬ (wr = 0 ∧ nxt χ ln pl = (43 : Int))) := by
          by_cases q9 : wr = 0 ∧ nxt χ ln pl = (43 : Int)
          · rw [if_pos q9] at hz9; exact Or.inl ⟨hz9, q9⟩
          · rw [if_neg q9] at hz9; exact Or.inr ⟨hz9, q9⟩
        clear hz9 hm9 hn9
        refine j_if_eq (tgt := 211) hx hb dX9_order_169 (by decide) (fun c20 => ?_) (fun c20 => ?_) (by omega)
        · skip
          have hk0 : (nxt χ ln pl) ≠ 100 ∧ (nxt χ ln pl) ≠ 97 ∧ (nxt χ ln pl) ≠ 112 ∧ (nxt χ ln pl) ≠ 43 := by omega
          refine lv_aload_n hx hb dX9_order_211 rfl (lv_at hl 0 rfl) ?_
          refine j_bipush hx hb dX9_order_212 ?_ (by decide)
          refine j_bipush hx hb dX9_order_214 ?_ (by decide)
          refine m_callVi (As := [.int (iv 105), .int (iv 105)]) (rest := []) ⟨hx, hb, hml, hown, hts⟩ hK hH hS (c_X9_sign l G μ n yy σ α β κ χ ω kn ik ln en fr pl wr hY 105 105 hOC (by omega) (by omega) (by omega) (by omega)) (cwV 2 hts gX9_order_X9_sign rfl rfl rfl (by decide +kernel) ⟨(Nat.le_of_ble_eq_true rfl), (Nat.le_of_ble_eq_true rfl)⟩) hY.1 rfl rfl rfl rfl hl.1 (Nat.le_of_ble_eq_true rfl) dX9_order_216 ⟨Nat.zero_le _, Nat.zero_le _⟩ (fun z24 μ21 n22 H locs hz24 hp23 hH hS => ?_)
          obtain ⟨hz24s, ⟨pl25, wr26, hY, hsg⟩, hfr1⟩ := hp23
          have hfr := hfr.tr hfr1
          clear hfr1
          have hsg1 := hsg.resolve_right (fun q => by have hx9 := ordF_x hk0.1 hk0.2.1 hk0.2.2.1 hk0.2.2.2 (by have q1 := q.2.2; omega); have q1 := hx9.1; omega)
          obtain ⟨e1, e2, e3, e4, e5, e6⟩ := hsg1
          have hk : nxt χ ln pl = 105 := by omega
          refine lv_istore_n (lv' := [(2, .int (iv z24)), (0, .ref yy), (1, .int (iv 1))]) hx hb dX9_order_219 rfl hl (by decide) rfl (fun ls hl => ?_)
          refine lv_aload_n hx hb dX9_order_220 rfl (lv_at hl 1 rfl) ?_
          refine m_get (C := RX9) (T := TX9) (N := 13) (ci := 8) hx hb hts i_X9 hown hK hH hY.1 rfl 12 (by decide) f_0 rfl dX9_order_221 ?_
          refine j_if_eq (tgt := 231) hx hb dX9_order_224 (by decide) (fun c27 => ?_) (fun c27 => absurd c27 (by omega)) (by omega)
          refine lv_aload_n hx hb dX9_order_231 rfl (lv_at hl 1 rfl) ?_
          refine j_sipush hx hb dX9_order_232 ?_ (by decide)
          refine m_callVi (As := [.int (iv 200)]) (rest := []) ⟨hx, hb, hml, hown, hts⟩ hK hH hS (c_X9_number l G μ21 n22 yy σ α β κ χ ω kn ik ln en fr pl25 wr26 hY 200 hOC (by omega) (by omega) (by omega)) (cwV 1 hts gX9_order_X9_number rfl rfl rfl (by decide +kernel) ⟨(Nat.le_of_ble_eq_true rfl), (Nat.le_of_ble_eq_true rfl)⟩) hY.1 rfl rfl rfl rfl hl.1 (Nat.le_of_ble_eq_true rfl) dX9_order_235 ⟨Nat.zero_le _, Nat.zero_le _⟩ (fun z31 μ28 n29 H locs hz31 hp30 hH hS => ?_)
          obtain ⟨⟨pl32, wr33, hY, hnb⟩, hfr1⟩ := hp30
          have hfr := hfr.tr hfr1
          clear hfr1
          rw [e2] at hnb
          have hnb1 := hnb.resolve_right (fun q => by rw [ordF_i hk q.2.2] at hor; have q2 : (if (0 : Int) < 0 then (1 : Int) else 0) = 1 := hor; rw [if_neg (by omega)] at q2; omega)
          obtain ⟨q1, q2, q3, q4, q5⟩ := hnb1
          refine lv_istore_n (lv' := [(3, .int (iv z31)), (2, .int (iv z24)), (0, .ref yy), (1, .int (iv 1))]) hx hb dX9_order_238 rfl hl (by decide) rfl (fun ls hl => ?_)
          refine lv_aload_n hx hb dX9_order_239 rfl (lv_at hl 2 rfl) ?_
          refine m_get (C := RX9) (T := TX9) (N := 13) (ci := 8) hx hb hts i_X9 hown hK hH hY.1 rfl 0 (by decide) f_2 rfl dX9_order_240 ?_
          refine j_const hx hb dX9_order_243 ?_
          refine lv_iload_n hx hb dX9_order_244 rfl (lv_at hl 3 rfl) ?_
          refine j_if_eq (tgt := 265) hx hb dX9_order_245 (by decide) (fun c34 => absurd c34 (by omega)) (fun c34 => ?_) (by omega)
          refine lv_aload_n hx hb dX9_order_248 rfl (lv_at hl 2 rfl) ?_
          refine m_get (C := RX9) (T := TX9) (N := 13) (ci := 8) hx hb hts i_X9 hown hK hH hY.1 rfl 0 (by decide) f_2 rfl dX9_order_249 ?_
          refine j_const hx hb dX9_order_252 ?_
          refine m_iald (nA := 163) (f := σ) hx hb hK hH hY.2.1 dX9_order_253 ?_ (by omega) (by omega)
          refine j_norm (y := (σ 4)) rfl ?_
          refine lv_iload_n hx hb dX9_order_254 rfl (lv_at hl 0 rfl) ?_
          refine j_iadd hx hb dX9_order_255 ?_
          refine j_sipush hx hb dX9_order_256 ?_ (by decide)
          refine m_callSi (As := [.int (iv ((σ 4) + z31)), .int (iv 200)]) (rest := [.int (iv 4), .ref (yy + 1)]) ⟨hx, hb, hml, hown, hts⟩ hK hH hS (c_X9_least l G μ28 n29 ((σ 4) + z31) 200 (by omega) (by omega)) (va_cwS 2 hts gX9_order_X9_least rfl rfl rfl (by decide +kernel) ⟨(Nat.le_of_ble_eq_true rfl), (Nat.le_of_ble_eq_true rfl)⟩) rfl rfl hl.1 (Nat.le_of_ble_eq_true rfl) dX9_order_259 ⟨Nat.zero_le _, Nat.zero_le _⟩ (fun z38 μ35 n36 H locs hz38 hp37 hH hS => ?_)
          obtain ⟨hz2, hm2, hn2⟩ := hp37; rw [hz2]; rw [hm2, hn2] at hH; clear hz2 hm2 hn2
          refine lv_goto (tgt := 271) hx hb dX9_order_262 (by decide) ?_
          refine m_iast (nA := 163) (f := σ) hx hb hK hH hS hY.2.1 dX9_order_271 (fun H locs hH hS => ?_) (by omega) (by omega)
          obtain ⟨ν39, hY, hfr, hH⟩ : ∃ ξ : hM, IsMM G ξ yy (fu σ 4 (min ((σ 4) + z31) 200)) α β κ χ ω kn ik ln en fr pl32 wr33 ∧ MFr yy μ ξ ∧ gP G ξ n29 H := hY.w1 hfr hH
          have hH : gP G ν39 n29 H := hH
          refine lv_aload_n hx hb dX9_order_272 rfl (lv_at hl 2 rfl) ?_
          refine m_get (C := RX9) (T := TX9) (N := 13) (ci := 8) hx hb hts i_X9 hown hK hH hY.1 rfl 0 (by decide) f_2 rfl dX9_order_273 ?_
          refine j_const hx hb dX9_order_276 ?_
          refine m_iald (nA := 163) (f := (fu σ 4 (min ((σ 4) + z31) 200))) hx hb hK hH hY.2.1 dX9_order_277 ?_ (by omega) (by omega)
          refine j_norm (y := ((fu σ 4 (min ((σ 4) + z31) 200)) 3)) rfl ?_
          have ht3 : ((fu σ 4 (min ((σ 4) + z31) 200)) 3) = σ 3 := fu_n (by omega)
          refine j_norm (y := (σ 3)) ht3 ?_
          refine j_ldc hx hb (36524) hown f_3 dX9_order_278 ?_ (by decide)
          refine j_icmp_gt (tgt := 287) hx hb dX9_order_280 (by decide) (fun c40 => absurd c40 (by omega)) (fun c40 => ?_) (by omega) (by omega)
          refine j_const hx hb dX9_order_283 ?_
          refine lv_goto (tgt := 288) hx hb dX9_order_284 (by decide) ?_
          subst hQ
          refine m_zret hx hb hr hlocks hH hS dX9_order_288 ?_ (by omega)
          have e7 : ordF χ ln pl = (1, pl32, z31, 1) := by rw [ordF_i hk q2, if_pos (by omega)]
          have hod : (ordD (nxt χ ln pl) (ordF χ ln pl).2.2.1 (ordF χ ln pl).2.2.2 (σ, cl)) = (fu σ 4 (min 200 (σ 4 + z31)), cl) := by rw [e7, hk]; rfl
          rw [hod, e7]
          rw [q1] at hY
          have h11 : fu (fu σ 4 (min 200 (σ 4 + z31))) 11 (σ 11) = fu σ 4 (min (σ 4 + z31) 200) := by rw [Int.min_comm]; exact fu_i (by rw [fu_n (by omega)])
          rw [← h11] at hY
          have h33 : fu σ 4 (min 200 (σ 4 + z31)) 3 = σ 3 := fu_n (by omega)
          exact ⟨(if_pos (by show fu σ 4 (min 200 (σ 4 + z31)) 3 ≤ 36524; rw [h33]; omega)).symm, ⟨ω, en, σ 11, hY, OrP.no hPC hle⟩, hfr⟩
        · skip
          have hk : (nxt χ ln pl) = 43 := by omega
          have hpn : pl < ln := by omega
          refine lv_aload_n hx hb dX9_order_172 rfl (lv_at hl 0 rfl) ?_
          refine lv_dup hx hb dX9_order_173 rfl ?_
          refine m_get (C := RX9) (T := TX9) (N := 13) (ci := 8) hx hb hts i_X9 hown hK hH hY.1 rfl 11 (by decide) f_4 rfl dX9_order_174 ?_
          refine j_const hx hb dX9_order_177 ?_
          refine j_iadd hx hb dX9_order_178 ?_
          refine m_put (C := RX9) (T := TX9) (N := 13) (ci := 8) hx hb hts i_X9 tyX9 tyX9_ok nmX9 hown hK hH hS hY.1 rfl 11 (by decide) f_4 rfl rfl rfl (Nat.le_of_ble_eq_true rfl) dX9_order_179 (fun H locs hH hS => ?_)
          obtain ⟨ν41, hY, hfr, hH⟩ : ∃ ξ : hM, IsMM G ξ yy σ α β κ χ ω kn ik ln en fr (pl + 1) wr ∧ MFr yy μ ξ ∧ gP G ξ n H := hY.w0 hfr hH
          have hH : gP G ν41 n H := hH
          refine lv_aload_n hx hb dX9_order_182 rfl (lv_at hl 0 rfl) ?_
          refine j_sipush hx hb dX9_order_183 ?_ (by decide)
          refine m_callVi (As := [.int (iv 999)]) (rest := []) ⟨hx, hb, hml, hown, hts⟩ hK hH hS (c_X9_number l G ν41 n yy σ α β κ χ ω kn ik ln en fr (pl + 1) wr hY 999 hOC (by omega) (by omega) (by omega)) (cwV 1 hts gX9_order_X9_number rfl rfl rfl (by decide +kernel) ⟨(Nat.le_of_ble_eq_true rfl), (Nat.le_of_ble_eq_true rfl)⟩) hY.1 rfl rfl rfl rfl hl.1 (Nat.le_of_ble_eq_true rfl) dX9_order_186 ⟨Nat.zero_le _, Nat.zero_le _⟩ (fun z45 μ42 n43 H locs hz45 hp44 hH hS => ?_)
          obtain ⟨⟨pl46, wr47, hY, hnb⟩, hfr1⟩ := hp44
          have hfr := hfr.tr hfr1
          clear hfr1
          have hnb1 := hnb.resolve_right (fun q => by rw [ordF_plus hk q.2.2] at hor; have q2 : (if (0 : Int) < 0 then (1 : Int) else 0) = 1 := hor; rw [if_neg (by omega)] at q2; omega)
          obtain ⟨q1, q2, q3, q4, q5⟩ := hnb1
          refine lv_istore_n (lv' := [(2, .int (iv z45)), (0, .ref yy), (1, .int (iv 1))]) hx hb dX9_order_189 rfl hl (by decide) rfl (fun ls hl => ?_)
          refine lv_aload_n hx hb dX9_order_190 rfl (lv_at hl 1 rfl) ?_
          refine m_get (C := RX9) (T := TX9) (N := 13) (ci := 8) hx hb hts i_X9 hown hK hH hY.1 rfl 0 (by decide) f_2 rfl dX9_order_191 ?_
          refine j_const hx hb dX9_order_194 ?_
          refine lv_dup2_11 hx hb dX9_order_195 rfl rfl ?_
          refine m_iald (nA := 163) (f := σ) hx hb hK hH hY.2.1 dX9_order_196 ?_ (by omega) (by omega)
          refine j_norm (y := (σ 3)) rfl ?_
          refine lv_iload_n hx hb dX9_order_197 rfl (lv_at hl 2 rfl) ?_
          refine j_if_eq (tgt := 205) hx hb dX9_order_198 (by decide) (fun c48 => absurd c48 (by omega)) (fun c48 => ?_) (by omega)
          refine lv_iload_n hx hb dX9_order_201 rfl (lv_at hl 0 rfl) ?_
          refine lv_goto (tgt := 206) hx hb dX9_order_202 (by decide) ?_
          refine j_iadd hx hb dX9_order_206 ?_
          refine m_iast (nA := 163) (f := σ) hx hb hK hH hS hY.2.1 dX9_order_207 (fun H locs hH hS => ?_) (by omega) (by omega)
          obtain ⟨ν49, hY, hfr, hH⟩ : ∃ ξ : hM, IsMM G ξ yy (fu σ 3 ((σ 3) + z45)) α β κ χ ω kn ik ln en fr pl46 wr47 ∧ MFr yy μ ξ ∧ gP G ξ n43 H := hY.w1 hfr hH
          have hH : gP G ν49 n43 H := hH
          refine lv_goto (tgt := 272) hx hb dX9_order_208 (by decide) ?_
          refine lv_aload_n hx hb dX9_order_272 rfl (lv_at hl 1 rfl) ?_
          refine m_get (C := RX9) (T := TX9) (N := 13) (ci := 8) hx hb hts i_X9 hown hK hH hY.1 rfl 0 (by decide) f_2 rfl dX9_order_273 ?_
          refine j_const hx hb dX9_order_276 ?_
          refine m_iald (nA := 163) (f := (fu σ 3 ((σ 3) + z45))) hx hb hK hH hY.2.1 dX9_order_277 ?_ (by omega) (by omega)
          refine j_norm (y := ((fu σ 3 ((σ 3) + z45)) 3)) rfl ?_
          have ht3 : ((fu σ 3 ((σ 3) + z45)) 3) = ((σ 3) + z45) := fu_s
          refine j_norm (y := ((σ 3) + z45)) ht3 ?_
          refine j_ldc hx hb (36524) hown f_3 dX9_order_278 ?_ (by decide)
          refine j_icmp_gt (tgt := 287) hx hb dX9_order_280 (by decide) (fun c50 => ?_) (fun c50 => ?_) (by omega) (by omega)
          · skip
            refine j_const hx hb dX9_order_287 ?_
            subst hQ
            refine m_zret hx hb hr hlocks hH hS dX9_order_288 ?_ (by omega)
            have e7 : ordF χ ln pl = (1, pl46, z45, 1) := by rw [ordF_plus hk q2, if_pos (by omega)]
            have hod : (ordD (nxt χ ln pl) (ordF χ ln pl).2.2.1 (ordF χ ln pl).2.2.2 (σ, cl)) = (fu σ 3 ((σ 3) + z45), cl) := by rw [e7, hk]; rfl
            rw [hod, e7]
            rw [q1] at hY
            have h11 : fu (fu σ 3 ((σ 3) + z45)) 11 (σ 11) = fu σ 3 ((σ 3) + z45) := fu_i (by rw [fu_n (by omega)])
            rw [← h11] at hY
            have h33 : fu σ 3 ((σ 3) + z45) 3 = ((σ 3) + z45) := fu_s
            exact ⟨(if_neg (by show ¬ fu σ 3 ((σ 3) + z45) 3 ≤ 36524; rw [h33]; omega)).symm, ⟨ω, en, σ 11, hY, OrP.no hPC hle⟩, hfr⟩
          · skip
            refine j_const hx hb dX9_order_283 ?_
            refine lv_goto (tgt := 288) hx hb dX9_order_284 (by decide) ?_
            subst hQ
            refine m_zret hx hb hr hlocks hH hS dX9_order_288 ?_ (by omega)
            have e7 : ordF χ ln pl = (1, pl46, z45, 1) := by rw [ordF_plus hk q2, if_pos (by omega)]
            have hod : (ordD (nxt χ ln pl) (ordF χ ln pl).2.2.1 (ordF χ ln pl).2.2.2 (σ, cl)) = (fu σ 3 ((σ 3) + z45), cl) := by rw [e7, hk]; rfl
            rw [hod, e7]
            rw [q1] at hY
            have h11 : fu (fu σ 3 ((σ 3) + z45)) 11 (σ 11) = fu σ 3 ((σ 3) + z45) := fu_i (by rw [fu_n (by omega)])
            rw [← h11] at hY
            have h33 : fu σ 3 ((σ 3) + z45) 3 = ((σ 3) + z45) := fu_s
            exact ⟨(if_pos (by show fu σ 3 ((σ 3) + z45) 3 ≤ 36524; rw [h33]; omega)).symm, ⟨ω, en, σ 11, hY, OrP.no hPC hle⟩, hfr⟩
      · skip
        have hk : (nxt χ ln pl) = 112 := by omega
        have hpn : pl < ln := by omega
        have hnp := nxt_or (c := χ) (L := ln) (a := pl + 1) (by omega)
        refine lv_aload_n hx hb dX9_order_94 rfl (lv_at hl 0 rfl) ?_
        refine lv_dup hx hb dX9_order_95 rfl ?_
        refine m_get (C := RX9) (T := TX9) (N := 13) (ci := 8) hx hb hts i_X9 hown hK hH hY.1 rfl 11 (by decide) f_4 rfl dX9_order_96 ?_
        refine j_const hx hb dX9_order_99 ?_
        refine j_iadd hx hb dX9_order_100 ?_
        refine m_put (C := RX9) (T := TX9) (N := 13) (ci := 8) hx hb hts i_X9 tyX9 tyX9_ok nmX9 hown hK hH hS hY.1 rfl 11 (by decide) f_4 rfl rfl rfl (Nat.le_of_ble_eq_true rfl) dX9_order_101 (fun H locs hH hS => ?_)
        obtain ⟨ν51, hY, hfr, hH⟩ : ∃ ξ : hM, IsMM G ξ yy σ α β κ χ ω kn ik ln en fr (pl + 1) wr ∧ MFr yy μ ξ ∧ gP G ξ n H := hY.w0 hfr hH
        have hH : gP G ν51 n H := hH
        refine lv_aload_n hx hb dX9_order_104 rfl (lv_at hl 0 rfl) ?_
        refine j_bipush hx hb dX9_order_105 ?_ (by decide)
        refine j_bipush hx hb dX9_order_107 ?_ (by decide)
        refine m_callVi (As := [.int (iv 49), .int (iv 57)]) (rest := []) ⟨hx, hb, hml, hown, hts⟩ hK hH hS (c_X9_sign l G ν51 n yy σ α β κ χ ω kn ik ln en fr (pl + 1) wr hY 49 57 hOC (by omega) (by omega) (by omega) (by omega)) (cwV 2 hts gX9_order_X9_sign rfl rfl rfl (by decide +kernel) ⟨(Nat.le_of_ble_eq_true rfl), (Nat.le_of_ble_eq_true rfl)⟩) hY.1 rfl rfl rfl rfl hl.1 (Nat.le_of_ble_eq_true rfl) dX9_order_109 ⟨Nat.zero_le _, Nat.zero_le _⟩ (fun z55 μ52 n53 H locs hz55 hp54 hH hS => ?_)
        obtain ⟨hz55s, ⟨pl56, wr57, hY, hsg⟩, hfr1⟩ := hp54
        have hfr := hfr.tr hfr1
        clear hfr1
        have h9 := num_9 (c := χ) (L := ln) (a := pl + 1)
        have hsg1 := hsg.resolve_right (fun q => by have h92 := (h9.resolve_left (fun x => q.2.2 ⟨by omega, x.1, x.2.1⟩)).2; rw [ordF_pn hk h92] at hor; have q2 : (0 : Int) = 1 := hor; omega)
        obtain ⟨e1, e2, e3, e4, e5, e6⟩ := hsg1
        have h91 := (h9.resolve_right (fun q => q.1 ⟨e4, e5⟩)).2.2
        rw [← e2] at h91
        clear h9
        refine j_bipush hx hb dX9_order_112 ?_ (by decide)
        refine j_isub hx hb dX9_order_114 ?_
        refine lv_istore_n (lv' := [(2, .int (iv (z55 - 48))), (0, .ref yy), (1, .int (iv 1))]) hx hb dX9_order_115 rfl hl (by decide) rfl (fun ls hl => ?_)
        refine j_const hx hb dX9_order_116 ?_
        refine lv_istore_n (lv' := [(3, .int (iv 1)), (2, .int (iv (z55 - 48))), (0, .ref yy), (1, .int (iv 1))]) hx hb dX9_order_117 rfl hl (by decide) rfl (fun ls hl => ?_)
        refine lv_aload_n hx hb dX9_order_118 rfl (lv_at hl 2 rfl) ?_
        refine j_bipush hx hb dX9_order_119 ?_ (by decide)
        refine m_callVi (As := [.int (iv 120)]) (rest := []) ⟨hx, hb, hml, hown, hts⟩ hK hH hS (c_X9_isNext l G μ52 n53 yy σ α β κ χ ω kn ik ln en fr pl56 wr57 hY 120 hOC (by omega) (by omega) (by omega)) (cwV 1 hts gX9_order_X9_isNext rfl rfl rfl (by decide +kernel) ⟨(Nat.le_of_ble_eq_true rfl), (Nat.le_of_ble_eq_true rfl)⟩) hY.1 rfl rfl rfl rfl hl.1 (Nat.le_of_ble_eq_true rfl) dX9_order_121 ⟨Nat.zero_le _, Nat.zero_le _⟩ (fun z61 μ58 n59 H locs hz61 hp60 hH hS => ?_)
        obtain ⟨hz9, hm9, hn9⟩ := hp60
        rw [hm9, hn9] at hH
        have hz61c : (z61 = 1 ∧ (wr57 = 0 ∧ nxt χ ln pl56 = (120 : Int))) ∨ (z61 = 0 ∧ ¬ (wr57 = 0 ∧ nxt χ ln pl56 = (120 : Int))) := by
          by_cases q9 : wr57 = 0 ∧ nxt χ ln pl56 = (120 : Int)
          · rw [if_pos q9] at hz9; exact Or.inl ⟨hz9, q9⟩
          · rw [if_neg q9] at hz9; exact Or.inr ⟨hz9, q9⟩
        clear hz9 hm9 hn9
        refine j_if_eq (tgt := 144) hx hb dX9_order_124 (by decide) (fun c62 => ?_) (fun c62 => ?_) (by omega)
        · skip
          refine lv_iload_n hx hb dX9_order_144 rfl (lv_at hl 3 rfl) ?_
          refine j_if_eq (tgt := 157) hx hb dX9_order_145 (by decide) (fun c63 => absurd c63 (by omega)) (fun c63 => ?_) (by omega)
          refine lv_aload_n hx hb dX9_order_148 rfl (lv_at hl 2 rfl) ?_
          refine lv_iload_n hx hb dX9_order_149 rfl (lv_at hl 1 rfl) ?_
          refine lv_iload_n hx hb dX9_order_150 rfl (lv_at hl 0 rfl) ?_
          refine m_callVi (As := [.int (iv (z55 - 48)), .int (iv 1)]) (rest := []) ⟨hx, hb, hml, hown, hts⟩ hK hH hS (c_X9_presses l G μ52 n53 yy σ α β κ χ ω kn ik ln en fr pl56 wr57 hY (z55 - 48) (1 : Int) cl hT (by omega) (by omega) (by omega) hPC hle hen hfx hcl) (cwV 2 hts gX9_order_X9_presses rfl rfl rfl (by decide +kernel) ⟨(Nat.le_of_ble_eq_true rfl), (Nat.le_of_ble_eq_true rfl)⟩) hY.1 rfl rfl rfl rfl hl.1 (Nat.le_of_ble_eq_true rfl) dX9_order_151 ⟨Nat.zero_le _, Nat.zero_le _⟩ (fun z67 μ64 n65 H locs hz67 hp66 hH hS => ?_)
          obtain ⟨hz9, ⟨ω1, e9, h1, hY, hPP⟩, hfr1⟩ := hp66
          have hfr := hfr.tr hfr1
          clear hfr1
          refine lv_goto (tgt := 158) hx hb dX9_order_154 (by decide) ?_
          refine lv_istore (lv' := [(4, .int (iv z67)), (3, .int (iv 1)), (2, .int (iv (z55 - 48))), (0, .ref yy), (1, .int (iv 1))]) hx hb dX9_order_158 hl (by decide) rfl (fun ls hl => ?_)
          refine lv_goto (tgt := 272) hx hb dX9_order_160 (by decide) ?_
          refine lv_aload_n hx hb dX9_order_272 rfl (lv_at hl 3 rfl) ?_
          refine m_get (C := RX9) (T := TX9) (N := 13) (ci := 8) hx hb hts i_X9 hown hK hH hY.1 rfl 0 (by decide) f_2 rfl dX9_order_273 ?_
          refine j_const hx hb dX9_order_276 ?_
          refine m_iald (nA := 163) (f := (fu (nPr σ (z55 - 48) (1 : Int).toNat) 11 h1)) hx hb hK hH hY.2.1 dX9_order_277 ?_ (by omega) (by omega)
          refine j_norm (y := ((fu (nPr σ (z55 - 48) (1 : Int).toNat) 11 h1) 3)) rfl ?_
          have ht3 : ((fu (nPr σ (z55 - 48) (1 : Int).toNat) 11 h1) 3) = σ 3 := by rw [fu_n (by omega)]; exact nPr_3 hT (by omega) _ (by omega)
          refine j_norm (y := (σ 3)) ht3 ?_
          refine j_ldc hx hb (36524) hown f_3 dX9_order_278 ?_ (by decide)
          refine j_icmp_gt (tgt := 287) hx hb dX9_order_280 (by decide) (fun c68 => absurd c68 (by omega)) (fun c68 => ?_) (by omega) (by omega)
          refine j_const hx hb dX9_order_283 ?_
          refine lv_goto (tgt := 288) hx hb dX9_order_284 (by decide) ?_
          subst hQ
          refine m_zret hx hb hr hlocks hH hS dX9_order_288 ?_ (by omega)
          have e7 : ordF χ ln pl = (1, pl56, (z55 - 48), (1 : Int)) := by rw [ordF_p1 hk h91 (by omega) (by omega), e6]
          rw [e1] at hY
          have hod : (ordD (nxt χ ln pl) (ordF χ ln pl).2.2.1 (ordF χ ln pl).2.2.2 (σ, cl)) = (nPr σ (z55 - 48) (1 : Int).toNat, chAdd cl (σ 3) (nRt σ (z55 - 48) (1 : Int).toNat)) := by rw [e7, hk]; rfl
          rw [hod, e7]
          have h33 : nPr σ (z55 - 48) (1 : Int).toNat 3 = σ 3 := nPr_3 hT (by omega) _ (by omega)
          exact ⟨(if_pos (by show nPr σ (z55 - 48) (1 : Int).toNat 3 ≤ 36524; rw [h33]; omega)).symm, ⟨ω1, _, h1, hY, OrP.pr hk hPP⟩, hfr⟩
        · skip
          have hnq := nxt_or (c := χ) (L := ln) (a := pl56) (by omega)
          refine lv_aload_n hx hb dX9_order_127 rfl (lv_at hl 2 rfl) ?_
          refine lv_dup hx hb dX9_order_128 rfl ?_
          refine m_get (C := RX9) (T := TX9) (N := 13) (ci := 8) hx hb hts i_X9 hown hK hH hY.1 rfl 11 (by decide) f_4 rfl dX9_order_129 ?_
          refine j_const hx hb dX9_order_132 ?_
          refine j_iadd hx hb dX9_order_133 ?_
          refine m_put (C := RX9) (T := TX9) (N := 13) (ci := 8) hx hb hts i_X9 tyX9 tyX9_ok nmX9 hown hK hH hS hY.1 rfl 11 (by decide) f_4 rfl rfl rfl (Nat.le_of_ble_eq_true rfl) dX9_order_134 (fun H locs hH hS => ?_)
          obtain ⟨ν69, hY, hfr, hH⟩ : ∃ ξ : hM, IsMM G ξ yy σ α β κ χ ω kn ik ln en fr (pl56 + 1) wr57 ∧ MFr yy μ ξ ∧ gP G ξ n53 H := hY.w0 hfr hH
          have hH : gP G ν69 n53 H := hH
          refine lv_aload_n hx hb dX9_order_137 rfl (lv_at hl 2 rfl) ?_
          refine j_bipush hx hb dX9_order_138 ?_ (by decide)
          refine m_callVi (As := [.int (iv 99)]) (rest := []) ⟨hx, hb, hml, hown, hts⟩ hK hH hS (c_X9_number l G ν69 n53 yy σ α β κ χ ω kn ik ln en fr (pl56 + 1) wr57 hY 99 hOC (by omega) (by omega) (by omega)) (cwV 1 hts gX9_order_X9_number rfl rfl rfl (by decide +kernel) ⟨(Nat.le_of_ble_eq_true rfl), (Nat.le_of_ble_eq_true rfl)⟩) hY.1 rfl rfl rfl rfl hl.1 (Nat.le_of_ble_eq_true rfl) dX9_order_140 ⟨Nat.zero_le _, Nat.zero_le _⟩ (fun z73 μ70 n71 H locs hz73 hp72 hH hS => ?_)
          obtain ⟨⟨pl74, wr75, hY, hnb⟩, hfr1⟩ := hp72
          have hfr := hfr.tr hfr1
          clear hfr1
          have hnb1 := hnb.resolve_right (fun q => by rw [ordF_px hk h91 (by omega) (by omega) q.2.2] at hor; have q2 : (if (0 : Int) < 0 then (1 : Int) else 0) = 1 := hor; rw [if_neg (by omega)] at q2; omega)
          obtain ⟨q1, q2, q3, q4, q5⟩ := hnb1
          refine lv_istore_n (lv' := [(3, .int (iv z73)), (2, .int (iv (z55 - 48))), (0, .ref yy), (1, .int (iv 1))]) hx hb dX9_order_143 rfl hl (by decide) rfl (fun ls hl => ?_)
          refine lv_iload_n hx hb dX9_order_144 rfl (lv_at hl 3 rfl) ?_
          refine j_if_eq (tgt := 157) hx hb dX9_order_145 (by decide) (fun c76 => absurd c76 (by omega)) (fun c76 => ?_) (by omega)
          refine lv_aload_n hx hb dX9_order_148 rfl (lv_at hl 2 rfl) ?_
          refine lv_iload_n hx hb dX9_order_149 rfl (lv_at hl 1 rfl) ?_
          refine lv_iload_n hx hb dX9_order_150 rfl (lv_at hl 0 rfl) ?_
          refine m_callVi (As := [.int (iv (z55 - 48)), .int (iv z73)]) (rest := []) ⟨hx, hb, hml, hown, hts⟩ hK hH hS (c_X9_presses l G μ70 n71 yy σ α β κ χ ω kn ik ln en fr pl74 wr75 hY (z55 - 48) z73 cl hT (by omega) (by omega) (by omega) hPC hle hen hfx hcl) (cwV 2 hts gX9_order_X9_presses rfl rfl rfl (by decide +kernel) ⟨(Nat.le_of_ble_eq_true rfl), (Nat.le_of_ble_eq_true rfl)⟩) hY.1 rfl rfl rfl rfl hl.1 (Nat.le_of_ble_eq_true rfl) dX9_order_151 ⟨Nat.zero_le _, Nat.zero_le _⟩ (fun z80 μ77 n78 H locs hz80 hp79 hH hS => ?_)
          obtain ⟨hz9, ⟨ω1, e9, h1, hY, hPP⟩, hfr1⟩ := hp79
          have hfr := hfr.tr hfr1
          clear hfr1
          refine lv_goto (tgt := 158) hx hb dX9_order_154 (by decide) ?_
          refine lv_istore (lv' := [(4, .int (iv z80)), (3, .int (iv z73)), (2, .int (iv (z55 - 48))), (0, .ref yy), (1, .int (iv 1))]) hx hb dX9_order_158 hl (by decide) rfl (fun ls hl => ?_)
          refine lv_goto (tgt := 272) hx hb dX9_order_160 (by decide) ?_
          refine lv_aload_n hx hb dX9_order_272 rfl (lv_at hl 3 rfl) ?_
          refine m_get (C := RX9) (T := TX9) (N := 13) (ci := 8) hx hb hts i_X9 hown hK hH hY.1 rfl 0 (by decide) f_2 rfl dX9_order_273 ?_
          refine j_const hx hb dX9_order_276 ?_
          refine m_iald (nA := 163) (f := (fu (nPr σ (z55 - 48) z73.toNat) 11 h1)) hx hb hK hH hY.2.1 dX9_order_277 ?_ (by omega) (by omega)
          refine j_norm (y := ((fu (nPr σ (z55 - 48) z73.toNat) 11 h1) 3)) rfl ?_
          have ht3 : ((fu (nPr σ (z55 - 48) z73.toNat) 11 h1) 3) = σ 3 := by rw [fu_n (by omega)]; exact nPr_3 hT (by omega) _ (by omega)
          refine j_norm (y := (σ 3)) ht3 ?_
          refine j_ldc hx hb (36524) hown f_3 dX9_order_278 ?_ (by decide)
          refine j_icmp_gt (tgt := 287) hx hb dX9_order_280 (by decide) (fun c81 => absurd c81 (by omega)) (fun c81 => ?_) (by omega) (by omega)
          refine j_const hx hb dX9_order_283 ?_
          refine lv_goto (tgt := 288) hx hb dX9_order_284 (by decide) ?_
          subst hQ
          refine m_zret hx hb hr hlocks hH hS dX9_order_288 ?_ (by omega)
          have e7 : ordF χ ln pl = (1, pl74, (z55 - 48), z73) := by rw [ordF_px hk h91 (by omega) (by omega) q2, if_pos (by omega), e6]
          rw [q1] at hY
          have hod : (ordD (nxt χ ln pl) (ordF χ ln pl).2.2.1 (ordF χ ln pl).2.2.2 (σ, cl)) = (nPr σ (z55 - 48) z73.toNat, chAdd cl (σ 3) (nRt σ (z55 - 48) z73.toNat)) := by rw [e7, hk]; rfl
          rw [hod, e7]
          have h33 : nPr σ (z55 - 48) z73.toNat 3 = σ 3 := nPr_3 hT (by omega) _ (by omega)
          exact ⟨(if_pos (by show nPr σ (z55 - 48) z73.toNat 3 ≤ 36524; rw [h33]; omega)).symm, ⟨ω1, _, h1, hY, OrP.pr hk hPP⟩, hfr⟩
    · skip
      have hk : (nxt χ ln pl) = 97 := by omega
      have hpn : pl < ln := by omega
      refine lv_aload_n hx hb dX9_order_53 rfl (lv_at hl 0 rfl) ?_
      refine lv_dup hx hb dX9_order_54 rfl ?_
      refine m_get (C := RX9) (T := TX9) (N := 13) (ci := 8) hx hb hts i_X9 hown hK hH hY.1 rfl 11 (by decide) f_4 rfl dX9_order_55 ?_
      refine j_const hx hb dX9_order_58 ?_
      refine j_iadd hx hb dX9_order_59 ?_
      refine m_put (C := RX9) (T := TX9) (N := 13) (ci := 8) hx hb hts i_X9 tyX9 tyX9_ok nmX9 hown hK hH hS hY.1 rfl 11 (by decide) f_4 rfl rfl rfl (Nat.le_of_ble_eq_true rfl) dX9_order_60 (fun H locs hH hS => ?_)
      obtain ⟨ν82, hY, hfr, hH⟩ : ∃ ξ : hM, IsMM G ξ yy σ α β κ χ ω kn ik ln en fr (pl + 1) wr ∧ MFr yy μ ξ ∧ gP G ξ n H := hY.w0 hfr hH
      have hH : gP G ν82 n H := hH
      refine lv_iload_n hx hb dX9_order_63 rfl (lv_at hl 1 rfl) ?_
      refine j_if_eq (tgt := 80) hx hb dX9_order_64 (by decide) (fun c83 => absurd c83 (by omega)) (fun c83 => ?_) (by omega)
      refine lv_aload_n hx hb dX9_order_67 rfl (lv_at hl 0 rfl) ?_
      refine lv_aload_n hx hb dX9_order_68 rfl (lv_at hl 0 rfl) ?_
      refine m_get (C := RX9) (T := TX9) (N := 13) (ci := 8) hx hb hts i_X9 hown hK hH hY.1 rfl 0 (by decide) f_2 rfl dX9_order_69 ?_
      refine j_const hx hb dX9_order_72 ?_
      refine m_iald (nA := 163) (f := σ) hx hb hK hH hY.2.1 dX9_order_73 ?_ (by omega) (by omega)
      refine j_norm (y := (σ 3)) rfl ?_
      refine m_callVi (As := [.int (iv (σ 3))]) (rest := []) ⟨hx, hb, hml, hown, hts⟩ hK hH hS (c_X9_adjusts l G ν82 n yy σ α β κ χ ω kn ik ln en fr (pl + 1) wr hY (σ 3) hOk (by omega)) (cwV 1 hts gX9_order_X9_adjusts rfl rfl rfl (by decide +kernel) ⟨(Nat.le_of_ble_eq_true rfl), (Nat.le_of_ble_eq_true rfl)⟩) hY.1 rfl rfl rfl rfl hl.1 (Nat.le_of_ble_eq_true rfl) dX9_order_74 ⟨Nat.zero_le _, Nat.zero_le _⟩ (fun z87 μ84 n85 H locs hz87 hp86 hH hS => ?_)
      obtain ⟨hz9, hY, hfr1⟩ := hp86
      have hfr := hfr.tr hfr1
      clear hfr1
      rw [hz9]
      clear hz9
      refine lv_goto (tgt := 81) hx hb dX9_order_77 (by decide) ?_
      refine lv_istore_n (lv' := [(2, .int (iv (wsm σ (dig (σ 3)) 0 6))), (0, .ref yy), (1, .int (iv 1))]) hx hb dX9_order_81 rfl hl (by decide) rfl (fun ls hl => ?_)
      refine lv_goto (tgt := 272) hx hb dX9_order_82 (by decide) ?_
      refine lv_aload_n hx hb dX9_order_272 rfl (lv_at hl 1 rfl) ?_
      refine m_get (C := RX9) (T := TX9) (N := 13) (ci := 8) hx hb hts i_X9 hown hK hH hY.1 rfl 0 (by decide) f_2 rfl dX9_order_273 ?_
      refine j_const hx hb dX9_order_276 ?_
      refine m_iald (nA := 163) (f := (adj σ (dig (σ 3)))) hx hb hK hH hY.2.1 dX9_order_277 ?_ (by omega) (by omega)
      refine j_norm (y := ((adj σ (dig (σ 3))) 3)) rfl ?_
      have ht3 : ((adj σ (dig (σ 3))) 3) = σ 3 := by unfold adj; rw [adj_ot (by omega) (by omega)]
      refine j_norm (y := (σ 3)) ht3 ?_
      refine j_ldc hx hb (36524) hown f_3 dX9_order_278 ?_ (by decide)
      refine j_icmp_gt (tgt := 287) hx hb dX9_order_280 (by decide) (fun c88 => absurd c88 (by omega)) (fun c88 => ?_) (by omega) (by omega)
      refine j_const hx hb dX9_order_283 ?_
      refine lv_goto (tgt := 288) hx hb dX9_order_284 (by decide) ?_
      subst hQ
      refine m_zret hx hb hr hlocks hH hS dX9_order_288 ?_ (by omega)
      have e4 : ordF χ ln pl = (1, pl + 1, 0, 1) := ordF_a hk
      have hod : (ordD (nxt χ ln pl) (ordF χ ln pl).2.2.1 (ordF χ ln pl).2.2.2 (σ, cl)) = (adj σ (dig (σ 3)), cl) := by rw [e4, hk]; rfl
      rw [hod, e4]
      have h11 : fu (adj σ (dig (σ 3))) 11 (σ 11) = adj σ (dig (σ 3)) := fu_i (by unfold adj; rw [adj_ot (by omega) (by omega)])
      have h33 : adj σ (dig (σ 3)) 3 = σ 3 := by unfold adj; rw [adj_ot (by omega) (by omega)]
      rw [hwr] at hY
      rw [← h11] at hY
      exact ⟨(if_pos (by show adj σ (dig (σ 3)) 3 ≤ 36524; rw [h33]; omega)).symm, ⟨ω, en, σ 11, hY, OrP.no hPC hle⟩, hfr⟩
  · skip
    have hk : (nxt χ ln pl) = 100 := by omega
    have hpn : pl < ln := by omega
    refine lv_aload_n hx hb dX9_order_9 rfl (lv_at hl 0 rfl) ?_
    refine lv_dup hx hb dX9_order_10 rfl ?_
    refine m_get (C := RX9) (T := TX9) (N := 13) (ci := 8) hx hb hts i_X9 hown hK hH hY.1 rfl 11 (by decide) f_4 rfl dX9_order_11 ?_
    refine j_const hx hb dX9_order_14 ?_
    refine j_iadd hx hb dX9_order_15 ?_
    refine m_put (C := RX9) (T := TX9) (N := 13) (ci := 8) hx hb hts i_X9 tyX9 tyX9_ok nmX9 hown hK hH hS hY.1 rfl 11 (by decide) f_4 rfl rfl rfl (Nat.le_of_ble_eq_true rfl) dX9_order_16 (fun H locs hH hS => ?_)
    obtain ⟨ν89, hY, hfr, hH⟩ : ∃ ξ : hM, IsMM G ξ yy σ α β κ χ ω kn ik ln en fr (pl + 1) wr ∧ MFr yy μ ξ ∧ gP G ξ n H := hY.w0 hfr hH
    have hH : gP G ν89 n H := hH
    refine lv_aload_n hx hb dX9_order_19 rfl (lv_at hl 0 rfl) ?_
    refine m_callVi (As := []) (rest := []) ⟨hx, hb, hml, hown, hts⟩ hK hH hS (c_X9_date l G ν89 n yy σ α β κ χ ω kn ik ln en fr (pl + 1) wr hY hOC (by omega) (by omega)) (cwV 0 hts gX9_order_X9_date rfl rfl rfl (by decide +kernel) ⟨(Nat.le_of_ble_eq_true rfl), (Nat.le_of_ble_eq_true rfl)⟩) hY.1 rfl rfl rfl rfl hl.1 (Nat.le_of_ble_eq_true rfl) dX9_order_20 ⟨Nat.zero_le _, Nat.zero_le _⟩ (fun z93 μ90 n91 H locs hz93 hp92 hH hS => ?_)
    obtain ⟨⟨pl94, wr95, hY, hdt⟩, hfr1⟩ := hp92
    have hfr := hfr.tr hfr1
    clear hfr1
    have hdt1 := hdt.resolve_right (fun q => by rw [ordF_d hk] at hor; have q1 := q.2.1; have q2 : (rdat χ ln 6 1 0 (pl + 1)).1 = 1 := hor; omega)
    obtain ⟨e1, e2, e3⟩ := hdt1
    have hzd := e3.rng (by omega)
    have hzd1 := hzd.1
    have hzd2 := hzd.2.1
    clear hzd
    have hdd := e3.day
    refine lv_istore_n (lv' := [(2, .int (iv z93)), (0, .ref yy), (1, .int (iv 1))]) hx hb dX9_order_23 rfl hl (by decide) rfl (fun ls hl => ?_)
    refine lv_iload_n hx hb dX9_order_24 rfl (lv_at hl 2 rfl) ?_
    refine j_if_eq (tgt := 39) hx hb dX9_order_25 (by decide) (fun c96 => absurd c96 (by omega)) (fun c96 => ?_) (by omega)
    refine lv_aload_n hx hb dX9_order_28 rfl (lv_at hl 1 rfl) ?_
    refine lv_iload_n hx hb dX9_order_29 rfl (lv_at hl 0 rfl) ?_
    refine m_callSi (As := [.int (iv z93)]) (rest := [.ref yy]) ⟨hx, hb, hml, hown, hts⟩ hK hH hS (c_X9_dayOf l G μ90 n91 z93 (by omega)) (va_cwS 1 hts gX9_order_X9_dayOf rfl rfl rfl (by decide +kernel) ⟨(Nat.le_of_ble_eq_true rfl), (Nat.le_of_ble_eq_true rfl)⟩) rfl rfl hl.1 (Nat.le_of_ble_eq_true rfl) dX9_order_30 ⟨Nat.zero_le _, Nat.zero_le _⟩ (fun z100 μ97 n98 H locs hz100 hp99 hH hS => ?_)
    obtain ⟨hz2, hm2, hn2⟩ := hp99; rw [hz2]; rw [hm2, hn2] at hH; clear hz2 hm2 hn2
    refine m_callVi (As := [.int (iv (dday z93))]) (rest := []) ⟨hx, hb, hml, hown, hts⟩ hK hH hS (c_X9_adjusts l G μ90 n91 yy σ α β κ χ ω kn ik ln en fr pl94 wr95 hY (dday z93) hOk (by omega)) (cwV 1 hts gX9_order_X9_adjusts rfl rfl rfl (by decide +kernel) ⟨(Nat.le_of_ble_eq_true rfl), (Nat.le_of_ble_eq_true rfl)⟩) hY.1 rfl rfl rfl rfl hl.1 (Nat.le_of_ble_eq_true rfl) dX9_order_33 ⟨Nat.zero_le _, Nat.zero_le _⟩ (fun z104 μ101 n102 H locs hz104 hp103 hH hS => ?_)
    obtain ⟨hz9, hY, hfr1⟩ := hp103
    have hfr := hfr.tr hfr1
    clear hfr1
    rw [hz9]
    clear hz9
    refine lv_goto (tgt := 40) hx hb dX9_order_36 (by decide) ?_
    refine lv_istore_n (lv' := [(3, .int (iv (wsm σ (dig (dday z93)) 0 6))), (2, .int (iv z93)), (0, .ref yy), (1, .int (iv 1))]) hx hb dX9_order_40 rfl hl (by decide) rfl (fun ls hl => ?_)
    refine lv_goto (tgt := 272) hx hb dX9_order_41 (by decide) ?_
    refine lv_aload_n hx hb dX9_order_272 rfl (lv_at hl 2 rfl) ?_
    refine m_get (C := RX9) (T := TX9) (N := 13) (ci := 8) hx hb hts i_X9 hown hK hH hY.1 rfl 0 (by decide) f_2 rfl dX9_order_273 ?_
    refine j_const hx hb dX9_order_276 ?_
    refine m_iald (nA := 163) (f := (adj σ (dig (dday z93)))) hx hb hK hH hY.2.1 dX9_order_277 ?_ (by omega) (by omega)
    refine j_norm (y := ((adj σ (dig (dday z93))) 3)) rfl ?_
    have ht3 : ((adj σ (dig (dday z93))) 3) = σ 3 := by unfold adj; rw [adj_ot (by omega) (by omega)]
    refine j_norm (y := (σ 3)) ht3 ?_
    refine j_ldc hx hb (36524) hown f_3 dX9_order_278 ?_ (by decide)
    refine j_icmp_gt (tgt := 287) hx hb dX9_order_280 (by decide) (fun c105 => absurd c105 (by omega)) (fun c105 => ?_) (by omega) (by omega)
    refine j_const hx hb dX9_order_283 ?_
    refine lv_goto (tgt := 288) hx hb dX9_order_284 (by decide) ?_
    subst hQ
    refine m_zret hx hb hr hlocks hH hS dX9_order_288 ?_ (by omega)
    have e4 : ordF χ ln pl = (1, pl94, z93, 1) := by rw [ordF_d hk, e2]
    have hod : (ordD (nxt χ ln pl) (ordF χ ln pl).2.2.1 (ordF χ ln pl).2.2.2 (σ, cl)) = (adj σ z93, cl) := by rw [e4, hk]; rfl
    rw [hod, e4]
    rw [hdd.2] at hY
    have h11 : fu (adj σ z93) 11 (σ 11) = adj σ z93 := fu_i (by unfold adj; rw [adj_ot (by omega) (by omega)])
    have h33 : adj σ z93 3 = σ 3 := by unfold adj; rw [adj_ot (by omega) (by omega)]
    rw [e1] at hY
    rw [← h11] at hY
    exact ⟨(if_pos (by show adj σ z93 3 ≤ 36524; rw [h33]; omega)).symm, ⟨ω, en, σ 11, hY, OrP.no hPC hle⟩, hfr⟩
