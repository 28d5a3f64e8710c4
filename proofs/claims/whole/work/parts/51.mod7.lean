abbrev rm_c_X9_sign : Room := { frames := 1, cells := 0, slots := 0, locals := 22 }
set_option maxHeartbeats 4000000 in
set_option maxRecDepth 100000 in
theorem c_X9_sign (l : Launch) (G : wG) (μ : hM) (n : Nat) (yy : Nat) (σ α β κ χ ω : Nat → Int) (kn ik ln en fr pl wr : Int) (hY : IsMM G μ yy σ α β κ χ ω kn ik ln en fr pl wr) (lo hi : Int) (hOC : OkC χ ln) (hpl : 0 ≤ pl ∧ pl ≤ ln) (hwr : 0 ≤ wr ∧ wr ≤ 1) (hlo : 0 ≤ lo ∧ lo ≤ 65535) (hhi : 0 ≤ hi ∧ hi ≤ 65535) : Met l yX9_sign wsX9_sign rm_c_X9_sign (mPc G μ n [.ref yy, .int (iv lo), .int (iv hi)]) (mQi G (fun z μ1 n1 => (0 ≤ z ∧ z ≤ 65535) ∧ (∃ pl1 wr1 : Int, IsMM G μ1 yy σ α β κ χ ω kn ik ln en fr pl1 wr1 ∧ ((wr1 = 0 ∧ pl1 = pl + 1 ∧ wr = 0 ∧ lo ≤ (nxt χ ln pl) ∧ (nxt χ ln pl) ≤ hi ∧ z = (nxt χ ln pl)) ∨ (wr1 = 1 ∧ pl1 = pl ∧ ¬ (wr = 0 ∧ lo ≤ (nxt χ ln pl) ∧ (nxt χ ln pl) ≤ hi)))) ∧ MFr yy μ μ1)) 0 0 (gA G) := by
  refine Met.ofW (cc := cX9_sign) (maxL := 4) (ret := (some .int)) (by decide) rfl ?_
  intro p e s m args below meth c s₁ B hml hv
  obtain ⟨hav, hK, hH⟩ := hv
  have hx := B.exec
  have hb := B.bytes
  have hr := B.returns
  have hts := atoms_spec (ws := wsX9_sign) B.pre
  have hown : s.vm.findClass RX9 = some m.cls := findClass_of_methodNamed B.named
  have hlocks := B.notSynchronized
  have hS : va_S (gA G) s.heap s.heap [] := va_S.rf
  have hl := lv_entry ([.ref yy, .int (iv lo), .int (iv hi)]) (n := 4) (Nat.le_of_ble_eq_true rfl)
  have hfr : entryFrame m args 4 = entryFrame m ([.ref yy, .int (iv lo), .int (iv hi)] : List Value).toArray 4 := by rw [hav]
  rw [hfr, lg_entry_eq]
  generalize (lg_sl ([.ref yy, .int (iv lo), .int (iv hi)]) ++ List.replicate (4 - (lg_sl ([.ref yy, .int (iv lo), .int (iv hi)])).length) Slot.unset).toArray = ls at hl ⊢
  have hl : lv_has ls 4 [(0, .ref yy), (1, .int (iv lo)), (2, .int (iv hi))] := hl
  generalize hQ : MQ below _ args s 0 0 (gA G) = Q
  show W p l e rm_c_X9_sign s m args below meth c s.heap [] 0 0 Q (F0 m 0 ls [])
  obtain ⟨H, hHe⟩ : ∃ H, H = s.heap := ⟨_, rfl⟩
  obtain ⟨locs, hlo⟩ : ∃ q : List Loc, q = [] := ⟨_, rfl⟩
  have hH : gP G μ n H := by rw [hHe]; exact hH
  have hS : va_S (gA G) s.heap H locs := by rw [hHe, hlo]; exact hS
  suffices hgo : W p l e rm_c_X9_sign s m args below meth c H locs 0 0 Q (F0 m 0 ls []) by rw [hHe, hlo] at hgo; exact hgo
  clear hHe hlo hfr hav
  have f_0 := hts (.fieldLink RX9 129 "StampDaterModel" "place" "I") (List.mem_of_getElem? (i := 1) rfl)
  have i_X9 : ∀ w ∈ u_ws RX9 TX9 13, w ∈ wsX9_sign := by decide +kernel
  have f_2 := hts (.fieldLink RX9 126 "StampDaterModel" "length" "I") (List.mem_of_getElem? (i := 2) rfl)
  have f_3 := hts (.fieldLink RX9 132 "StampDaterModel" "isWrong" "Z") (List.mem_of_getElem? (i := 4) rfl)
  have f_4 := hts (.fieldLink RX9 22 "StampDaterModel" "text" "[I") (List.mem_of_getElem? (i := 3) rfl)
  have hfr : MFr yy μ μ := MFr.rf
  have hl0 := hOC.1
  have hnx := nxt_or (c := χ) (L := ln) hpl.1
  have hcr := hOC.2 pl.toNat
  refine lv_aload_n hx hb dX9_sign_0 rfl (lv_at hl 0 rfl) ?_
  refine m_get (C := RX9) (T := TX9) (N := 13) (ci := 8) hx hb hts i_X9 hown hK hH hY.1 rfl 11 (by decide) f_0 rfl dX9_sign_1 ?_
  refine lv_aload_n hx hb dX9_sign_4 rfl (lv_at hl 0 rfl) ?_
  refine m_get (C := RX9) (T := TX9) (N := 13) (ci := 8) hx hb hts i_X9 hown hK hH hY.1 rfl 7 (by decide) f_2 rfl dX9_sign_5 ?_
  refine j_icmp_ge (tgt := 23) hx hb dX9_sign_8 (by decide) (fun c1 => ?_) (fun c1 => ?_) (by omega) (by omega)
  · skip
    have hnx1 : nxt χ ln pl = -1 := by omega
    refine j_const hx hb dX9_sign_23 ?_
    refine lv_istore_n (lv' := [(3, .int (iv 0)), (0, .ref yy), (1, .int (iv lo)), (2, .int (iv hi))]) hx hb dX9_sign_24 rfl hl (by decide) rfl (fun ls hl => ?_)
    refine lv_aload_n hx hb dX9_sign_25 rfl (lv_at hl 1 rfl) ?_
    refine lv_aload_n hx hb dX9_sign_26 rfl (lv_at hl 1 rfl) ?_
    refine m_get (C := RX9) (T := TX9) (N := 13) (ci := 8) hx hb hts i_X9 hown hK hH hY.1 rfl 12 (by decide) f_3 rfl dX9_sign_27 ?_
    refine j_if_ne (tgt := 53) hx hb dX9_sign_30 (by decide) (fun c2 => ?_) (fun c2 => ?_) (by omega)
    · skip
      refine j_const hx hb dX9_sign_53 ?_
      refine lv_goto (tgt := 58) hx hb dX9_sign_54 (by decide) ?_
      refine m_put (C := RX9) (T := TX9) (N := 13) (ci := 8) hx hb hts i_X9 tyX9 tyX9_ok nmX9 hown hK hH hS hY.1 rfl 12 (by decide) f_3 rfl (nar_z (by omega)) (fit_z (by omega)) (Nat.le_of_ble_eq_true rfl) dX9_sign_58 (fun H locs hH hS => ?_)
      obtain ⟨ν3, hY, hfr, hH⟩ : ∃ ξ : hM, IsMM G ξ yy σ α β κ χ ω kn ik ln en fr pl 1 ∧ MFr yy μ ξ ∧ gP G ξ n H := hY.w0 hfr hH
      have hH : gP G ν3 n H := hH
      refine lv_aload_n hx hb dX9_sign_61 rfl (lv_at hl 1 rfl) ?_
      refine lv_dup hx hb dX9_sign_62 rfl ?_
      refine m_get (C := RX9) (T := TX9) (N := 13) (ci := 8) hx hb hts i_X9 hown hK hH hY.1 rfl 11 (by decide) f_0 rfl dX9_sign_63 ?_
      refine lv_aload_n hx hb dX9_sign_66 rfl (lv_at hl 1 rfl) ?_
      refine m_get (C := RX9) (T := TX9) (N := 13) (ci := 8) hx hb hts i_X9 hown hK hH hY.1 rfl 12 (by decide) f_3 rfl dX9_sign_67 ?_
      refine j_if_eq (tgt := 77) hx hb dX9_sign_70 (by decide) (fun c4 => absurd c4 (by omega)) (fun c4 => ?_) (by omega)
      refine j_const hx hb dX9_sign_73 ?_
      refine lv_goto (tgt := 78) hx hb dX9_sign_74 (by decide) ?_
      refine j_iadd hx hb dX9_sign_78 ?_
      refine m_put (C := RX9) (T := TX9) (N := 13) (ci := 8) hx hb hts i_X9 tyX9 tyX9_ok nmX9 hown hK hH hS hY.1 rfl 11 (by decide) f_0 rfl rfl rfl (Nat.le_of_ble_eq_true rfl) dX9_sign_79 (fun H locs hH hS => ?_)
      obtain ⟨ν5, hY, hfr, hH⟩ : ∃ ξ : hM, IsMM G ξ yy σ α β κ χ ω kn ik ln en fr (pl + 0) 1 ∧ MFr yy μ ξ ∧ gP G ξ n H := hY.w0 hfr hH
      have hH : gP G ν5 n H := hH
      refine lv_iload_n hx hb dX9_sign_82 rfl (lv_at hl 0 rfl) ?_
      subst hQ
      refine m_iret hx hb hr hlocks hH hS dX9_sign_83 ?_ (by omega)
      exact ⟨by omega, ⟨_, _, hY, Or.inr ⟨rfl, by omega, by omega⟩⟩, hfr⟩
    · skip
      refine lv_aload_n hx hb dX9_sign_33 rfl (lv_at hl 1 rfl) ?_
      refine m_get (C := RX9) (T := TX9) (N := 13) (ci := 8) hx hb hts i_X9 hown hK hH hY.1 rfl 11 (by decide) f_0 rfl dX9_sign_34 ?_
      refine lv_aload_n hx hb dX9_sign_37 rfl (lv_at hl 1 rfl) ?_
      refine m_get (C := RX9) (T := TX9) (N := 13) (ci := 8) hx hb hts i_X9 hown hK hH hY.1 rfl 7 (by decide) f_2 rfl dX9_sign_38 ?_
      refine j_icmp_ge (tgt := 53) hx hb dX9_sign_41 (by decide) (fun c6 => ?_) (fun c6 => ?_) (by omega) (by omega)
      · skip
        refine j_const hx hb dX9_sign_53 ?_
        refine lv_goto (tgt := 58) hx hb dX9_sign_54 (by decide) ?_
        refine m_put (C := RX9) (T := TX9) (N := 13) (ci := 8) hx hb hts i_X9 tyX9 tyX9_ok nmX9 hown hK hH hS hY.1 rfl 12 (by decide) f_3 rfl (nar_z (by omega)) (fit_z (by omega)) (Nat.le_of_ble_eq_true rfl) dX9_sign_58 (fun H locs hH hS => ?_)
        obtain ⟨ν7, hY, hfr, hH⟩ : ∃ ξ : hM, IsMM G ξ yy σ α β κ χ ω kn ik ln en fr pl 1 ∧ MFr yy μ ξ ∧ gP G ξ n H := hY.w0 hfr hH
        have hH : gP G ν7 n H := hH
        refine lv_aload_n hx hb dX9_sign_61 rfl (lv_at hl 1 rfl) ?_
        refine lv_dup hx hb dX9_sign_62 rfl ?_
        refine m_get (C := RX9) (T := TX9) (N := 13) (ci := 8) hx hb hts i_X9 hown hK hH hY.1 rfl 11 (by decide) f_0 rfl dX9_sign_63 ?_
        refine lv_aload_n hx hb dX9_sign_66 rfl (lv_at hl 1 rfl) ?_
        refine m_get (C := RX9) (T := TX9) (N := 13) (ci := 8) hx hb hts i_X9 hown hK hH hY.1 rfl 12 (by decide) f_3 rfl dX9_sign_67 ?_
        refine j_if_eq (tgt := 77) hx hb dX9_sign_70 (by decide) (fun c8 => absurd c8 (by omega)) (fun c8 => ?_) (by omega)
        refine j_const hx hb dX9_sign_73 ?_
        refine lv_goto (tgt := 78) hx hb dX9_sign_74 (by decide) ?_
        refine j_iadd hx hb dX9_sign_78 ?_
        refine m_put (C := RX9) (T := TX9) (N := 13) (ci := 8) hx hb hts i_X9 tyX9 tyX9_ok nmX9 hown hK hH hS hY.1 rfl 11 (by decide) f_0 rfl rfl rfl (Nat.le_of_ble_eq_true rfl) dX9_sign_79 (fun H locs hH hS => ?_)
        obtain ⟨ν9, hY, hfr, hH⟩ : ∃ ξ : hM, IsMM G ξ yy σ α β κ χ ω kn ik ln en fr (pl + 0) 1 ∧ MFr yy μ ξ ∧ gP G ξ n H := hY.w0 hfr hH
        have hH : gP G ν9 n H := hH
        refine lv_iload_n hx hb dX9_sign_82 rfl (lv_at hl 0 rfl) ?_
        subst hQ
        refine m_iret hx hb hr hlocks hH hS dX9_sign_83 ?_ (by omega)
        exact ⟨by omega, ⟨_, _, hY, Or.inr ⟨rfl, by omega, by omega⟩⟩, hfr⟩
      · skip
        refine lv_iload_n hx hb dX9_sign_44 rfl (lv_at hl 0 rfl) ?_
        refine lv_iload_n hx hb dX9_sign_45 rfl (lv_at hl 2 rfl) ?_
        refine lv_iload_n hx hb dX9_sign_46 rfl (lv_at hl 3 rfl) ?_
        refine m_callSi (As := [.int (iv 0), .int (iv lo), .int (iv hi)]) (rest := [.ref yy]) ⟨hx, hb, hml, hown, hts⟩ hK hH hS (c_X9_in l G μ n 0 lo hi (by omega) (by omega) (by omega)) (va_cwS 3 hts gX9_sign_X9_in rfl rfl rfl (by decide +kernel) ⟨(Nat.le_of_ble_eq_true rfl), (Nat.le_of_ble_eq_true rfl)⟩) rfl rfl hl.1 (Nat.le_of_ble_eq_true rfl) dX9_sign_47 ⟨Nat.zero_le _, Nat.zero_le _⟩ (fun z13 μ10 n11 H locs hz13 hp12 hH hS => ?_)
        obtain ⟨hz9, hm9, hn9⟩ := hp12
        rw [hm9, hn9] at hH
        have hz13c : (z13 = 1 ∧ (lo ≤ 0 ∧ 0 ≤ hi)) ∨ (z13 = 0 ∧ ¬ (lo ≤ 0 ∧ 0 ≤ hi)) := by
          by_cases q9 : lo ≤ 0 ∧ 0 ≤ hi
          · rw [if_pos q9] at hz9; exact Or.inl ⟨hz9, q9⟩
          · rw [if_neg q9] at hz9; exact Or.inr ⟨hz9, q9⟩
        clear hz9 hm9 hn9
        refine j_if_ne (tgt := 57) hx hb dX9_sign_50 (by decide) (fun c14 => ?_) (fun c14 => ?_) (by omega)
        · skip
          refine j_const hx hb dX9_sign_57 ?_
          refine m_put (C := RX9) (T := TX9) (N := 13) (ci := 8) hx hb hts i_X9 tyX9 tyX9_ok nmX9 hown hK hH hS hY.1 rfl 12 (by decide) f_3 rfl (nar_z (by omega)) (fit_z (by omega)) (Nat.le_of_ble_eq_true rfl) dX9_sign_58 (fun H locs hH hS => ?_)
          obtain ⟨ν15, hY, hfr, hH⟩ : ∃ ξ : hM, IsMM G ξ yy σ α β κ χ ω kn ik ln en fr pl 0 ∧ MFr yy μ ξ ∧ gP G ξ n H := hY.w0 hfr hH
          have hH : gP G ν15 n H := hH
          refine lv_aload_n hx hb dX9_sign_61 rfl (lv_at hl 1 rfl) ?_
          refine lv_dup hx hb dX9_sign_62 rfl ?_
          refine m_get (C := RX9) (T := TX9) (N := 13) (ci := 8) hx hb hts i_X9 hown hK hH hY.1 rfl 11 (by decide) f_0 rfl dX9_sign_63 ?_
          refine lv_aload_n hx hb dX9_sign_66 rfl (lv_at hl 1 rfl) ?_
          refine m_get (C := RX9) (T := TX9) (N := 13) (ci := 8) hx hb hts i_X9 hown hK hH hY.1 rfl 12 (by decide) f_3 rfl dX9_sign_67 ?_
          refine j_if_eq (tgt := 77) hx hb dX9_sign_70 (by decide) (fun c16 => ?_) (fun c16 => absurd c16 (by omega)) (by omega)
          refine j_const hx hb dX9_sign_77 ?_
          refine j_iadd hx hb dX9_sign_78 ?_
          refine m_put (C := RX9) (T := TX9) (N := 13) (ci := 8) hx hb hts i_X9 tyX9 tyX9_ok nmX9 hown hK hH hS hY.1 rfl 11 (by decide) f_0 rfl rfl rfl (Nat.le_of_ble_eq_true rfl) dX9_sign_79 (fun H locs hH hS => ?_)
          obtain ⟨ν17, hY, hfr, hH⟩ : ∃ ξ : hM, IsMM G ξ yy σ α β κ χ ω kn ik ln en fr (pl + 1) 0 ∧ MFr yy μ ξ ∧ gP G ξ n H := hY.w0 hfr hH
          have hH : gP G ν17 n H := hH
          refine lv_iload_n hx hb dX9_sign_82 rfl (lv_at hl 0 rfl) ?_
          subst hQ
          refine m_iret hx hb hr hlocks hH hS dX9_sign_83 ?_ (by omega)
          exact ⟨by omega, ⟨_, _, hY, Or.inl ⟨rfl, rfl, by omega, by omega, by omega, by omega⟩⟩, hfr⟩
        · skip
          refine j_const hx hb dX9_sign_53 ?_
          refine lv_goto (tgt := 58) hx hb dX9_sign_54 (by decide) ?_
          refine m_put (C := RX9) (T := TX9) (N := 13) (ci := 8) hx hb hts i_X9 tyX9 tyX9_ok nmX9 hown hK hH hS hY.1 rfl 12 (by decide) f_3 rfl (nar_z (by omega)) (fit_z (by omega)) (Nat.le_of_ble_eq_true rfl) dX9_sign_58 (fun H locs hH hS => ?_)
          obtain ⟨ν18, hY, hfr, hH⟩ : ∃ ξ : hM, IsMM G ξ yy σ α β κ χ ω kn ik ln en fr pl 1 ∧ MFr yy μ ξ ∧ gP G ξ n H := hY.w0 hfr hH
          have hH : gP G ν18 n H := hH
          refine lv_aload_n hx hb dX9_sign_61 rfl (lv_at hl 1 rfl) ?_
          refine lv_dup hx hb dX9_sign_62 rfl ?_
          refine m_get (C := RX9) (T := TX9) (N := 13) (ci := 8) hx hb hts i_X9 hown hK hH hY.1 rfl 11 (by decide) f_0 rfl dX9_sign_63 ?_
          refine lv_aload_n hx hb dX9_sign_66 rfl (lv_at hl 1 rfl) ?_
          refine m_get (C := RX9) (T := TX9) (N := 13) (ci := 8) hx hb hts i_X9 hown hK hH hY.1 rfl 12 (by decide) f_3 rfl dX9_sign_67 ?_
          refine j_if_eq (tgt := 77) hx hb dX9_sign_70 (by decide) (fun c19 => absurd c19 (by omega)) (fun c19 => ?_) (by omega)
          refine j_const hx hb dX9_sign_73 ?_
          refine lv_goto (tgt := 78) hx hb dX9_sign_74 (by decide) ?_
          refine j_iadd hx hb dX9_sign_78 ?_
          refine m_put (C := RX9) (T := TX9) (N := 13) (ci := 8) hx hb hts i_X9 tyX9 tyX9_ok nmX9 hown hK hH hS hY.1 rfl 11 (by decide) f_0 rfl rfl rfl (Nat.le_of_ble_eq_true rfl) dX9_sign_79 (fun H locs hH hS => ?_)
          obtain ⟨ν20, hY, hfr, hH⟩ : ∃ ξ : hM, IsMM G ξ yy σ α β κ χ ω kn ik ln en fr (pl + 0) 1 ∧ MFr yy μ ξ ∧ gP G ξ n H := hY.w0 hfr hH
          have hH : gP G ν20 n H := hH
          refine lv_iload_n hx hb dX9_sign_82 rfl (lv_at hl 0 rfl) ?_
          subst hQ
          refine m_iret hx hb hr hlocks hH hS dX9_sign_83 ?_ (by omega)
          exact ⟨by omega, ⟨_, _, hY, Or.inr ⟨rfl, by omega, by omega⟩⟩, hfr⟩
  · skip
    have hnx1 : nxt χ ln pl = χ pl.toNat := by omega
    refine lv_aload_n hx hb dX9_sign_11 rfl (lv_at hl 0 rfl) ?_
    refine m_get (C := RX9) (T := TX9) (N := 13) (ci := 8) hx hb hts i_X9 hown hK hH hY.1 rfl 6 (by decide) f_4 rfl dX9_sign_12 ?_
    refine lv_aload_n hx hb dX9_sign_15 rfl (lv_at hl 0 rfl) ?_
    refine m_get (C := RX9) (T := TX9) (N := 13) (ci := 8) hx hb hts i_X9 hown hK hH hY.1 rfl 11 (by decide) f_0 rfl dX9_sign_16 ?_
    refine m_iald (nA := 60) (f := χ) hx hb hK hH hY.2.2.2.2.2.1 dX9_sign_19 ?_ (by omega) (by omega)
    refine j_norm (y := (χ (pl).toNat)) rfl ?_
    refine lv_goto (tgt := 24) hx hb dX9_sign_20 (by decide) ?_
    refine lv_istore_n (lv' := [(3, .int (iv (χ (pl).toNat))), (0, .ref yy), (1, .int (iv lo)), (2, .int (iv hi))]) hx hb dX9_sign_24 rfl hl (by decide) rfl (fun ls hl => ?_)
    refine lv_aload_n hx hb dX9_sign_25 rfl (lv_at hl 1 rfl) ?_
    refine lv_aload_n hx hb dX9_sign_26 rfl (lv_at hl 1 rfl) ?_
    refine m_get (C := RX9) (T := TX9) (N := 13) (ci := 8) hx hb hts i_X9 hown hK hH hY.1 rfl 12 (by decide) f_3 rfl dX9_sign_27 ?_
    refine j_if_ne (tgt := 53) hx hb dX9_sign_30 (by decide) (fun c21 => ?_) (fun c21 => ?_) (by omega)
    · skip
      refine j_const hx hb dX9_sign_53 ?_
      refine lv_goto (tgt := 58) hx hb dX9_sign_54 (by decide) ?_
      refine m_put (C := RX9) (T := TX9) (N := 13) (ci := 8) hx hb hts i_X9 tyX9 tyX9_ok nmX9 hown hK hH hS hY.1 rfl 12 (by decide) f_3 rfl (nar_z (by omega)) (fit_z (by omega)) (Nat.le_of_ble_eq_true rfl) dX9_sign_58 (fun H locs hH hS => ?_)
      obtain ⟨ν22, hY, hfr, hH⟩ : ∃ ξ : hM, IsMM G ξ yy σ α β κ χ ω kn ik ln en fr pl 1 ∧ MFr yy μ ξ ∧ gP G ξ n H := hY.w0 hfr hH
      have hH : gP G ν22 n H := hH
      refine lv_aload_n hx hb dX9_sign_61 rfl (lv_at hl 1 rfl) ?_
      refine lv_dup hx hb dX9_sign_62 rfl ?_
      refine m_get (C := RX9) (T := TX9) (N := 13) (ci := 8) hx hb hts i_X9 hown hK hH hY.1 rfl 11 (by decide) f_0 rfl dX9_sign_63 ?_
      refine lv_aload_n hx hb dX9_sign_66 rfl (lv_at hl 1 rfl) ?_
      refine m_get (C := RX9) (T := TX9) (N := 13) (ci := 8) hx hb hts i_X9 hown hK hH hY.1 rfl 12 (by decide) f_3 rfl dX9_sign_67 ?_
      refine j_if_eq (tgt := 77) hx hb dX9_sign_70 (by decide) (fun c23 => absurd c23 (by omega)) (fun c23 => ?_) (by omega)
      refine j_const hx hb dX9_sign_73 ?_
      refine lv_goto (tgt := 78) hx hb dX9_sign_74 (by decide) ?_
      refine j_iadd hx hb dX9_sign_78 ?_
      refine m_put (C := RX9) (T := TX9) (N := 13) (ci := 8) hx hb hts i_X9 tyX9 tyX9_ok nmX9 hown hK hH hS hY.1 rfl 11 (by decide) f_0 rfl rfl rfl (Nat.le_of_ble_eq_true rfl) dX9_sign_79 (fun H locs hH hS => ?_)
      obtain ⟨ν24, hY, hfr, hH⟩ : ∃ ξ : hM, IsMM G ξ yy σ α β κ χ ω kn ik ln en fr (pl + 0) 1 ∧ MFr yy μ ξ ∧ gP G ξ n H := hY.w0 hfr hH
      have hH : gP G ν24 n H := hH
      refine lv_iload_n hx hb dX9_sign_82 rfl (lv_at hl 0 rfl) ?_
      subst hQ
      refine m_iret hx hb hr hlocks hH hS dX9_sign_83 ?_ (by omega)
      exact ⟨by omega, ⟨_, _, hY, Or.inr ⟨rfl, by omega, by omega⟩⟩, hfr⟩
    · skip
      refine lv_aload_n hx hb dX9_sign_33 rfl (lv_at hl 1 rfl) ?_
      refine m_get (C := RX9) (T := TX9) (N := 13) (ci := 8) hx hb hts i_X9 hown hK hH hY.1 rfl 11 (by decide) f_0 rfl dX9_sign_34 ?_
      refine lv_aload_n hx hb dX9_sign_37 rfl (lv_at hl 1 rfl) ?_
      refine m_get (C := RX9) (T := TX9) (N := 13) (ci := 8) hx hb hts i_X9 hown hK hH hY.1 rfl 7 (by decide) f_2 rfl dX9_sign_38 ?_
      refine j_icmp_ge (tgt := 53) hx hb dX9_sign_41 (by decide) (fun c25 => ?_) (fun c25 => ?_) (by omega) (by omega)
      · skip
        refine j_const hx hb dX9_sign_53 ?_
        refine lv_goto (tgt := 58) hx hb dX9_sign_54 (by decide) ?_
        refine m_put (C := RX9) (T := TX9) (N := 13) (ci := 8) hx hb hts i_X9 tyX9 tyX9_ok nmX9 hown hK hH hS hY.1 rfl 12 (by decide) f_3 rfl (nar_z (by omega)) (fit_z (by omega)) (Nat.le_of_ble_eq_true rfl) dX9_sign_58 (fun H locs hH hS => ?_)
        obtain ⟨ν26, hY, hfr, hH⟩ : ∃ ξ : hM, IsMM G ξ yy σ α β κ χ ω kn ik ln en fr pl 1 ∧ MFr yy μ ξ ∧ gP G ξ n H := hY.w0 hfr hH
        have hH : gP G ν26 n H := hH
        refine lv_aload_n hx hb dX9_sign_61 rfl (lv_at hl 1 rfl) ?_
        refine lv_dup hx hb dX9_sign_62 rfl ?_
        refine m_get (C := RX9) (T := TX9) (N := 13) (ci := 8) hx hb hts i_X9 hown hK hH hY.1 rfl 11 (by decide) f_0 rfl dX9_sign_63 ?_
        refine lv_aload_n hx hb dX9_sign_66 rfl (lv_at hl 1 rfl) ?_
        refine m_get (C := RX9) (T := TX9) (N := 13) (ci := 8) hx hb hts i_X9 hown hK hH hY.1 rfl 12 (by decide) f_3 rfl dX9_sign_67 ?_
        refine j_if_eq (tgt := 77) hx hb dX9_sign_70 (by decide) (fun c27 => absurd c27 (by omega)) (fun c27 => ?_) (by omega)
        refine j_const hx hb dX9_sign_73 ?_
        refine lv_goto (tgt := 78) hx hb dX9_sign_74 (by decide) ?_
        refine j_iadd hx hb dX9_sign_78 ?_
        refine m_put (C := RX9) (T := TX9) (N := 13) (ci := 8) hx hb hts i_X9 tyX9 tyX9_ok nmX9 hown hK hH hS hY.1 rfl 11 (by decide) f_0 rfl rfl rfl (Nat.le_of_ble_eq_true rfl) dX9_sign_79 (fun H locs hH hS => ?_)
        obtain ⟨ν28, hY, hfr, hH⟩ : ∃ ξ : hM, IsMM G ξ yy σ α β κ χ ω kn ik ln en fr (pl + 0) 1 ∧ MFr yy μ ξ ∧ gP G ξ n H := hY.w0 hfr hH
        have hH : gP G ν28 n H := hH
        refine lv_iload_n hx hb dX9_sign_82 rfl (lv_at hl 0 rfl) ?_
        subst hQ
        refine m_iret hx hb hr hlocks hH hS dX9_sign_83 ?_ (by omega)
        exact ⟨by omega, ⟨_, _, hY, Or.inr ⟨rfl, by omega, by omega⟩⟩, hfr⟩
      · skip
        refine lv_iload_n hx hb dX9_sign_44 rfl (lv_at hl 0 rfl) ?_
        refine lv_iload_n hx hb dX9_sign_45 rfl (lv_at hl 2 rfl) ?_
        refine lv_iload_n hx hb dX9_sign_46 rfl (lv_at hl 3 rfl) ?_
        refine m_callSi (As := [.int (iv (χ (pl).toNat)), .int (iv lo), .int (iv hi)]) (rest := [.ref yy]) ⟨hx, hb, hml, hown, hts⟩ hK hH hS (c_X9_in l G μ n (χ (pl).toNat) lo hi (by omega) (by omega) (by omega)) (va_cwS 3 hts gX9_sign_X9_in rfl rfl rfl (by decide +kernel) ⟨(Nat.le_of_ble_eq_true rfl), (Nat.le_of_ble_eq_true rfl)⟩) rfl rfl hl.1 (Nat.le_of_ble_eq_true rfl) dX9_sign_47 ⟨Nat.zero_le _, Nat.zero_le _⟩ (fun z32 μ29 n30 H locs hz32 hp31 hH hS => ?_)
        obtain ⟨hz9, hm9, hn9⟩ := hp31
        rw [hm9, hn9] at hH
        have hz32c : (z32 = 1 ∧ (lo ≤ (χ (pl).toNat) ∧ (χ (pl).toNat) ≤ hi)) ∨ (z32 = 0 ∧ ¬ (lo ≤ (χ (pl).toNat) ∧ (χ (pl).toNat) ≤ hi)) := by
          by_cases q9 : lo ≤ (χ (pl).toNat) ∧ (χ (pl).toNat) ≤ hi
          · rw [if_pos q9] at hz9; exact Or.inl ⟨hz9, q9⟩
          · rw [if_neg q9] at hz9; exact Or.inr ⟨hz9, q9⟩
        clear hz9 hm9 hn9
        refine j_if_ne (tgt := 57) hx hb dX9_sign_50 (by decide) (fun c33 => ?_) (fun c33 => ?_) (by omega)
        · skip
          refine j_const hx hb dX9_sign_57 ?_
          refine m_put (C := RX9) (T := TX9) (N := 13) (ci := 8) hx hb hts i_X9 tyX9 tyX9_ok nmX9 hown hK hH hS hY.1 rfl 12 (by decide) f_3 rfl (nar_z (by omega)) (fit_z (by omega)) (Nat.le_of_ble_eq_true rfl) dX9_sign_58 (fun H locs hH hS => ?_)
          obtain ⟨ν34, hY, hfr, hH⟩ : ∃ ξ : hM, IsMM G ξ yy σ α β κ χ ω kn ik ln en fr pl 0 ∧ MFr yy μ ξ ∧ gP G ξ n H := hY.w0 hfr hH
          have hH : gP G ν34 n H := hH
          refine lv_aload_n hx hb dX9_sign_61 rfl (lv_at hl 1 rfl) ?_
          refine lv_dup hx hb dX9_sign_62 rfl ?_
          refine m_get (C := RX9) (T := TX9) (N := 13) (ci := 8) hx hb hts i_X9 hown hK hH hY.1 rfl 11 (by decide) f_0 rfl dX9_sign_63 ?_
          refine lv_aload_n hx hb dX9_sign_66 rfl (lv_at hl 1 rfl) ?_
          refine m_get (C := RX9) (T := TX9) (N := 13) (ci := 8) hx hb hts i_X9 hown hK hH hY.1 rfl 12 (by decide) f_3 rfl dX9_sign_67 ?_
          refine j_if_eq (tgt := 77) hx hb dX9_sign_70 (by decide) (fun c35 => ?_) (fun c35 => absurd c35 (by omega)) (by omega)
          refine j_const hx hb dX9_sign_77 ?_
          refine j_iadd hx hb dX9_sign_78 ?_
          refine m_put (C := RX9) (T := TX9) (N := 13) (ci := 8) hx hb hts i_X9 tyX9 tyX9_ok nmX9 hown hK hH hS hY.1 rfl 11 (by decide) f_0 rfl rfl rfl (Nat.le_of_ble_eq_true rfl) dX9_sign_79 (fun H locs hH hS => ?_)
          obtain ⟨ν36, hY, hfr, hH⟩ : ∃ ξ : hM, IsMM G ξ yy σ α β κ χ ω kn ik ln en fr (pl + 1) 0 ∧ MFr yy μ ξ ∧ gP G ξ n H := hY.w0 hfr hH
          have hH : gP G ν36 n H := hH
          refine lv_iload_n hx hb dX9_sign_82 rfl (lv_at hl 0 rfl) ?_
          subst hQ
          refine m_iret hx hb hr hlocks hH hS dX9_sign_83 ?_ (by omega)
          exact ⟨by omega, ⟨_, _, hY, Or.inl ⟨rfl, rfl, by omega, by omega, by omega, by omega⟩⟩, hfr⟩
        · skip
          refine j_const hx hb dX9_sign_53 ?_
          refine lv_goto (tgt := 58) hx hb dX9_sign_54 (by decide) ?_
          refine m_put (C := RX9) (T := TX9) (N := 13) (ci := 8) hx hb hts i_X9 tyX9 tyX9_ok nmX9 hown hK hH hS hY.1 rfl 12 (by decide) f_3 rfl (nar_z (by omega)) (fit_z (by omega)) (Nat.le_of_ble_eq_true rfl) dX9_sign_58 (fun H locs hH hS => ?_)
          obtain ⟨ν37, hY, hfr, hH⟩ : ∃ ξ : hM, IsMM G ξ yy σ α β κ χ ω kn ik ln en fr pl 1 ∧ MFr yy μ ξ ∧ gP G ξ n H := hY.w0 hfr hH
          have hH : gP G ν37 n H := hH
          refine lv_aload_n hx hb dX9_sign_61 rfl (lv_at hl 1 rfl) ?_
          refine lv_dup hx hb dX9_sign_62 rfl ?_
          refine m_get (C := RX9) (T := TX9) (N := 13) (ci := 8) hx hb hts i_X9 hown hK hH hY.1 rfl 11 (by decide) f_0 rfl dX9_sign_63 ?_
          refine lv_aload_n hx hb dX9_sign_66 rfl (lv_at hl 1 rfl) ?_
          refine m_get (C := RX9) (T := TX9) (N := 13) (ci := 8) hx hb hts i_X9 hown hK hH hY.1 rfl 12 (by decide) f_3 rfl dX9_sign_67 ?_
          refine j_if_eq (tgt := 77) hx hb dX9_sign_70 (by decide) (fun c38 => absurd c38 (by omega)) (fun c38 => ?_) (by omega)
          refine j_const hx hb dX9_sign_73 ?_
          refine lv_goto (tgt := 78) hx hb dX9_sign_74 (by decide) ?_
          refine j_iadd hx hb dX9_sign_78 ?_
          refine m_put (C := RX9) (T := TX9) (N := 13) (ci := 8) hx hb hts i_X9 tyX9 tyX9_ok nmX9 hown hK hH hS hY.1 rfl 11 (by decide) f_0 rfl rfl rfl (Nat.le_of_ble_eq_true rfl) dX9_sign_79 (fun H locs hH hS => ?_)
          obtain ⟨ν39, hY, hfr, hH⟩ : ∃ ξ : hM, IsMM G ξ yy σ α β κ χ ω kn ik ln en fr (pl + 0) 1 ∧ MFr yy μ ξ ∧ gP G ξ n H := hY.w0 hfr hH
          have hH : gP G ν39 n H := hH
          refine lv_iload_n hx hb dX9_sign_82 rfl (lv_at hl 0 rfl) ?_
          subst hQ
          refine m_iret hx hb hr hlocks hH hS dX9_sign_83 ?_ (by omega)
          exact ⟨by omega, ⟨_, _, hY, Or.inr ⟨rfl, by omega, by omega⟩⟩, hfr⟩

abbrev rm_c_X9_isNext : Room := { frames := 0, cells := 0, slots := 0, locals := 0 }
set_option maxHeartbeats 4000000 in
set_option maxRecDepth 100000 in
theorem c_X9_isNext (l : Launch) (G : wG) (μ : hM) (n : Nat) (yy : Nat) (σ α β κ χ ω : Nat → Int) (kn ik ln en fr pl wr : Int) (hY : IsMM G μ yy σ α β κ χ ω kn ik ln en fr pl wr) (cc : Int) (hOC : OkC χ ln) (hpl : 0 ≤ pl ∧ pl ≤ ln) (hwr : 0 ≤ wr ∧ wr ≤ 1) (hcc : 0 ≤ cc ∧ cc ≤ 65535) : Met l yX9_isNext wsX9_isNext rm_c_X9_isNext (mPc G μ n [.ref yy, .int (iv cc)]) (mQi G (fun z μ1 n1 => z = (if wr = 0 ∧ (nxt χ ln pl) = cc then 1 else 0) ∧ μ1 = μ ∧ n1 = n)) 0 0 (gA G) := by
  refine Met.ofW (cc := cX9_isNext) (maxL := 2) (ret := (some .boolean)) (by decide) rfl ?_
  intro p e s m args below meth c s₁ B hml hv
  obtain ⟨hav, hK, hH⟩ := hv
  have hx := B.exec
  have hb := B.bytes
  have hr := B.returns
  have hts := atoms_spec (ws := wsX9_isNext) B.pre
  have hown : s.vm.findClass RX9 = some m.cls := findClass_of_methodNamed B.named
  have hlocks := B.notSynchronized
  have hS : va_S (gA G) s.heap s.heap [] := va_S.rf
  have hl := lv_entry ([.ref yy, .int (iv cc)]) (n := 2) (Nat.le_of_ble_eq_true rfl)
  have hfr : entryFrame m args 2 = entryFrame m ([.ref yy, .int (iv cc)] : List Value).toArray 2 := by rw [hav]
  rw [hfr, lg_entry_eq]
  generalize (lg_sl ([.ref yy, .int (iv cc)]) ++ List.replicate (2 - (lg_sl ([.ref yy, .int (iv cc)])).length) Slot.unset).toArray = ls at hl ⊢
  have hl : lv_has ls 2 [(0, .ref yy), (1, .int (iv cc))] := hl
  generalize hQ : MQ below _ args s 0 0 (gA G) = Q
  show W p l e rm_c_X9_isNext s m args below meth c s.heap [] 0 0 Q (F0 m 0 ls [])
  obtain ⟨H, hHe⟩ : ∃ H, H = s.heap := ⟨_, rfl⟩
  obtain ⟨locs, hlo⟩ : ∃ q : List Loc, q = [] := ⟨_, rfl⟩
  have hH : gP G μ n H := by rw [hHe]; exact hH
  have hS : va_S (gA G) s.heap H locs := by rw [hHe, hlo]; exact hS
  suffices hgo : W p l e rm_c_X9_isNext s m args below meth c H locs 0 0 Q (F0 m 0 ls []) by rw [hHe, hlo] at hgo; exact hgo
  clear hHe hlo hfr hav
  have f_0 := hts (.fieldLink RX9 132 "StampDaterModel" "isWrong" "Z") (List.mem_of_getElem? (i := 1) rfl)
  have i_X9 : ∀ w ∈ u_ws RX9 TX9 13, w ∈ wsX9_isNext := by decide +kernel
  have f_2 := hts (.fieldLink RX9 129 "StampDaterModel" "place" "I") (List.mem_of_getElem? (i := 2) rfl)
  have f_3 := hts (.fieldLink RX9 126 "StampDaterModel" "length" "I") (List.mem_of_getElem? (i := 3) rfl)
  have f_4 := hts (.fieldLink RX9 22 "StampDaterModel" "text" "[I") (List.mem_of_getElem? (i := 4) rfl)
  have hfr : MFr yy μ μ := MFr.rf
  have hl0 := hOC.1
  have hnx := nxt_or (c := χ) (L := ln) hpl.1
  have hcr := hOC.2 pl.toNat
  refine lv_aload_n hx hb dX9_isNext_0 rfl (lv_at hl 0 rfl) ?_
  refine m_get (C := RX9) (T := TX9) (N := 13) (ci := 8) hx hb hts i_X9 hown hK hH hY.1 rfl 12 (by decide) f_0 rfl dX9_isNext_1 ?_
  refine j_if_ne (tgt := 35) hx hb dX9_isNext_4 (by decide) (fun c1 => ?_) (fun c1 => ?_) (by omega)
  · skip
    refine j_const hx hb dX9_isNext_35 ?_
    subst hQ
    refine m_zret hx hb hr hlocks hH hS dX9_isNext_36 ?_ (by omega)
    refine ⟨?_, rfl, rfl⟩
    split <;> omega
  · skip
    refine lv_aload_n hx hb dX9_isNext_7 rfl (lv_at hl 0 rfl) ?_
    refine m_get (C := RX9) (T := TX9) (N := 13) (ci := 8) hx hb hts i_X9 hown hK hH hY.1 rfl 11 (by decide) f_2 rfl dX9_isNext_8 ?_
    refine lv_aload_n hx hb dX9_isNext_11 rfl (lv_at hl 0 rfl) ?_
    refine m_get (C := RX9) (T := TX9) (N := 13) (ci := 8) hx hb hts i_X9 hown hK hH hY.1 rfl 7 (by decide) f_3 rfl dX9_isNext_12 ?_
    refine j_icmp_ge (tgt := 35) hx hb dX9_isNext_15 (by decide) (fun c2 => ?_) (fun c2 => ?_) (by omega) (by omega)
    · skip
      refine j_const hx hb dX9_isNext_35 ?_
      subst hQ
      refine m_zret hx hb hr hlocks hH hS dX9_isNext_36 ?_ (by omega)
      refine ⟨?_, rfl, rfl⟩
      split <;> omega
    · skip
      refine lv_aload_n hx hb dX9_isNext_18 rfl (lv_at hl 0 rfl) ?_
      refine m_get (C := RX9) (T := TX9) (N := 13) (ci := 8) hx hb hts i_X9 hown hK hH hY.1 rfl 6 (by decide) f_4 rfl dX9_isNext_19 ?_
      refine lv_aload_n hx hb dX9_isNext_22 rfl (lv_at hl 0 rfl) ?_
      refine m_get (C := RX9) (T := TX9) (N := 13) (ci := 8) hx hb hts i_X9 hown hK hH hY.1 rfl 11 (by decide) f_2 rfl dX9_isNext_23 ?_
      refine m_iald (nA := 60) (f := χ) hx hb hK hH hY.2.2.2.2.2.1 dX9_isNext_26 ?_ (by omega) (by omega)
      refine j_norm (y := (χ (pl).toNat)) rfl ?_
      refine lv_iload_n hx hb dX9_isNext_27 rfl (lv_at hl 1 rfl) ?_
      refine j_icmp_ne (tgt := 35) hx hb dX9_isNext_28 (by decide) (fun c3 => ?_) (fun c3 => ?_) (by omega) (by omega)
      · skip
        refine j_const hx hb dX9_isNext_35 ?_
        subst hQ
        refine m_zret hx hb hr hlocks hH hS dX9_isNext_36 ?_ (by omega)
        refine ⟨?_, rfl, rfl⟩
        split <;> omega
      · skip
        refine j_const hx hb dX9_isNext_31 ?_
        refine lv_goto (tgt := 36) hx hb dX9_isNext_32 (by decide) ?_
        subst hQ
        refine m_zret hx hb hr hlocks hH hS dX9_isNext_36 ?_ (by omega)
        refine ⟨?_, rfl, rfl⟩
        split <;> omega

abbrev rm_c_X9_number : Room := { frames := 2, cells := 0, slots := 0, locals := 45 }
set_option maxHeartbeats 4000000 in
set_option maxRecDepth 100000 in
theorem c_X9_number (l : Launch) (G : wG) (μ : hM) (n : Nat) (yy : Nat) (σ α β κ χ ω : Nat → Int) (kn ik ln en fr pl wr : Int) (hY : IsMM G μ yy σ α β κ χ ω kn ik ln en fr pl wr) (mx : Int) (hOC : OkC χ ln) (hpl : 0 ≤ pl ∧ pl ≤ ln) (hwr : wr = 0) (hmx : 9 ≤ mx ∧ mx ≤ 1000) : Met l yX9_number wsX9_number rm_c_X9_number (mPc G μ n [.ref yy, .int (iv mx)]) (mQi G (fun z μ1 n1 => (∃ pl1 wr1 : Int, IsMM G μ1 yy σ α β κ χ ω kn ik ln en fr pl1 wr1 ∧ ((wr1 = 0 ∧ (rnum χ ln mx 60 0 pl) = (z, pl1) ∧ (1 ≤ z ∧ z ≤ mx) ∧ pl1 ≤ ln ∧ pl < pl1) ∨ (wr1 = 1 ∧ pl1 = pl ∧ (rnum χ ln mx 60 0 pl) = (0, pl)))) ∧ MFr yy μ μ1)) 0 0 (gA G) := by
  refine Met.ofW (cc := cX9_number) (maxL := 3) (ret := (some .int)) (by decide) rfl ?_
  intro p e s m args below meth c s₁ B hml hv
  obtain ⟨hav, hK, hH⟩ := hv
  have hx := B.exec
  have hb := B.bytes
  have hr := B.returns
  have hts := atoms_spec (ws := wsX9_number) B.pre
  have hown : s.vm.findClass RX9 = some m.cls := findClass_of_methodNamed B.named
  have hlocks := B.notSynchronized
  have hS : va_S (gA G) s.heap s.heap [] := va_S.rf
  have hl := lv_entry ([.ref yy, .int (iv mx)]) (n := 3) (Nat.le_of_ble_eq_true rfl)
  have hfr : entryFrame m args 3 = entryFrame m ([.ref yy, .int (iv mx)] : List Value).toArray 3 := by rw [hav]
  rw [hfr, lg_entry_eq]
  generalize (lg_sl ([.ref yy, .int (iv mx)]) ++ List.replicate (3 - (lg_sl ([.ref yy, .int (iv mx)])).length) Slot.unset).toArray = ls at hl ⊢
  have hl : lv_has ls 3 [(0, .ref yy), (1, .int (iv mx))] := hl
  generalize hQ : MQ below _ args s 0 0 (gA G) = Q
  show W p l e rm_c_X9_number s m args below meth c s.heap [] 0 0 Q (F0 m 0 ls [])
  obtain ⟨H, hHe⟩ : ∃ H, H = s.heap := ⟨_, rfl⟩
  obtain ⟨locs, hlo⟩ : ∃ q : List Loc, q = [] := ⟨_, rfl⟩
  have hH : gP G μ n H := by rw [hHe]; exact hH
  have hS : va_S (gA G) s.heap H locs := by rw [hHe, hlo]; exact hS
  suffices hgo : W p l e rm_c_X9_number s m args below meth c H locs 0 0 Q (F0 m 0 ls []) by rw [hHe, hlo] at hgo; exact hgo
  clear hHe hlo hfr hav
  have f_0 := hts (.fieldLink RX9 132 "StampDaterModel" "isWrong" "Z") (List.mem_of_getElem? (i := 1) rfl)
  have i_X9 : ∀ w ∈ u_ws RX9 TX9 13, w ∈ wsX9_number := by decide +kernel
  have f_2 := hts (.fieldLink RX9 129 "StampDaterModel" "place" "I") (List.mem_of_getElem? (i := 2) rfl)
  have f_3 := hts (.fieldLink RX9 126 "StampDaterModel" "length" "I") (List.mem_of_getElem? (i := 3) rfl)
  have f_4 := hts (.fieldLink RX9 22 "StampDaterModel" "text" "[I") (List.mem_of_getElem? (i := 4) rfl)
  have hfr : MFr yy μ μ := MFr.rf
  have hl0 := hOC.1
  have hnx := nxt_or (c := χ) (L := ln) hpl.1
  have hcr := hOC.2 pl.toNat
  refine lv_aload_n hx hb dX9_number_0 rfl (lv_at hl 0 rfl) ?_
  refine j_bipush hx hb dX9_number_1 ?_ (by decide)
  refine j_bipush hx hb dX9_number_3 ?_ (by decide)
  refine m_callVi (As := [.int (iv 49), .int (iv 57)]) (rest := []) ⟨hx, hb, hml, hown, hts⟩ hK hH hS (c_X9_sign l G μ n yy σ α β κ χ ω kn ik ln en fr pl wr hY 49 57 hOC (by omega) (by omega) (by omega) (by omega)) (cwV 2 hts gX9_number_X9_sign rfl rfl rfl (by decide +kernel) ⟨(Nat.le_of_ble_eq_true rfl), (Nat.le_of_ble_eq_true rfl)⟩) hY.1 rfl rfl rfl rfl hl.1 (Nat.le_of_ble_eq_true rfl) dX9_number_5 ⟨Nat.zero_le _, Nat.zero_le _⟩ (fun z4 μ1 n2 H locs hz4 hp3 hH hS => ?_)
  obtain ⟨hz4s, ⟨pl5, wr6, hY, hsg⟩, hfr1⟩ := hp3
  have hfr := hfr.tr hfr1
  clear hfr1
  refine j_bipush hx hb dX9_number_8 ?_ (by decide)
  refine j_isub hx hb dX9_number_10 ?_
  refine lv_istore_n (lv' := [(2, .int (iv (z4 - 48))), (0, .ref yy), (1, .int (iv mx))]) hx hb dX9_number_11 rfl hl (by decide) rfl (fun ls hl => ?_)
  have lp12 : ∀ (fuel : Nat) (v : Int) (pl2 : Int) (wr2 : Int) (ν : hM) (ν0 : Nat) (hY : IsMM G ν yy σ α β κ χ ω kn ik ln en fr pl2 wr2) (hfr : MFr yy μ ν) (hc : (wr2 = 0 ∧ (rnum χ ln mx 60 0 pl) = rnum χ ln mx (60 - (pl2 - pl)).toNat v pl2 ∧ (1 ≤ v ∧ v ≤ mx) ∧ pl < pl2 ∧ pl2 ≤ ln) ∨ (wr2 = 1 ∧ pl2 = pl ∧ (rnum χ ln mx 60 0 pl) = (0, pl) ∧ -100000 ≤ v ∧ v ≤ 100000)) (_ : (ln - pl2).toNat < fuel) (H : Heap) (locs : List Loc) (ls : Array Slot) (_ : gP G ν ν0 H) (_ : va_S (gA G) s.heap H locs) (_ : lv_has ls 3 [(0, .ref yy), (1, .int (iv mx)), (2, .int (iv v))]), W p l e rm_c_X9_number s m args below meth c H locs 0 0 Q (F0 m 12 ls []) := by
    intro fuel
    induction fuel with
    | zero => intro _ _ _ _ _ _ _ _ hfuel; exact absurd hfuel (Nat.not_lt_zero _)
    | succ fuel ih =>
      intro v pl2 wr2 ν ν0 hY hfr hc hfuel H locs ls hH hS hl
      have hplr : 0 ≤ pl2 ∧ pl2 ≤ ln ∧ 0 ≤ wr2 ∧ wr2 ≤ 1 ∧ -100000 ≤ v ∧ v ≤ 100000 := by omega
      have hnx2 := nxt_or (c := χ) (L := ln) hplr.1
      have hcr2 := hOC.2 pl2.toNat
      have ih7 := ih; clear ih
      refine lv_aload_n hx hb dX9_number_12 rfl (lv_at hl 0 rfl) ?_
      refine m_get (C := RX9) (T := TX9) (N := 13) (ci := 8) hx hb hts i_X9 hown hK hH hY.1 rfl 12 (by decide) f_0 rfl dX9_number_13 ?_
      refine j_if_ne (tgt := 101) hx hb dX9_number_16 (by decide) (fun c8 => ?_) (fun c8 => ?_) (by omega)
      · skip
        have hfin : (wr2 = 0 ∧ (rnum χ ln mx 60 0 pl) = (v, pl2) ∧ (1 ≤ v ∧ v ≤ mx) ∧ pl2 ≤ ln ∧ pl < pl2) ∨ (wr2 = 1 ∧ pl2 = pl ∧ (rnum χ ln mx 60 0 pl) = (0, pl)) := by
          rcases hc with ⟨e1, e2, e3, e4, e5⟩ | ⟨e1, e2, e3, e4⟩
          · exact Or.inl ⟨e1, by rw [e2]; exact num_end (by omega), e3, e5, e4⟩
          · exact Or.inr ⟨e1, e2, e3⟩
        refine lv_iload_n hx hb dX9_number_101 rfl (lv_at hl 2 rfl) ?_
        subst hQ
        refine m_iret hx hb hr hlocks hH hS dX9_number_102 ?_ (by omega)
        exact ⟨⟨_, _, hY, hfin⟩, hfr⟩
      · skip
        refine lv_aload_n hx hb dX9_number_19 rfl (lv_at hl 0 rfl) ?_
        refine m_get (C := RX9) (T := TX9) (N := 13) (ci := 8) hx hb hts i_X9 hown hK hH hY.1 rfl 11 (by decide) f_2 rfl dX9_number_20 ?_
        refine lv_aload_n hx hb dX9_number_23 rfl (lv_at hl 0 rfl) ?_
        refine m_get (C := RX9) (T := TX9) (N := 13) (ci := 8) hx hb hts i_X9 hown hK hH hY.1 rfl 7 (by decide) f_3 rfl dX9_number_24 ?_
        refine j_icmp_ge (tgt := 101) hx hb dX9_number_27 (by decide) (fun c9 => ?_) (fun c9 => ?_) (by omega) (by omega)
        · skip
          have hfin : (wr2 = 0 ∧ (rnum χ ln mx 60 0 pl) = (v, pl2) ∧ (1 ≤ v ∧ v ≤ mx) ∧ pl2 ≤ ln ∧ pl < pl2) ∨ (wr2 = 1 ∧ pl2 = pl ∧ (rnum χ ln mx 60 0 pl) = (0, pl)) := by
            rcases hc with ⟨e1, e2, e3, e4, e5⟩ | ⟨e1, e2, e3, e4⟩
            · exact Or.inl ⟨e1, by rw [e2]; exact num_end (by omega), e3, e5, e4⟩
            · exact Or.inr ⟨e1, e2, e3⟩
          refine lv_iload_n hx hb dX9_number_101 rfl (lv_at hl 2 rfl) ?_
          subst hQ
          refine m_iret hx hb hr hlocks hH hS dX9_number_102 ?_ (by omega)
          exact ⟨⟨_, _, hY, hfin⟩, hfr⟩
        · skip
          have hn2 : nxt χ ln pl2 = χ pl2.toNat := by omega
          refine lv_aload_n hx hb dX9_number_30 rfl (lv_at hl 0 rfl) ?_
          refine m_get (C := RX9) (T := TX9) (N := 13) (ci := 8) hx hb hts i_X9 hown hK hH hY.1 rfl 6 (by decide) f_4 rfl dX9_number_31 ?_
          refine lv_aload_n hx hb dX9_number_34 rfl (lv_at hl 0 rfl) ?_
          refine m_get (C := RX9) (T := TX9) (N := 13) (ci := 8) hx hb hts i_X9 hown hK hH hY.1 rfl 11 (by decide) f_2 rfl dX9_number_35 ?_
          refine m_iald (nA := 60) (f := χ) hx hb hK hH hY.2.2.2.2.2.1 dX9_number_38 ?_ (by omega) (by omega)
          refine j_norm (y := (χ (pl2).toNat)) rfl ?_
          refine j_bipush hx hb dX9_number_39 ?_ (by decide)
          refine j_bipush hx hb dX9_number_41 ?_ (by decide)
          refine m_callSi (As := [.int (iv (χ (pl2).toNat)), .int (iv 48), .int (iv 57)]) (rest := []) ⟨hx, hb, hml, hown, hts⟩ hK hH hS (c_X9_in l G ν ν0 (χ (pl2).toNat) 48 57 (by omega) (by omega) (by omega)) (va_cwS 3 hts gX9_number_X9_in rfl rfl rfl (by decide +kernel) ⟨(Nat.le_of_ble_eq_true rfl), (Nat.le_of_ble_eq_true rfl)⟩) rfl rfl hl.1 (Nat.le_of_ble_eq_true rfl) dX9_number_43 ⟨Nat.zero_le _, Nat.zero_le _⟩ (fun z13 μ10 n11 H locs hz13 hp12 hH hS => ?_)
          obtain ⟨hz9, hm9, hn9⟩ := hp12
          rw [hm9, hn9] at hH
          have hz13c : (z13 = 1 ∧ (48 ≤ (χ (pl2).toNat) ∧ (χ (pl2).toNat) ≤ 57)) ∨ (z13 = 0 ∧ ¬ (48 ≤ (χ (pl2).toNat) ∧ (χ (pl2).toNat) ≤ 57)) := by
            by_cases q9 : 48 ≤ (χ (pl2).toNat) ∧ (χ (pl2).toNat) ≤ 57
            · rw [if_pos q9] at hz9; exact Or.inl ⟨hz9, q9⟩
            · rw [if_neg q9] at hz9; exact Or.inr ⟨hz9, q9⟩
          clear hz9 hm9 hn9
          refine j_if_eq (tgt := 101) hx hb dX9_number_46 (by decide) (fun c14 => ?_) (fun c14 => ?_) (by omega)
          · skip
            have hfin : (wr2 = 0 ∧ (rnum χ ln mx 60 0 pl) = (v, pl2) ∧ (1 ≤ v ∧ v ≤ mx) ∧ pl2 ≤ ln ∧ pl < pl2) ∨ (wr2 = 1 ∧ pl2 = pl ∧ (rnum χ ln mx 60 0 pl) = (0, pl)) := by
              rcases hc with ⟨e1, e2, e3, e4, e5⟩ | ⟨e1, e2, e3, e4⟩
              · exact Or.inl ⟨e1, by rw [e2]; exact num_end (by omega), e3, e5, e4⟩
              · exact Or.inr ⟨e1, e2, e3⟩
            refine lv_iload_n hx hb dX9_number_101 rfl (lv_at hl 2 rfl) ?_
            subst hQ
            refine m_iret hx hb hr hlocks hH hS dX9_number_102 ?_ (by omega)
            exact ⟨⟨_, _, hY, hfin⟩, hfr⟩
          · skip
            refine j_bipush hx hb dX9_number_49 ?_ (by decide)
            refine lv_iload_n hx hb dX9_number_51 rfl (lv_at hl 2 rfl) ?_
            refine j_imul hx hb dX9_number_52 ?_
            refine lv_aload_n hx hb dX9_number_53 rfl (lv_at hl 0 rfl) ?_
            refine m_get (C := RX9) (T := TX9) (N := 13) (ci := 8) hx hb hts i_X9 hown hK hH hY.1 rfl 6 (by decide) f_4 rfl dX9_number_54 ?_
            refine lv_aload_n hx hb dX9_number_57 rfl (lv_at hl 0 rfl) ?_
            refine m_get (C := RX9) (T := TX9) (N := 13) (ci := 8) hx hb hts i_X9 hown hK hH hY.1 rfl 11 (by decide) f_2 rfl dX9_number_58 ?_
            refine m_iald (nA := 60) (f := χ) hx hb hK hH hY.2.2.2.2.2.1 dX9_number_61 ?_ (by omega) (by omega)
            refine j_norm (y := (χ (pl2).toNat)) rfl ?_
            refine j_iadd hx hb dX9_number_62 ?_
            refine j_bipush hx hb dX9_number_63 ?_ (by decide)
            refine j_isub hx hb dX9_number_65 ?_
            refine lv_iload_n hx hb dX9_number_66 rfl (lv_at hl 1 rfl) ?_
            refine j_icmp_gt (tgt := 101) hx hb dX9_number_67 (by decide) (fun c15 => ?_) (fun c15 => ?_) (by omega) (by omega)
            · skip
              have hfin : (wr2 = 0 ∧ (rnum χ ln mx 60 0 pl) = (v, pl2) ∧ (1 ≤ v ∧ v ≤ mx) ∧ pl2 ≤ ln ∧ pl < pl2) ∨ (wr2 = 1 ∧ pl2 = pl ∧ (rnum χ ln mx 60 0 pl) = (0, pl)) := by
                rcases hc with ⟨e1, e2, e3, e4, e5⟩ | ⟨e1, e2, e3, e4⟩
                · exact Or.inl ⟨e1, by rw [e2]; exact num_end (by omega), e3, e5, e4⟩
                · exact Or.inr ⟨e1, e2, e3⟩
              refine lv_iload_n hx hb dX9_number_101 rfl (lv_at hl 2 rfl) ?_
              subst hQ
              refine m_iret hx hb hr hlocks hH hS dX9_number_102 ?_ (by omega)
              exact ⟨⟨_, _, hY, hfin⟩, hfr⟩
            · skip
              refine j_bipush hx hb dX9_number_70 ?_ (by decide)
              refine lv_iload_n hx hb dX9_number_72 rfl (lv_at hl 2 rfl) ?_
              refine j_imul hx hb dX9_number_73 ?_
              refine lv_aload_n hx hb dX9_number_74 rfl (lv_at hl 0 rfl) ?_
              refine m_get (C := RX9) (T := TX9) (N := 13) (ci := 8) hx hb hts i_X9 hown hK hH hY.1 rfl 6 (by decide) f_4 rfl dX9_number_75 ?_
              refine lv_aload_n hx hb dX9_number_78 rfl (lv_at hl 0 rfl) ?_
              refine m_get (C := RX9) (T := TX9) (N := 13) (ci := 8) hx hb hts i_X9 hown hK hH hY.1 rfl 11 (by decide) f_2 rfl dX9_number_79 ?_
              refine m_iald (nA := 60) (f := χ) hx hb hK hH hY.2.2.2.2.2.1 dX9_number_82 ?_ (by omega) (by omega)
              refine j_norm (y := (χ (pl2).toNat)) rfl ?_
              refine j_iadd hx hb dX9_number_83 ?_
              refine j_bipush hx hb dX9_number_84 ?_ (by decide)
              refine j_isub hx hb dX9_number_86 ?_
              refine lv_istore_n (lv' := [(2, .int (iv (((10 * v) + (χ (pl2).toNat)) - 48))), (0, .ref yy), (1, .int (iv mx))]) hx hb dX9_number_87 rfl hl (by decide) rfl (fun ls hl => ?_)
              refine lv_aload_n hx hb dX9_number_88 rfl (lv_at hl 1 rfl) ?_
              refine lv_dup hx hb dX9_number_89 rfl ?_
              refine m_get (C := RX9) (T := TX9) (N := 13) (ci := 8) hx hb hts i_X9 hown hK hH hY.1 rfl 11 (by decide) f_2 rfl dX9_number_90 ?_
              refine j_const hx hb dX9_number_93 ?_
              refine j_iadd hx hb dX9_number_94 ?_
              refine m_put (C := RX9) (T := TX9) (N := 13) (ci := 8) hx hb hts i_X9 tyX9 tyX9_ok nmX9 hown hK hH hS hY.1 rfl 11 (by decide) f_2 rfl rfl rfl (Nat.le_of_ble_eq_true rfl) dX9_number_95 (fun H locs hH hS => ?_)
              obtain ⟨ν16, hY, hfr, hH⟩ : ∃ ξ : hM, IsMM G ξ yy σ α β κ χ ω kn ik ln en fr (pl2 + 1) wr2 ∧ MFr yy μ ξ ∧ gP G ξ ν0 H := hY.w0 hfr hH
              have hH : gP G ν16 ν0 H := hH
              refine lv_goto (tgt := 12) hx hb dX9_number_98 (by decide) ?_
              exact ih7 (((10 * v) + (χ (pl2).toNat)) - 48) (pl2 + 1) wr2 ν16 ν0 hY hfr (by rcases hc with ⟨e1, e2, e3, e4, e5⟩ | ⟨e1, e2⟩; exact Or.inl ⟨e1, by rw [e2, show (60 - (pl2 - pl)).toNat = (60 - (pl2 + 1 - pl)).toNat + 1 by omega, ← hn2, num_step (by omega) (by omega) (by omega)], by omega, by omega, by omega⟩; omega) (by omega) H locs ls hH hS (lv_sub hl [1, 2, 0] rfl)
  exact lp12 (62) (z4 - 48) pl5 wr6 μ1 n2 hY hfr (by rcases hsg with ⟨e1, e2, e3, e4, e5, e6⟩ | ⟨e1, e2, e3⟩; exact Or.inl ⟨e1, by rw [e2, e6, num_first ⟨e4, e5⟩ hmx.1, show (60 - (pl + 1 - pl)).toNat = 59 by omega], by omega, by omega, by omega⟩; exact Or.inr ⟨e1, e2, num_none (by omega), by omega, by omega⟩) (by omega) H locs ls hH hS (lv_sub hl [1, 2, 0] rfl)

abbrev rm_c_X9_begins1 : Room := { frames := 2, cells := 0, slots := 0, locals := 47 }
set_option maxHeartbeats 4000000 in
set_option maxRecDepth 100000 in
theorem c_X9_begins1 (l : Launch) (G : wG) (μ : hM) (n : Nat) (D : Int) (hD : 0 ≤ D ∧ D ≤ 319999) (hP : 0 ≤ D / 10 ∧ PrfV (D / 10) 1) : Met l yX9_begins wsX9_begins rm_c_X9_begins1 (mPc G μ n [.int (iv D), .int (iv 1)]) (mQi G (fun z μ1 n1 => z = sbg D 1 ∧ μ1 = μ ∧ n1 = n)) 0 0 (gA G) := by
  refine Met.ofW (cc := cX9_begins) (maxL := 6) (ret := (some .boolean)) (by decide) rfl ?_
  intro p e s m args below meth c s₁ B hml hv
  obtain ⟨hav, hK, hH⟩ := hv
  have hx := B.exec
  have hb := B.bytes
  have hr := B.returns
  have hts := atoms_spec (ws := wsX9_begins) B.pre
  have hown : s.vm.findClass RX9 = some m.cls := findClass_of_methodNamed B.named
  have hlocks := B.notSynchronized
  have hS : va_S (gA G) s.heap s.heap [] := va_S.rf
  have hl := lv_entry ([.int (iv D), .int (iv 1)]) (n := 6) (Nat.le_of_ble_eq_true rfl)
  have hfr : entryFrame m args 6 = entryFrame m ([.int (iv D), .int (iv 1)] : List Value).toArray 6 := by rw [hav]
  rw [hfr, lg_entry_eq]
  generalize (lg_sl ([.int (iv D), .int (iv 1)]) ++ List.replicate (6 - (lg_sl ([.int (iv D), .int (iv 1)])).length) Slot.unset).toArray = ls at hl ⊢
  have hl : lv_has ls 6 [(0, .int (iv D)), (1, .int (iv 1))] := hl
  generalize hQ : MQ below _ args s 0 0 (gA G) = Q
  show W p l e rm_c_X9_begins1 s m args below meth c s.heap [] 0 0 Q (F0 m 0 ls [])
  obtain ⟨H, hHe⟩ : ∃ H, H = s.heap := ⟨_, rfl⟩
  obtain ⟨locs, hlo⟩ : ∃ q : List Loc, q = [] := ⟨_, rfl⟩
  have hH : gP G μ n H := by rw [hHe]; exact hH
  have hS : va_S (gA G) s.heap H locs := by rw [hHe, hlo]; exact hS
  suffices hgo : W p l e rm_c_X9_begins1 s m args below meth c H locs 0 0 Q (F0 m 0 ls []) by rw [hHe, hlo] at hgo; exact hgo
  clear hHe hlo hfr hav
  have hp : D / 10 = 0 := hP.2
  refine lv_iload_n hx hb dX9_begins_0 rfl (lv_at hl 0 rfl) ?_
  refine lv_istore_n (lv' := [(2, .int (iv D)), (0, .int (iv D)), (1, .int (iv 1))]) hx hb dX9_begins_1 rfl hl (by decide) rfl (fun ls hl => ?_)
  refine lv_iload_n hx hb dX9_begins_2 rfl (lv_at hl 1 rfl) ?_
  refine j_const hx hb dX9_begins_3 ?_
  refine j_iadd hx hb dX9_begins_4 ?_
  refine lv_istore_n (lv' := [(3, .int (iv (D + 1))), (2, .int (iv D)), (0, .int (iv D)), (1, .int (iv 1))]) hx hb dX9_begins_5 rfl hl (by decide) rfl (fun ls hl => ?_)
  refine lv_iload_n hx hb dX9_begins_6 rfl (lv_at hl 3 rfl) ?_
  refine lv_istore (lv' := [(4, .int (iv 1)), (3, .int (iv (D + 1))), (2, .int (iv D)), (0, .int (iv D)), (1, .int (iv 1))]) hx hb dX9_begins_7 hl (by decide) rfl (fun ls hl => ?_)
  refine lv_iload hx hb dX9_begins_9 (lv_at hl 0 rfl) ?_
  refine j_bipush hx hb dX9_begins_11 ?_ (by decide)
  refine j_icmp_ge (tgt := 32) hx hb dX9_begins_13 (by decide) (fun c1 => absurd c1 (by omega)) (fun c1 => ?_) (by omega) (by omega)
  refine lv_iload_n hx hb dX9_begins_16 rfl (lv_at hl 2 rfl) ?_
  refine j_bipush hx hb dX9_begins_17 ?_ (by decide)
  refine j_imul hx hb dX9_begins_19 ?_
  refine lv_istore_n (lv' := [(2, .int (iv (D * 10))), (4, .int (iv 1)), (3, .int (iv (D + 1))), (0, .int (iv D)), (1, .int (iv 1))]) hx hb dX9_begins_20 rfl hl (by decide) rfl (fun ls hl => ?_)
  refine lv_iload_n hx hb dX9_begins_21 rfl (lv_at hl 2 rfl) ?_
  refine j_bipush hx hb dX9_begins_22 ?_ (by decide)
  refine j_imul hx hb dX9_begins_24 ?_
  refine lv_istore_n (lv' := [(3, .int (iv ((D + 1) * 10))), (2, .int (iv (D * 10))), (4, .int (iv 1)), (0, .int (iv D)), (1, .int (iv 1))]) hx hb dX9_begins_25 rfl hl (by decide) rfl (fun ls hl => ?_)
  refine j_iinc (lv' := [(4, .int (iv 2)), (3, .int (iv ((D + 1) * 10))), (2, .int (iv (D * 10))), (0, .int (iv D)), (1, .int (iv 1))]) hx hb dX9_begins_26 hl (k := 2) rfl (by decide) rfl (fun ls hl => ?_)
  refine lv_goto (tgt := 9) hx hb dX9_begins_29 (by decide) ?_
  refine lv_iload hx hb dX9_begins_9 (lv_at hl 0 rfl) ?_
  refine j_bipush hx hb dX9_begins_11 ?_ (by decide)
  refine j_icmp_ge (tgt := 32) hx hb dX9_begins_13 (by decide) (fun c2 => absurd c2 (by omega)) (fun c2 => ?_) (by omega) (by omega)
  refine lv_iload_n hx hb dX9_begins_16 rfl (lv_at hl 2 rfl) ?_
  refine j_bipush hx hb dX9_begins_17 ?_ (by decide)
  refine j_imul hx hb dX9_begins_19 ?_
  refine lv_istore_n (lv' := [(2, .int (iv ((D * 10) * 10))), (4, .int (iv 2)), (3, .int (iv ((D + 1) * 10))), (0, .int (iv D)), (1, .int (iv 1))]) hx hb dX9_begins_20 rfl hl (by decide) rfl (fun ls hl => ?_)
  refine lv_iload_n hx hb dX9_begins_21 rfl (lv_at hl 2 rfl) ?_
  refine j_bipush hx hb dX9_begins_22 ?_ (by decide)
  refine j_imul hx hb dX9_begins_24 ?_
  refine lv_istore_n (lv' := [(3, .int (iv (((D + 1) * 10) * 10))), (2, .int (iv ((D * 10) * 10))), (4, .int (iv 2)), (0, .int (iv D)), (1, .int (iv 1))]) hx hb dX9_begins_25 rfl hl (by decide) rfl (fun ls hl => ?_)
  refine j_iinc (lv' := [(4, .int (iv 3)), (3, .int (iv (((D + 1) * 10) * 10))), (2, .int (iv ((D * 10) * 10))), (0, .int (iv D)), (1, .int (iv 1))]) hx hb dX9_begins_26 hl (k := 2) rfl (by decide) rfl (fun ls hl => ?_)
  refine lv_goto (tgt := 9) hx hb dX9_begins_29 (by decide) ?_
  refine lv_iload hx hb dX9_begins_9 (lv_at hl 0 rfl) ?_
  refine j_bipush hx hb dX9_begins_11 ?_ (by decide)
  refine j_icmp_ge (tgt := 32) hx hb dX9_begins_13 (by decide) (fun c3 => absurd c3 (by omega)) (fun c3 => ?_) (by omega) (by omega)
  refine lv_iload_n hx hb dX9_begins_16 rfl (lv_at hl 2 rfl) ?_
  refine j_bipush hx hb dX9_begins_17 ?_ (by decide)
  refine j_imul hx hb dX9_begins_19 ?_
  refine lv_istore_n (lv' := [(2, .int (iv (((D * 10) * 10) * 10))), (4, .int (iv 3)), (3, .int (iv (((D + 1) * 10) * 10))), (0, .int (iv D)), (1, .int (iv 1))]) hx hb dX9_begins_20 rfl hl (by decide) rfl (fun ls hl => ?_)
  refine lv_iload_n hx hb dX9_begins_21 rfl (lv_at hl 2 rfl) ?_
  refine j_bipush hx hb dX9_begins_22 ?_ (by decide)
  refine j_imul hx hb dX9_begins_24 ?_
  refine lv_istore_n (lv' := [(3, .int (iv ((((D + 1) * 10) * 10) * 10))), (2, .int (iv (((D * 10) * 10) * 10))), (4, .int (iv 3)), (0, .int (iv D)), (1, .int (iv 1))]) hx hb dX9_begins_25 rfl hl (by decide) rfl (fun ls hl => ?_)
  refine j_iinc (lv' := [(4, .int (iv 4)), (3, .int (iv ((((D + 1) * 10) * 10) * 10))), (2, .int (iv (((D * 10) * 10) * 10))), (0, .int (iv D)), (1, .int (iv 1))]) hx hb dX9_begins_26 hl (k := 2) rfl (by decide) rfl (fun ls hl => ?_)
  refine lv_goto (tgt := 9) hx hb dX9_begins_29 (by decide) ?_
  refine lv_iload hx hb dX9_begins_9 (lv_at hl 0 rfl) ?_
  refine j_bipush hx hb dX9_begins_11 ?_ (by decide)
  refine j_icmp_ge (tgt := 32) hx hb dX9_begins_13 (by decide) (fun c4 => absurd c4 (by omega)) (fun c4 => ?_) (by omega) (by omega)
  refine lv_iload_n hx hb dX9_begins_16 rfl (lv_at hl 2 rfl) ?_
  refine j_bipush hx hb dX9_begins_17 ?_ (by decide)
  refine j_imul hx hb dX9_begins_19 ?_
  refine lv_istore_n (lv' := [(2, .int (iv ((((D * 10) * 10) * 10) * 10))), (4, .int (iv 4)), (3, .int (iv ((((D + 1) * 10) * 10) * 10))), (0, .int (iv D)), (1, .int (iv 1))]) hx hb dX9_begins_20 rfl hl (by decide) rfl (fun ls hl => ?_)
  refine lv_iload_n hx hb dX9_begins_21 rfl (lv_at hl 2 rfl) ?_
  refine j_bipush hx hb dX9_begins_22 ?_ (by decide)
  refine j_imul hx hb dX9_begins_24 ?_
  refine lv_istore_n (lv' := [(3, .int (iv (((((D + 1) * 10) * 10) * 10) * 10))), (2, .int (iv ((((D * 10) * 10) * 10) * 10))), (4, .int (iv 4)), (0, .int (iv D)), (1, .int (iv 1))]) hx hb dX9_begins_25 rfl hl (by decide) rfl (fun ls hl => ?_)
  refine j_iinc (lv' := [(4, .int (iv 5)), (3, .int (iv (((((D + 1) * 10) * 10) * 10) * 10))), (2, .int (iv ((((D * 10) * 10) * 10) * 10))), (0, .int (iv D)), (1, .int (iv 1))]) hx hb dX9_begins_26 hl (k := 2) rfl (by decide) rfl (fun ls hl => ?_)
  refine lv_goto (tgt := 9) hx hb dX9_begins_29 (by decide) ?_
  refine lv_iload hx hb dX9_begins_9 (lv_at hl 0 rfl) ?_
  refine j_bipush hx hb dX9_begins_11 ?_ (by decide)
  refine j_icmp_ge (tgt := 32) hx hb dX9_begins_13 (by decide) (fun c5 => absurd c5 (by omega)) (fun c5 => ?_) (by omega) (by omega)
  refine lv_iload_n hx hb dX9_begins_16 rfl (lv_at hl 2 rfl) ?_
  refine j_bipush hx hb dX9_begins_17 ?_ (by decide)
  refine j_imul hx hb dX9_begins_19 ?_
  refine lv_istore_n (lv' := [(2, .int (iv (((((D * 10) * 10) * 10) * 10) * 10))), (4, .int (iv 5)), (3, .int (iv (((((D + 1) * 10) * 10) * 10) * 10))), (0, .int (iv D)), (1, .int (iv 1))]) hx hb dX9_begins_20 rfl hl (by decide) rfl (fun ls hl => ?_)
  refine lv_iload_n hx hb dX9_begins_21 rfl (lv_at hl 2 rfl) ?_
  refine j_bipush hx hb dX9_begins_22 ?_ (by decide)
  refine j_imul hx hb dX9_begins_24 ?_
  refine lv_istore_n (lv' := [(3, .int (iv ((((((D + 1) * 10) * 10) * 10) * 10) * 10))), (2, .int (iv (((((D * 10) * 10) * 10) * 10) * 10))), (4, .int (iv 5)), (0, .int (iv D)), (1, .int (iv 1))]) hx hb dX9_begins_25 rfl hl (by decide) rfl (fun ls hl => ?_)
  refine j_iinc (lv' := [(4, .int (iv 6)), (3, .int (iv ((((((D + 1) * 10) * 10) * 10) * 10) * 10))), (2, .int (iv (((((D * 10) * 10) * 10) * 10) * 10))), (0, .int (iv D)), (1, .int (iv 1))]) hx hb dX9_begins_26 hl (k := 2) rfl (by decide) rfl (fun ls hl => ?_)
  refine lv_goto (tgt := 9) hx hb dX9_begins_29 (by decide) ?_
  refine lv_iload hx hb dX9_begins_9 (lv_at hl 0 rfl) ?_
  refine j_bipush hx hb dX9_begins_11 ?_ (by decide)
  refine j_icmp_ge (tgt := 32) hx hb dX9_begins_13 (by decide) (fun c6 => ?_) (fun c6 => absurd c6 (by omega)) (by omega) (by omega)
  refine lv_iload_n hx hb dX9_begins_32 rfl (lv_at hl 2 rfl) ?_
  refine lv_istore (lv' := [(4, .int (iv (((((D * 10) * 10) * 10) * 10) * 10))), (3, .int (iv ((((((D + 1) * 10) * 10) * 10) * 10) * 10))), (2, .int (iv (((((D * 10) * 10) * 10) * 10) * 10))), (0, .int (iv D)), (1, .int (iv 1))]) hx hb dX9_begins_33 hl (by decide) rfl (fun ls hl => ?_)
  have lp35 : ∀ (fuel : Nat) (ii : Int) (kk : Int) (ee : Int) (hii : 0 ≤ ii ∧ ii ≤ 10) (hkk : kk = 100000 * D + 10000 * ii) (hee : ee = 100000 * D + 100000) (hinv : ∀ j : Int, 0 ≤ j → j < ii → dday ((10 * D + j) * 10000 + 100) = -5) (_ : (10 - ii).toNat < fuel) (H : Heap) (locs : List Loc) (ls : Array Slot) (_ : gP G μ n H) (_ : va_S (gA G) s.heap H locs) (_ : lv_has ls 6 [(0, .int (iv D)), (1, .int (iv 1)), (3, .int (iv ee)), (4, .int (iv kk))]), W p l e rm_c_X9_begins1 s m args below meth c H locs 0 0 Q (F0 m 35 ls []) := by
    intro fuel
    induction fuel with
    | zero => intro _ _ _ _ _ _ _ hfuel; exact absurd hfuel (Nat.not_lt_zero _)
    | succ fuel ih =>
      intro ii kk ee hii hkk hee hinv hfuel H locs ls hH hS hl
      have ih7 := ih; clear ih
      refine lv_iload hx hb dX9_begins_35 (lv_at hl 3 rfl) ?_
      refine lv_iload_n hx hb dX9_begins_37 rfl (lv_at hl 2 rfl) ?_
      refine j_icmp_ge (tgt := 135) hx hb dX9_begins_38 (by decide) (fun c8 => ?_) (fun c8 => ?_) (by omega) (by omega)
      · skip
        refine j_const hx hb dX9_begins_135 ?_
        subst hQ
        refine m_zret hx hb hr hlocks hH hS dX9_begins_136 ?_ (by omega)
        refine ⟨?_, rfl, rfl⟩
        refine (if_neg (fun h9 => ?_)).symm
        have q1 := hinv (if D = 0 then 1 else 0) (by split <;> omega) (by split <;> omega)
        refine dday_ok ?_ q1
        have e1 : ((10 * D + (if D = 0 then 1 else 0)) * 10000 + 100) / 100 % 100 = 1 := by omega
        have e2 : ((10 * D + (if D = 0 then 1 else 0)) * 10000 + 100) / 10000 = 10 * D + (if D = 0 then 1 else 0) := by omega
        rw [e1, e2]
        have e3 : mlen 1 (((10 * D + (if D = 0 then 1 else 0)) * 10000 + 100) % 100) = 31 := rfl
        rw [e3]
        split <;> omega
      · skip
        refine j_const hx hb dX9_begins_41 ?_
        refine lv_istore (lv' := [(5, .int (iv 1)), (0, .int (iv D)), (1, .int (iv 1)), (3, .int (iv ee)), (4, .int (iv kk))]) hx hb dX9_begins_42 hl (by decide) rfl (fun ls hl => ?_)
        have lp44 : ∀ (fuel : Nat) (mo : Int) (hmo : 1 ≤ mo ∧ mo ≤ 13) (hm1 : 1 < mo → dday ((10 * D + ii) * 10000 + 100) = -5) (_ : (13 - mo).toNat < fuel) (H : Heap) (locs : List Loc) (ls : Array Slot) (_ : gP G μ n H) (_ : va_S (gA G) s.heap H locs) (_ : lv_has ls 6 [(0, .int (iv D)), (1, .int (iv 1)), (3, .int (iv ee)), (4, .int (iv kk)), (5, .int (iv mo))]), W p l e rm_c_X9_begins1 s m args below meth c H locs 0 0 Q (F0 m 44 ls []) := by
          intro fuel
          induction fuel with
          | zero => intro _ _ _ hfuel; exact absurd hfuel (Nat.not_lt_zero _)
          | succ fuel ih =>
            intro mo hmo hm1 hfuel H locs ls hH hS hl
            have ih9 := ih; clear ih
            refine lv_iload hx hb dX9_begins_44 (lv_at hl 4 rfl) ?_
            refine j_bipush hx hb dX9_begins_46 ?_ (by decide)
            refine j_icmp_gt (tgt := 88) hx hb dX9_begins_48 (by decide) (fun c10 => ?_) (fun c10 => ?_) (by omega) (by omega)
            · skip
              refine lv_iload_n hx hb dX9_begins_88 rfl (lv_at hl 1 rfl) ?_
              refine j_const hx hb dX9_begins_89 ?_
              refine j_icmp_lt (tgt := 105) hx hb dX9_begins_90 (by decide) (fun c11 => ?_) (fun c11 => absurd c11 (by omega)) (by omega) (by omega)
              have hd9 : dday ((10 * D + ii) * 10000 + 100) = -5 := hm1 (by omega)
              refine lv_iload hx hb dX9_begins_105 (lv_at hl 3 rfl) ?_
              refine lv_iload_n hx hb dX9_begins_107 rfl (lv_at hl 1 rfl) ?_
              refine j_const hx hb dX9_begins_108 ?_
              refine j_icmp_ne (tgt := 118) hx hb dX9_begins_109 (by decide) (fun c12 => absurd c12 (by omega)) (fun c12 => ?_) (by omega) (by omega)
              refine j_sipush hx hb dX9_begins_112 ?_ (by decide)
              refine lv_goto (tgt := 129) hx hb dX9_begins_115 (by decide) ?_
              refine j_iadd hx hb dX9_begins_129 ?_
              refine lv_istore (lv' := [(4, .int (iv (kk + 10000))), (0, .int (iv D)), (1, .int (iv 1)), (3, .int (iv ee)), (5, .int (iv mo))]) hx hb dX9_begins_130 hl (by decide) rfl (fun ls hl => ?_)
              refine lv_goto (tgt := 35) hx hb dX9_begins_132 (by decide) ?_
              exact ih7 (ii + 1) (kk + 10000) ee (by omega) (by omega) (by omega) (fun j h0 h1 => by by_cases e : j = ii; (first | (subst e; exact hd9) | exact hd9); exact hinv j h0 (by omega)) (by omega) H locs ls hH hS (lv_sub hl [1, 2, 3, 0] rfl)
            · skip
              refine lv_iload_n hx hb dX9_begins_51 rfl (lv_at hl 1 rfl) ?_
              refine j_const hx hb dX9_begins_52 ?_
              refine j_icmp_ge (tgt := 88) hx hb dX9_begins_53 (by decide) (fun c13 => absurd c13 (by omega)) (fun c13 => ?_) (by omega) (by omega)
              refine lv_iload hx hb dX9_begins_56 (lv_at hl 3 rfl) ?_
              refine j_sipush hx hb dX9_begins_58 ?_ (by decide)
              refine j_idiv hx hb dX9_begins_61 ?_ (by omega) (by omega)
              refine j_sipush hx hb dX9_begins_62 ?_ (by decide)
              refine j_imul hx hb dX9_begins_65 ?_
              refine j_bipush hx hb dX9_begins_66 ?_ (by decide)
              refine lv_iload hx hb dX9_begins_68 (lv_at hl 4 rfl) ?_
              refine j_imul hx hb dX9_begins_70 ?_
              refine j_iadd hx hb dX9_begins_71 ?_
              have hdr := dday_rng (D := kk / 10000 * 10000 + 100 * mo) (by omega)
              refine m_callSi (As := [.int (iv (((kk / 10000) * 10000) + (100 * mo)))]) (rest := []) ⟨hx, hb, hml, hown, hts⟩ hK hH hS (c_X9_dayOf l G μ n (((kk / 10000) * 10000) + (100 * mo)) (by omega)) (va_cwS 1 hts gX9_begins_X9_dayOf rfl rfl rfl (by decide +kernel) ⟨(Nat.le_of_ble_eq_true rfl), (Nat.le_of_ble_eq_true rfl)⟩) rfl rfl hl.1 (Nat.le_of_ble_eq_true rfl) dX9_begins_72 ⟨Nat.zero_le _, Nat.zero_le _⟩ (fun z17 μ14 n15 H locs hz17 hp16 hH hS => ?_)
              obtain ⟨hz2, hm2, hn2⟩ := hp16; rw [hz2]; rw [hm2, hn2] at hH; clear hz2 hm2 hn2
              refine j_norm (y := (dday (kk / 10000 * 10000 + 100 * mo))) rfl ?_
              refine j_bipush hx hb dX9_begins_75 ?_ (by decide)
              refine j_icmp_eq (tgt := 82) hx hb dX9_begins_77 (by decide) (fun c18 => ?_) (fun c18 => ?_) (by omega) (by omega)
              · skip
                have hde : dday (kk / 10000 * 10000 + 100 * mo) = -5 := by omega
                refine j_iinc (lv' := [(5, .int (iv (mo + 1))), (0, .int (iv D)), (1, .int (iv 1)), (3, .int (iv ee)), (4, .int (iv kk))]) hx hb dX9_begins_82 hl (k := 4) rfl (by decide) rfl (fun ls hl => ?_)
                refine lv_goto (tgt := 44) hx hb dX9_begins_85 (by decide) ?_
                exact ih9 (mo + 1) (by omega) (fun h9 => by by_cases e : mo = 1; (subst e; rw [show (10 * D + ii) * 10000 + 100 = kk / 10000 * 10000 + 100 * 1 by omega]; exact hde); exact hm1 (by omega)) (by omega) H locs ls hH hS (lv_sub hl [1, 2, 3, 4, 0] rfl)
              · skip
                have hdv := dday_v (x := kk / 10000 * 10000 + 100 * mo) (by omega)
                have hmr := mlen_rng ((kk / 10000 * 10000 + 100 * mo) / 100 % 100) ((kk / 10000 * 10000 + 100 * mo) % 100)
                refine j_const hx hb dX9_begins_80 ?_
                subst hQ
                refine m_zret hx hb hr hlocks hH hS dX9_begins_81 ?_ (by omega)
                refine ⟨?_, rfl, rfl⟩
                exact (if_pos (by omega)).symm
        exact lp44 (14) 1 (by omega) (fun h9 => by omega) (by omega) H locs ls hH hS (lv_sub hl [1, 2, 3, 4, 0] rfl)
  exact lp35 (11) 0 (((((D * 10) * 10) * 10) * 10) * 10) ((((((D + 1) * 10) * 10) * 10) * 10) * 10) (by omega) (by omega) (by omega) (fun j h0 h1 => by omega) (by omega) H locs ls hH hS (lv_sub hl [3, 4, 1, 0] rfl)

abbrev rm_c_X9_begins2 : Room := { frames := 2, cells := 0, slots := 0, locals := 47 }
set_option maxHeartbeats 4000000 in
set_option maxRecDepth 100000 in
theorem c_X9_begins2 (l : Launch) (G : wG) (μ : hM) (n : Nat) (D : Int) (hD : 0 ≤ D ∧ D ≤ 319999) (hP : 0 ≤ D / 10 ∧ PrfV (D / 10) 2) : Met l yX9_begins wsX9_begins rm_c_X9_begins2 (mPc G μ n [.int (iv D), .int (iv 2)]) (mQi G (fun z μ1 n1 => z = sbg D 2 ∧ μ1 = μ ∧ n1 = n)) 0 0 (gA G) := by
  refine Met.ofW (cc := cX9_begins) (maxL := 6) (ret := (some .boolean)) (by decide) rfl ?_
  intro p e s m args below meth c s₁ B hml hv
  obtain ⟨hav, hK, hH⟩ := hv
  have hx := B.exec
  have hb := B.bytes
  have hr := B.returns
  have hts := atoms_spec (ws := wsX9_begins) B.pre
  have hown : s.vm.findClass RX9 = some m.cls := findClass_of_methodNamed B.named
  have hlocks := B.notSynchronized
  have hS : va_S (gA G) s.heap s.heap [] := va_S.rf
  have hl := lv_entry ([.int (iv D), .int (iv 2)]) (n := 6) (Nat.le_of_ble_eq_true rfl)
  have hfr : entryFrame m args 6 = entryFrame m ([.int (iv D), .int (iv 2)] : List Value).toArray 6 := by rw [hav]
  rw [hfr, lg_entry_eq]
  generalize (lg_sl ([.int (iv D), .int (iv 2)]) ++ List.replicate (6 - (lg_sl ([.int (iv D), .int (iv 2)])).length) Slot.unset).toArray = ls at hl ⊢
  have hl : lv_has ls 6 [(0, .int (iv D)), (1, .int (iv 2))] := hl
  generalize hQ : MQ below _ args s 0 0 (gA G) = Q
  show W p l e rm_c_X9_begins2 s m args below meth c s.heap [] 0 0 Q (F0 m 0 ls [])
  obtain ⟨H, hHe⟩ : ∃ H, H = s.heap := ⟨_, rfl⟩
  obtain ⟨locs, hlo⟩ : ∃ q : List Loc, q = [] := ⟨_, rfl⟩
  have hH : gP G μ n H := by rw [hHe]; exact hH
  have hS : va_S (gA G) s.heap H locs := by rw [hHe, hlo]; exact hS
  suffices hgo : W p l e rm_c_X9_begins2 s m args below meth c H locs 0 0 Q (F0 m 0 ls []) by rw [hHe, hlo] at hgo; exact hgo
  clear hHe hlo hfr hav
  have hp : 0 ≤ D / 10 ∧ D / 10 ≤ 3 := hP.2
  refine lv_iload_n hx hb dX9_begins_0 rfl (lv_at hl 0 rfl) ?_
  refine lv_istore_n (lv' := [(2, .int (iv D)), (0, .int (iv D)), (1, .int (iv 2))]) hx hb dX9_begins_1 rfl hl (by decide) rfl (fun ls hl => ?_)
  refine lv_iload_n hx hb dX9_begins_2 rfl (lv_at hl 1 rfl) ?_
  refine j_const hx hb dX9_begins_3 ?_
  refine j_iadd hx hb dX9_begins_4 ?_
  refine lv_istore_n (lv' := [(3, .int (iv (D + 1))), (2, .int (iv D)), (0, .int (iv D)), (1, .int (iv 2))]) hx hb dX9_begins_5 rfl hl (by decide) rfl (fun ls hl => ?_)
  refine lv_iload_n hx hb dX9_begins_6 rfl (lv_at hl 3 rfl) ?_
  refine lv_istore (lv' := [(4, .int (iv 2)), (3, .int (iv (D + 1))), (2, .int (iv D)), (0, .int (iv D)), (1, .int (iv 2))]) hx hb dX9_begins_7 hl (by decide) rfl (fun ls hl => ?_)
  refine lv_iload hx hb dX9_begins_9 (lv_at hl 0 rfl) ?_
  refine j_bipush hx hb dX9_begins_11 ?_ (by decide)
  refine j_icmp_ge (tgt := 32) hx hb dX9_begins_13 (by decide) (fun c1 => absurd c1 (by omega)) (fun c1 => ?_) (by omega) (by omega)
  refine lv_iload_n hx hb dX9_begins_16 rfl (lv_at hl 2 rfl) ?_
  refine j_bipush hx hb dX9_begins_17 ?_ (by decide)
  refine j_imul hx hb dX9_begins_19 ?_
  refine lv_istore_n (lv' := [(2, .int (iv (D * 10))), (4, .int (iv 2)), (3, .int (iv (D + 1))), (0, .int (iv D)), (1, .int (iv 2))]) hx hb dX9_begins_20 rfl hl (by decide) rfl (fun ls hl => ?_)
  refine lv_iload_n hx hb dX9_begins_21 rfl (lv_at hl 2 rfl) ?_
  refine j_bipush hx hb dX9_begins_22 ?_ (by decide)
  refine j_imul hx hb dX9_begins_24 ?_
  refine lv_istore_n (lv' := [(3, .int (iv ((D + 1) * 10))), (2, .int (iv (D * 10))), (4, .int (iv 2)), (0, .int (iv D)), (1, .int (iv 2))]) hx hb dX9_begins_25 rfl hl (by decide) rfl (fun ls hl => ?_)
  refine j_iinc (lv' := [(4, .int (iv 3)), (3, .int (iv ((D + 1) * 10))), (2, .int (iv (D * 10))), (0, .int (iv D)), (1, .int (iv 2))]) hx hb dX9_begins_26 hl (k := 2) rfl (by decide) rfl (fun ls hl => ?_)
  refine lv_goto (tgt := 9) hx hb dX9_begins_29 (by decide) ?_
  refine lv_iload hx hb dX9_begins_9 (lv_at hl 0 rfl) ?_
  refine j_bipush hx hb dX9_begins_11 ?_ (by decide)
  refine j_icmp_ge (tgt := 32) hx hb dX9_begins_13 (by decide) (fun c2 => absurd c2 (by omega)) (fun c2 => ?_) (by omega) (by omega)
  refine lv_iload_n hx hb dX9_begins_16 rfl (lv_at hl 2 rfl) ?_
  refine j_bipush hx hb dX9_begins_17 ?_ (by decide)
  refine j_imul hx hb dX9_begins_19 ?_
  refine lv_istore_n (lv' := [(2, .int (iv ((D * 10) * 10))), (4, .int (iv 3)), (3, .int (iv ((D + 1) * 10))), (0, .int (iv D)), (1, .int (iv 2))]) hx hb dX9_begins_20 rfl hl (by decide) rfl (fun ls hl => ?_)
  refine lv_iload_n hx hb dX9_begins_21 rfl (lv_at hl 2 rfl) ?_
  refine j_bipush hx hb dX9_begins_22 ?_ (by decide)
  refine j_imul hx hb dX9_begins_24 ?_
  refine lv_istore_n (lv' := [(3, .int (iv (((D + 1) * 10) * 10))), (2, .int (iv ((D * 10) * 10))), (4, .int (iv 3)), (0, .int (iv D)), (1, .int (iv 2))]) hx hb dX9_begins_25 rfl hl (by decide) rfl (fun ls hl => ?_)
  refine j_iinc (lv' := [(4, .int (iv 4)), (3, .int (iv (((D + 1) * 10) * 10))), (2, .int (iv ((D * 10) * 10))), (0, .int (iv D)), (1, .int (iv 2))]) hx hb dX9_begins_26 hl (k := 2) rfl (by decide) rfl (fun ls hl => ?_)
  refine lv_goto (tgt := 9) hx hb dX9_begins_29 (by decide) ?_
  refine lv_iload hx hb dX9_begins_9 (lv_at hl 0 rfl) ?_
  refine j_bipush hx hb dX9_begins_11 ?_ (by decide)
  refine j_icmp_ge (tgt := 32) hx hb dX9_begins_13 (by decide) (fun c3 => absurd c3 (by omega)) (fun c3 => ?_) (by omega) (by omega)
  refine lv_iload_n hx hb dX9_begins_16 rfl (lv_at hl 2 rfl) ?_
  refine j_bipush hx hb dX9_begins_17 ?_ (by decide)
  refine j_imul hx hb dX9_begins_19 ?_
  refine lv_istore_n (lv' := [(2, .int (iv (((D * 10) * 10) * 10))), (4, .int (iv 4)), (3, .int (iv (((D + 1) * 10) * 10))), (0, .int (iv D)), (1, .int (iv 2))]) hx hb dX9_begins_20 rfl hl (by decide) rfl (fun ls hl => ?_)
  refine lv_iload_n hx hb dX9_begins_21 rfl (lv_at hl 2 rfl) ?_
  refine j_bipush hx hb dX9_begins_22 ?_ (by decide)
  refine j_imul hx hb dX9_begins_24 ?_
  refine lv_istore_n (lv' := [(3, .int (iv ((((D + 1) * 10) * 10) * 10))), (2, .int (iv (((D * 10) * 10) * 10))), (4, .int (iv 4)), (0, .int (iv D)), (1, .int (iv 2))]) hx hb dX9_begins_25 rfl hl (by decide) rfl (fun ls hl => ?_)
  refine j_iinc (lv' := [(4, .int (iv 5)), (3, .int (iv ((((D + 1) * 10) * 10) * 10))), (2, .int (iv (((D * 10) * 10) * 10))), (0, .int (iv D)), (1, .int (iv 2))]) hx hb dX9_begins_26 hl (k := 2) rfl (by decide) rfl (fun ls hl => ?_)
  refine lv_goto (tgt := 9) hx hb dX9_begins_29 (by decide) ?_
  refine lv_iload hx hb dX9_begins_9 (lv_at hl 0 rfl) ?_
  refine j_bipush hx hb dX9_begins_11 ?_ (by decide)
  refine j_icmp_ge (tgt := 32) hx hb dX9_begins_13 (by decide) (fun c4 => absurd c4 (by omega)) (fun c4 => ?_) (by omega) (by omega)
  refine lv_iload_n hx hb dX9_begins_16 rfl (lv_at hl 2 rfl) ?_
  refine j_bipush hx hb dX9_begins_17 ?_ (by decide)
  refine j_imul hx hb dX9_begins_19 ?_
  refine lv_istore_n (lv' := [(2, .int (iv ((((D * 10) * 10) * 10) * 10))), (4, .int (iv 5)), (3, .int (iv ((((D + 1) * 10) * 10) * 10))), (0, .int (iv D)), (1, .int (iv 2))]) hx hb dX9_begins_20 rfl hl (by decide) rfl (fun ls hl => ?_)
  refine lv_iload_n hx hb dX9_begins_21 rfl (lv_at hl 2 rfl) ?_
  refine j_bipush hx hb dX9_begins_22 ?_ (by decide)
  refine j_imul hx hb dX9_begins_24 ?_
  refine lv_istore_n (lv' := [(3, .int (iv (((((D + 1) * 10) * 10) * 10) * 10))), (2, .int (iv ((((D * 10) * 10) * 10) * 10))), (4, .int (iv 5)), (0, .int (iv D)), (1, .int (iv 2))]) hx hb dX9_begins_25 rfl hl (by decide) rfl (fun ls hl => ?_)
  refine j_iinc (lv' := [(4, .int (iv 6)), (3, .int (iv (((((D + 1) * 10) * 10) * 10) * 10))), (2, .int (iv ((((D * 10) * 10) * 10) * 10))), (0, .int (iv D)), (1, .int (iv 2))]) hx hb dX9_begins_26 hl (k := 2) rfl (by decide) rfl (fun ls hl => ?_)
  refine lv_goto (tgt := 9) hx hb dX9_begins_29 (by decide) ?_
  refine lv_iload hx hb dX9_begins_9 (lv_at hl 0 rfl) ?_
  refine j_bipush hx hb dX9_begins_11 ?_ (by decide)
  refine j_icmp_ge (tgt := 32) hx hb dX9_begins_13 (by decide) (fun c5 => ?_) (fun c5 => absurd c5 (by omega)) (by omega) (by omega)
  refine lv_iload_n hx hb dX9_begins_32 rfl (lv_at hl 2 rfl) ?_
  refine lv_istore (lv' := [(4, .int (iv ((((D * 10) * 10) * 10) * 10))), (3, .int (iv (((((D + 1) * 10) * 10) * 10) * 10))), (2, .int (iv ((((D * 10) * 10) * 10) * 10))), (0, .int (iv D)), (1, .int (iv 2))]) hx hb dX9_begins_33 hl (by decide) rfl (fun ls hl => ?_)
  have lp35 : ∀ (fuel : Nat) (ii : Int) (kk : Int) (ee : Int) (hii : 0 ≤ ii ∧ ii ≤ 100) (hkk : kk = 10000 * D + 100 * ii) (hee : ee = 10000 * D + 10000) (hinv : ∀ j : Int, 0 ≤ j → j < ii → dday (D * 10000 + 100) = -5) (_ : (100 - ii).toNat < fuel) (H : Heap) (locs : List Loc) (ls : Array Slot) (_ : gP G μ n H) (_ : va_S (gA G) s.heap H locs) (_ : lv_has ls 6 [(0, .int (iv D)), (1, .int (iv 2)), (3, .int (iv ee)), (4, .int (iv kk))]), W p l e rm_c_X9_begins2 s m args below meth c H locs 0 0 Q (F0 m 35 ls []) := by
    intro fuel
    induction fuel with
    | zero => intro _ _ _ _ _ _ _ hfuel; exact absurd hfuel (Nat.not_lt_zero _)
    | succ fuel ih =>
      intro ii kk ee hii hkk hee hinv hfuel H locs ls hH hS hl
      have ih6 := ih; clear ih
      refine lv_iload hx hb dX9_begins_35 (lv_at hl 3 rfl) ?_
      refine lv_iload_n hx hb dX9_begins_37 rfl (lv_at hl 2 rfl) ?_
      refine j_icmp_ge (tgt := 135) hx hb dX9_begins_38 (by decide) (fun c7 => ?_) (fun c7 => ?_) (by omega) (by omega)
      · skip
        refine j_const hx hb dX9_begins_135 ?_
        subst hQ
        refine m_zret hx hb hr hlocks hH hS dX9_begins_136 ?_ (by omega)
        refine ⟨?_, rfl, rfl⟩
        refine (if_neg (fun h9 => ?_)).symm
        have q1 := hinv 0 (by omega) (by omega)
        refine dday_ok ?_ q1
        have e1 : (D * 10000 + 100) / 100 % 100 = 1 := by omega
        have e2 : (D * 10000 + 100) / 10000 = D := by omega
        rw [e1, e2]
        have e3 : mlen 1 ((D * 10000 + 100) % 100) = 31 := rfl
        rw [e3]
        omega
      · skip
        refine j_const hx hb dX9_begins_41 ?_
        refine lv_istore (lv' := [(5, .int (iv 1)), (0, .int (iv D)), (1, .int (iv 2)), (3, .int (iv ee)), (4, .int (iv kk))]) hx hb dX9_begins_42 hl (by decide) rfl (fun ls hl => ?_)
        have lp44 : ∀ (fuel : Nat) (mo : Int) (hmo : 1 ≤ mo ∧ mo ≤ 13) (hm1 : 1 < mo → dday (D * 10000 + 100) = -5) (_ : (13 - mo).toNat < fuel) (H : Heap) (locs : List Loc) (ls : Array Slot) (_ : gP G μ n H) (_ : va_S (gA G) s.heap H locs) (_ : lv_has ls 6 [(0, .int (iv D)), (1, .int (iv 2)), (3, .int (iv ee)), (4, .int (iv kk)), (5, .int (iv mo))]), W p l e rm_c_X9_begins2 s m args below meth c H locs 0 0 Q (F0 m 44 ls []) := by
          intro fuel
          induction fuel with
          | zero => intro _ _ _ hfuel; exact absurd hfuel (Nat.not_lt_zero _)
          | succ fuel ih =>
            intro mo hmo hm1 hfuel H locs ls hH hS hl
            have ih8 := ih; clear ih
            refine lv_iload hx hb dX9_begins_44 (lv_at hl 4 rfl) ?_
            refine j_bipush hx hb dX9_begins_46 ?_ (by decide)
            refine j_icmp_gt (tgt := 88) hx hb dX9_begins_48 (by decide) (fun c9 => ?_) (fun c9 => ?_) (by omega) (by omega)
            · skip
              refine lv_iload_n hx hb dX9_begins_88 rfl (lv_at hl 1 rfl) ?_
              refine j_const hx hb dX9_begins_89 ?_
              refine j_icmp_lt (tgt := 105) hx hb dX9_begins_90 (by decide) (fun c10 => ?_) (fun c10 => absurd c10 (by omega)) (by omega) (by omega)
              have hd9 : dday (D * 10000 + 100) = -5 := hm1 (by omega)
              refine lv_iload hx hb dX9_begins_105 (lv_at hl 3 rfl) ?_
              refine lv_iload_n hx hb dX9_begins_107 rfl (lv_at hl 1 rfl) ?_
              refine j_const hx hb dX9_begins_108 ?_
              refine j_icmp_ne (tgt := 118) hx hb dX9_begins_109 (by decide) (fun c11 => ?_) (fun c11 => absurd c11 (by omega)) (by omega) (by omega)
              refine lv_iload_n hx hb dX9_begins_118 rfl (lv_at hl 1 rfl) ?_
              refine j_const hx hb dX9_begins_119 ?_
              refine j_icmp_ge (tgt := 128) hx hb dX9_begins_120 (by decide) (fun c12 => absurd c12 (by omega)) (fun c12 => ?_) (by omega) (by omega)
              refine j_bipush hx hb dX9_begins_123 ?_ (by decide)
              refine lv_goto (tgt := 129) hx hb dX9_begins_125 (by decide) ?_
              refine j_iadd hx hb dX9_begins_129 ?_
              refine lv_istore (lv' := [(4, .int (iv (kk + 100))), (0, .int (iv D)), (1, .int (iv 2)), (3, .int (iv ee)), (5, .int (iv mo))]) hx hb dX9_begins_130 hl (by decide) rfl (fun ls hl => ?_)
              refine lv_goto (tgt := 35) hx hb dX9_begins_132 (by decide) ?_
              exact ih6 (ii + 1) (kk + 100) ee (by omega) (by omega) (by omega) (fun j h0 h1 => by by_cases e : j = ii; (first | (subst e; exact hd9) | exact hd9); exact hinv j h0 (by omega)) (by omega) H locs ls hH hS (lv_sub hl [1, 2, 3, 0] rfl)
            · skip
              refine lv_iload_n hx hb dX9_begins_51 rfl (lv_at hl 1 rfl) ?_
              refine j_const hx hb dX9_begins_52 ?_
              refine j_icmp_ge (tgt := 88) hx hb dX9_begins_53 (by decide) (fun c13 => absurd c13 (by omega)) (fun c13 => ?_) (by omega) (by omega)
              refine lv_iload hx hb dX9_begins_56 (lv_at hl 3 rfl) ?_
              refine j_sipush hx hb dX9_begins_58 ?_ (by decide)
              refine j_idiv hx hb dX9_begins_61 ?_ (by omega) (by omega)
              refine j_sipush hx hb dX9_begins_62 ?_ (by decide)
              refine j_imul hx hb dX9_begins_65 ?_
              refine j_bipush hx hb dX9_begins_66 ?_ (by decide)
              refine lv_iload hx hb dX9_begins_68 (lv_at hl 4 rfl) ?_
              refine j_imul hx hb dX9_begins_70 ?_
              refine j_iadd hx hb dX9_begins_71 ?_
              have hdr := dday_rng (D := kk / 10000 * 10000 + 100 * mo) (by omega)
              refine m_callSi (As := [.int (iv (((kk / 10000) * 10000) + (100 * mo)))]) (rest := []) ⟨hx, hb, hml, hown, hts⟩ hK hH hS (c_X9_dayOf l G μ n (((kk / 10000) * 10000) + (100 * mo)) (by omega)) (va_cwS 1 hts gX9_begins_X9_dayOf rfl rfl rfl (by decide +kernel) ⟨(Nat.le_of_ble_eq_true rfl), (Nat.le_of_ble_eq_true rfl)⟩) rfl rfl hl.1 (Nat.le_of_ble_eq_true rfl) dX9_begins_72 ⟨Nat.zero_le _, Nat.zero_le _⟩ (fun z17 μ14 n15 H locs hz17 hp16 hH hS => ?_)
              obtain ⟨hz2, hm2, hn2⟩ := hp16; rw [hz2]; rw [hm2, hn2] at hH; clear hz2 hm2 hn2
              refine j_norm (y := (dday (kk / 10000 * 10000 + 100 * mo))) rfl ?_
              refine j_bipush hx hb dX9_begins_75 ?_ (by decide)
              refine j_icmp_eq (tgt := 82) hx hb dX9_begins_77 (by decide) (fun c18 => ?_) (fun c18 => ?_) (by omega) (by omega)
              · skip
                have hde : dday (kk / 10000 * 10000 + 100 * mo) = -5 := by omega
                refine j_iinc (lv' := [(5, .int (iv (mo + 1))), (0, .int (iv D)), (1, .int (iv 2)), (3, .int (iv ee)), (4, .int (iv kk))]) hx hb dX9_begins_82 hl (k := 4) rfl (by decide) rfl (fun ls hl => ?_)
                refine lv_goto (tgt := 44) hx hb dX9_begins_85 (by decide) ?_
                exact ih8 (mo + 1) (by omega) (fun h9 => by by_cases e : mo = 1; (subst e; rw [show D * 10000 + 100 = kk / 10000 * 10000 + 100 * 1 by omega]; exact hde); exact hm1 (by omega)) (by omega) H locs ls hH hS (lv_sub hl [1, 2, 3, 4, 0] rfl)
              · skip
                have hdv := dday_v (x := kk / 10000 * 10000 + 100 * mo) (by omega)
                have hmr := mlen_rng ((kk / 10000 * 10000 + 100 * mo) / 100 % 100) ((kk / 10000 * 10000 + 100 * mo) % 100)
                refine j_const hx hb dX9_begins_80 ?_
                subst hQ
                refine m_zret hx hb hr hlocks hH hS dX9_begins_81 ?_ (by omega)
                refine ⟨?_, rfl, rfl⟩
                exact (if_pos (by omega)).symm
        exact lp44 (14) 1 (by omega) (fun h9 => by omega) (by omega) H locs ls hH hS (lv_sub hl [1, 2, 3, 4, 0] rfl)
  exact lp35 (101) 0 ((((D * 10) * 10) * 10) * 10) (((((D + 1) * 10) * 10) * 10) * 10) (by omega) (by omega) (by omega) (fun j h0 h1 => by omega) (by omega) H locs ls hH hS (lv_sub hl [3, 4, 1, 0] rfl)

abbrev rm_c_X9_begins3 : Room := { frames := 2, cells := 0, slots := 0, locals := 47 }
set_option maxHeartbeats 4000000 in
set_option maxRecDepth 100000 in
theorem c_X9_begins3 (l : Launch) (G : wG) (μ : hM) (n : Nat) (D : Int) (hD : 0 ≤ D ∧ D ≤ 319999) (hP : 0 ≤ D / 10 ∧ PrfV (D / 10) 3) : Met l yX9_begins wsX9_begins rm_c_X9_begins3 (mPc G μ n [.int (iv D), .int (iv 3)]) (mQi G (fun z μ1 n1 => z = sbg D 3 ∧ μ1 = μ ∧ n1 = n)) 0 0 (gA G) := by
  refine Met.ofW (cc := cX9_begins) (maxL := 6) (ret := (some .boolean)) (by decide) rfl ?_
  intro p e s m args below meth c s₁ B hml hv
  obtain ⟨hav, hK, hH⟩ := hv
  have hx := B.exec
  have hb := B.bytes
  have hr := B.returns
  have hts := atoms_spec (ws := wsX9_begins) B.pre
  have hown : s.vm.findClass RX9 = some m.cls := findClass_of_methodNamed B.named
  have hlocks := B.notSynchronized
  have hS : va_S (gA G) s.heap s.heap [] := va_S.rf
  have hl := lv_entry ([.int (iv D), .int (iv 3)]) (n := 6) (Nat.le_of_ble_eq_true rfl)
  have hfr : entryFrame m args 6 = entryFrame m ([.int (iv D), .int (iv 3)] : List Value).toArray 6 := by rw [hav]
  rw [hfr, lg_entry_eq]
  generalize (lg_sl ([.int (iv D), .int (iv 3)]) ++ List.replicate (6 - (lg_sl ([.int (iv D), .int (iv 3)])).length) Slot.unset).toArray = ls at hl ⊢
  have hl : lv_has ls 6 [(0, .int (iv D)), (1, .int (iv 3))] := hl
  generalize hQ : MQ below _ args s 0 0 (gA G) = Q
  show W p l e rm_c_X9_begins3 s m args below meth c s.heap [] 0 0 Q (F0 m 0 ls [])
  obtain ⟨H, hHe⟩ : ∃ H, H = s.heap := ⟨_, rfl⟩
  obtain ⟨locs, hlo⟩ : ∃ q : List Loc, q = [] := ⟨_, rfl⟩
  have hH : gP G μ n H := by rw [hHe]; exact hH
  have hS : va_S (gA G) s.heap H locs := by rw [hHe, hlo]; exact hS
  suffices hgo : W p l e rm_c_X9_begins3 s m args below meth c H locs 0 0 Q (F0 m 0 ls []) by rw [hHe, hlo] at hgo; exact hgo
  clear hHe hlo hfr hav
  have hp : 1 ≤ D / 10 ∧ D / 10 ≤ 31 := hP.2
  refine lv_iload_n hx hb dX9_begins_0 rfl (lv_at hl 0 rfl) ?_
  refine lv_istore_n (lv' := [(2, .int (iv D)), (0, .int (iv D)), (1, .int (iv 3))]) hx hb dX9_begins_1 rfl hl (by decide) rfl (fun ls hl => ?_)
  refine lv_iload_n hx hb dX9_begins_2 rfl (lv_at hl 1 rfl) ?_
  refine j_const hx hb dX9_begins_3 ?_
  refine j_iadd hx hb dX9_begins_4 ?_
  refine lv_istore_n (lv' := [(3, .int (iv (D + 1))), (2, .int (iv D)), (0, .int (iv D)), (1, .int (iv 3))]) hx hb dX9_begins_5 rfl hl (by decide) rfl (fun ls hl => ?_)
  refine lv_iload_n hx hb dX9_begins_6 rfl (lv_at hl 3 rfl) ?_
  refine lv_istore (lv' := [(4, .int (iv 3)), (3, .int (iv (D + 1))), (2, .int (iv D)), (0, .int (iv D)), (1, .int (iv 3))]) hx hb dX9_begins_7 hl (by decide) rfl (fun ls hl => ?_)
  refine lv_iload hx hb dX9_begins_9 (lv_at hl 0 rfl) ?_
  refine j_bipush hx hb dX9_begins_11 ?_ (by decide)
  refine j_icmp_ge (tgt := 32) hx hb dX9_begins_13 (by decide) (fun c1 => absurd c1 (by omega)) (fun c1 => ?_) (by omega) (by omega)
  refine lv_iload_n hx hb dX9_begins_16 rfl (lv_at hl 2 rfl) ?_
  refine j_bipush hx hb dX9_begins_17 ?_ (by decide)
  refine j_imul hx hb dX9_begins_19 ?_
  refine lv_istore_n (lv' := [(2, .int (iv (D * 10))), (4, .int (iv 3)), (3, .int (iv (D + 1))), (0, .int (iv D)), (1, .int (iv 3))]) hx hb dX9_begins_20 rfl hl (by decide) rfl (fun ls hl => ?_)
  refine lv_iload_n hx hb dX9_begins_21 rfl (lv_at hl 2 rfl) ?_
  refine j_bipush hx hb dX9_begins_22 ?_ (by decide)
  refine j_imul hx hb dX9_begins_24 ?_
  refine lv_istore_n (lv' := [(3, .int (iv ((D + 1) * 10))), (2, .int (iv (D * 10))), (4, .int (iv 3)), (0, .int (iv D)), (1, .int (iv 3))]) hx hb dX9_begins_25 rfl hl (by decide) rfl (fun ls hl => ?_)
  refine j_iinc (lv' := [(4, .int (iv 4)), (3, .int (iv ((D + 1) * 10))), (2, .int (iv (D * 10))), (0, .int (iv D)), (1, .int (iv 3))]) hx hb dX9_begins_26 hl (k := 2) rfl (by decide) rfl (fun ls hl => ?_)
  refine lv_goto (tgt := 9) hx hb dX9_begins_29 (by decide) ?_
  refine lv_iload hx hb dX9_begins_9 (lv_at hl 0 rfl) ?_
  refine j_bipush hx hb dX9_begins_11 ?_ (by decide)
  refine j_icmp_ge (tgt := 32) hx hb dX9_begins_13 (by decide) (fun c2 => absurd c2 (by omega)) (fun c2 => ?_) (by omega) (by omega)
  refine lv_iload_n hx hb dX9_begins_16 rfl (lv_at hl 2 rfl) ?_
  refine j_bipush hx hb dX9_begins_17 ?_ (by decide)
  refine j_imul hx hb dX9_begins_19 ?_
  refine lv_istore_n (lv' := [(2, .int (iv ((D * 10) * 10))), (4, .int (iv 4)), (3, .int (iv ((D + 1) * 10))), (0, .int (iv D)), (1, .int (iv 3))]) hx hb dX9_begins_20 rfl hl (by decide) rfl (fun ls hl => ?_)
  refine lv_iload_n hx hb dX9_begins_21 rfl (lv_at hl 2 rfl) ?_
  refine j_bipush hx hb dX9_begins_22 ?_ (by decide)
  refine j_imul hx hb dX9_begins_24 ?_
  refine lv_istore_n (lv' := [(3, .int (iv (((D + 1) * 10) * 10))), (2, .int (iv ((D * 10) * 10))), (4, .int (iv 4)), (0, .int (iv D)), (1, .int (iv 3))]) hx hb dX9_begins_25 rfl hl (by decide) rfl (fun ls hl => ?_)
  refine j_iinc (lv' := [(4, .int (iv 5)), (3, .int (iv (((D + 1) * 10) * 10))), (2, .int (iv ((D * 10) * 10))), (0, .int (iv D)), (1, .int (iv 3))]) hx hb dX9_begins_26 hl (k := 2) rfl (by decide) rfl (fun ls hl => ?_)
  refine lv_goto (tgt := 9) hx hb dX9_begins_29 (by decide) ?_
  refine lv_iload hx hb dX9_begins_9 (lv_at hl 0 rfl) ?_
  refine j_bipush hx hb dX9_begins_11 ?_ (by decide)
  refine j_icmp_ge (tgt := 32) hx hb dX9_begins_13 (by decide) (fun c3 => absurd c3 (by omega)) (fun c3 => ?_) (by omega) (by omega)
  refine lv_iload_n hx hb dX9_begins_16 rfl (lv_at hl 2 rfl) ?_
  refine j_bipush hx hb dX9_begins_17 ?_ (by decide)
  refine j_imul hx hb dX9_begins_19 ?_
  refine lv_istore_n (lv' := [(2, .int (iv (((D * 10) * 10) * 10))), (4, .int (iv 5)), (3, .int (iv (((D + 1) * 10) * 10))), (0, .int (iv D)), (1, .int (iv 3))]) hx hb dX9_begins_20 rfl hl (by decide) rfl (fun ls hl => ?_)
  refine lv_iload_n hx hb dX9_begins_21 rfl (lv_at hl 2 rfl) ?_
  refine j_bipush hx hb dX9_begins_22 ?_ (by decide)
  refine j_imul hx hb dX9_begins_24 ?_
  refine lv_istore_n (lv' := [(3, .int (iv ((((D + 1) * 10) * 10) * 10))), (2, .int (iv (((D * 10) * 10) * 10))), (4, .int (iv 5)), (0, .int (iv D)), (1, .int (iv 3))]) hx hb dX9_begins_25 rfl hl (by decide) rfl (fun ls hl => ?_)
  refine j_iinc (lv' := [(4, .int (iv 6)), (3, .int (iv ((((D + 1) * 10) * 10) * 10))), (2, .int (iv (((D * 10) * 10) * 10))), (0, .int (iv D)), (1, .int (iv 3))]) hx hb dX9_begins_26 hl (k := 2) rfl (by decide) rfl (fun ls hl => ?_)
  refine lv_goto (tgt := 9) hx hb dX9_begins_29 (by decide) ?_
  refine lv_iload hx hb dX9_begins_9 (lv_at hl 0 rfl) ?_
  refine j_bipush hx hb dX9_begins_11 ?_ (by decide)
  refine j_icmp_ge (tgt := 32) hx hb dX9_begins_13 (by decide) (fun c4 => ?_) (fun c4 => absurd c4 (by omega)) (by omega) (by omega)
  refine lv_iload_n hx hb dX9_begins_32 rfl (lv_at hl 2 rfl) ?_
  refine lv_istore (lv' := [(4, .int (iv (((D * 10) * 10) * 10))), (3, .int (iv ((((D + 1) * 10) * 10) * 10))), (2, .int (iv (((D * 10) * 10) * 10))), (0, .int (iv D)), (1, .int (iv 3))]) hx hb dX9_begins_33 hl (by decide) rfl (fun ls hl => ?_)
  have lp35 : ∀ (fuel : Nat) (ii : Int) (kk : Int) (ee : Int) (hii : 0 ≤ ii ∧ ii ≤ 10) (hkk : kk = 1000 * D + 100 * ii) (hee : ee = 1000 * D + 1000) (hinv : ∀ j : Int, 0 ≤ j → j < ii → dday (1000 * D + 100 * j) = -5) (_ : (10 - ii).toNat < fuel) (H : Heap) (locs : List Loc) (ls : Array Slot) (_ : gP G μ n H) (_ : va_S (gA G) s.heap H locs) (_ : lv_has ls 6 [(0, .int (iv D)), (1, .int (iv 3)), (3, .int (iv ee)), (4, .int (iv kk))]), W p l e rm_c_X9_begins3 s m args below meth c H locs 0 0 Q (F0 m 35 ls []) := by
    intro fuel
    induction fuel with
    | zero => intro _ _ _ _ _ _ _ hfuel; exact absurd hfuel (Nat.not_lt_zero _)
    | succ fuel ih =>
      intro ii kk ee hii hkk hee hinv hfuel H locs ls hH hS hl
      have ih5 := ih; clear ih
      refine lv_iload hx hb dX9_begins_35 (lv_at hl 3 rfl) ?_
      refine lv_iload_n hx hb dX9_begins_37 rfl (lv_at hl 2 rfl) ?_
      refine j_icmp_ge (tgt := 135) hx hb dX9_begins_38 (by decide) (fun c6 => ?_) (fun c6 => ?_) (by omega) (by omega)
      · skip
        refine j_const hx hb dX9_begins_135 ?_
        subst hQ
        refine m_zret hx hb hr hlocks hH hS dX9_begins_136 ?_ (by omega)
        refine ⟨?_, rfl, rfl⟩
        refine (if_neg (fun h9 => ?_)).symm
        have hd2 : D % 10 = 0 ∨ D % 10 = 1 := by omega
        rcases hd2 with hd2 | hd2
        · have q1 := hinv 1 (by omega) (by omega)
          refine dday_ok ?_ q1
          have e1 : (1000 * D + 100 * 1) / 100 % 100 = 1 := by omega
          have e2 : (1000 * D + 100 * 1) / 10000 = D / 10 := by omega
          rw [e1, e2]
          have e3 : mlen 1 ((1000 * D + 100 * 1) % 100) = 31 := rfl
          rw [e3]
          omega
        · have q1 := hinv 0 (by omega) (by omega)
          refine dday_ok ?_ q1
          have e1 : (1000 * D + 100 * 0) / 100 % 100 = 10 := by omega
          have e2 : (1000 * D + 100 * 0) / 10000 = D / 10 := by omega
          rw [e1, e2]
          have e3 : mlen 10 ((1000 * D + 100 * 0) % 100) = 31 := rfl
          rw [e3]
          omega
      · skip
        refine j_const hx hb dX9_begins_41 ?_
        refine lv_istore (lv' := [(5, .int (iv 1)), (0, .int (iv D)), (1, .int (iv 3)), (3, .int (iv ee)), (4, .int (iv kk))]) hx hb dX9_begins_42 hl (by decide) rfl (fun ls hl => ?_)
        refine lv_iload hx hb dX9_begins_44 (lv_at hl 0 rfl) ?_
        refine j_bipush hx hb dX9_begins_46 ?_ (by decide)
        refine j_icmp_gt (tgt := 88) hx hb dX9_begins_48 (by decide) (fun c7 => absurd c7 (by omega)) (fun c7 => ?_) (by omega) (by omega)
        refine lv_iload_n hx hb dX9_begins_51 rfl (lv_at hl 2 rfl) ?_
        refine j_const hx hb dX9_begins_52 ?_
        refine j_icmp_ge (tgt := 88) hx hb dX9_begins_53 (by decide) (fun c8 => ?_) (fun c8 => absurd c8 (by omega)) (by omega) (by omega)
        refine lv_iload_n hx hb dX9_begins_88 rfl (lv_at hl 2 rfl) ?_
        refine j_const hx hb dX9_begins_89 ?_
        refine j_icmp_lt (tgt := 105) hx hb dX9_begins_90 (by decide) (fun c9 => absurd c9 (by omega)) (fun c9 => ?_) (by omega) (by omega)
        refine lv_iload hx hb dX9_begins_93 (lv_at hl 4 rfl) ?_
        have hdr := dday_rng (D := kk) (by omega)
        refine m_callSi (As := [.int (iv kk)]) (rest := []) ⟨hx, hb, hml, hown, hts⟩ hK hH hS (c_X9_dayOf l G μ n kk (by omega)) (va_cwS 1 hts gX9_begins_X9_dayOf rfl rfl rfl (by decide +kernel) ⟨(Nat.le_of_ble_eq_true rfl), (Nat.le_of_ble_eq_true rfl)⟩) rfl rfl hl.1 (Nat.le_of_ble_eq_true rfl) dX9_begins_95 ⟨Nat.zero_le _, Nat.zero_le _⟩ (fun z13 μ10 n11 H locs hz13 hp12 hH hS => ?_)
        obtain ⟨hz2, hm2, hn2⟩ := hp12; rw [hz2]; rw [hm2, hn2] at hH; clear hz2 hm2 hn2
        refine j_bipush hx hb dX9_begins_98 ?_ (by decide)
        refine j_icmp_eq (tgt := 105) hx hb dX9_begins_100 (by decide) (fun c14 => ?_) (fun c14 => ?_) (by omega) (by omega)
        · skip
          have hd9 : dday (1000 * D + 100 * ii) = -5 := by rw [show 1000 * D + 100 * ii = kk by omega]; omega
          refine lv_iload hx hb dX9_begins_105 (lv_at hl 4 rfl) ?_
          refine lv_iload_n hx hb dX9_begins_107 rfl (lv_at hl 2 rfl) ?_
          refine j_const hx hb dX9_begins_108 ?_
          refine j_icmp_ne (tgt := 118) hx hb dX9_begins_109 (by decide) (fun c15 => ?_) (fun c15 => absurd c15 (by omega)) (by omega) (by omega)
          refine lv_iload_n hx hb dX9_begins_118 rfl (lv_at hl 2 rfl) ?_
          refine j_const hx hb dX9_begins_119 ?_
          refine j_icmp_ge (tgt := 128) hx hb dX9_begins_120 (by decide) (fun c16 => absurd c16 (by omega)) (fun c16 => ?_) (by omega) (by omega)
          refine j_bipush hx hb dX9_begins_123 ?_ (by decide)
          refine lv_goto (tgt := 129) hx hb dX9_begins_125 (by decide) ?_
          refine j_iadd hx hb dX9_begins_129 ?_
          refine lv_istore (lv' := [(4, .int (iv (kk + 100))), (5, .int (iv 1)), (0, .int (iv D)), (1, .int (iv 3)), (3, .int (iv ee))]) hx hb dX9_begins_130 hl (by decide) rfl (fun ls hl => ?_)
          refine lv_goto (tgt := 35) hx hb dX9_begins_132 (by decide) ?_
          exact ih5 (ii + 1) (kk + 100) ee (by omega) (by omega) (by omega) (fun j h0 h1 => by by_cases e : j = ii; (first | (subst e; exact hd9) | exact hd9); exact hinv j h0 (by omega)) (by omega) H locs ls hH hS (lv_sub hl [2, 3, 4, 0] rfl)
        · skip
          have hdv := dday_v (x := kk) (by omega)
          have hmr := mlen_rng (kk / 100 % 100) (kk % 100)
          refine j_const hx hb dX9_begins_103 ?_
          subst hQ
          refine m_zret hx hb hr hlocks hH hS dX9_begins_104 ?_ (by omega)
          refine ⟨?_, rfl, rfl⟩
          exact (if_pos (by omega)).symm
  exact lp35 (11) 0 (((D * 10) * 10) * 10) ((((D + 1) * 10) * 10) * 10) (by omega) (by omega) (by omega) (fun j h0 h1 => by omega) (by omega) H locs ls hH hS (lv_sub hl [3, 4, 1, 0] rfl)

abbrev rm_c_X9_begins4 : Room := { frames := 2, cells := 0, slots := 0, locals := 47 }
set_option maxHeartbeats 4000000 in
set_option maxRecDepth 100000 in
theorem c_X9_begins4 (l : Launch) (G : wG) (μ : hM) (n : Nat) (D : Int) (hD : 0 ≤ D ∧ D ≤ 319999) (hP : 0 ≤ D / 10 ∧ PrfV (D / 10) 4) : Met l yX9_begins wsX9_begins rm_c_X9_begins4 (mPc G μ n [.int (iv D), .int (iv 4)]) (mQi G (fun z μ1 n1 => z = sbg D 4 ∧ μ1 = μ ∧ n1 = n)) 0 0 (gA G) := by
  refine Met.ofW (cc := cX9_begins) (maxL := 6) (ret := (some .boolean)) (by decide) rfl ?_
  intro p e s m args below meth c s₁ B hml hv
  obtain ⟨hav, hK, hH⟩ := hv
  have hx := B.exec
  have hb := B.bytes
  have hr := B.returns
  have hts := atoms_spec (ws := wsX9_begins) B.pre
  have hown : s.vm.findClass RX9 = some m.cls := findClass_of_methodNamed B.named
  have hlocks := B.notSynchronized
  have hS : va_S (gA G) s.heap s.heap [] := va_S.rf
  have hl := lv_entry ([.int (iv D), .int (iv 4)]) (n := 6) (Nat.le_of_ble_eq_true rfl)
  have hfr : entryFrame m args 6 = entryFrame m ([.int (iv D), .int (iv 4)] : List Value).toArray 6 := by rw [hav]
  rw [hfr, lg_entry_eq]
  generalize (lg_sl ([.int (iv D), .int (iv 4)]) ++ List.replicate (6 - (lg_sl ([.int (iv D), .int (iv 4)])).length) Slot.unset).toArray = ls at hl ⊢
  have hl : lv_has ls 6 [(0, .int (iv D)), (1, .int (iv 4))] := hl
  generalize hQ : MQ below _ args s 0 0 (gA G) = Q
  show W p l e rm_c_X9_begins4 s m args below meth c s.heap [] 0 0 Q (F0 m 0 ls [])
  obtain ⟨H, hHe⟩ : ∃ H, H = s.heap := ⟨_, rfl⟩
  obtain ⟨locs, hlo⟩ : ∃ q : List Loc, q = [] := ⟨_, rfl⟩
  have hH : gP G μ n H := by rw [hHe]; exact hH
  have hS : va_S (gA G) s.heap H locs := by rw [hHe, hlo]; exact hS
  suffices hgo : W p l e rm_c_X9_begins4 s m args below meth c H locs 0 0 Q (F0 m 0 ls []) by rw [hHe, hlo] at hgo; exact hgo
  clear hHe hlo hfr hav
  have hp : (1 ≤ D / 10 / 10 ∧ D / 10 / 10 ≤ 31) ∧ D / 10 % 10 ≤ 1 := hP.2
  refine lv_iload_n hx hb dX9_begins_0 rfl (lv_at hl 0 rfl) ?_
  refine lv_istore_n (lv' := [(2, .int (iv D)), (0, .int (iv D)), (1, .int (iv 4))]) hx hb dX9_begins_1 rfl hl (by decide) rfl (fun ls hl => ?_)
  refine lv_iload_n hx hb dX9_begins_2 rfl (lv_at hl 1 rfl) ?_
  refine j_const hx hb dX9_begins_3 ?_
  refine j_iadd hx hb dX9_begins_4 ?_
  refine lv_istore_n (lv' := [(3, .int (iv (D + 1))), (2, .int (iv D)), (0, .int (iv D)), (1, .int (iv 4))]) hx hb dX9_begins_5 rfl hl (by decide) rfl (fun ls hl => ?_)
  refine lv_iload_n hx hb dX9_begins_6 rfl (lv_at hl 3 rfl) ?_
  refine lv_istore (lv' := [(4, .int (iv 4)), (3, .int (iv (D + 1))), (2, .int (iv D)), (0, .int (iv D)), (1, .int (iv 4))]) hx hb dX9_begins_7 hl (by decide) rfl (fun ls hl => ?_)
  refine lv_iload hx hb dX9_begins_9 (lv_at hl 0 rfl) ?_
  refine j_bipush hx hb dX9_begins_11 ?_ (by decide)
  refine j_icmp_ge (tgt := 32) hx hb dX9_begins_13 (by decide) (fun c1 => absurd c1 (by omega)) (fun c1 => ?_) (by omega) (by omega)
  refine lv_iload_n hx hb dX9_begins_16 rfl (lv_at hl 2 rfl) ?_
  refine j_bipush hx hb dX9_begins_17 ?_ (by decide)
  refine j_imul hx hb dX9_begins_19 ?_
  refine lv_istore_n (lv' := [(2, .int (iv (D * 10))), (4, .int (iv 4)), (3, .int (iv (D + 1))), (0, .int (iv D)), (1, .int (iv 4))]) hx hb dX9_begins_20 rfl hl (by decide) rfl (fun ls hl => ?_)
  refine lv_iload_n hx hb dX9_begins_21 rfl (lv_at hl 2 rfl) ?_
  refine j_bipush hx hb dX9_begins_22 ?_ (by decide)
  refine j_imul hx hb dX9_begins_24 ?_
  refine lv_istore_n (lv' := [(3, .int (iv ((D + 1) * 10))), (2, .int (iv (D * 10))), (4, .int (iv 4)), (0, .int (iv D)), (1, .int (iv 4))]) hx hb dX9_begins_25 rfl hl (by decide) rfl (fun ls hl => ?_)
  refine j_iinc (lv' := [(4, .int (iv 5)), (3, .int (iv ((D + 1) * 10))), (2, .int (iv (D * 10))), (0, .int (iv D)), (1, .int (iv 4))]) hx hb dX9_begins_26 hl (k := 2) rfl (by decide) rfl (fun ls hl => ?_)
  refine lv_goto (tgt := 9) hx hb dX9_begins_29 (by decide) ?_
  refine lv_iload hx hb dX9_begins_9 (lv_at hl 0 rfl) ?_
  refine j_bipush hx hb dX9_begins_11 ?_ (by decide)
  refine j_icmp_ge (tgt := 32) hx hb dX9_begins_13 (by decide) (fun c2 => absurd c2 (by omega)) (fun c2 => ?_) (by omega) (by omega)
  refine lv_iload_n hx hb dX9_begins_16 rfl (lv_at hl 2 rfl) ?_
  refine j_bipush hx hb dX9_begins_17 ?_ (by decide)
  refine j_imul hx hb dX9_begins_19 ?_
  refine lv_istore_n (lv' := [(2, .int (iv ((D * 10) * 10))), (4, .int (iv 5)), (3, .int (iv ((D + 1) * 10))), (0, .int (iv D)), (1, .int (iv 4))]) hx hb dX9_begins_20 rfl hl (by decide) rfl (fun ls hl => ?_)
  refine lv_iload_n hx hb dX9_begins_21 rfl (lv_at hl 2 rfl) ?_
  refine j_bipush hx hb dX9_begins_22 ?_ (by decide)
  refine j_imul hx hb dX9_begins_24 ?_
  refine lv_istore_n (lv' := [(3, .int (iv (((D + 1) * 10) * 10))), (2, .int (iv ((D * 10) * 10))), (4, .int (iv 5)), (0, .int (iv D)), (1, .int (iv 4))]) hx hb dX9_begins_25 rfl hl (by decide) rfl (fun ls hl => ?_)
  refine j_iinc (lv' := [(4, .int (iv 6)), (3, .int (iv (((D + 1) * 10) * 10))), (2, .int (iv ((D * 10) * 10))), (0, .int (iv D)), (1, .int (iv 4))]) hx hb dX9_begins_26 hl (k := 2) rfl (by decide) rfl (fun ls hl => ?_)
  refine lv_goto (tgt := 9) hx hb dX9_begins_29 (by decide) ?_
  refine lv_iload hx hb dX9_begins_9 (lv_at hl 0 rfl) ?_
  refine j_bipush hx hb dX9_begins_11 ?_ (by decide)
  refine j_icmp_ge (tgt := 32) hx hb dX9_begins_13 (by decide) (fun c3 => ?_) (fun c3 => absurd c3 (by omega)) (by omega) (by omega)
  refine lv_iload_n hx hb dX9_begins_32 rfl (lv_at hl 2 rfl) ?_
  refine lv_istore (lv' := [(4, .int (iv ((D * 10) * 10))), (3, .int (iv (((D + 1) * 10) * 10))), (2, .int (iv ((D * 10) * 10))), (0, .int (iv D)), (1, .int (iv 4))]) hx hb dX9_begins_33 hl (by decide) rfl (fun ls hl => ?_)
  have lp35 : ∀ (fuel : Nat) (ii : Int) (kk : Int) (ee : Int) (hii : 0 ≤ ii ∧ ii ≤ 100) (hkk : kk = 100 * D + 1 * ii) (hee : ee = 100 * D + 100) (hinv : ∀ j : Int, 0 ≤ j → j < ii → dday (100 * D + j) = -5) (_ : (100 - ii).toNat < fuel) (H : Heap) (locs : List Loc) (ls : Array Slot) (_ : gP G μ n H) (_ : va_S (gA G) s.heap H locs) (_ : lv_has ls 6 [(0, .int (iv D)), (1, .int (iv 4)), (3, .int (iv ee)), (4, .int (iv kk))]), W p l e rm_c_X9_begins4 s m args below meth c H locs 0 0 Q (F0 m 35 ls []) := by
    intro fuel
    induction fuel with
    | zero => intro _ _ _ _ _ _ _ hfuel; exact absurd hfuel (Nat.not_lt_zero _)
    | succ fuel ih =>
      intro ii kk ee hii hkk hee hinv hfuel H locs ls hH hS hl
      have ih4 := ih; clear ih
      refine lv_iload hx hb dX9_begins_35 (lv_at hl 3 rfl) ?_
      refine lv_iload_n hx hb dX9_begins_37 rfl (lv_at hl 2 rfl) ?_
      refine j_icmp_ge (tgt := 135) hx hb dX9_begins_38 (by decide) (fun c5 => ?_) (fun c5 => ?_) (by omega) (by omega)
      · skip
        refine j_const hx hb dX9_begins_135 ?_
        subst hQ
        refine m_zret hx hb hr hlocks hH hS dX9_begins_136 ?_ (by omega)
        refine ⟨?_, rfl, rfl⟩
        refine (if_neg (fun h9 => ?_)).symm
        have hm : 1 ≤ D % 100 ∧ D % 100 ≤ 12 := by
          refine Decidable.byContradiction (fun hn => ?_)
          have q2 : lgst (D % 100) = 0 := if_neg hn
          omega
        have q1 := hinv 0 (by omega) (by omega)
        refine dday_ok ?_ q1
        have e1 : (100 * D + 0) / 100 % 100 = D % 100 := by omega
        have e2 : (100 * D + 0) / 10000 = D / 100 := by omega
        have e4 : (100 * D + 0) % 100 = 0 := by omega
        rw [e1, e2, e4]
        have e3 : mlen (D % 100) 0 = lgst (D % 100) := by rw [lgst_m hm]; unfold mlen; rw [if_pos (show (0 : Int) % 4 = 0 from rfl)]
        rw [e3]
        omega
      · skip
        refine j_const hx hb dX9_begins_41 ?_
        refine lv_istore (lv' := [(5, .int (iv 1)), (0, .int (iv D)), (1, .int (iv 4)), (3, .int (iv ee)), (4, .int (iv kk))]) hx hb dX9_begins_42 hl (by decide) rfl (fun ls hl => ?_)
        refine lv_iload hx hb dX9_begins_44 (lv_at hl 0 rfl) ?_
        refine j_bipush hx hb dX9_begins_46 ?_ (by decide)
        refine j_icmp_gt (tgt := 88) hx hb dX9_begins_48 (by decide) (fun c6 => absurd c6 (by omega)) (fun c6 => ?_) (by omega) (by omega)
        refine lv_iload_n hx hb dX9_begins_51 rfl (lv_at hl 2 rfl) ?_
        refine j_const hx hb dX9_begins_52 ?_
        refine j_icmp_ge (tgt := 88) hx hb dX9_begins_53 (by decide) (fun c7 => ?_) (fun c7 => absurd c7 (by omega)) (by omega) (by omega)
        refine lv_iload_n hx hb dX9_begins_88 rfl (lv_at hl 2 rfl) ?_
        refine j_const hx hb dX9_begins_89 ?_
        refine j_icmp_lt (tgt := 105) hx hb dX9_begins_90 (by decide) (fun c8 => absurd c8 (by omega)) (fun c8 => ?_) (by omega) (by omega)
        refine lv_iload hx hb dX9_begins_93 (lv_at hl 4 rfl) ?_
        have hdr := dday_rng (D := kk) (by omega)
        refine m_callSi (As := [.int (iv kk)]) (rest := []) ⟨hx, hb, hml, hown, hts⟩ hK hH hS (c_X9_dayOf l G μ n kk (by omega)) (va_cwS 1 hts gX9_begins_X9_dayOf rfl rfl rfl (by decide +kernel) ⟨(Nat.le_of_ble_eq_true rfl), (Nat.le_of_ble_eq_true rfl)⟩) rfl rfl hl.1 (Nat.le_of_ble_eq_true rfl) dX9_begins_95 ⟨Nat.zero_le _, Nat.zero_le _⟩ (fun z12 μ9 n10 H locs hz12 hp11 hH hS => ?_)
        obtain ⟨hz2, hm2, hn2⟩ := hp11; rw [hz2]; rw [hm2, hn2] at hH; clear hz2 hm2 hn2
        refine j_bipush hx hb dX9_begins_98 ?_ (by decide)
        refine j_icmp_eq (tgt := 105) hx hb dX9_begins_100 (by decide) (fun c13 => ?_) (fun c13 => ?_) (by omega) (by omega)
        · skip
          have hd9 : dday (100 * D + ii) = -5 := by rw [show 100 * D + ii = kk by omega]; omega
          refine lv_iload hx hb dX9_begins_105 (lv_at hl 4 rfl) ?_
          refine lv_iload_n hx hb dX9_begins_107 rfl (lv_at hl 2 rfl) ?_
          refine j_const hx hb dX9_begins_108 ?_
          refine j_icmp_ne (tgt := 118) hx hb dX9_begins_109 (by decide) (fun c14 => ?_) (fun c14 => absurd c14 (by omega)) (by omega) (by omega)
          refine lv_iload_n hx hb dX9_begins_118 rfl (lv_at hl 2 rfl) ?_
          refine j_const hx hb dX9_begins_119 ?_
          refine j_icmp_ge (tgt := 128) hx hb dX9_begins_120 (by decide) (fun c15 => ?_) (fun c15 => absurd c15 (by omega)) (by omega) (by omega)
          refine j_const hx hb dX9_begins_128 ?_
          refine j_iadd hx hb dX9_begins_129 ?_
          refine lv_istore (lv' := [(4, .int (iv (kk + 1))), (5, .int (iv 1)), (0, .int (iv D)), (1, .int (iv 4)), (3, .int (iv ee))]) hx hb dX9_begins_130 hl (by decide) rfl (fun ls hl => ?_)
          refine lv_goto (tgt := 35) hx hb dX9_begins_132 (by decide) ?_
          exact ih4 (ii + 1) (kk + 1) ee (by omega) (by omega) (by omega) (fun j h0 h1 => by by_cases e : j = ii; (first | (subst e; exact hd9) | exact hd9); exact hinv j h0 (by omega)) (by omega) H locs ls hH hS (lv_sub hl [2, 3, 4, 0] rfl)
        · skip
          have hdv := dday_v (x := kk) (by omega)
          have hmr := mlen_rng (kk / 100 % 100) (kk % 100)
          refine j_const hx hb dX9_begins_103 ?_
          subst hQ
          refine m_zret hx hb hr hlocks hH hS dX9_begins_104 ?_ (by omega)
          refine ⟨?_, rfl, rfl⟩
          have e1 : kk / 100 % 100 = D % 100 := by omega
          have hcl := clen_m hdv.1 (kk % 100)
          have hc2 : clen (kk / 100 % 100) (kk % 100) ≤ lgst (kk / 100 % 100) := by rw [hcl, lgst_m hdv.1]; unfold mlen; (repeat' split) <;> omega
          rw [e1] at hc2 hcl
          have hv2 := hdv.2
          rw [e1] at hv2
          exact (if_pos (by omega)).symm
  exact lp35 (101) 0 ((D * 10) * 10) (((D + 1) * 10) * 10) (by omega) (by omega) (by omega) (fun j h0 h1 => by omega) (by omega) H locs ls hH hS (lv_sub hl [3, 4, 1, 0] rfl)

abbrev rm_c_X9_begins5 : Room := { frames := 2, cells := 0, slots := 0, locals := 47 }
set_option maxHeartbeats 4000000 in
set_option maxRecDepth 100000 in
theorem c_X9_begins5 (l : Launch) (G : wG) (μ : hM) (n : Nat) (D : Int) (hD : 0 ≤ D ∧ D ≤ 319999) (hP : 0 ≤ D / 10 ∧ PrfV (D / 10) 5) : Met l yX9_begins wsX9_begins rm_c_X9_begins5 (mPc G μ n [.int (iv D), .int (iv 5)]) (mQi G (fun z μ1 n1 => z = sbg D 5 ∧ μ1 = μ ∧ n1 = n)) 0 0 (gA G) := by
  refine Met.ofW (cc := cX9_begins) (maxL := 6) (ret := (some .boolean)) (by decide) rfl ?_
  intro p e s m args below meth c s₁ B hml hv
  obtain ⟨hav, hK, hH⟩ := hv
  have hx := B.exec
  have hb := B.bytes
  have hr := B.returns
  have hts := atoms_spec (ws := wsX9_begins) B.pre
  have hown : s.vm.findClass RX9 = some m.cls := findClass_of_methodNamed B.named
  have hlocks := B.notSynchronized
  have hS : va_S (gA G) s.heap s.heap [] := va_S.rf
  have hl := lv_entry ([.int (iv D), .int (iv 5)]) (n := 6) (Nat.le_of_ble_eq_true rfl)
  have hfr : entryFrame m args 6 = entryFrame m ([.int (iv D), .int (iv 5)] : List Value).toArray 6 := by rw [hav]
  rw [hfr, lg_entry_eq]
  generalize (lg_sl ([.int (iv D), .int (iv 5)]) ++ List.replicate (6 - (lg_sl ([.int (iv D), .int (iv 5)])).length) Slot.unset).toArray = ls at hl ⊢
  have hl : lv_has ls 6 [(0, .int (iv D)), (1, .int (iv 5))] := hl
  generalize hQ : MQ below _ args s 0 0 (gA G) = Q
  show W p l e rm_c_X9_begins5 s m args below meth c s.heap [] 0 0 Q (F0 m 0 ls [])
  obtain ⟨H, hHe⟩ : ∃ H, H = s.heap := ⟨_, rfl⟩
  obtain ⟨locs, hlo⟩ : ∃ q : List Loc, q = [] := ⟨_, rfl⟩
  have hH : gP G μ n H := by rw [hHe]; exact hH
  have hS : va_S (gA G) s.heap H locs := by rw [hHe, hlo]; exact hS
  suffices hgo : W p l e rm_c_X9_begins5 s m args below meth c H locs 0 0 Q (F0 m 0 ls []) by rw [hHe, hlo] at hgo; exact hgo
  clear hHe hlo hfr hav
  have hp : 1 ≤ D / 10 / 100 ∧ D / 10 / 100 ≤ lgst (D / 10 % 100) := hP.2
  have hlg := lgst_rng (D / 10 % 100)
  refine lv_iload_n hx hb dX9_begins_0 rfl (lv_at hl 0 rfl) ?_
  refine lv_istore_n (lv' := [(2, .int (iv D)), (0, .int (iv D)), (1, .int (iv 5))]) hx hb dX9_begins_1 rfl hl (by decide) rfl (fun ls hl => ?_)
  refine lv_iload_n hx hb dX9_begins_2 rfl (lv_at hl 1 rfl) ?_
  refine j_const hx hb dX9_begins_3 ?_
  refine j_iadd hx hb dX9_begins_4 ?_
  refine lv_istore_n (lv' := [(3, .int (iv (D + 1))), (2, .int (iv D)), (0, .int (iv D)), (1, .int (iv 5))]) hx hb dX9_begins_5 rfl hl (by decide) rfl (fun ls hl => ?_)
  refine lv_iload_n hx hb dX9_begins_6 rfl (lv_at hl 3 rfl) ?_
  refine lv_istore (lv' := [(4, .int (iv 5)), (3, .int (iv (D + 1))), (2, .int (iv D)), (0, .int (iv D)), (1, .int (iv 5))]) hx hb dX9_begins_7 hl (by decide) rfl (fun ls hl => ?_)
  refine lv_iload hx hb dX9_begins_9 (lv_at hl 0 rfl) ?_
  refine j_bipush hx hb dX9_begins_11 ?_ (by decide)
  refine j_icmp_ge (tgt := 32) hx hb dX9_begins_13 (by decide) (fun c1 => absurd c1 (by omega)) (fun c1 => ?_) (by omega) (by omega)
  refine lv_iload_n hx hb dX9_begins_16 rfl (lv_at hl 2 rfl) ?_
  refine j_bipush hx hb dX9_begins_17 ?_ (by decide)
  refine j_imul hx hb dX9_begins_19 ?_
  refine lv_istore_n (lv' := [(2, .int (iv (D * 10))), (4, .int (iv 5)), (3, .int (iv (D + 1))), (0, .int (iv D)), (1, .int (iv 5))]) hx hb dX9_begins_20 rfl hl (by decide) rfl (fun ls hl => ?_)
  refine lv_iload_n hx hb dX9_begins_21 rfl (lv_at hl 2 rfl) ?_
  refine j_bipush hx hb dX9_begins_22 ?_ (by decide)
  refine j_imul hx hb dX9_begins_24 ?_
  refine lv_istore_n (lv' := [(3, .int (iv ((D + 1) * 10))), (2, .int (iv (D * 10))), (4, .int (iv 5)), (0, .int (iv D)), (1, .int (iv 5))]) hx hb dX9_begins_25 rfl hl (by decide) rfl (fun ls hl => ?_)
  refine j_iinc (lv' := [(4, .int (iv 6)), (3, .int (iv ((D + 1) * 10))), (2, .int (iv (D * 10))), (0, .int (iv D)), (1, .int (iv 5))]) hx hb dX9_begins_26 hl (k := 2) rfl (by decide) rfl (fun ls hl => ?_)
  refine lv_goto (tgt := 9) hx hb dX9_begins_29 (by decide) ?_
  refine lv_iload hx hb dX9_begins_9 (lv_at hl 0 rfl) ?_
  refine j_bipush hx hb dX9_begins_11 ?_ (by decide)
  refine j_icmp_ge (tgt := 32) hx hb dX9_begins_13 (by decide) (fun c2 => ?_) (fun c2 => absurd c2 (by omega)) (by omega) (by omega)
  refine lv_iload_n hx hb dX9_begins_32 rfl (lv_at hl 2 rfl) ?_
  refine lv_istore (lv' := [(4, .int (iv (D * 10))), (3, .int (iv ((D + 1) * 10))), (2, .int (iv (D * 10))), (0, .int (iv D)), (1, .int (iv 5))]) hx hb dX9_begins_33 hl (by decide) rfl (fun ls hl => ?_)
  have lp35 : ∀ (fuel : Nat) (ii : Int) (kk : Int) (ee : Int) (hii : 0 ≤ ii ∧ ii ≤ 10) (hkk : kk = 10 * D + 1 * ii) (hee : ee = 10 * D + 10) (hinv : ∀ j : Int, 0 ≤ j → j < ii → dday (10 * D + j) = -5) (_ : (10 - ii).toNat < fuel) (H : Heap) (locs : List Loc) (ls : Array Slot) (_ : gP G μ n H) (_ : va_S (gA G) s.heap H locs) (_ : lv_has ls 6 [(0, .int (iv D)), (1, .int (iv 5)), (3, .int (iv ee)), (4, .int (iv kk))]), W p l e rm_c_X9_begins5 s m args below meth c H locs 0 0 Q (F0 m 35 ls []) := by
    intro fuel
    induction fuel with
    | zero => intro _ _ _ _ _ _ _ hfuel; exact absurd hfuel (Nat.not_lt_zero _)
    | succ fuel ih =>
      intro ii kk ee hii hkk hee hinv hfuel H locs ls hH hS hl
      have ih3 := ih; clear ih
      refine lv_iload hx hb dX9_begins_35 (lv_at hl 3 rfl) ?_
      refine lv_iload_n hx hb dX9_begins_37 rfl (lv_at hl 2 rfl) ?_
      refine j_icmp_ge (tgt := 135) hx hb dX9_begins_38 (by decide) (fun c4 => ?_) (fun c4 => ?_) (by omega) (by omega)
      · skip
        refine j_const hx hb dX9_begins_135 ?_
        subst hQ
        refine m_zret hx hb hr hlocks hH hS dX9_begins_136 ?_ (by omega)
        refine ⟨?_, rfl, rfl⟩
        exfalso
        have hm : 1 ≤ D / 10 % 100 ∧ D / 10 % 100 ≤ 12 := by
          refine Decidable.byContradiction (fun hn => ?_)
          have q2 : lgst (D / 10 % 100) = 0 := if_neg hn
          omega
        have hj : ∃ j : Int, (0 ≤ j ∧ j < 10) ∧ (10 * D + j) % 100 % 4 = 0 := ⟨(4 - (10 * D) % 4) % 4, by omega, by omega⟩
        obtain ⟨j, hj1, hj2⟩ := hj
        have q1 := hinv j hj1.1 (by omega)
        refine dday_ok ?_ q1
        have e0 : (10 * D + j) / 100 = D / 10 := by clear hj2 q1; omega
        have e1 : (10 * D + j) / 100 % 100 = D / 10 % 100 := by rw [e0]
        have e2 : (10 * D + j) / 10000 = D / 10 / 100 := by clear hj2 q1; omega
        rw [e1, e2]
        have e3 : mlen (D / 10 % 100) ((10 * D + j) % 100) = lgst (D / 10 % 100) := by rw [lgst_m hm]; unfold mlen; rw [if_pos hj2]
        rw [e3]
        omega
      · skip
        refine j_const hx hb dX9_begins_41 ?_
        refine lv_istore (lv' := [(5, .int (iv 1)), (0, .int (iv D)), (1, .int (iv 5)), (3, .int (iv ee)), (4, .int (iv kk))]) hx hb dX9_begins_42 hl (by decide) rfl (fun ls hl => ?_)
        refine lv_iload hx hb dX9_begins_44 (lv_at hl 0 rfl) ?_
        refine j_bipush hx hb dX9_begins_46 ?_ (by decide)
        refine j_icmp_gt (tgt := 88) hx hb dX9_begins_48 (by decide) (fun c5 => absurd c5 (by omega)) (fun c5 => ?_) (by omega) (by omega)
        refine lv_iload_n hx hb dX9_begins_51 rfl (lv_at hl 2 rfl) ?_
        refine j_const hx hb dX9_begins_52 ?_
        refine j_icmp_ge (tgt := 88) hx hb dX9_begins_53 (by decide) (fun c6 => ?_) (fun c6 => absurd c6 (by omega)) (by omega) (by omega)
        refine lv_iload_n hx hb dX9_begins_88 rfl (lv_at hl 2 rfl) ?_
        refine j_const hx hb dX9_begins_89 ?_
        refine j_icmp_lt (tgt := 105) hx hb dX9_begins_90 (by decide) (fun c7 => absurd c7 (by omega)) (fun c7 => ?_) (by omega) (by omega)
        refine lv_iload hx hb dX9_begins_93 (lv_at hl 4 rfl) ?_
        have hdr := dday_rng (D := kk) (by omega)
        refine m_callSi (As := [.int (iv kk)]) (rest := []) ⟨hx, hb, hml, hown, hts⟩ hK hH hS (c_X9_dayOf l G μ n kk (by omega)) (va_cwS 1 hts gX9_begins_X9_dayOf rfl rfl rfl (by decide +kernel) ⟨(Nat.le_of_ble_eq_true rfl), (Nat.le_of_ble_eq_true rfl)⟩) rfl rfl hl.1 (Nat.le_of_ble_eq_true rfl) dX9_begins_95 ⟨Nat.zero_le _, Nat.zero_le _⟩ (fun z11 μ8 n9 H locs hz11 hp10 hH hS => ?_)
        obtain ⟨hz2, hm2, hn2⟩ := hp10; rw [hz2]; rw [hm2, hn2] at hH; clear hz2 hm2 hn2
        refine j_bipush hx hb dX9_begins_98 ?_ (by decide)
        refine j_icmp_eq (tgt := 105) hx hb dX9_begins_100 (by decide) (fun c12 => ?_) (fun c12 => ?_) (by omega) (by omega)
        · skip
          have hd9 : dday (10 * D + ii) = -5 := by rw [show 10 * D + ii = kk by omega]; omega
          refine lv_iload hx hb dX9_begins_105 (lv_at hl 4 rfl) ?_
          refine lv_iload_n hx hb dX9_begins_107 rfl (lv_at hl 2 rfl) ?_
          refine j_const hx hb dX9_begins_108 ?_
          refine j_icmp_ne (tgt := 118) hx hb dX9_begins_109 (by decide) (fun c13 => ?_) (fun c13 => absurd c13 (by omega)) (by omega) (by omega)
          refine lv_iload_n hx hb dX9_begins_118 rfl (lv_at hl 2 rfl) ?_
          refine j_const hx hb dX9_begins_119 ?_
          refine j_icmp_ge (tgt := 128) hx hb dX9_begins_120 (by decide) (fun c14 => ?_) (fun c14 => absurd c14 (by omega)) (by omega) (by omega)
          refine j_const hx hb dX9_begins_128 ?_
          refine j_iadd hx hb dX9_begins_129 ?_
          refine lv_istore (lv' := [(4, .int (iv (kk + 1))), (5, .int (iv 1)), (0, .int (iv D)), (1, .int (iv 5)), (3, .int (iv ee))]) hx hb dX9_begins_130 hl (by decide) rfl (fun ls hl => ?_)
          refine lv_goto (tgt := 35) hx hb dX9_begins_132 (by decide) ?_
          exact ih3 (ii + 1) (kk + 1) ee (by omega) (by omega) (by omega) (fun j h0 h1 => by by_cases e : j = ii; (first | (subst e; exact hd9) | exact hd9); exact hinv j h0 (by omega)) (by omega) H locs ls hH hS (lv_sub hl [2, 3, 4, 0] rfl)
        · skip
          have hdv := dday_v (x := kk) (by omega)
          have hmr := mlen_rng (kk / 100 % 100) (kk % 100)
          refine j_const hx hb dX9_begins_103 ?_
          subst hQ
          refine m_zret hx hb hr hlocks hH hS dX9_begins_104 ?_ (by omega)
          refine ⟨?_, rfl, rfl⟩
          rfl
  exact lp35 (11) 0 (D * 10) ((D + 1) * 10) (by omega) (by omega) (by omega) (fun j h0 h1 => by omega) (by omega) H locs ls hH hS (lv_sub hl [3, 4, 1, 0] rfl)

abbrev rm_c_X9_begins6 : Room := { frames := 2, cells := 0, slots := 0, locals := 47 }
set_option maxHeartbeats 4000000 in
set_option maxRecDepth 100000 in
theorem c_X9_begins6 (l : Launch) (G : wG) (μ : hM) (n : Nat) (D : Int) (hD : 0 ≤ D ∧ D ≤ 319999) (hP : 0 ≤ D / 10 ∧ PrfV (D / 10) 6) : Met l yX9_begins wsX9_begins rm_c_X9_begins6 (mPc G μ n [.int (iv D), .int (iv 6)]) (mQi G (fun z μ1 n1 => z = sbg D 6 ∧ μ1 = μ ∧ n1 = n)) 0 0 (gA G) := by
  refine Met.ofW (cc := cX9_begins) (maxL := 6) (ret := (some .boolean)) (by decide) rfl ?_
  intro p e s m args below meth c s₁ B hml hv
  obtain ⟨hav, hK, hH⟩ := hv
  have hx := B.exec
  have hb := B.bytes
  have hr := B.returns
  have hts := atoms_spec (ws := wsX9_begins) B.pre
  have hown : s.vm.findClass RX9 = some m.cls := findClass_of_methodNamed B.named
  have hlocks := B.notSynchronized
  have hS : va_S (gA G) s.heap s.heap [] := va_S.rf
  have hl := lv_entry ([.int (iv D), .int (iv 6)]) (n := 6) (Nat.le_of_ble_eq_true rfl)
  have hfr : entryFrame m args 6 = entryFrame m ([.int (iv D), .int (iv 6)] : List Value).toArray 6 := by rw [hav]
  rw [hfr, lg_entry_eq]
  generalize (lg_sl ([.int (iv D), .int (iv 6)]) ++ List.replicate (6 - (lg_sl ([.int (iv D), .int (iv 6)])).length) Slot.unset).toArray = ls at hl ⊢
  have hl : lv_has ls 6 [(0, .int (iv D)), (1, .int (iv 6))] := hl
  generalize hQ : MQ below _ args s 0 0 (gA G) = Q
  show W p l e rm_c_X9_begins6 s m args below meth c s.heap [] 0 0 Q (F0 m 0 ls [])
  obtain ⟨H, hHe⟩ : ∃ H, H = s.heap := ⟨_, rfl⟩
  obtain ⟨locs, hlo⟩ : ∃ q : List Loc, q = [] := ⟨_, rfl⟩
  have hH : gP G μ n H := by rw [hHe]; exact hH
  have hS : va_S (gA G) s.heap H locs := by rw [hHe, hlo]; exact hS
  suffices hgo : W p l e rm_c_X9_begins6 s m args below meth c H locs 0 0 Q (F0 m 0 ls []) by rw [hHe, hlo] at hgo; exact hgo
  clear hHe hlo hfr hav
  have hp : 1 ≤ D / 10 / 1000 ∧ D / 10 / 1000 ≤ lgst (D / 10 / 10 % 100) := hP.2
  have hlg := lgst_rng (D / 10 / 10 % 100)
  refine lv_iload_n hx hb dX9_begins_0 rfl (lv_at hl 0 rfl) ?_
  refine lv_istore_n (lv' := [(2, .int (iv D)), (0, .int (iv D)), (1, .int (iv 6))]) hx hb dX9_begins_1 rfl hl (by decide) rfl (fun ls hl => ?_)
  refine lv_iload_n hx hb dX9_begins_2 rfl (lv_at hl 1 rfl) ?_
  refine j_const hx hb dX9_begins_3 ?_
  refine j_iadd hx hb dX9_begins_4 ?_
  refine lv_istore_n (lv' := [(3, .int (iv (D + 1))), (2, .int (iv D)), (0, .int (iv D)), (1, .int (iv 6))]) hx hb dX9_begins_5 rfl hl (by decide) rfl (fun ls hl => ?_)
  refine lv_iload_n hx hb dX9_begins_6 rfl (lv_at hl 3 rfl) ?_
  refine lv_istore (lv' := [(4, .int (iv 6)), (3, .int (iv (D + 1))), (2, .int (iv D)), (0, .int (iv D)), (1, .int (iv 6))]) hx hb dX9_begins_7 hl (by decide) rfl (fun ls hl => ?_)
  refine lv_iload hx hb dX9_begins_9 (lv_at hl 0 rfl) ?_
  refine j_bipush hx hb dX9_begins_11 ?_ (by decide)
  refine j_icmp_ge (tgt := 32) hx hb dX9_begins_13 (by decide) (fun c1 => ?_) (fun c1 => absurd c1 (by omega)) (by omega) (by omega)
  refine lv_iload_n hx hb dX9_begins_32 rfl (lv_at hl 2 rfl) ?_
  refine lv_istore (lv' := [(4, .int (iv D)), (3, .int (iv (D + 1))), (2, .int (iv D)), (0, .int (iv D)), (1, .int (iv 6))]) hx hb dX9_begins_33 hl (by decide) rfl (fun ls hl => ?_)
  have lp35 : ∀ (fuel : Nat) (ii : Int) (kk : Int) (ee : Int) (hii : 0 ≤ ii ∧ ii ≤ 1) (hkk : kk = 1 * D + 1 * ii) (hee : ee = 1 * D + 1) (hinv : ∀ j : Int, 0 ≤ j → j < ii → dday (D + j) = -5) (_ : (1 - ii).toNat < fuel) (H : Heap) (locs : List Loc) (ls : Array Slot) (_ : gP G μ n H) (_ : va_S (gA G) s.heap H locs) (_ : lv_has ls 6 [(0, .int (iv D)), (1, .int (iv 6)), (3, .int (iv ee)), (4, .int (iv kk))]), W p l e rm_c_X9_begins6 s m args below meth c H locs 0 0 Q (F0 m 35 ls []) := by
    intro fuel
    induction fuel with
    | zero => intro _ _ _ _ _ _ _ hfuel; exact absurd hfuel (Nat.not_lt_zero _)
    | succ fuel ih =>
      intro ii kk ee hii hkk hee hinv hfuel H locs ls hH hS hl
      have ih2 := ih; clear ih
      refine lv_iload hx hb dX9_begins_35 (lv_at hl 3 rfl) ?_
      refine lv_iload_n hx hb dX9_begins_37 rfl (lv_at hl 2 rfl) ?_
      refine j_icmp_ge (tgt := 135) hx hb dX9_begins_38 (by decide) (fun c3 => ?_) (fun c3 => ?_) (by omega) (by omega)
      · skip
        refine j_const hx hb dX9_begins_135 ?_
        subst hQ
        refine m_zret hx hb hr hlocks hH hS dX9_begins_136 ?_ (by omega)
        refine ⟨?_, rfl, rfl⟩
        refine (if_neg (fun h9 => ?_)).symm
        have hm : 1 ≤ D / 100 % 100 ∧ D / 100 % 100 ≤ 12 := by
          refine Decidable.byContradiction (fun hn => ?_)
          have q2 := clen_0 (m := D / 100 % 100) (by omega) (D % 100)
          omega
        have q1 := hinv 0 (by omega) (by omega)
        rw [Int.add_zero] at q1
        rw [clen_m hm] at h9
        exact dday_ok ⟨hm, by omega⟩ q1
      · skip
        refine j_const hx hb dX9_begins_41 ?_
        refine lv_istore (lv' := [(5, .int (iv 1)), (0, .int (iv D)), (1, .int (iv 6)), (3, .int (iv ee)), (4, .int (iv kk))]) hx hb dX9_begins_42 hl (by decide) rfl (fun ls hl => ?_)
        refine lv_iload hx hb dX9_begins_44 (lv_at hl 0 rfl) ?_
        refine j_bipush hx hb dX9_begins_46 ?_ (by decide)
        refine j_icmp_gt (tgt := 88) hx hb dX9_begins_48 (by decide) (fun c4 => absurd c4 (by omega)) (fun c4 => ?_) (by omega) (by omega)
        refine lv_iload_n hx hb dX9_begins_51 rfl (lv_at hl 2 rfl) ?_
        refine j_const hx hb dX9_begins_52 ?_
        refine j_icmp_ge (tgt := 88) hx hb dX9_begins_53 (by decide) (fun c5 => ?_) (fun c5 => absurd c5 (by omega)) (by omega) (by omega)
        refine lv_iload_n hx hb dX9_begins_88 rfl (lv_at hl 2 rfl) ?_
        refine j_const hx hb dX9_begins_89 ?_
        refine j_icmp_lt (tgt := 105) hx hb dX9_begins_90 (by decide) (fun c6 => absurd c6 (by omega)) (fun c6 => ?_) (by omega) (by omega)
        refine lv_iload hx hb dX9_begins_93 (lv_at hl 4 rfl) ?_
        have hdr := dday_rng (D := kk) (by omega)
        refine m_callSi (As := [.int (iv kk)]) (rest := []) ⟨hx, hb, hml, hown, hts⟩ hK hH hS (c_X9_dayOf l G μ n kk (by omega)) (va_cwS 1 hts gX9_begins_X9_dayOf rfl rfl rfl (by decide +kernel) ⟨(Nat.le_of_ble_eq_true rfl), (Nat.le_of_ble_eq_true rfl)⟩) rfl rfl hl.1 (Nat.le_of_ble_eq_true rfl) dX9_begins_95 ⟨Nat.zero_le _, Nat.zero_le _⟩ (fun z10 μ7 n8 H locs hz10 hp9 hH hS => ?_)
        obtain ⟨hz2, hm2, hn2⟩ := hp9; rw [hz2]; rw [hm2, hn2] at hH; clear hz2 hm2 hn2
        refine j_bipush hx hb dX9_begins_98 ?_ (by decide)
        refine j_icmp_eq (tgt := 105) hx hb dX9_begins_100 (by decide) (fun c11 => ?_) (fun c11 => ?_) (by omega) (by omega)
        · skip
          have hd9 : dday (D + ii) = -5 := by rw [show D + ii = kk by omega]; omega
          refine lv_iload hx hb dX9_begins_105 (lv_at hl 4 rfl) ?_
          refine lv_iload_n hx hb dX9_begins_107 rfl (lv_at hl 2 rfl) ?_
          refine j_const hx hb dX9_begins_108 ?_
          refine j_icmp_ne (tgt := 118) hx hb dX9_begins_109 (by decide) (fun c12 => ?_) (fun c12 => absurd c12 (by omega)) (by omega) (by omega)
          refine lv_iload_n hx hb dX9_begins_118 rfl (lv_at hl 2 rfl) ?_
          refine j_const hx hb dX9_begins_119 ?_
          refine j_icmp_ge (tgt := 128) hx hb dX9_begins_120 (by decide) (fun c13 => ?_) (fun c13 => absurd c13 (by omega)) (by omega) (by omega)
          refine j_const hx hb dX9_begins_128 ?_
          refine j_iadd hx hb dX9_begins_129 ?_
          refine lv_istore (lv' := [(4, .int (iv (kk + 1))), (5, .int (iv 1)), (0, .int (iv D)), (1, .int (iv 6)), (3, .int (iv ee))]) hx hb dX9_begins_130 hl (by decide) rfl (fun ls hl => ?_)
          refine lv_goto (tgt := 35) hx hb dX9_begins_132 (by decide) ?_
          exact ih2 (ii + 1) (kk + 1) ee (by omega) (by omega) (by omega) (fun j h0 h1 => by by_cases e : j = ii; (first | (subst e; exact hd9) | exact hd9); exact hinv j h0 (by omega)) (by omega) H locs ls hH hS (lv_sub hl [2, 3, 4, 0] rfl)
        · skip
          have hdv := dday_v (x := kk) (by omega)
          have hmr := mlen_rng (kk / 100 % 100) (kk % 100)
          refine j_const hx hb dX9_begins_103 ?_
          subst hQ
          refine m_zret hx hb hr hlocks hH hS dX9_begins_104 ?_ (by omega)
          refine ⟨?_, rfl, rfl⟩
          have e0 : kk = D := by omega
          subst e0
          have hcl := clen_m hdv.1 (kk % 100)
          exact (if_pos (by omega)).symm
  exact lp35 (2) 0 D (D + 1) (by omega) (by omega) (by omega) (fun j h0 h1 => by omega) (by omega) H locs ls hH hS (lv_sub hl [3, 4, 1, 0] rfl)

theorem c_X9_begins (l : Launch) (G : wG) (μ : hM) (n : Nat) (D k : Int) (hk : 1 ≤ k ∧ k ≤ 6) (hD : 0 ≤ D ∧ D ≤ 319999) (hP : 0 ≤ D / 10 ∧ PrfV (D / 10) k) : Met l yX9_begins wsX9_begins rm_c_X9_begins1 (mPc G μ n [.int (iv D), .int (iv k)]) (mQi G (fun z μ1 n1 => z = sbg D k ∧ μ1 = μ ∧ n1 = n)) 0 0 (gA G) := by
  have hc : k = 1 ∨ k = 2 ∨ k = 3 ∨ k = 4 ∨ k = 5 ∨ k = 6 := by omega
  rcases hc with rfl | rfl | rfl | rfl | rfl | rfl
  · exact c_X9_begins1 l G μ n D hD hP
  · exact c_X9_begins2 l G μ n D hD hP
  · exact c_X9_begins3 l G μ n D hD hP
  · exact c_X9_begins4 l G μ n D hD hP
  · exact c_X9_begins5 l G μ n D hD hP
  · exact c_X9_begins6 l G μ n D hD hP
