abbrev rm_c_L_isAdjustSo : Room := { frames := 6, cells := 0, slots := 0, locals := 134 }
set_option maxHeartbeats 4000000 in
set_option maxRecDepth 100000 in
theorem c_L_isAdjustSo (l : Launch) (G : wG) (μ : hM) (n : Nat) (x rb : Nat) (u0 : aS) (b0 : Int) (k : Int) (hD : IsD G μ x rb u0) (hU : UI u0 b0) (hb0 : 0 ≤ b0 ∧ b0 ≤ 500000000) (hk : 0 ≤ k ∧ k ≤ 36524) : Met l yL_isAdjustSo wsL_isAdjustSo rm_c_L_isAdjustSo (mPc G μ n [.ref x, .int (iv k)]) (mQi G (fun z μ1 n1 => z = 1 ∧ ∃ u1 : aS, IsD G μ1 x rb u1 ∧ UI u1 (b0 + 1000))) 0 0 (gA G) := by
  refine Met.ofW (cc := cL_isAdjustSo) (maxL := 8) (ret := (some .boolean)) (by decide) rfl ?_
  intro p e s m args below meth c s₁ B hml hv
  obtain ⟨hav, hK, hH⟩ := hv
  have hx := B.exec
  have hb := B.bytes
  have hr := B.returns
  have hts := atoms_spec (ws := wsL_isAdjustSo) B.pre
  have hown : s.vm.findClass RL = some m.cls := findClass_of_methodNamed B.named
  have hlocks := B.notSynchronized
  have hS : va_S (gA G) s.heap s.heap [] := va_S.rf
  have hl := lv_entry ([.ref x, .int (iv k)]) (n := 8) (Nat.le_of_ble_eq_true rfl)
  have hfr : entryFrame m args 8 = entryFrame m ([.ref x, .int (iv k)] : List Value).toArray 8 := by rw [hav]
  rw [hfr, lg_entry_eq]
  generalize (lg_sl ([.ref x, .int (iv k)]) ++ List.replicate (8 - (lg_sl ([.ref x, .int (iv k)])).length) Slot.unset).toArray = ls at hl ⊢
  have hl : lv_has ls 8 [(0, .ref x), (1, .int (iv k))] := hl
  generalize hQ : MQ below _ args s 0 0 (gA G) = Q
  show W p l e rm_c_L_isAdjustSo s m args below meth c s.heap [] 0 0 Q (F0 m 0 ls [])
  obtain ⟨H, hHe⟩ : ∃ H, H = s.heap := ⟨_, rfl⟩
  obtain ⟨locs, hlo⟩ : ∃ q : List Loc, q = [] := ⟨_, rfl⟩
  have hH : gP G μ n H := by rw [hHe]; exact hH
  have hS : va_S (gA G) s.heap H locs := by rw [hHe, hlo]; exact hS
  suffices hgo : W p l e rm_c_L_isAdjustSo s m args below meth c H locs 0 0 Q (F0 m 0 ls []) by rw [hHe, hlo] at hgo; exact hgo
  clear hHe hlo hfr hav
  have hO := hD.okD
  obtain ⟨D, hDg⟩ : ∃ q : Int, q = dig k := ⟨_, rfl⟩
  have hDr := dig_rng hk
  rw [← hDg] at hDr
  obtain ⟨td, htd⟩ : ∃ q : Int, q = wsm (aD u0).1 D 0 6 := ⟨_, rfl⟩
  have htr := wsm_rng (aD u0).1 D 0 6
  rw [← htd] at htr
  have hnN := hD.nN
  have hc9 := hU.1.2.2.2.2.2.2
  refine lv_aload_n hx hb dL_isAdjustSo_0 rfl (lv_at hl 0 rfl) ?_
  refine lv_iload_n hx hb dL_isAdjustSo_1 rfl (lv_at hl 1 rfl) ?_
  refine m_callVi (As := [.int (iv k)]) (rest := []) ⟨hx, hb, hml, hown, hts⟩ hK hH hS (c_X8_stepsTo l G μ n x rb u0 k hD (by omega)) (cwV 1 hts gL_isAdjustSo_X8_stepsTo rfl rfl rfl (by decide +kernel) ⟨(Nat.le_of_ble_eq_true rfl), (Nat.le_of_ble_eq_true rfl)⟩) hD.1 rfl rfl rfl rfl hl.1 (Nat.le_of_ble_eq_true rfl) dL_isAdjustSo_2 ⟨Nat.zero_le _, Nat.zero_le _⟩ (fun z4 μ1 n2 H locs hz4 hp3 hH hS => ?_)
  obtain ⟨hz2, hm2, hn2⟩ := hp3
  have hz2 := hz2.trans (show a_stepsTo (aD u0).1 k = td from by rw [htd, hDg]; exact if_pos hk)
  rw [hm2, hn2] at hH
  rw [hz2] at hz4
  rw [hz2]
  clear hz2 hm2 hn2
  refine lv_istore_n (lv' := [(2, .int (iv td)), (0, .ref x), (1, .int (iv k))]) hx hb dL_isAdjustSo_5 rfl hl (by decide) rfl (fun ls hl => ?_)
  refine lv_aload_n hx hb dL_isAdjustSo_6 rfl (lv_at hl 1 rfl) ?_
  refine j_bipush hx hb dL_isAdjustSo_7 ?_ (by decide)
  refine m_callVi (As := [.int (iv 6)]) (rest := []) ⟨hx, hb, hml, hown, hts⟩ hK hH hS (c_X8_count l G μ n x rb u0 6 hD (by omega)) (cwV 1 hts gL_isAdjustSo_X8_count rfl rfl rfl (by decide +kernel) ⟨(Nat.le_of_ble_eq_true rfl), (Nat.le_of_ble_eq_true rfl)⟩) hD.1 rfl rfl rfl rfl hl.1 (Nat.le_of_ble_eq_true rfl) dL_isAdjustSo_9 ⟨Nat.zero_le _, Nat.zero_le _⟩ (fun z8 μ5 n6 H locs hz8 hp7 hH hS => ?_)
  obtain ⟨hz2, hm2, hn2⟩ := hp7
  have hz2 := hz2.trans (show a_count u0 6 = ((aD u0).1 9) from cnt_6 hU (by omega))
  rw [hm2, hn2] at hH
  rw [hz2] at hz8
  rw [hz2]
  clear hz2 hm2 hn2
  refine lv_istore_n (lv' := [(3, .int (iv ((aD u0).1 9))), (2, .int (iv td)), (0, .ref x), (1, .int (iv k))]) hx hb dL_isAdjustSo_12 rfl hl (by decide) rfl (fun ls hl => ?_)
  refine lv_aload_n hx hb dL_isAdjustSo_13 rfl (lv_at hl 2 rfl) ?_
  refine lv_iload_n hx hb dL_isAdjustSo_14 rfl (lv_at hl 3 rfl) ?_
  refine j_const hx hb dL_isAdjustSo_15 ?_
  refine m_callVi (As := [.int (iv k), .int (iv 3)]) (rest := []) ⟨hx, hb, hml, hown, hts⟩ hK hH hS (c_X8_date l G μ n x rb u0 k 3 hD (by omega) (by omega)) (cwV 2 hts gL_isAdjustSo_X8_date rfl rfl rfl (by decide +kernel) ⟨(Nat.le_of_ble_eq_true rfl), (Nat.le_of_ble_eq_true rfl)⟩) hD.1 rfl rfl rfl rfl hl.1 (Nat.le_of_ble_eq_true rfl) dL_isAdjustSo_16 ⟨Nat.zero_le _, Nat.zero_le _⟩ (fun z12 μ9 n10 H locs hz12 hp11 hH hS => ?_)
  obtain ⟨hz2, hm2, hn2⟩ := hp11
  have hz2 := hz2.trans (show a_date k 3 = D from (date_3 hk).trans hDg.symm)
  rw [hm2, hn2] at hH
  rw [hz2] at hz12
  rw [hz2]
  clear hz2 hm2 hn2
  refine lv_istore (lv' := [(4, .int (iv D)), (3, .int (iv ((aD u0).1 9))), (2, .int (iv td)), (0, .ref x), (1, .int (iv k))]) hx hb dL_isAdjustSo_19 hl (by decide) rfl (fun ls hl => ?_)
  refine j_const hx hb dL_isAdjustSo_21 ?_
  refine lv_istore (lv' := [(5, .int (iv 0)), (4, .int (iv D)), (3, .int (iv ((aD u0).1 9))), (2, .int (iv td)), (0, .ref x), (1, .int (iv k))]) hx hb dL_isAdjustSo_22 hl (by decide) rfl (fun ls hl => ?_)
  refine j_const hx hb dL_isAdjustSo_24 ?_
  refine lv_istore (lv' := [(6, .int (iv 5)), (5, .int (iv 0)), (4, .int (iv D)), (3, .int (iv ((aD u0).1 9))), (2, .int (iv td)), (0, .ref x), (1, .int (iv k))]) hx hb dL_isAdjustSo_25 hl (by decide) rfl (fun ls hl => ?_)
  have lp27 : ∀ (fuel : Nat) (i : Int) (sm : Int) (dg : Int) (hi : -1 ≤ i ∧ i ≤ 5) (hsm : sm = wsm (aD u0).1 D (i + 1) 6) (hdg : dg = dRest D i) (_ : (i + 1).toNat < fuel) (H : Heap) (locs : List Loc) (ls : Array Slot) (_ : gP G μ n H) (_ : va_S (gA G) s.heap H locs) (_ : lv_has ls 8 [(0, .ref x), (1, .int (iv k)), (2, .int (iv td)), (3, .int (iv ((aD u0).1 9))), (4, .int (iv dg)), (5, .int (iv sm)), (6, .int (iv i))]), W p l e rm_c_L_isAdjustSo s m args below meth c H locs 0 0 Q (F0 m 27 ls []) := by
    intro fuel
    induction fuel with
    | zero => intro _ _ _ _ _ _ hfuel; exact absurd hfuel (Nat.not_lt_zero _)
    | succ fuel ih =>
      intro i sm dg hi hsm hdg hfuel H locs ls hH hS hl
      have ih13 := ih; clear ih
      refine lv_iload hx hb dL_isAdjustSo_27 (lv_at hl 6 rfl) ?_
      refine j_if_lt (tgt := 87) hx hb dL_isAdjustSo_29 (by decide) (fun c14 => ?_) (fun c14 => ?_) (by omega)
      · skip
        have hi1 : i = -1 := by omega
        rw [hi1] at hsm
        have hsm2 : sm = td := hsm.trans htd.symm
        refine lv_iload hx hb dL_isAdjustSo_87 (lv_at hl 5 rfl) ?_
        refine lv_iload_n hx hb dL_isAdjustSo_89 rfl (lv_at hl 2 rfl) ?_
        refine j_icmp_ne (tgt := 149) hx hb dL_isAdjustSo_90 (by decide) (fun c15 => absurd c15 (by omega)) (fun c15 => ?_) (by omega) (by omega)
        refine lv_aload_n hx hb dL_isAdjustSo_93 rfl (lv_at hl 0 rfl) ?_
        refine lv_iload_n hx hb dL_isAdjustSo_94 rfl (lv_at hl 1 rfl) ?_
        have hDo := hD
        refine m_callVi (As := [.int (iv k)]) (rest := []) ⟨hx, hb, hml, hown, hts⟩ hK hH hS (c_X8_adjust l G μ n x rb u0 k hD (by omega)) (cwV 1 hts gL_isAdjustSo_X8_adjust rfl rfl rfl (by decide +kernel) ⟨(Nat.le_of_ble_eq_true rfl), (Nat.le_of_ble_eq_true rfl)⟩) hD.1 rfl rfl rfl rfl hl.1 (Nat.le_of_ble_eq_true rfl) dL_isAdjustSo_95 ⟨Nat.zero_le _, Nat.zero_le _⟩ (fun z19 μ16 n17 H locs hz19 hp18 hH hS => ?_)
        obtain ⟨hvz19, hD, hf1⟩ := hp18
        obtain ⟨u20, hu20⟩ : ∃ q : aS, q = (a_adjust u0 k).1 := ⟨_, rfl⟩
        rw [← hu20] at hD
        have hU : UI u20 (b0 + 1000) := by rw [hu20]; exact hU.adjust
        have hO := hD.okD
        have hae := v_adjust (u := u0) hk
        rw [← hDg] at hae
        have hvz19 : z19 = td := by rw [hvz19, hae]; exact htd.symm
        have hu20 : u20 = aAct u0 (adj (aD u0).1 D, (aD u0).2) := by rw [hu20, hae]
        have had : (aD u20).1 = adj (aD u0).1 D := by first | (rw [hu20]; done) | (rw [hu20]; rfl)
        have hsw : shw (adj (aD u0).1 D) 6 = D := shw_adj hDr
        rw [hvz19]
        rw [hvz19] at hz19
        refine lv_iload_n hx hb dL_isAdjustSo_98 rfl (lv_at hl 2 rfl) ?_
        refine j_icmp_ne (tgt := 149) hx hb dL_isAdjustSo_99 (by decide) (fun c21 => absurd c21 (by omega)) (fun c21 => ?_) (by omega) (by omega)
        refine lv_aload_n hx hb dL_isAdjustSo_102 rfl (lv_at hl 0 rfl) ?_
        refine lv_iload_n hx hb dL_isAdjustSo_103 rfl (lv_at hl 1 rfl) ?_
        refine m_callVi (As := [.int (iv k)]) (rest := []) ⟨hx, hb, hml, hown, hts⟩ hK hH hS (c_X8_stepsTo l G μ16 n17 x rb u20 k hD (by omega)) (cwV 1 hts gL_isAdjustSo_X8_stepsTo rfl rfl rfl (by decide +kernel) ⟨(Nat.le_of_ble_eq_true rfl), (Nat.le_of_ble_eq_true rfl)⟩) hD.1 rfl rfl rfl rfl hl.1 (Nat.le_of_ble_eq_true rfl) dL_isAdjustSo_104 ⟨Nat.zero_le _, Nat.zero_le _⟩ (fun z25 μ22 n23 H locs hz25 hp24 hH hS => ?_)
        obtain ⟨hz2, hm2, hn2⟩ := hp24
        have hz2 := hz2.trans (show a_stepsTo (aD u20).1 k = 0 from (by rw [had, hDg]; exact (if_pos hk).trans wsm_adj))
        rw [hm2, hn2] at hH
        rw [hz2] at hz25
        rw [hz2]
        clear hz2 hm2 hn2
        refine j_if_ne (tgt := 149) hx hb dL_isAdjustSo_107 (by decide) (fun c26 => absurd c26 (by omega)) (fun c26 => ?_) (by omega)
        refine lv_aload_n hx hb dL_isAdjustSo_110 rfl (lv_at hl 0 rfl) ?_
        refine m_callSi (As := [.ref x]) (rest := []) ⟨hx, hb, hml, hown, hts⟩ hK hH hS (c_L_shown l G μ16 n17 x rb u20 (b0 + 1000) hD hU (by omega)) (va_cwS 1 hts gL_isAdjustSo_L_shown rfl rfl rfl (by decide +kernel) ⟨(Nat.le_of_ble_eq_true rfl), (Nat.le_of_ble_eq_true rfl)⟩) rfl rfl hl.1 (Nat.le_of_ble_eq_true rfl) dL_isAdjustSo_111 ⟨Nat.zero_le _, Nat.zero_le _⟩ (fun z30 μ27 n28 H locs hz30 hp29 hH hS => ?_)
        obtain ⟨hz2, hm2, hn2⟩ := hp29
        have hz2 : z30 = D := hz2.trans (by rw [had]; exact hsw)
        rw [hm2, hn2] at hH
        rw [hz2] at hz30
        rw [hz2]
        clear hz2 hm2 hn2
        refine lv_aload_n hx hb dL_isAdjustSo_114 rfl (lv_at hl 0 rfl) ?_
        refine lv_iload_n hx hb dL_isAdjustSo_115 rfl (lv_at hl 1 rfl) ?_
        refine j_const hx hb dL_isAdjustSo_116 ?_
        refine m_callVi (As := [.int (iv k), .int (iv 3)]) (rest := [.int (iv D)]) ⟨hx, hb, hml, hown, hts⟩ hK hH hS (c_X8_date l G μ16 n17 x rb u20 k 3 hD (by omega) (by omega)) (cwV 2 hts gL_isAdjustSo_X8_date rfl rfl rfl (by decide +kernel) ⟨(Nat.le_of_ble_eq_true rfl), (Nat.le_of_ble_eq_true rfl)⟩) hD.1 rfl rfl rfl rfl hl.1 (Nat.le_of_ble_eq_true rfl) dL_isAdjustSo_117 ⟨Nat.zero_le _, Nat.zero_le _⟩ (fun z34 μ31 n32 H locs hz34 hp33 hH hS => ?_)
        obtain ⟨hz2, hm2, hn2⟩ := hp33
        have hz2 := hz2.trans (show a_date k 3 = D from (date_3 hk).trans hDg.symm)
        rw [hm2, hn2] at hH
        rw [hz2] at hz34
        rw [hz2]
        clear hz2 hm2 hn2
        refine j_icmp_ne (tgt := 149) hx hb dL_isAdjustSo_120 (by decide) (fun c35 => absurd c35 (by omega)) (fun c35 => ?_) (by omega) (by omega)
        refine lv_aload_n hx hb dL_isAdjustSo_123 rfl (lv_at hl 0 rfl) ?_
        refine j_bipush hx hb dL_isAdjustSo_124 ?_ (by decide)
        refine m_callVi (As := [.int (iv 9)]) (rest := []) ⟨hx, hb, hml, hown, hts⟩ hK hH hS (c_X8_count l G μ16 n17 x rb u20 9 hD (by omega)) (cwV 1 hts gL_isAdjustSo_X8_count rfl rfl rfl (by decide +kernel) ⟨(Nat.le_of_ble_eq_true rfl), (Nat.le_of_ble_eq_true rfl)⟩) hD.1 rfl rfl rfl rfl hl.1 (Nat.le_of_ble_eq_true rfl) dL_isAdjustSo_126 ⟨Nat.zero_le _, Nat.zero_le _⟩ (fun z39 μ36 n37 H locs hz39 hp38 hH hS => ?_)
        obtain ⟨hz2, hm2, hn2⟩ := hp38
        have hz2 := hz2.trans (show a_count u20 9 = k from (by rw [cnt_9, had, hsw, hDg]; exact dday_dig hk))
        rw [hm2, hn2] at hH
        rw [hz2] at hz39
        rw [hz2]
        clear hz2 hm2 hn2
        refine lv_iload_n hx hb dL_isAdjustSo_129 rfl (lv_at hl 1 rfl) ?_
        refine j_icmp_ne (tgt := 149) hx hb dL_isAdjustSo_130 (by decide) (fun c40 => absurd c40 (by omega)) (fun c40 => ?_) (by omega) (by omega)
        refine lv_aload_n hx hb dL_isAdjustSo_133 rfl (lv_at hl 0 rfl) ?_
        refine j_bipush hx hb dL_isAdjustSo_134 ?_ (by decide)
        refine m_callVi (As := [.int (iv 6)]) (rest := []) ⟨hx, hb, hml, hown, hts⟩ hK hH hS (c_X8_count l G μ16 n17 x rb u20 6 hD (by omega)) (cwV 1 hts gL_isAdjustSo_X8_count rfl rfl rfl (by decide +kernel) ⟨(Nat.le_of_ble_eq_true rfl), (Nat.le_of_ble_eq_true rfl)⟩) hD.1 rfl rfl rfl rfl hl.1 (Nat.le_of_ble_eq_true rfl) dL_isAdjustSo_136 ⟨Nat.zero_le _, Nat.zero_le _⟩ (fun z44 μ41 n42 H locs hz44 hp43 hH hS => ?_)
        obtain ⟨hz2, hm2, hn2⟩ := hp43
        have hz2 := hz2.trans (show a_count u20 6 = ((aD u0).1 9 + td) from (cnt_6 hU (by omega)).trans (by rw [had, htd]; exact adj_9 _ _))
        rw [hm2, hn2] at hH
        rw [hz2] at hz44
        rw [hz2]
        clear hz2 hm2 hn2
        refine lv_iload_n hx hb dL_isAdjustSo_139 rfl (lv_at hl 3 rfl) ?_
        refine lv_iload_n hx hb dL_isAdjustSo_140 rfl (lv_at hl 2 rfl) ?_
        refine j_iadd hx hb dL_isAdjustSo_141 ?_
        refine j_icmp_ne (tgt := 149) hx hb dL_isAdjustSo_142 (by decide) (fun c45 => absurd c45 (by omega)) (fun c45 => ?_) (by omega) (by omega)
        refine j_const hx hb dL_isAdjustSo_145 ?_
        refine lv_goto (tgt := 150) hx hb dL_isAdjustSo_146 (by decide) ?_
        refine lv_istore (lv' := [(6, .int (iv 1)), (0, .ref x), (1, .int (iv k)), (2, .int (iv td)), (3, .int (iv ((aD u0).1 9))), (4, .int (iv dg)), (5, .int (iv sm))]) hx hb dL_isAdjustSo_150 hl (by decide) rfl (fun ls hl => ?_)
        refine lv_aload_n hx hb dL_isAdjustSo_152 rfl (lv_at hl 1 rfl) ?_
        have hDo := hD
        refine m_callVi (As := []) (rest := []) ⟨hx, hb, hml, hown, hts⟩ hK hH hS (c_X8_undo l G μ16 n17 x rb u20 hD) (cwV 0 hts gL_isAdjustSo_X8_undo rfl rfl rfl (by decide +kernel) ⟨(Nat.le_of_ble_eq_true rfl), (Nat.le_of_ble_eq_true rfl)⟩) hD.1 rfl rfl rfl rfl hl.1 (Nat.le_of_ble_eq_true rfl) dL_isAdjustSo_153 ⟨Nat.zero_le _, Nat.zero_le _⟩ (fun z49 μ46 n47 H locs hz49 hp48 hH hS => ?_)
        obtain ⟨hvz49, hD, hf1⟩ := hp48
        obtain ⟨u50, hu50⟩ : ∃ q : aS, q = (a_undo u20).1 := ⟨_, rfl⟩
        rw [← hu50] at hD
        have hU : UI u50 (b0 + 1000) := by rw [hu50]; exact hU.undo hDo.nN
        have hO := hD.okD
        have hun := undo_act (d := (adj (aD u0).1 D, (aD u0).2)) hnN
        rw [← hu20] at hun
        rw [← hu50, ← hvz49] at hun
        refine lv_istore (lv' := [(7, .int (iv z49)), (6, .int (iv 1)), (0, .ref x), (1, .int (iv k)), (2, .int (iv td)), (3, .int (iv ((aD u0).1 9))), (4, .int (iv dg)), (5, .int (iv sm))]) hx hb dL_isAdjustSo_156 hl (by decide) rfl (fun ls hl => ?_)
        refine lv_iload hx hb dL_isAdjustSo_158 (lv_at hl 1 rfl) ?_
        refine j_if_eq (tgt := 182) hx hb dL_isAdjustSo_160 (by decide) (fun c51 => absurd c51 (by omega)) (fun c51 => ?_) (by omega)
        refine lv_iload hx hb dL_isAdjustSo_163 (lv_at hl 0 rfl) ?_
        refine j_if_lt (tgt := 182) hx hb dL_isAdjustSo_165 (by decide) (fun c52 => absurd c52 (by omega)) (fun c52 => ?_) (by omega)
        refine lv_aload_n hx hb dL_isAdjustSo_168 rfl (lv_at hl 2 rfl) ?_
        refine j_bipush hx hb dL_isAdjustSo_169 ?_ (by decide)
        refine m_callVi (As := [.int (iv 6)]) (rest := []) ⟨hx, hb, hml, hown, hts⟩ hK hH hS (c_X8_count l G μ46 n47 x rb u50 6 hD (by omega)) (cwV 1 hts gL_isAdjustSo_X8_count rfl rfl rfl (by decide +kernel) ⟨(Nat.le_of_ble_eq_true rfl), (Nat.le_of_ble_eq_true rfl)⟩) hD.1 rfl rfl rfl rfl hl.1 (Nat.le_of_ble_eq_true rfl) dL_isAdjustSo_171 ⟨Nat.zero_le _, Nat.zero_le _⟩ (fun z56 μ53 n54 H locs hz56 hp55 hH hS => ?_)
        obtain ⟨hz2, hm2, hn2⟩ := hp55
        have hz2 := hz2.trans (show a_count u50 6 = ((aD u0).1 9) from (cnt_6 hU (by omega)).trans (by rw [hun.1]))
        rw [hm2, hn2] at hH
        rw [hz2] at hz56
        rw [hz2]
        clear hz2 hm2 hn2
        refine lv_iload_n hx hb dL_isAdjustSo_174 rfl (lv_at hl 5 rfl) ?_
        refine j_icmp_ne (tgt := 182) hx hb dL_isAdjustSo_175 (by decide) (fun c57 => absurd c57 (by omega)) (fun c57 => ?_) (by omega) (by omega)
        refine j_const hx hb dL_isAdjustSo_178 ?_
        refine lv_goto (tgt := 183) hx hb dL_isAdjustSo_179 (by decide) ?_
        subst hQ
        refine m_zret hx hb hr hlocks hH hS dL_isAdjustSo_183 ?_ (by omega)
        exact ⟨rfl, u50, hD, hU⟩
      · skip
        have hip : i.toNat < 6 := by omega
        have hb9 := (hO.1.1.2.2.2.2 i.toNat hip).2.1
        have hdr := dRest_rng (i := i) hDr
        rw [← hdg] at hdr
        have hdd := dRest_d (D := D) (i := i) (by omega)
        rw [← hdg] at hdd
        have hda := dAt_rng D i.toNat
        have hwl := wsm_lo (σ := (aD u0).1) (D := D) hip
        rw [show ((i.toNat : Nat) : Int) = i by omega] at hwl
        have how := on_way hb9 hda
        rw [show wayf ((aD u0).1 (86 + 13 * i.toNat)) (dAt D i.toNat) = way (aD u0).1 i.toNat (dAt D i.toNat) from rfl] at how
        refine lv_iload hx hb dL_isAdjustSo_32 (lv_at hl 4 rfl) ?_
        refine j_bipush hx hb dL_isAdjustSo_34 ?_ (by decide)
        refine j_irem hx hb dL_isAdjustSo_36 ?_ (by omega) (by omega)
        refine lv_aload_n hx hb dL_isAdjustSo_37 rfl (lv_at hl 0 rfl) ?_
        refine lv_iload hx hb dL_isAdjustSo_38 (lv_at hl 6 rfl) ?_
        refine j_const hx hb dL_isAdjustSo_40 ?_
        refine m_callVi (As := [.int (iv i), .int (iv 1)]) (rest := [.int (iv (dg % 10))]) ⟨hx, hb, hml, hown, hts⟩ hK hH hS (c_X8_band l G μ n x rb u0 i 1 hD (by omega) (by omega)) (cwV 2 hts gL_isAdjustSo_X8_band rfl rfl rfl (by decide +kernel) ⟨(Nat.le_of_ble_eq_true rfl), (Nat.le_of_ble_eq_true rfl)⟩) hD.1 rfl rfl rfl rfl hl.1 (Nat.le_of_ble_eq_true rfl) dL_isAdjustSo_41 ⟨Nat.zero_le _, Nat.zero_le _⟩ (fun z61 μ58 n59 H locs hz61 hp60 hH hS => ?_)
        obtain ⟨hz2, hm2, hn2⟩ := hp60
        have hz2 := hz2.trans (show a_band (aD u0).1 i 1 = ((aD u0).1 (86 + 13 * (i).toNat)) from band_1 (by omega))
        rw [hm2, hn2] at hH
        rw [hz2] at hz61
        rw [hz2]
        clear hz2 hm2 hn2
        refine j_isub hx hb dL_isAdjustSo_44 ?_
        refine j_bipush hx hb dL_isAdjustSo_45 ?_ (by decide)
        refine j_iadd hx hb dL_isAdjustSo_47 ?_
        refine j_bipush hx hb dL_isAdjustSo_48 ?_ (by decide)
        refine j_irem hx hb dL_isAdjustSo_50 ?_ (by omega) (by omega)
        refine j_top (fun on hon => ?_)
        refine lv_istore (lv' := [(7, .int (iv on)), (0, .ref x), (1, .int (iv k)), (2, .int (iv td)), (3, .int (iv ((aD u0).1 9))), (4, .int (iv dg)), (5, .int (iv sm)), (6, .int (iv i))]) hx hb dL_isAdjustSo_51 hl (by decide) rfl (fun ls hl => ?_)
        rw [hdd] at hon
        rw [← hon] at how
        refine lv_iload hx hb dL_isAdjustSo_53 (lv_at hl 6 rfl) ?_
        refine lv_iload hx hb dL_isAdjustSo_55 (lv_at hl 0 rfl) ?_
        refine j_const hx hb dL_isAdjustSo_57 ?_
        refine j_icmp_le (tgt := 69) hx hb dL_isAdjustSo_58 (by decide) (fun c62 => ?_) (fun c62 => ?_) (by omega) (by omega)
        · skip
          refine lv_iload hx hb dL_isAdjustSo_69 (lv_at hl 0 rfl) ?_
          refine j_iadd hx hb dL_isAdjustSo_71 ?_
          refine lv_istore (lv' := [(5, .int (iv (sm + on))), (7, .int (iv on)), (0, .ref x), (1, .int (iv k)), (2, .int (iv td)), (3, .int (iv ((aD u0).1 9))), (4, .int (iv dg)), (6, .int (iv i))]) hx hb dL_isAdjustSo_72 hl (by decide) rfl (fun ls hl => ?_)
          refine lv_iload hx hb dL_isAdjustSo_74 (lv_at hl 6 rfl) ?_
          refine j_bipush hx hb dL_isAdjustSo_76 ?_ (by decide)
          refine j_idiv hx hb dL_isAdjustSo_78 ?_ (by omega) (by omega)
          refine lv_istore (lv' := [(4, .int (iv (dg / 10))), (5, .int (iv (sm + on))), (7, .int (iv on)), (0, .ref x), (1, .int (iv k)), (2, .int (iv td)), (3, .int (iv ((aD u0).1 9))), (6, .int (iv i))]) hx hb dL_isAdjustSo_79 hl (by decide) rfl (fun ls hl => ?_)
          refine j_iinc (lv' := [(6, .int (iv (i + -1))), (4, .int (iv (dg / 10))), (5, .int (iv (sm + on))), (7, .int (iv on)), (0, .ref x), (1, .int (iv k)), (2, .int (iv td)), (3, .int (iv ((aD u0).1 9)))]) hx hb dL_isAdjustSo_81 hl (k := 7) rfl (by decide) rfl (fun ls hl => ?_)
          have hsn : (sm + on) = wsm (aD u0).1 D (i + -1 + 1) 6 := by
            rw [show i + -1 + 1 = i by omega, ← hwl, hsm]
            rw [how.1 (by omega)]
          have hdn : (dg / 10) = dRest D (i + -1) := by rw [hdg]; exact dRest_s (by omega)
          refine lv_goto (tgt := 27) hx hb dL_isAdjustSo_84 (by decide) ?_
          exact ih13 (i + -1) (sm + on) (dg / 10) (by omega) hsn hdn (by omega) H locs ls hH hS (lv_sub hl [4, 5, 6, 7, 1, 2, 0] rfl)
        · skip
          refine j_bipush hx hb dL_isAdjustSo_61 ?_ (by decide)
          refine lv_iload hx hb dL_isAdjustSo_63 (lv_at hl 0 rfl) ?_
          refine j_isub hx hb dL_isAdjustSo_65 ?_
          refine lv_goto (tgt := 71) hx hb dL_isAdjustSo_66 (by decide) ?_
          refine j_iadd hx hb dL_isAdjustSo_71 ?_
          refine lv_istore (lv' := [(5, .int (iv (sm + (10 - on)))), (7, .int (iv on)), (0, .ref x), (1, .int (iv k)), (2, .int (iv td)), (3, .int (iv ((aD u0).1 9))), (4, .int (iv dg)), (6, .int (iv i))]) hx hb dL_isAdjustSo_72 hl (by decide) rfl (fun ls hl => ?_)
          refine lv_iload hx hb dL_isAdjustSo_74 (lv_at hl 6 rfl) ?_
          refine j_bipush hx hb dL_isAdjustSo_76 ?_ (by decide)
          refine j_idiv hx hb dL_isAdjustSo_78 ?_ (by omega) (by omega)
          refine lv_istore (lv' := [(4, .int (iv (dg / 10))), (5, .int (iv (sm + (10 - on)))), (7, .int (iv on)), (0, .ref x), (1, .int (iv k)), (2, .int (iv td)), (3, .int (iv ((aD u0).1 9))), (6, .int (iv i))]) hx hb dL_isAdjustSo_79 hl (by decide) rfl (fun ls hl => ?_)
          refine j_iinc (lv' := [(6, .int (iv (i + -1))), (4, .int (iv (dg / 10))), (5, .int (iv (sm + (10 - on)))), (7, .int (iv on)), (0, .ref x), (1, .int (iv k)), (2, .int (iv td)), (3, .int (iv ((aD u0).1 9)))]) hx hb dL_isAdjustSo_81 hl (k := 7) rfl (by decide) rfl (fun ls hl => ?_)
          have hsn : (sm + (10 - on)) = wsm (aD u0).1 D (i + -1 + 1) 6 := by
            rw [show i + -1 + 1 = i by omega, ← hwl, hsm]
            rw [how.2 (by omega)]
          have hdn : (dg / 10) = dRest D (i + -1) := by rw [hdg]; exact dRest_s (by omega)
          refine lv_goto (tgt := 27) hx hb dL_isAdjustSo_84 (by decide) ?_
          exact ih13 (i + -1) (sm + (10 - on)) (dg / 10) (by omega) hsn hdn (by omega) H locs ls hH hS (lv_sub hl [4, 5, 6, 7, 1, 2, 0] rfl)
  exact lp27 (7) 5 0 D (by omega) (wsm_no (by omega)).symm rfl (by omega) H locs ls hH hS (lv_sub hl [5, 6, 4, 3, 2, 1, 0] rfl)
