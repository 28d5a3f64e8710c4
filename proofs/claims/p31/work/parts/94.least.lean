abbrev rm_c_L_isLeastSo : Room := { frames := 6, cells := 9, slots := 36, locals := 140 }
set_option maxHeartbeats 4000000 in
set_option maxRecDepth 100000 in
theorem c_L_isLeastSo (l : Launch) (G : wG) (μ : hM) (n : Nat) (x rb : Nat) (u0 : aS) (b0 : Int)  (hD : IsD G μ x rb u0) (hU : UI u0 b0) (hb0 : 0 ≤ b0 ∧ b0 ≤ 500000000) : Met l yL_isLeastSo wsL_isLeastSo rm_c_L_isLeastSo (mPc G μ n [.ref x]) (mQi G (fun z μ1 n1 => z = 1 ∧ ∃ u1 : aS, IsD G μ1 x rb u1 ∧ UI u1 (b0 + 10000))) 9 36 (gA G) := by
  refine Met.ofW (cc := cL_isLeastSo) (maxL := 6) (ret := (some .boolean)) (by decide) rfl ?_
  intro p e s m args below meth c s₁ B hml hv
  obtain ⟨hav, hK, hH⟩ := hv
  have hx := B.exec
  have hb := B.bytes
  have hr := B.returns
  have hts := atoms_spec (ws := wsL_isLeastSo) B.pre
  have hown : s.vm.findClass RL = some m.cls := findClass_of_methodNamed B.named
  have hlocks := B.notSynchronized
  have hS : va_S (gA G) s.heap s.heap [] := va_S.rf
  have hl := lv_entry ([.ref x]) (n := 6) (Nat.le_of_ble_eq_true rfl)
  have hfr : entryFrame m args 6 = entryFrame m ([.ref x] : List Value).toArray 6 := by rw [hav]
  rw [hfr, lg_entry_eq]
  generalize (lg_sl ([.ref x]) ++ List.replicate (6 - (lg_sl ([.ref x])).length) Slot.unset).toArray = ls at hl ⊢
  have hl : lv_has ls 6 [(0, .ref x)] := hl
  generalize hQ : MQ below _ args s 9 36 (gA G) = Q
  show W p l e rm_c_L_isLeastSo s m args below meth c s.heap [] 0 0 Q (F0 m 0 ls [])
  obtain ⟨H, hHe⟩ : ∃ H, H = s.heap := ⟨_, rfl⟩
  obtain ⟨locs, hlo⟩ : ∃ q : List Loc, q = [] := ⟨_, rfl⟩
  have hH : gP G μ n H := by rw [hHe]; exact hH
  have hS : va_S (gA G) s.heap H locs := by rw [hHe, hlo]; exact hS
  suffices hgo : W p l e rm_c_L_isLeastSo s m args below meth c H locs 0 0 Q (F0 m 0 ls []) by rw [hHe, hlo] at hgo; exact hgo
  clear hHe hlo hfr hav
  have hO := hD.okD
  obtain ⟨lp, hlp⟩ : ∃ q : Int, q = lpF (aD u0).1 9 1 := ⟨_, rfl⟩
  have hsp := lpF_spec (σ := (aD u0).1) 9 1
  rw [← hlp] at hsp
  have hT5 := hO.1.2.2.1
  have hl19 : lp = -5 ∨ (1 ≤ lp ∧ lp ≤ 9) := hsp.elim (fun h => Or.inl h.1) (fun h => Or.inr (by have := h.1; omega))
  have hu00 : (aD u0) = (aD u0) := rfl
  refine lv_aload_n hx hb dL_isLeastSo_0 rfl (lv_at hl 0 rfl) ?_
  refine m_callVi (As := []) (rest := []) ⟨hx, hb, hml, hown, hts⟩ hK hH hS (c_X8_leastPress l G μ n x rb u0  hD) (cwV 0 hts gL_isLeastSo_X8_leastPress rfl rfl rfl (by decide +kernel) ⟨(Nat.le_of_ble_eq_true rfl), (Nat.le_of_ble_eq_true rfl)⟩) hD.1 rfl rfl rfl rfl hl.1 (Nat.le_of_ble_eq_true rfl) dL_isLeastSo_1 ⟨Nat.zero_le _, Nat.zero_le _⟩ (fun z4 μ1 n2 H locs hz4 hp3 hH hS => ?_)
  obtain ⟨hz2, hm2, hn2⟩ := hp3
  have hz2 := hz2.trans (show a_leastPress (aD u0).1 = lp from hlp.symm)
  rw [hm2, hn2] at hH
  rw [hz2] at hz4
  rw [hz2]
  clear hz2 hm2 hn2
  refine lv_istore_n (lv' := [(1, .int (iv lp)), (0, .ref x)]) hx hb dL_isLeastSo_4 rfl hl (by decide) rfl (fun ls hl => ?_)
  refine lv_iload_n hx hb dL_isLeastSo_5 rfl (lv_at hl 0 rfl) ?_
  refine j_bipush hx hb dL_isLeastSo_6 ?_ (by decide)
  have jn27_5 : ∀ (H : Heap) (locs : List Loc) (ls : Array Slot) (_ : gP G μ n H) (_ : va_S (gA G) s.heap H locs) (_ : lv_has ls 6 [(1, .int (iv lp)), (0, .ref x)]), W p l e rm_c_L_isLeastSo s m args below meth c H locs 0 0 Q (F0 m 27 ls [.int (iv 1)]) := by
    intro H locs ls hH hS hl
    refine lv_istore_n (lv' := [(2, .int (iv 1)), (1, .int (iv lp)), (0, .ref x)]) hx hb dL_isLeastSo_27 rfl hl (by decide) rfl (fun ls hl => ?_)
    refine j_const hx hb dL_isLeastSo_28 ?_
    refine lv_istore_n (lv' := [(3, .int (iv 1)), (2, .int (iv 1)), (1, .int (iv lp)), (0, .ref x)]) hx hb dL_isLeastSo_29 rfl hl (by decide) rfl (fun ls hl => ?_)
    have lp30 : ∀ (fuel : Nat) (i : Int) (ul : aS) (ν : hM) (ν0 : Nat) (hi : 1 ≤ i ∧ i ≤ 10) (hD : IsD G ν x rb ul) (hU : UI ul (b0 + 1000 * (i - 1))) (hdu : aD ul = aD u0) (_ : (10 - i).toNat < fuel) (H : Heap) (locs : List Loc) (ls : Array Slot) (_ : gP G ν ν0 H) (_ : va_S (gA G) s.heap H locs) (_ : lv_has ls 6 [(0, .ref x), (1, .int (iv lp)), (2, .int (iv 1)), (3, .int (iv i))]), W p l e rm_c_L_isLeastSo s m args below meth c H locs (i - 1).toNat (4 * (i - 1)).toNat Q (F0 m 30 ls []) := by
      intro fuel
      induction fuel with
      | zero => intro _ _ _ _ _ _ _ _ hfuel; exact absurd hfuel (Nat.not_lt_zero _)
      | succ fuel ih =>
        intro i ul ν ν0 hi hD hU hdu hfuel H locs ls hH hS hl
        have hO := hD.okD
        have hnN := hD.nN
        have hU5 := hU.1.2.2.2.1
        have ih6 := ih; clear ih
        refine lv_iload_n hx hb dL_isLeastSo_30 rfl (lv_at hl 3 rfl) ?_
        refine j_bipush hx hb dL_isLeastSo_31 ?_ (by decide)
        refine j_icmp_ge (tgt := 123) hx hb dL_isLeastSo_33 (by decide) (fun c7 => ?_) (fun c7 => ?_) (by omega) (by omega)
        · skip
          refine lv_iload_n hx hb dL_isLeastSo_123 rfl (lv_at hl 2 rfl) ?_
          refine W.widen (k := 9) (n := 36) (by omega) (by omega) ?_
          subst hQ
          refine m_zret hx hb hr hlocks hH hS dL_isLeastSo_124 ?_ (by omega)
          exact ⟨rfl, ul, hD, hU.mono (by omega)⟩
        · skip
          refine lv_aload_n hx hb dL_isLeastSo_36 rfl (lv_at hl 0 rfl) ?_
          refine lv_iload_n hx hb dL_isLeastSo_37 rfl (lv_at hl 3 rfl) ?_
          refine j_const hx hb dL_isLeastSo_38 ?_
          have hDo := hD
          refine m_callVi (As := [.int (iv i), .int (iv 1)]) (rest := []) ⟨hx, hb, hml, hown, hts⟩ hK hH hS (c_X8_press l G ν ν0 x rb ul i 1 hD (by omega) (by omega) (by omega)) (cwV 2 hts gL_isLeastSo_X8_press rfl rfl rfl (by decide +kernel) ⟨(Nat.le_of_ble_eq_true rfl), (Nat.le_of_ble_eq_true rfl)⟩) hD.1 rfl rfl rfl rfl hl.1 (Nat.le_of_ble_eq_true rfl) dL_isLeastSo_39 ⟨(by show _ ≤ 9; omega), (by show _ ≤ 36; omega)⟩ (fun z11 μ8 n9 H locs hz11 hp10 hH hS => ?_)
          obtain ⟨hvz11, hD, hf1⟩ := hp10
          obtain ⟨u12, hu12⟩ : ∃ q : aS, q = (a_press ul i 1).1 := ⟨_, rfl⟩
          rw [← hu12] at hD
          have hU : UI u12 ((b0 + 1000 * (i - 1)) + 1000) := by rw [hu12]; exact hU.press hDo.okD (by omega)
          have hO := hD.okD
          have hpe := press_1 (u := ul) (k := i) (by omega)
          have hvv : 0 ≤ z11 := by rw [hvz11]; exact v_press (by omega) (by omega)
          have hu12 : u12 = aAct ul (prF (aD ul).1 i, chAdd (aD ul).2 ((aD ul).1 3) (rtF (aD ul).1 (dig ((aD ul).1 3)) i)) := by rw [hu12, hpe]
          have hdp : (aD u12).1 = prF (aD u0).1 i := by rw [hu12]; show prF (aD ul).1 i = _; rw [hdu]
          have hpr := pr_of (σ := (aD u0).1) (by omega) i
          have hf6 := fb64 (aD u0).1 i
          have hor := clD _ hf6.1 _ hf6.2
          refine lv_istore (lv' := [(4, .int (iv z11)), (0, .ref x), (1, .int (iv lp)), (2, .int (iv 1)), (3, .int (iv i))]) hx hb dL_isLeastSo_42 hl (by decide) rfl (fun ls hl => ?_)
          refine lv_aload_n hx hb dL_isLeastSo_44 rfl (lv_at hl 1 rfl) ?_
          refine j_const hx hb dL_isLeastSo_45 ?_
          refine j_const hx hb dL_isLeastSo_46 ?_
          refine m_callVi (As := [.int (iv 0), .int (iv 2)]) (rest := []) ⟨hx, hb, hml, hown, hts⟩ hK hH hS (c_X8_print l G μ8 n9 x rb u12 0 2 hD (by omega) (by omega)) (cwV 2 hts gL_isLeastSo_X8_print rfl rfl rfl (by decide +kernel) ⟨(Nat.le_of_ble_eq_true rfl), (Nat.le_of_ble_eq_true rfl)⟩) hD.1 rfl rfl rfl rfl hl.1 (Nat.le_of_ble_eq_true rfl) dL_isLeastSo_47 ⟨(by show _ ≤ 9; omega), (by show _ ≤ 36; omega)⟩ (fun z16 μ13 n14 H locs hz16 hp15 hH hS => ?_)
          obtain ⟨hz2, hm2, hn2⟩ := hp15
          have hz2 := hz2.trans (show a_print (aD u12).1 0 2 = ((fbN (aD u0).1 i 6 : Nat) : Int) from (by rw [hdp]; exact hpr.2.2.1))
          rw [hm2, hn2] at hH
          rw [hz2] at hz16
          rw [hz2]
          clear hz2 hm2 hn2
          refine lv_aload_n hx hb dL_isLeastSo_50 rfl (lv_at hl 1 rfl) ?_
          refine j_const hx hb dL_isLeastSo_51 ?_
          refine j_const hx hb dL_isLeastSo_52 ?_
          refine m_callVi (As := [.int (iv 0), .int (iv 3)]) (rest := [.int (iv ((fbN (aD u0).1 i 6 : Nat) : Int))]) ⟨hx, hb, hml, hown, hts⟩ hK hH hS (c_X8_print l G μ8 n9 x rb u12 0 3 hD (by omega) (by omega)) (cwV 2 hts gL_isLeastSo_X8_print rfl rfl rfl (by decide +kernel) ⟨(Nat.le_of_ble_eq_true rfl), (Nat.le_of_ble_eq_true rfl)⟩) hD.1 rfl rfl rfl rfl hl.1 (Nat.le_of_ble_eq_true rfl) dL_isLeastSo_53 ⟨(by show _ ≤ 9; omega), (by show _ ≤ 36; omega)⟩ (fun z20 μ17 n18 H locs hz20 hp19 hH hS => ?_)
          obtain ⟨hz2, hm2, hn2⟩ := hp19
          have hz2 := hz2.trans (show a_print (aD u12).1 0 3 = ((sbN (aD u0).1 i 6 : Nat) : Int) from (by rw [hdp]; exact hpr.2.2.2.1))
          rw [hm2, hn2] at hH
          rw [hz2] at hz20
          rw [hz2]
          clear hz2 hm2 hn2
          refine j_ior (v := ((fbN (aD u0).1 i 6 ||| sbN (aD u0).1 i 6 : Nat) : Int)) hx hb dL_isLeastSo_56 (clA _ hf6.1 _ hf6.2) ?_
          refine j_if_ne (tgt := 64) hx hb dL_isLeastSo_57 (by decide) (fun c21 => ?_) (fun c21 => ?_) (by omega)
          · skip
            have hcl : ¬ (fbN (aD u0).1 i 6 = 0 ∧ sbN (aD u0).1 i 6 = 0) := fun q => by have := or_z.mpr q; omega
            refine j_const hx hb dL_isLeastSo_64 ?_
            refine lv_istore (lv' := [(5, .int (iv 0)), (4, .int (iv z11)), (0, .ref x), (1, .int (iv lp)), (2, .int (iv 1)), (3, .int (iv i))]) hx hb dL_isLeastSo_65 hl (by decide) rfl (fun ls hl => ?_)
            refine lv_iload_n hx hb dL_isLeastSo_67 rfl (lv_at hl 4 rfl) ?_
            refine j_if_eq (tgt := 109) hx hb dL_isLeastSo_68 (by decide) (fun c22 => absurd c22 (by omega)) (fun c22 => ?_) (by omega)
            refine lv_iload hx hb dL_isLeastSo_71 (lv_at hl 1 rfl) ?_
            refine j_if_lt (tgt := 109) hx hb dL_isLeastSo_73 (by decide) (fun c23 => absurd c23 (by omega)) (fun c23 => ?_) (by omega)
            refine lv_iload_n hx hb dL_isLeastSo_76 rfl (lv_at hl 3 rfl) ?_
            refine j_bipush hx hb dL_isLeastSo_77 ?_ (by decide)
            refine j_icmp_eq (tgt := 87) hx hb dL_isLeastSo_79 (by decide) (fun c24 => ?_) (fun c24 => ?_) (by omega) (by omega)
            · skip
              refine lv_iload hx hb dL_isLeastSo_87 (lv_at hl 0 rfl) ?_
              refine j_if_ne (tgt := 109) hx hb dL_isLeastSo_89 (by decide) (fun c25 => absurd c25 (by omega)) (fun c25 => ?_) (by omega)
              refine lv_goto (tgt := 105) hx hb dL_isLeastSo_92 (by decide) ?_
              refine j_const hx hb dL_isLeastSo_105 ?_
              refine lv_goto (tgt := 110) hx hb dL_isLeastSo_106 (by decide) ?_
              refine lv_istore_n (lv' := [(2, .int (iv 1)), (5, .int (iv 0)), (4, .int (iv z11)), (0, .ref x), (1, .int (iv lp)), (3, .int (iv i))]) hx hb dL_isLeastSo_110 rfl hl (by decide) rfl (fun ls hl => ?_)
              refine lv_aload_n hx hb dL_isLeastSo_111 rfl (lv_at hl 3 rfl) ?_
              have hDo := hD
              refine m_callVi (As := []) (rest := []) ⟨hx, hb, hml, hown, hts⟩ hK hH hS (c_X8_undo l G μ8 n9 x rb u12 hD) (cwV 0 hts gL_isLeastSo_X8_undo rfl rfl rfl (by decide +kernel) ⟨(Nat.le_of_ble_eq_true rfl), (Nat.le_of_ble_eq_true rfl)⟩) hD.1 rfl rfl rfl rfl hl.1 (Nat.le_of_ble_eq_true rfl) dL_isLeastSo_112 ⟨(by show _ ≤ 9; omega), (by show _ ≤ 36; omega)⟩ (fun z29 μ26 n27 H locs hz29 hp28 hH hS => ?_)
              obtain ⟨hvz29, hD, hf1⟩ := hp28
              obtain ⟨u30, hu30⟩ : ∃ q : aS, q = (a_undo u12).1 := ⟨_, rfl⟩
              rw [← hu30] at hD
              have hU : UI u30 ((b0 + 1000 * (i - 1)) + 1000) := by rw [hu30]; exact hU.undo hDo.nN
              have hO := hD.okD
              have hun := undo_act (u := ul) (d := (prF (aD ul).1 i, chAdd (aD ul).2 ((aD ul).1 3) (rtF (aD ul).1 (dig ((aD ul).1 3)) i))) hnN
              rw [← hu12] at hun
              rw [← hu30, ← hvz29] at hun
              refine lv_istore (lv' := [(4, .int (iv z29)), (2, .int (iv 1)), (5, .int (iv 0)), (0, .ref x), (1, .int (iv lp)), (3, .int (iv i))]) hx hb dL_isLeastSo_115 hl (by decide) rfl (fun ls hl => ?_)
              refine j_iinc (lv' := [(3, .int (iv (i + 1))), (4, .int (iv z29)), (2, .int (iv 1)), (5, .int (iv 0)), (0, .ref x), (1, .int (iv lp))]) hx hb dL_isLeastSo_117 hl (k := 5) rfl (by decide) rfl (fun ls hl => ?_)
              refine lv_goto (tgt := 30) hx hb dL_isLeastSo_120 (by decide) ?_
              refine W.widen (k := (i + 1 - 1).toNat) (n := (4 * (i + 1 - 1)).toNat) (by omega) (by omega) ?_
              exact ih6 (i + 1) u30 μ26 n27 (by omega) hD (hU.mono (by omega)) (hun.1.trans hdu) (by omega) H locs ls hH hS (lv_sub hl [4, 5, 2, 0] rfl)
            · skip
              refine lv_iload_n hx hb dL_isLeastSo_82 rfl (lv_at hl 5 rfl) ?_
              refine lv_iload_n hx hb dL_isLeastSo_83 rfl (lv_at hl 3 rfl) ?_
              refine j_icmp_ge (tgt := 95) hx hb dL_isLeastSo_84 (by decide) (fun c31 => ?_) (fun c31 => ?_) (by omega) (by omega)
              · skip
                refine lv_iload_n hx hb dL_isLeastSo_95 rfl (lv_at hl 5 rfl) ?_
                refine lv_iload_n hx hb dL_isLeastSo_96 rfl (lv_at hl 3 rfl) ?_
                refine j_icmp_ne (tgt := 105) hx hb dL_isLeastSo_97 (by decide) (fun c32 => ?_) (fun c32 => ?_) (by omega) (by omega)
                · skip
                  refine j_const hx hb dL_isLeastSo_105 ?_
                  refine lv_goto (tgt := 110) hx hb dL_isLeastSo_106 (by decide) ?_
                  refine lv_istore_n (lv' := [(2, .int (iv 1)), (5, .int (iv 0)), (4, .int (iv z11)), (0, .ref x), (1, .int (iv lp)), (3, .int (iv i))]) hx hb dL_isLeastSo_110 rfl hl (by decide) rfl (fun ls hl => ?_)
                  refine lv_aload_n hx hb dL_isLeastSo_111 rfl (lv_at hl 3 rfl) ?_
                  have hDo := hD
                  refine m_callVi (As := []) (rest := []) ⟨hx, hb, hml, hown, hts⟩ hK hH hS (c_X8_undo l G μ8 n9 x rb u12 hD) (cwV 0 hts gL_isLeastSo_X8_undo rfl rfl rfl (by decide +kernel) ⟨(Nat.le_of_ble_eq_true rfl), (Nat.le_of_ble_eq_true rfl)⟩) hD.1 rfl rfl rfl rfl hl.1 (Nat.le_of_ble_eq_true rfl) dL_isLeastSo_112 ⟨(by show _ ≤ 9; omega), (by show _ ≤ 36; omega)⟩ (fun z36 μ33 n34 H locs hz36 hp35 hH hS => ?_)
                  obtain ⟨hvz36, hD, hf1⟩ := hp35
                  obtain ⟨u37, hu37⟩ : ∃ q : aS, q = (a_undo u12).1 := ⟨_, rfl⟩
                  rw [← hu37] at hD
                  have hU : UI u37 ((b0 + 1000 * (i - 1)) + 1000) := by rw [hu37]; exact hU.undo hDo.nN
                  have hO := hD.okD
                  have hun := undo_act (u := ul) (d := (prF (aD ul).1 i, chAdd (aD ul).2 ((aD ul).1 3) (rtF (aD ul).1 (dig ((aD ul).1 3)) i))) hnN
                  rw [← hu12] at hun
                  rw [← hu37, ← hvz36] at hun
                  refine lv_istore (lv' := [(4, .int (iv z36)), (2, .int (iv 1)), (5, .int (iv 0)), (0, .ref x), (1, .int (iv lp)), (3, .int (iv i))]) hx hb dL_isLeastSo_115 hl (by decide) rfl (fun ls hl => ?_)
                  refine j_iinc (lv' := [(3, .int (iv (i + 1))), (4, .int (iv z36)), (2, .int (iv 1)), (5, .int (iv 0)), (0, .ref x), (1, .int (iv lp))]) hx hb dL_isLeastSo_117 hl (k := 5) rfl (by decide) rfl (fun ls hl => ?_)
                  refine lv_goto (tgt := 30) hx hb dL_isLeastSo_120 (by decide) ?_
                  refine W.widen (k := (i + 1 - 1).toNat) (n := (4 * (i + 1 - 1)).toNat) (by omega) (by omega) ?_
                  exact ih6 (i + 1) u37 μ33 n34 (by omega) hD (hU.mono (by omega)) (hun.1.trans hdu) (by omega) H locs ls hH hS (lv_sub hl [4, 5, 2, 0] rfl)
                · skip
                  refine lv_iload hx hb dL_isLeastSo_100 (lv_at hl 0 rfl) ?_
                  refine j_if_eq (tgt := 109) hx hb dL_isLeastSo_102 (by decide) (fun c38 => ?_) (fun c38 => absurd c38 (by omega)) (by omega)
                  exfalso
                  rcases hsp with ⟨h1, h2⟩ | ⟨⟨h1a, h1b⟩, h2, h3⟩
                  · omega
                  · exact hcl (by rw [show i = lp by omega]; exact h2)
              · skip
                refine lv_iload hx hb dL_isLeastSo_87 (lv_at hl 0 rfl) ?_
                refine j_if_ne (tgt := 109) hx hb dL_isLeastSo_89 (by decide) (fun c39 => absurd c39 (by omega)) (fun c39 => ?_) (by omega)
                refine lv_goto (tgt := 105) hx hb dL_isLeastSo_92 (by decide) ?_
                refine j_const hx hb dL_isLeastSo_105 ?_
                refine lv_goto (tgt := 110) hx hb dL_isLeastSo_106 (by decide) ?_
                refine lv_istore_n (lv' := [(2, .int (iv 1)), (5, .int (iv 0)), (4, .int (iv z11)), (0, .ref x), (1, .int (iv lp)), (3, .int (iv i))]) hx hb dL_isLeastSo_110 rfl hl (by decide) rfl (fun ls hl => ?_)
                refine lv_aload_n hx hb dL_isLeastSo_111 rfl (lv_at hl 3 rfl) ?_
                have hDo := hD
                refine m_callVi (As := []) (rest := []) ⟨hx, hb, hml, hown, hts⟩ hK hH hS (c_X8_undo l G μ8 n9 x rb u12 hD) (cwV 0 hts gL_isLeastSo_X8_undo rfl rfl rfl (by decide +kernel) ⟨(Nat.le_of_ble_eq_true rfl), (Nat.le_of_ble_eq_true rfl)⟩) hD.1 rfl rfl rfl rfl hl.1 (Nat.le_of_ble_eq_true rfl) dL_isLeastSo_112 ⟨(by show _ ≤ 9; omega), (by show _ ≤ 36; omega)⟩ (fun z43 μ40 n41 H locs hz43 hp42 hH hS => ?_)
                obtain ⟨hvz43, hD, hf1⟩ := hp42
                obtain ⟨u44, hu44⟩ : ∃ q : aS, q = (a_undo u12).1 := ⟨_, rfl⟩
                rw [← hu44] at hD
                have hU : UI u44 ((b0 + 1000 * (i - 1)) + 1000) := by rw [hu44]; exact hU.undo hDo.nN
                have hO := hD.okD
                have hun := undo_act (u := ul) (d := (prF (aD ul).1 i, chAdd (aD ul).2 ((aD ul).1 3) (rtF (aD ul).1 (dig ((aD ul).1 3)) i))) hnN
                rw [← hu12] at hun
                rw [← hu44, ← hvz43] at hun
                refine lv_istore (lv' := [(4, .int (iv z43)), (2, .int (iv 1)), (5, .int (iv 0)), (0, .ref x), (1, .int (iv lp)), (3, .int (iv i))]) hx hb dL_isLeastSo_115 hl (by decide) rfl (fun ls hl => ?_)
                refine j_iinc (lv' := [(3, .int (iv (i + 1))), (4, .int (iv z43)), (2, .int (iv 1)), (5, .int (iv 0)), (0, .ref x), (1, .int (iv lp))]) hx hb dL_isLeastSo_117 hl (k := 5) rfl (by decide) rfl (fun ls hl => ?_)
                refine lv_goto (tgt := 30) hx hb dL_isLeastSo_120 (by decide) ?_
                refine W.widen (k := (i + 1 - 1).toNat) (n := (4 * (i + 1 - 1)).toNat) (by omega) (by omega) ?_
                exact ih6 (i + 1) u44 μ40 n41 (by omega) hD (hU.mono (by omega)) (hun.1.trans hdu) (by omega) H locs ls hH hS (lv_sub hl [4, 5, 2, 0] rfl)
          · skip
            have hcl : (fbN (aD u0).1 i 6 = 0 ∧ sbN (aD u0).1 i 6 = 0) := or_z.mp (by omega)
            refine j_const hx hb dL_isLeastSo_60 ?_
            refine lv_goto (tgt := 65) hx hb dL_isLeastSo_61 (by decide) ?_
            refine lv_istore (lv' := [(5, .int (iv 1)), (4, .int (iv z11)), (0, .ref x), (1, .int (iv lp)), (2, .int (iv 1)), (3, .int (iv i))]) hx hb dL_isLeastSo_65 hl (by decide) rfl (fun ls hl => ?_)
            refine lv_iload_n hx hb dL_isLeastSo_67 rfl (lv_at hl 4 rfl) ?_
            refine j_if_eq (tgt := 109) hx hb dL_isLeastSo_68 (by decide) (fun c45 => absurd c45 (by omega)) (fun c45 => ?_) (by omega)
            refine lv_iload hx hb dL_isLeastSo_71 (lv_at hl 1 rfl) ?_
            refine j_if_lt (tgt := 109) hx hb dL_isLeastSo_73 (by decide) (fun c46 => absurd c46 (by omega)) (fun c46 => ?_) (by omega)
            refine lv_iload_n hx hb dL_isLeastSo_76 rfl (lv_at hl 3 rfl) ?_
            refine j_bipush hx hb dL_isLeastSo_77 ?_ (by decide)
            refine j_icmp_eq (tgt := 87) hx hb dL_isLeastSo_79 (by decide) (fun c47 => ?_) (fun c47 => ?_) (by omega) (by omega)
            · skip
              refine lv_iload hx hb dL_isLeastSo_87 (lv_at hl 0 rfl) ?_
              refine j_if_ne (tgt := 109) hx hb dL_isLeastSo_89 (by decide) (fun c48 => ?_) (fun c48 => absurd c48 (by omega)) (by omega)
              exfalso
              rcases hsp with ⟨h1, h2⟩ | ⟨⟨h1a, h1b⟩, h2, h3⟩
              · exact h2 i (by omega) (by omega) hcl
              · exact h3 i (by omega) (by omega) hcl
            · skip
              refine lv_iload_n hx hb dL_isLeastSo_82 rfl (lv_at hl 5 rfl) ?_
              refine lv_iload_n hx hb dL_isLeastSo_83 rfl (lv_at hl 3 rfl) ?_
              refine j_icmp_ge (tgt := 95) hx hb dL_isLeastSo_84 (by decide) (fun c49 => ?_) (fun c49 => ?_) (by omega) (by omega)
              · skip
                refine lv_iload_n hx hb dL_isLeastSo_95 rfl (lv_at hl 5 rfl) ?_
                refine lv_iload_n hx hb dL_isLeastSo_96 rfl (lv_at hl 3 rfl) ?_
                refine j_icmp_ne (tgt := 105) hx hb dL_isLeastSo_97 (by decide) (fun c50 => ?_) (fun c50 => ?_) (by omega) (by omega)
                · skip
                  refine j_const hx hb dL_isLeastSo_105 ?_
                  refine lv_goto (tgt := 110) hx hb dL_isLeastSo_106 (by decide) ?_
                  refine lv_istore_n (lv' := [(2, .int (iv 1)), (5, .int (iv 1)), (4, .int (iv z11)), (0, .ref x), (1, .int (iv lp)), (3, .int (iv i))]) hx hb dL_isLeastSo_110 rfl hl (by decide) rfl (fun ls hl => ?_)
                  refine lv_aload_n hx hb dL_isLeastSo_111 rfl (lv_at hl 3 rfl) ?_
                  have hDo := hD
                  refine m_callVi (As := []) (rest := []) ⟨hx, hb, hml, hown, hts⟩ hK hH hS (c_X8_undo l G μ8 n9 x rb u12 hD) (cwV 0 hts gL_isLeastSo_X8_undo rfl rfl rfl (by decide +kernel) ⟨(Nat.le_of_ble_eq_true rfl), (Nat.le_of_ble_eq_true rfl)⟩) hD.1 rfl rfl rfl rfl hl.1 (Nat.le_of_ble_eq_true rfl) dL_isLeastSo_112 ⟨(by show _ ≤ 9; omega), (by show _ ≤ 36; omega)⟩ (fun z54 μ51 n52 H locs hz54 hp53 hH hS => ?_)
                  obtain ⟨hvz54, hD, hf1⟩ := hp53
                  obtain ⟨u55, hu55⟩ : ∃ q : aS, q = (a_undo u12).1 := ⟨_, rfl⟩
                  rw [← hu55] at hD
                  have hU : UI u55 ((b0 + 1000 * (i - 1)) + 1000) := by rw [hu55]; exact hU.undo hDo.nN
                  have hO := hD.okD
                  have hun := undo_act (u := ul) (d := (prF (aD ul).1 i, chAdd (aD ul).2 ((aD ul).1 3) (rtF (aD ul).1 (dig ((aD ul).1 3)) i))) hnN
                  rw [← hu12] at hun
                  rw [← hu55, ← hvz54] at hun
                  refine lv_istore (lv' := [(4, .int (iv z54)), (2, .int (iv 1)), (5, .int (iv 1)), (0, .ref x), (1, .int (iv lp)), (3, .int (iv i))]) hx hb dL_isLeastSo_115 hl (by decide) rfl (fun ls hl => ?_)
                  refine j_iinc (lv' := [(3, .int (iv (i + 1))), (4, .int (iv z54)), (2, .int (iv 1)), (5, .int (iv 1)), (0, .ref x), (1, .int (iv lp))]) hx hb dL_isLeastSo_117 hl (k := 5) rfl (by decide) rfl (fun ls hl => ?_)
                  refine lv_goto (tgt := 30) hx hb dL_isLeastSo_120 (by decide) ?_
                  refine W.widen (k := (i + 1 - 1).toNat) (n := (4 * (i + 1 - 1)).toNat) (by omega) (by omega) ?_
                  exact ih6 (i + 1) u55 μ51 n52 (by omega) hD (hU.mono (by omega)) (hun.1.trans hdu) (by omega) H locs ls hH hS (lv_sub hl [4, 5, 2, 0] rfl)
                · skip
                  refine lv_iload hx hb dL_isLeastSo_100 (lv_at hl 0 rfl) ?_
                  refine j_if_eq (tgt := 109) hx hb dL_isLeastSo_102 (by decide) (fun c56 => absurd c56 (by omega)) (fun c56 => ?_) (by omega)
                  refine j_const hx hb dL_isLeastSo_105 ?_
                  refine lv_goto (tgt := 110) hx hb dL_isLeastSo_106 (by decide) ?_
                  refine lv_istore_n (lv' := [(2, .int (iv 1)), (5, .int (iv 1)), (4, .int (iv z11)), (0, .ref x), (1, .int (iv lp)), (3, .int (iv i))]) hx hb dL_isLeastSo_110 rfl hl (by decide) rfl (fun ls hl => ?_)
                  refine lv_aload_n hx hb dL_isLeastSo_111 rfl (lv_at hl 3 rfl) ?_
                  have hDo := hD
                  refine m_callVi (As := []) (rest := []) ⟨hx, hb, hml, hown, hts⟩ hK hH hS (c_X8_undo l G μ8 n9 x rb u12 hD) (cwV 0 hts gL_isLeastSo_X8_undo rfl rfl rfl (by decide +kernel) ⟨(Nat.le_of_ble_eq_true rfl), (Nat.le_of_ble_eq_true rfl)⟩) hD.1 rfl rfl rfl rfl hl.1 (Nat.le_of_ble_eq_true rfl) dL_isLeastSo_112 ⟨(by show _ ≤ 9; omega), (by show _ ≤ 36; omega)⟩ (fun z60 μ57 n58 H locs hz60 hp59 hH hS => ?_)
                  obtain ⟨hvz60, hD, hf1⟩ := hp59
                  obtain ⟨u61, hu61⟩ : ∃ q : aS, q = (a_undo u12).1 := ⟨_, rfl⟩
                  rw [← hu61] at hD
                  have hU : UI u61 ((b0 + 1000 * (i - 1)) + 1000) := by rw [hu61]; exact hU.undo hDo.nN
                  have hO := hD.okD
                  have hun := undo_act (u := ul) (d := (prF (aD ul).1 i, chAdd (aD ul).2 ((aD ul).1 3) (rtF (aD ul).1 (dig ((aD ul).1 3)) i))) hnN
                  rw [← hu12] at hun
                  rw [← hu61, ← hvz60] at hun
                  refine lv_istore (lv' := [(4, .int (iv z60)), (2, .int (iv 1)), (5, .int (iv 1)), (0, .ref x), (1, .int (iv lp)), (3, .int (iv i))]) hx hb dL_isLeastSo_115 hl (by decide) rfl (fun ls hl => ?_)
                  refine j_iinc (lv' := [(3, .int (iv (i + 1))), (4, .int (iv z60)), (2, .int (iv 1)), (5, .int (iv 1)), (0, .ref x), (1, .int (iv lp))]) hx hb dL_isLeastSo_117 hl (k := 5) rfl (by decide) rfl (fun ls hl => ?_)
                  refine lv_goto (tgt := 30) hx hb dL_isLeastSo_120 (by decide) ?_
                  refine W.widen (k := (i + 1 - 1).toNat) (n := (4 * (i + 1 - 1)).toNat) (by omega) (by omega) ?_
                  exact ih6 (i + 1) u61 μ57 n58 (by omega) hD (hU.mono (by omega)) (hun.1.trans hdu) (by omega) H locs ls hH hS (lv_sub hl [4, 5, 2, 0] rfl)
              · skip
                refine lv_iload hx hb dL_isLeastSo_87 (lv_at hl 0 rfl) ?_
                refine j_if_ne (tgt := 109) hx hb dL_isLeastSo_89 (by decide) (fun c62 => ?_) (fun c62 => absurd c62 (by omega)) (by omega)
                exfalso
                rcases hsp with ⟨h1, h2⟩ | ⟨⟨h1a, h1b⟩, h2, h3⟩
                · exact h2 i (by omega) (by omega) hcl
                · exact h3 i (by omega) (by omega) hcl
    refine W.widen (k := ((1 : Int) - 1).toNat) (n := (4 * ((1 : Int) - 1)).toNat) (by omega) (by omega) ?_
    exact lp30 (11) 1 u0 μ n (by omega) hD (hU.mono (by omega)) rfl (by omega) H locs ls hH hS (lv_sub hl [3, 2, 1, 0] rfl)
  refine j_icmp_eq (tgt := 22) hx hb dL_isLeastSo_8 (by decide) (fun c63 => ?_) (fun c63 => ?_) (by omega) (by omega)
  · skip
    refine j_const hx hb dL_isLeastSo_22 ?_
    refine lv_goto (tgt := 27) hx hb dL_isLeastSo_23 (by decide) ?_
    exact jn27_5 H locs ls hH hS (lv_sub hl [0, 1] rfl)
  · skip
    refine lv_iload_n hx hb dL_isLeastSo_11 rfl (lv_at hl 0 rfl) ?_
    refine j_const hx hb dL_isLeastSo_12 ?_
    refine j_icmp_lt (tgt := 26) hx hb dL_isLeastSo_13 (by decide) (fun c64 => absurd c64 (by omega)) (fun c64 => ?_) (by omega) (by omega)
    refine lv_iload_n hx hb dL_isLeastSo_16 rfl (lv_at hl 0 rfl) ?_
    refine j_bipush hx hb dL_isLeastSo_17 ?_ (by decide)
    refine j_icmp_gt (tgt := 26) hx hb dL_isLeastSo_19 (by decide) (fun c65 => absurd c65 (by omega)) (fun c65 => ?_) (by omega) (by omega)
    refine j_const hx hb dL_isLeastSo_22 ?_
    refine lv_goto (tgt := 27) hx hb dL_isLeastSo_23 (by decide) ?_
    exact jn27_5 H locs ls hH hS (lv_sub hl [0, 1] rfl)
