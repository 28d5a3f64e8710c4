abbrev rm_c_L_lastsSo : Room := { frames := 7, cells := 6, slots := 24, locals := 165 }
set_option maxHeartbeats 4000000 in
set_option maxRecDepth 100000 in
theorem c_L_lastsSo (l : Launch) (G : wG) (μ : hM) (n : Nat) (x rb : Nat) (u0 : aS) (b0 : Int) (k t : Int) (hD : IsD G μ x rb u0) (hU : UI u0 b0) (hb0 : 0 ≤ b0 ∧ b0 ≤ 500000000) (hk : 1 ≤ k ∧ k ≤ 9) (ht : 1 ≤ t ∧ t ≤ 4) : Met l yL_lastsSo wsL_lastsSo rm_c_L_lastsSo (mPc G μ n [.ref x, .int (iv k), .int (iv t)]) (mQi G (fun z μ1 n1 => z = 1 ∧ ∃ u1 : aS, IsD G μ1 x rb u1 ∧ UI u1 (b0 + 40000))) 6 24 (gA G) := by
  refine Met.ofW (cc := cL_lastsSo) (maxL := 11) (ret := (some .boolean)) (by decide) rfl ?_
  intro p e s m args below meth c s₁ B hml hv
  obtain ⟨hav, hK, hH⟩ := hv
  have hx := B.exec
  have hb := B.bytes
  have hr := B.returns
  have hts := atoms_spec (ws := wsL_lastsSo) B.pre
  have hown : s.vm.findClass RL = some m.cls := findClass_of_methodNamed B.named
  have hlocks := B.notSynchronized
  have hS : va_S (gA G) s.heap s.heap [] := va_S.rf
  have hl := lv_entry ([.ref x, .int (iv k), .int (iv t)]) (n := 11) (Nat.le_of_ble_eq_true rfl)
  have hfr : entryFrame m args 11 = entryFrame m ([.ref x, .int (iv k), .int (iv t)] : List Value).toArray 11 := by rw [hav]
  rw [hfr, lg_entry_eq]
  generalize (lg_sl ([.ref x, .int (iv k), .int (iv t)]) ++ List.replicate (11 - (lg_sl ([.ref x, .int (iv k), .int (iv t)])).length) Slot.unset).toArray = ls at hl ⊢
  have hl : lv_has ls 11 [(0, .ref x), (1, .int (iv k)), (2, .int (iv t))] := hl
  generalize hQ : MQ below _ args s 6 24 (gA G) = Q
  show W p l e rm_c_L_lastsSo s m args below meth c s.heap [] 0 0 Q (F0 m 0 ls [])
  obtain ⟨H, hHe⟩ : ∃ H, H = s.heap := ⟨_, rfl⟩
  obtain ⟨locs, hlo⟩ : ∃ q : List Loc, q = [] := ⟨_, rfl⟩
  have hH : gP G μ n H := by rw [hHe]; exact hH
  have hS : va_S (gA G) s.heap H locs := by rw [hHe, hlo]; exact hS
  suffices hgo : W p l e rm_c_L_lastsSo s m args below meth c H locs 0 0 Q (F0 m 0 ls []) by rw [hHe, hlo] at hgo; exact hgo
  clear hHe hlo hfr hav
  have f_0 := hts (.constant RL 57 (36524)) (List.mem_of_getElem? (i := 1) rfl)
  have hO := hD.okD
  obtain ⟨L, hL⟩ : ∃ q : Int, q = lasF (aD u0).1 k t := ⟨_, rfl⟩
  have hLr := lasF_rng (aD u0).1 k t
  rw [← hL] at hLr
  obtain ⟨dy, hdy⟩ : ∃ q : Int, q = if L = 200 then -5 else L := ⟨_, rfl⟩
  have hdv : (L = 200 ∧ dy = -5) ∨ (¬ L = 200 ∧ dy = L) := ite_or hdy
  obtain ⟨en, hen⟩ : ∃ q : Int, q = if dy = -5 ∨ 5 < dy then 5 else dy := ⟨_, rfl⟩
  have hev : ((dy = -5 ∨ 5 < dy) ∧ en = 5) ∨ (¬ (dy = -5 ∨ 5 < dy) ∧ en = dy) := ite_or hen
  clear hdy hen
  have hi04 := hO.1.1.2.2.2.1
  have hi03 := hO.1.2.1
  have hO0 := hO.1.1
  refine lv_aload_n hx hb dL_lastsSo_0 rfl (lv_at hl 0 rfl) ?_
  refine lv_iload_n hx hb dL_lastsSo_1 rfl (lv_at hl 1 rfl) ?_
  refine lv_iload_n hx hb dL_lastsSo_2 rfl (lv_at hl 2 rfl) ?_
  refine m_callVi (As := [.int (iv k), .int (iv t)]) (rest := []) ⟨hx, hb, hml, hown, hts⟩ hK hH hS (c_X8_lasts l G μ n x rb u0 k t hD (by omega) (by omega)) (cwV 2 hts gL_lastsSo_X8_lasts rfl rfl rfl (by decide +kernel) ⟨(Nat.le_of_ble_eq_true rfl), (Nat.le_of_ble_eq_true rfl)⟩) hD.1 rfl rfl rfl rfl hl.1 (Nat.le_of_ble_eq_true rfl) dL_lastsSo_3 ⟨Nat.zero_le _, Nat.zero_le _⟩ (fun z4 μ1 n2 H locs hz4 hp3 hH hS => ?_)
  obtain ⟨hz2, hD, hf1⟩ := hp3
  have hz2 := hz2.trans (show a_lasts (aD u0).1 k t = dy from (las_of hk (by omega)).trans (by rw [← hL]; exact ite_of hdv))
  rw [hz2] at hz4
  rw [hz2]
  clear hz2
  refine lv_istore_n (lv' := [(3, .int (iv dy)), (0, .ref x), (1, .int (iv k)), (2, .int (iv t))]) hx hb dL_lastsSo_6 rfl hl (by decide) rfl (fun ls hl => ?_)
  refine lv_aload_n hx hb dL_lastsSo_7 rfl (lv_at hl 1 rfl) ?_
  refine j_const hx hb dL_lastsSo_8 ?_
  refine m_callVi (As := [.int (iv 1)]) (rest := []) ⟨hx, hb, hml, hown, hts⟩ hK hH hS (c_X8_count l G μ1 n2 x rb u0 1 hD (by omega)) (cwV 1 hts gL_lastsSo_X8_count rfl rfl rfl (by decide +kernel) ⟨(Nat.le_of_ble_eq_true rfl), (Nat.le_of_ble_eq_true rfl)⟩) hD.1 rfl rfl rfl rfl hl.1 (Nat.le_of_ble_eq_true rfl) dL_lastsSo_9 ⟨Nat.zero_le _, Nat.zero_le _⟩ (fun z8 μ5 n6 H locs hz8 hp7 hH hS => ?_)
  obtain ⟨hz2, hm2, hn2⟩ := hp7
  have hz2 := hz2.trans (show a_count u0 1 = ((aD u0).1 4) from cnt_1 u0)
  rw [hm2, hn2] at hH
  rw [hz2] at hz8
  rw [hz2]
  clear hz2 hm2 hn2
  refine lv_istore (lv' := [(4, .int (iv ((aD u0).1 4))), (3, .int (iv dy)), (0, .ref x), (1, .int (iv k)), (2, .int (iv t))]) hx hb dL_lastsSo_12 hl (by decide) rfl (fun ls hl => ?_)
  refine lv_aload_n hx hb dL_lastsSo_14 rfl (lv_at hl 2 rfl) ?_
  have hDo := hD
  refine m_callVi (As := []) (rest := []) ⟨hx, hb, hml, hown, hts⟩ hK hH hS (c_X8_keep l G μ1 n2 x rb u0 hD) (cwV 0 hts gL_lastsSo_X8_keep rfl rfl rfl (by decide +kernel) ⟨(Nat.le_of_ble_eq_true rfl), (Nat.le_of_ble_eq_true rfl)⟩) hD.1 rfl rfl rfl rfl hl.1 (Nat.le_of_ble_eq_true rfl) dL_lastsSo_15 ⟨Nat.zero_le _, Nat.zero_le _⟩ (fun z12 μ9 n10 H locs hz12 hp11 hH hS => ?_)
  obtain ⟨hvz12, hD, hf1⟩ := hp11
  obtain ⟨u13, hu13⟩ : ∃ q : aS, q = (a_keep u0).1 := ⟨_, rfl⟩
  rw [← hu13] at hD
  have hU : UI u13 b0 := by rw [hu13]; exact hU.keep
  have hO := hD.okD
  have hk0 : aD u13 = aD u0 := by rw [hu13]; rfl
  have hkk : (aK u13).1 3 = (aD u0).1 3 ∧ (aK u13).1 4 = (aD u0).1 4 ∧ aT u13 = 1 := by rw [hu13]; exact ⟨rfl, rfl, rfl⟩
  have hvz12 : z12 = (aD u0).1 3 := hvz12
  rw [hvz12]
  rw [hvz12] at hz12
  refine lv_istore (lv' := [(5, .int (iv ((aD u0).1 3))), (4, .int (iv ((aD u0).1 4))), (3, .int (iv dy)), (0, .ref x), (1, .int (iv k)), (2, .int (iv t))]) hx hb dL_lastsSo_18 hl (by decide) rfl (fun ls hl => ?_)
  refine lv_iload_n hx hb dL_lastsSo_20 rfl (lv_at hl 2 rfl) ?_
  refine j_bipush hx hb dL_lastsSo_21 ?_ (by decide)
  have jn36_14 : ∀ (H : Heap) (locs : List Loc) (ls : Array Slot) (_ : gP G μ9 n10 H) (_ : va_S (gA G) s.heap H locs) (_ : lv_has ls 11 [(5, .int (iv ((aD u0).1 3))), (4, .int (iv ((aD u0).1 4))), (3, .int (iv dy)), (0, .ref x), (1, .int (iv k)), (2, .int (iv t))]), W p l e rm_c_L_lastsSo s m args below meth c H locs 0 0 Q (F0 m 36 ls [.int (iv en)]) := by
    intro H locs ls hH hS hl
    refine lv_istore (lv' := [(6, .int (iv en)), (5, .int (iv ((aD u0).1 3))), (4, .int (iv ((aD u0).1 4))), (3, .int (iv dy)), (0, .ref x), (1, .int (iv k)), (2, .int (iv t))]) hx hb dL_lastsSo_36 hl (by decide) rfl (fun ls hl => ?_)
    refine lv_iload_n hx hb dL_lastsSo_38 rfl (lv_at hl 3 rfl) ?_
    refine j_bipush hx hb dL_lastsSo_39 ?_ (by decide)
    have jn60_15 : ∀ (H : Heap) (locs : List Loc) (ls : Array Slot) (_ : gP G μ9 n10 H) (_ : va_S (gA G) s.heap H locs) (_ : lv_has ls 11 [(6, .int (iv en)), (5, .int (iv ((aD u0).1 3))), (4, .int (iv ((aD u0).1 4))), (3, .int (iv dy)), (0, .ref x), (1, .int (iv k)), (2, .int (iv t))]), W p l e rm_c_L_lastsSo s m args below meth c H locs 0 0 Q (F0 m 60 ls [.int (iv 1)]) := by
      intro H locs ls hH hS hl
      refine lv_istore (lv' := [(7, .int (iv 1)), (6, .int (iv en)), (5, .int (iv ((aD u0).1 3))), (4, .int (iv ((aD u0).1 4))), (3, .int (iv dy)), (0, .ref x), (1, .int (iv k)), (2, .int (iv t))]) hx hb dL_lastsSo_60 hl (by decide) rfl (fun ls hl => ?_)
      refine j_const hx hb dL_lastsSo_62 ?_
      refine lv_istore (lv' := [(8, .int (iv 0)), (7, .int (iv 1)), (6, .int (iv en)), (5, .int (iv ((aD u0).1 3))), (4, .int (iv ((aD u0).1 4))), (3, .int (iv dy)), (0, .ref x), (1, .int (iv k)), (2, .int (iv t))]) hx hb dL_lastsSo_63 hl (by decide) rfl (fun ls hl => ?_)
      have lp65 : ∀ (fuel : Nat) (i : Int) (ul : aS) (ν : hM) (ν0 : Nat) (hi : 0 ≤ i ∧ i ≤ en + 1) (hD : IsD G ν x rb ul) (hU : UI ul (b0 + 5000 * i)) (hkk : (aK ul).1 3 = (aD u0).1 3 ∧ (aK ul).1 4 = (aD u0).1 4 ∧ aT ul = 1) (hJ : i ≤ en → ((aD ul).1 3 = (aD u0).1 3 + i ∧ (aD ul).1 4 = (aD u0).1 4 ∧ LJ (aD u0).1 k t i (aD ul).1)) (_ : (6 - i).toNat < fuel) (H : Heap) (locs : List Loc) (ls : Array Slot) (_ : gP G ν ν0 H) (_ : va_S (gA G) s.heap H locs) (_ : lv_has ls 11 [(0, .ref x), (1, .int (iv k)), (2, .int (iv t)), (3, .int (iv dy)), (4, .int (iv ((aD u0).1 4))), (5, .int (iv ((aD u0).1 3))), (6, .int (iv en)), (7, .int (iv 1)), (8, .int (iv i))]), W p l e rm_c_L_lastsSo s m args below meth c H locs i.toNat (4 * i).toNat Q (F0 m 65 ls []) := by
        intro fuel
        induction fuel with
        | zero => intro _ _ _ _ _ _ _ _ _ hfuel; exact absurd hfuel (Nat.not_lt_zero _)
        | succ fuel ih =>
          intro i ul ν ν0 hi hD hU hkk hJ hfuel H locs ls hH hS hl
          have hO9 := hD.okD
          have hU5 := hU.1.2.2.2.1
          have ho3 := hO9.1.2.1
          have ho5 := hO9.1.2.2.1
          have ho4 := hO9.1.1.2.2.2.1
          obtain ⟨SL, hSL⟩ : ∃ q : Nat → Int, q = (aD ul).1 := ⟨_, rfl⟩
          rw [← hSL] at hJ hU5 ho3 ho4 ho5
          have hT9 : OkT SL := by rw [hSL]; exact hO9.1
          have ih16 := ih; clear ih
          refine lv_iload hx hb dL_lastsSo_65 (lv_at hl 8 rfl) ?_
          refine lv_iload hx hb dL_lastsSo_67 (lv_at hl 6 rfl) ?_
          refine j_icmp_gt (tgt := 221) hx hb dL_lastsSo_69 (by decide) (fun c17 => ?_) (fun c17 => ?_) (by omega) (by omega)
          · skip
            refine lv_iload hx hb dL_lastsSo_221 (lv_at hl 7 rfl) ?_
            refine j_if_eq (tgt := 249) hx hb dL_lastsSo_223 (by decide) (fun c18 => absurd c18 (by omega)) (fun c18 => ?_) (by omega)
            refine lv_aload_n hx hb dL_lastsSo_226 rfl (lv_at hl 0 rfl) ?_
            have hDo := hD
            refine m_callVi (As := []) (rest := []) ⟨hx, hb, hml, hown, hts⟩ hK hH hS (c_X8_restore l G ν ν0 x rb ul hD) (cwV 0 hts gL_lastsSo_X8_restore rfl rfl rfl (by decide +kernel) ⟨(Nat.le_of_ble_eq_true rfl), (Nat.le_of_ble_eq_true rfl)⟩) hD.1 rfl rfl rfl rfl hl.1 (Nat.le_of_ble_eq_true rfl) dL_lastsSo_227 ⟨(by show _ ≤ 6; omega), (by show _ ≤ 24; omega)⟩ (fun z22 μ19 n20 H locs hz22 hp21 hH hS => ?_)
            obtain ⟨hvz22, hD, hf1⟩ := hp21
            obtain ⟨u23, hu23⟩ : ∃ q : aS, q = (a_restore ul).1 := ⟨_, rfl⟩
            rw [← hu23] at hD
            have hU : UI u23 ((b0 + 5000 * i) + 1000) := by rw [hu23]; exact hU.restore
            have hO := hD.okD
            have hre := v_restore (u := ul) hkk.2.2
            have hvz22 : z22 = (aD u0).1 3 := by rw [hvz22, hre]; exact hkk.1
            have hr4 : (aD u23).1 4 = (aD u0).1 4 := by rw [hu23, hre]; exact hkk.2.1
            rw [hvz22]
            rw [hvz22] at hz22
            refine lv_iload hx hb dL_lastsSo_230 (lv_at hl 5 rfl) ?_
            refine j_icmp_ne (tgt := 249) hx hb dL_lastsSo_232 (by decide) (fun c24 => absurd c24 (by omega)) (fun c24 => ?_) (by omega) (by omega)
            refine lv_aload_n hx hb dL_lastsSo_235 rfl (lv_at hl 0 rfl) ?_
            refine j_const hx hb dL_lastsSo_236 ?_
            refine m_callVi (As := [.int (iv 1)]) (rest := []) ⟨hx, hb, hml, hown, hts⟩ hK hH hS (c_X8_count l G μ19 n20 x rb u23 1 hD (by omega)) (cwV 1 hts gL_lastsSo_X8_count rfl rfl rfl (by decide +kernel) ⟨(Nat.le_of_ble_eq_true rfl), (Nat.le_of_ble_eq_true rfl)⟩) hD.1 rfl rfl rfl rfl hl.1 (Nat.le_of_ble_eq_true rfl) dL_lastsSo_237 ⟨(by show _ ≤ 6; omega), (by show _ ≤ 24; omega)⟩ (fun z28 μ25 n26 H locs hz28 hp27 hH hS => ?_)
            obtain ⟨hz2, hm2, hn2⟩ := hp27
            have hz2 := hz2.trans (show a_count u23 1 = ((aD u0).1 4) from (cnt_1 u23).trans hr4)
            rw [hm2, hn2] at hH
            rw [hz2] at hz28
            rw [hz2]
            clear hz2 hm2 hn2
            refine lv_iload hx hb dL_lastsSo_240 (lv_at hl 4 rfl) ?_
            refine j_icmp_ne (tgt := 249) hx hb dL_lastsSo_242 (by decide) (fun c29 => absurd c29 (by omega)) (fun c29 => ?_) (by omega) (by omega)
            refine j_const hx hb dL_lastsSo_245 ?_
            refine lv_goto (tgt := 250) hx hb dL_lastsSo_246 (by decide) ?_
            refine W.widen (k := 6) (n := 24) (by omega) (by omega) ?_
            subst hQ
            refine m_zret hx hb hr hlocks hH hS dL_lastsSo_250 ?_ (by omega)
            exact ⟨rfl, u23, hD, hU.mono (by omega)⟩
          · skip
            refine lv_iload hx hb dL_lastsSo_72 (lv_at hl 7 rfl) ?_
            refine j_if_eq (tgt := 221) hx hb dL_lastsSo_74 (by decide) (fun c30 => absurd c30 (by omega)) (fun c30 => ?_) (by omega)
            refine lv_aload_n hx hb dL_lastsSo_77 rfl (lv_at hl 0 rfl) ?_
            refine j_const hx hb dL_lastsSo_78 ?_
            refine m_callVi (As := [.int (iv 0)]) (rest := []) ⟨hx, hb, hml, hown, hts⟩ hK hH hS (c_X8_count l G ν ν0 x rb ul 0 hD (by omega)) (cwV 1 hts gL_lastsSo_X8_count rfl rfl rfl (by decide +kernel) ⟨(Nat.le_of_ble_eq_true rfl), (Nat.le_of_ble_eq_true rfl)⟩) hD.1 rfl rfl rfl rfl hl.1 (Nat.le_of_ble_eq_true rfl) dL_lastsSo_79 ⟨(by show _ ≤ 6; omega), (by show _ ≤ 24; omega)⟩ (fun z34 μ31 n32 H locs hz34 hp33 hH hS => ?_)
            obtain ⟨hz2, hm2, hn2⟩ := hp33
            have hz2 := hz2.trans (show a_count ul 0 = (SL 3) from (cnt_0 ul).trans (by rw [hSL]))
            rw [hm2, hn2] at hH
            rw [hz2] at hz34
            rw [hz2]
            clear hz2 hm2 hn2
            refine j_ldc hx hb (36524) hown f_0 dL_lastsSo_82 ?_ (by decide)
            refine j_icmp_ge (tgt := 221) hx hb dL_lastsSo_84 (by decide) (fun c35 => ?_) (fun c35 => ?_) (by omega) (by omega)
            · skip
              refine lv_iload hx hb dL_lastsSo_221 (lv_at hl 7 rfl) ?_
              refine j_if_eq (tgt := 249) hx hb dL_lastsSo_223 (by decide) (fun c36 => absurd c36 (by omega)) (fun c36 => ?_) (by omega)
              refine lv_aload_n hx hb dL_lastsSo_226 rfl (lv_at hl 0 rfl) ?_
              have hDo := hD
              refine m_callVi (As := []) (rest := []) ⟨hx, hb, hml, hown, hts⟩ hK hH hS (c_X8_restore l G ν ν0 x rb ul hD) (cwV 0 hts gL_lastsSo_X8_restore rfl rfl rfl (by decide +kernel) ⟨(Nat.le_of_ble_eq_true rfl), (Nat.le_of_ble_eq_true rfl)⟩) hD.1 rfl rfl rfl rfl hl.1 (Nat.le_of_ble_eq_true rfl) dL_lastsSo_227 ⟨(by show _ ≤ 6; omega), (by show _ ≤ 24; omega)⟩ (fun z40 μ37 n38 H locs hz40 hp39 hH hS => ?_)
              obtain ⟨hvz40, hD, hf1⟩ := hp39
              obtain ⟨u41, hu41⟩ : ∃ q : aS, q = (a_restore ul).1 := ⟨_, rfl⟩
              rw [← hu41] at hD
              have hU : UI u41 ((b0 + 5000 * i) + 1000) := by rw [hu41]; exact hU.restore
              have hO := hD.okD
              have hre := v_restore (u := ul) hkk.2.2
              have hvz40 : z40 = (aD u0).1 3 := by rw [hvz40, hre]; exact hkk.1
              have hr4 : (aD u41).1 4 = (aD u0).1 4 := by rw [hu41, hre]; exact hkk.2.1
              rw [hvz40]
              rw [hvz40] at hz40
              refine lv_iload hx hb dL_lastsSo_230 (lv_at hl 5 rfl) ?_
              refine j_icmp_ne (tgt := 249) hx hb dL_lastsSo_232 (by decide) (fun c42 => absurd c42 (by omega)) (fun c42 => ?_) (by omega) (by omega)
              refine lv_aload_n hx hb dL_lastsSo_235 rfl (lv_at hl 0 rfl) ?_
              refine j_const hx hb dL_lastsSo_236 ?_
              refine m_callVi (As := [.int (iv 1)]) (rest := []) ⟨hx, hb, hml, hown, hts⟩ hK hH hS (c_X8_count l G μ37 n38 x rb u41 1 hD (by omega)) (cwV 1 hts gL_lastsSo_X8_count rfl rfl rfl (by decide +kernel) ⟨(Nat.le_of_ble_eq_true rfl), (Nat.le_of_ble_eq_true rfl)⟩) hD.1 rfl rfl rfl rfl hl.1 (Nat.le_of_ble_eq_true rfl) dL_lastsSo_237 ⟨(by show _ ≤ 6; omega), (by show _ ≤ 24; omega)⟩ (fun z46 μ43 n44 H locs hz46 hp45 hH hS => ?_)
              obtain ⟨hz2, hm2, hn2⟩ := hp45
              have hz2 := hz2.trans (show a_count u41 1 = ((aD u0).1 4) from (cnt_1 u41).trans hr4)
              rw [hm2, hn2] at hH
              rw [hz2] at hz46
              rw [hz2]
              clear hz2 hm2 hn2
              refine lv_iload hx hb dL_lastsSo_240 (lv_at hl 4 rfl) ?_
              refine j_icmp_ne (tgt := 249) hx hb dL_lastsSo_242 (by decide) (fun c47 => absurd c47 (by omega)) (fun c47 => ?_) (by omega) (by omega)
              refine j_const hx hb dL_lastsSo_245 ?_
              refine lv_goto (tgt := 250) hx hb dL_lastsSo_246 (by decide) ?_
              refine W.widen (k := 6) (n := 24) (by omega) (by omega) ?_
              subst hQ
              refine m_zret hx hb hr hlocks hH hS dL_lastsSo_250 ?_ (by omega)
              exact ⟨rfl, u41, hD, hU.mono (by omega)⟩
            · skip
              obtain ⟨hJ3, hJ4, hJL⟩ := hJ (by omega)
              have hst := hJL.step (t := t) hT9 hk (by omega) hJ3 (by omega) (by omega) (by omega) hi04
              rw [← hL] at hst
              refine lv_aload_n hx hb dL_lastsSo_87 rfl (lv_at hl 0 rfl) ?_
              refine lv_aload_n hx hb dL_lastsSo_88 rfl (lv_at hl 0 rfl) ?_
              refine j_const hx hb dL_lastsSo_89 ?_
              refine m_callVi (As := [.int (iv 0)]) (rest := [.ref x]) ⟨hx, hb, hml, hown, hts⟩ hK hH hS (c_X8_count l G ν ν0 x rb ul 0 hD (by omega)) (cwV 1 hts gL_lastsSo_X8_count rfl rfl rfl (by decide +kernel) ⟨(Nat.le_of_ble_eq_true rfl), (Nat.le_of_ble_eq_true rfl)⟩) hD.1 rfl rfl rfl rfl hl.1 (Nat.le_of_ble_eq_true rfl) dL_lastsSo_90 ⟨(by show _ ≤ 6; omega), (by show _ ≤ 24; omega)⟩ (fun z51 μ48 n49 H locs hz51 hp50 hH hS => ?_)
              obtain ⟨hz2, hm2, hn2⟩ := hp50
              have hz2 := hz2.trans (show a_count ul 0 = (SL 3) from (cnt_0 ul).trans (by rw [hSL]))
              rw [hm2, hn2] at hH
              rw [hz2] at hz51
              rw [hz2]
              clear hz2 hm2 hn2
              have hDo := hD
              refine m_callVi (As := [.int (iv (SL 3))]) (rest := []) ⟨hx, hb, hml, hown, hts⟩ hK hH hS (c_X8_adjust l G ν ν0 x rb ul (SL 3) hD (by omega)) (cwV 1 hts gL_lastsSo_X8_adjust rfl rfl rfl (by decide +kernel) ⟨(Nat.le_of_ble_eq_true rfl), (Nat.le_of_ble_eq_true rfl)⟩) hD.1 rfl rfl rfl rfl hl.1 (Nat.le_of_ble_eq_true rfl) dL_lastsSo_93 ⟨(by show _ ≤ 6; omega), (by show _ ≤ 24; omega)⟩ (fun z55 μ52 n53 H locs hz55 hp54 hH hS => ?_)
              obtain ⟨hvz55, hD, hf1⟩ := hp54
              obtain ⟨u56, hu56⟩ : ∃ q : aS, q = (a_adjust ul (SL 3)).1 := ⟨_, rfl⟩
              rw [← hu56] at hD
              have hU : UI u56 ((b0 + 5000 * i) + 1000) := by rw [hu56]; exact hU.adjust
              have hO := hD.okD
              have hvv : 0 ≤ z55 := by rw [hvz55, v_adjust (by omega)]; exact (wsm_rng _ _ 0 6).1
              have hu56 : u56 = aAct ul (adj SL (dig (SL 3)), (aD ul).2) := by rw [hu56, v_adjust (by omega), ← hSL]
              have hda : (aD u56).1 = adj SL (dig (SL 3)) := by first | (rw [hu56]; done) | (rw [hu56]; rfl)
              have hka : (aK u56).1 3 = (aD u0).1 3 ∧ (aK u56).1 4 = (aD u0).1 4 ∧ aT u56 = 1 := by rw [hu56]; exact hkk
              have ha3 : adj SL (dig (SL 3)) 3 = SL 3 := adj_st (by omega)
              have ha5 : adj SL (dig (SL 3)) 5 = SL 5 := adj_st (by omega)
              have ha4 : adj SL (dig (SL 3)) 4 = SL 4 := adj_ot (by omega) (by omega)
              have hd5 : (aD u56).1 5 = SL 5 := by rw [hda]; exact ha5
              refine lv_istore (lv' := [(9, .int (iv z55)), (0, .ref x), (1, .int (iv k)), (2, .int (iv t)), (3, .int (iv dy)), (4, .int (iv ((aD u0).1 4))), (5, .int (iv ((aD u0).1 3))), (6, .int (iv en)), (7, .int (iv 1)), (8, .int (iv i))]) hx hb dL_lastsSo_96 hl (by decide) rfl (fun ls hl => ?_)
              refine lv_aload_n hx hb dL_lastsSo_98 rfl (lv_at hl 1 rfl) ?_
              refine lv_iload_n hx hb dL_lastsSo_99 rfl (lv_at hl 2 rfl) ?_
              refine lv_iload_n hx hb dL_lastsSo_100 rfl (lv_at hl 3 rfl) ?_
              have hDo := hD
              refine m_callVi (As := [.int (iv k), .int (iv t)]) (rest := []) ⟨hx, hb, hml, hown, hts⟩ hK hH hS (c_X8_press l G μ52 n53 x rb u56 k t hD (by omega) (by omega) (by omega)) (cwV 2 hts gL_lastsSo_X8_press rfl rfl rfl (by decide +kernel) ⟨(Nat.le_of_ble_eq_true rfl), (Nat.le_of_ble_eq_true rfl)⟩) hD.1 rfl rfl rfl rfl hl.1 (Nat.le_of_ble_eq_true rfl) dL_lastsSo_101 ⟨(by show _ ≤ 6; omega), (by show _ ≤ 24; omega)⟩ (fun z60 μ57 n58 H locs hz60 hp59 hH hS => ?_)
              obtain ⟨hvz60, hD, hf1⟩ := hp59
              obtain ⟨u61, hu61⟩ : ∃ q : aS, q = (a_press u56 k t).1 := ⟨_, rfl⟩
              rw [← hu61] at hD
              have hU : UI u61 (((b0 + 5000 * i) + 1000) + 1000) := by rw [hu61]; exact hU.press hDo.okD (by omega)
              have hO := hD.okD
              have hpe := v_press2 (u := u56) hk (t := t) (by omega)
              rw [hda] at hpe
              have hvz60 : z60 = nRt (adj SL (dig (SL 3))) k t.toNat := by rw [hvz60, hpe]
              have hdp : (aD u61).1 = nPr (adj SL (dig (SL 3))) k t.toNat := by first | (rw [hu61, hpe]; done) | (rw [hu61, hpe]; rfl)
              have hkp : (aK u61).1 3 = (aD u0).1 3 ∧ (aK u61).1 4 = (aD u0).1 4 ∧ aT u61 = 1 := by rw [hu61, hpe]; exact hka
              have hOa := okT_adj hT9 (dig (SL 3))
              have h34 := nPr_4 hOa hk t.toNat (by omega)
              have h33 := nPr_3 hOa hk t.toNat (by omega)
              rw [ha4] at h34
              rw [ha3] at h33
              obtain ⟨c4, hc4⟩ : ∃ q : Int, q = (aD u61).1 4 := ⟨_, rfl⟩
              have hc4r : 0 ≤ c4 ∧ c4 ≤ SL 4 := by rw [hc4, hdp]; exact h34
              rw [← hvz60] at hst
              have hst0 : (z60 = t ∧ i + 1 ≤ L) ∨ (z60 ≠ t ∧ L = i) := hst.elim (fun q => Or.inl ⟨q.1, q.2.1⟩) Or.inr
              obtain ⟨pr, hpr⟩ : ∃ q : Int, q = z60 := ⟨_, rfl⟩
              refine lv_istore (lv' := [(10, .int (iv z60)), (9, .int (iv z55)), (0, .ref x), (1, .int (iv k)), (2, .int (iv t)), (3, .int (iv dy)), (4, .int (iv ((aD u0).1 4))), (5, .int (iv ((aD u0).1 3))), (6, .int (iv en)), (7, .int (iv 1)), (8, .int (iv i))]) hx hb dL_lastsSo_104 hl (by decide) rfl (fun ls hl => ?_)
              refine lv_iload hx hb dL_lastsSo_106 (lv_at hl 1 rfl) ?_
              refine j_if_lt (tgt := 146) hx hb dL_lastsSo_108 (by decide) (fun c62 => absurd c62 (by omega)) (fun c62 => ?_) (by omega)
              refine lv_iload hx hb dL_lastsSo_111 (lv_at hl 0 rfl) ?_
              refine lv_iload_n hx hb dL_lastsSo_113 rfl (lv_at hl 4 rfl) ?_
              have jn147_63 : ∀ (H : Heap) (locs : List Loc) (ls : Array Slot) (_ : gP G μ57 n58 H) (_ : va_S (gA G) s.heap H locs) (_ : lv_has ls 11 [(10, .int (iv z60)), (9, .int (iv z55)), (0, .ref x), (1, .int (iv k)), (2, .int (iv t)), (3, .int (iv dy)), (4, .int (iv ((aD u0).1 4))), (5, .int (iv ((aD u0).1 3))), (6, .int (iv en)), (7, .int (iv 1)), (8, .int (iv i))]), W p l e rm_c_L_lastsSo s m args below meth c H locs (i.toNat + 1) ((4 * i).toNat + 4) Q (F0 m 147 ls [.int (iv 1)]) := by
                intro H locs ls hH hS hl
                refine lv_istore (lv' := [(7, .int (iv 1)), (10, .int (iv z60)), (9, .int (iv z55)), (0, .ref x), (1, .int (iv k)), (2, .int (iv t)), (3, .int (iv dy)), (4, .int (iv ((aD u0).1 4))), (5, .int (iv ((aD u0).1 3))), (6, .int (iv en)), (8, .int (iv i))]) hx hb dL_lastsSo_147 hl (by decide) rfl (fun ls hl => ?_)
                refine lv_aload_n hx hb dL_lastsSo_149 rfl (lv_at hl 3 rfl) ?_
                refine j_const hx hb dL_lastsSo_150 ?_
                refine m_callVi (As := [.int (iv 1)]) (rest := []) ⟨hx, hb, hml, hown, hts⟩ hK hH hS (c_X8_count l G μ57 n58 x rb u61 1 hD (by omega)) (cwV 1 hts gL_lastsSo_X8_count rfl rfl rfl (by decide +kernel) ⟨(Nat.le_of_ble_eq_true rfl), (Nat.le_of_ble_eq_true rfl)⟩) hD.1 rfl rfl rfl rfl hl.1 (Nat.le_of_ble_eq_true rfl) dL_lastsSo_151 ⟨(by show _ ≤ 6; omega), (by show _ ≤ 24; omega)⟩ (fun z67 μ64 n65 H locs hz67 hp66 hH hS => ?_)
                obtain ⟨hz2, hm2, hn2⟩ := hp66
                have hz2 := hz2.trans (show a_count u61 1 = c4 from (cnt_1 u61).trans hc4.symm)
                rw [hm2, hn2] at hH
                rw [hz2] at hz67
                rw [hz2]
                clear hz2 hm2 hn2
                refine lv_iload hx hb dL_lastsSo_154 (lv_at hl 7 rfl) ?_
                refine j_icmp_ge (tgt := 188) hx hb dL_lastsSo_156 (by decide) (fun c68 => ?_) (fun c68 => ?_) (by omega) (by omega)
                · skip
                  refine lv_iload hx hb dL_lastsSo_188 (lv_at hl 0 rfl) ?_
                  refine j_if_eq (tgt := 212) hx hb dL_lastsSo_190 (by decide) (fun c69 => absurd c69 (by omega)) (fun c69 => ?_) (by omega)
                  refine lv_aload_n hx hb dL_lastsSo_193 rfl (lv_at hl 3 rfl) ?_
                  refine j_const hx hb dL_lastsSo_194 ?_
                  have hDo := hD
                  refine m_callVi (As := [.int (iv 1)]) (rest := []) ⟨hx, hb, hml, hown, hts⟩ hK hH hS (c_X8_pass l G μ57 n58 x rb u61 1 hD (by omega)) (cwV 1 hts gL_lastsSo_X8_pass rfl rfl rfl (by decide +kernel) ⟨(Nat.le_of_ble_eq_true rfl), (Nat.le_of_ble_eq_true rfl)⟩) hD.1 rfl rfl rfl rfl hl.1 (Nat.le_of_ble_eq_true rfl) dL_lastsSo_195 ⟨(by show _ ≤ 6; omega), (by show _ ≤ 24; omega)⟩ (fun z73 μ70 n71 H locs hz73 hp72 hH hS => ?_)
                  obtain ⟨hvz73, hD, hf1⟩ := hp72
                  obtain ⟨u74, hu74⟩ : ∃ q : aS, q = (a_pass u61 1).1 := ⟨_, rfl⟩
                  rw [← hu74] at hD
                  have hU : UI u74 ((((b0 + 5000 * i) + 1000) + 1000) + 1000) := by rw [hu74]; exact hU.pass
                  have hO := hD.okD
                  have h3o : (aD u61).1 3 = (aD u0).1 3 + i := by rw [hdp, h33]; exact hJ3
                  have hse := v_pass2 (u := u61) (k := 1) (by omega) (by omega)
                  rw [h3o] at hse
                  have hvz73 : z73 = (aD u0).1 3 + i + 1 := by rw [hvz73, hse]
                  have hds : (aD u74).1 = fu (aD u61).1 3 ((aD u0).1 3 + i + 1) := by first | (rw [hu74, hse]; done) | (rw [hu74, hse]; rfl)
                  have hks : (aK u74).1 3 = (aD u0).1 3 ∧ (aK u74).1 4 = (aD u0).1 4 ∧ aT u74 = 1 := by rw [hu74, hse]; exact hkp
                  rw [hvz73]
                  rw [hvz73] at hz73
                  have hJn : i + 1 ≤ en → ((aD u74).1 3 = (aD u0).1 3 + (i + 1) ∧ (aD u74).1 4 = (aD u0).1 4 ∧ LJ (aD u0).1 k t (i + 1) (aD u74).1) := by
                    intro hie
                    rcases hst with ⟨q1, q2, q3⟩ | ⟨q1, q2⟩
                    · refine ⟨by rw [hds, fu_s]; omega, ?_, q3 _ ?_⟩
                      · rw [hds, fu_n (by omega), ← hc4]; omega
                      · rw [hds, hdp]; exact day_on2 (by rw [← hdp, ← hc4]; omega)
                    · exfalso; omega
                  refine lv_iload hx hb dL_lastsSo_198 (lv_at hl 8 rfl) ?_
                  refine lv_iload hx hb dL_lastsSo_200 (lv_at hl 10 rfl) ?_
                  refine j_iadd hx hb dL_lastsSo_202 ?_
                  refine j_const hx hb dL_lastsSo_203 ?_
                  refine j_iadd hx hb dL_lastsSo_204 ?_
                  refine j_icmp_ne (tgt := 212) hx hb dL_lastsSo_205 (by decide) (fun c75 => absurd c75 (by omega)) (fun c75 => ?_) (by omega) (by omega)
                  refine j_const hx hb dL_lastsSo_208 ?_
                  refine lv_goto (tgt := 213) hx hb dL_lastsSo_209 (by decide) ?_
                  refine lv_istore (lv' := [(7, .int (iv 1)), (10, .int (iv z60)), (9, .int (iv z55)), (0, .ref x), (1, .int (iv k)), (2, .int (iv t)), (3, .int (iv dy)), (4, .int (iv ((aD u0).1 4))), (5, .int (iv ((aD u0).1 3))), (6, .int (iv en)), (8, .int (iv i))]) hx hb dL_lastsSo_213 hl (by decide) rfl (fun ls hl => ?_)
                  refine j_iinc (lv' := [(8, .int (iv (i + 1))), (7, .int (iv 1)), (10, .int (iv z60)), (9, .int (iv z55)), (0, .ref x), (1, .int (iv k)), (2, .int (iv t)), (3, .int (iv dy)), (4, .int (iv ((aD u0).1 4))), (5, .int (iv ((aD u0).1 3))), (6, .int (iv en))]) hx hb dL_lastsSo_215 hl (k := 10) rfl (by decide) rfl (fun ls hl => ?_)
                  refine lv_goto (tgt := 65) hx hb dL_lastsSo_218 (by decide) ?_
                  refine W.widen (k := (i + 1).toNat) (n := (4 * (i + 1)).toNat) (by omega) (by omega) ?_
                  exact ih16 (i + 1) u74 μ70 n71 (by omega) hD (hU.mono (by omega)) hks hJn (by omega) H locs ls hH hS (lv_sub hl [4, 5, 6, 7, 8, 9, 10, 1, 0] rfl)
                · skip
                  refine lv_iload hx hb dL_lastsSo_159 (lv_at hl 0 rfl) ?_
                  refine j_if_eq (tgt := 185) hx hb dL_lastsSo_161 (by decide) (fun c76 => absurd c76 (by omega)) (fun c76 => ?_) (by omega)
                  refine lv_aload_n hx hb dL_lastsSo_164 rfl (lv_at hl 3 rfl) ?_
                  refine lv_iload hx hb dL_lastsSo_165 (lv_at hl 7 rfl) ?_
                  refine lv_aload_n hx hb dL_lastsSo_167 rfl (lv_at hl 3 rfl) ?_
                  refine j_const hx hb dL_lastsSo_168 ?_
                  refine m_callVi (As := [.int (iv 1)]) (rest := [.int (iv ((aD u0).1 4)), .ref x]) ⟨hx, hb, hml, hown, hts⟩ hK hH hS (c_X8_count l G μ57 n58 x rb u61 1 hD (by omega)) (cwV 1 hts gL_lastsSo_X8_count rfl rfl rfl (by decide +kernel) ⟨(Nat.le_of_ble_eq_true rfl), (Nat.le_of_ble_eq_true rfl)⟩) hD.1 rfl rfl rfl rfl hl.1 (Nat.le_of_ble_eq_true rfl) dL_lastsSo_169 ⟨(by show _ ≤ 6; omega), (by show _ ≤ 24; omega)⟩ (fun z80 μ77 n78 H locs hz80 hp79 hH hS => ?_)
                  obtain ⟨hz2, hm2, hn2⟩ := hp79
                  have hz2 := hz2.trans (show a_count u61 1 = c4 from (cnt_1 u61).trans hc4.symm)
                  rw [hm2, hn2] at hH
                  rw [hz2] at hz80
                  rw [hz2]
                  clear hz2 hm2 hn2
                  refine j_isub hx hb dL_lastsSo_172 ?_
                  have hDo := hD
                  refine m_callVi (As := [.int (iv (((aD u0).1 4) - c4))]) (rest := []) ⟨hx, hb, hml, hown, hts⟩ hK hH hS (c_X8_fill l G μ57 n58 x rb u61 (((aD u0).1 4) - c4) hD (by omega)) (cwV 1 hts gL_lastsSo_X8_fill rfl rfl rfl (by decide +kernel) ⟨(Nat.le_of_ble_eq_true rfl), (Nat.le_of_ble_eq_true rfl)⟩) hD.1 rfl rfl rfl rfl hl.1 (Nat.le_of_ble_eq_true rfl) dL_lastsSo_173 ⟨(by show _ ≤ 6; omega), (by show _ ≤ 24; omega)⟩ (fun z84 μ81 n82 H locs hz84 hp83 hH hS => ?_)
                  obtain ⟨hvz84, hD, hf1⟩ := hp83
                  obtain ⟨u85, hu85⟩ : ∃ q : aS, q = (a_fill u61 (((aD u0).1 4) - c4)).1 := ⟨_, rfl⟩
                  rw [← hu85] at hD
                  have hU : UI u85 ((((b0 + 5000 * i) + 1000) + 1000) + 1000) := by rw [hu85]; exact hU.fill
                  have hO := hD.okD
                  have hfe := v_fill2 (u := u61) (k := (((aD u0).1 4) - c4)) (by omega) (by omega)
                  rw [← hc4] at hfe
                  have hvz84 : z84 = (aD u0).1 4 := by rw [hvz84, hfe]; show c4 + ((aD u0).1 4 - c4) = (aD u0).1 4; omega
                  have hdf : (aD u85).1 = fu (nPr (adj SL (dig (SL 3))) k t.toNat) 4 (c4 + ((aD u0).1 4 - c4)) := by rw [hu85, hfe]; show fu (aD u61).1 4 _ = _; rw [hdp]
                  have hkf : (aK u85).1 3 = (aD u0).1 3 ∧ (aK u85).1 4 = (aD u0).1 4 ∧ aT u85 = 1 := by rw [hu85, hfe]; exact hkp
                  rw [hvz84]
                  rw [hvz84] at hz84
                  refine lv_iload hx hb dL_lastsSo_176 (lv_at hl 7 rfl) ?_
                  refine j_icmp_ne (tgt := 185) hx hb dL_lastsSo_178 (by decide) (fun c86 => absurd c86 (by omega)) (fun c86 => ?_) (by omega) (by omega)
                  refine j_const hx hb dL_lastsSo_181 ?_
                  refine lv_goto (tgt := 186) hx hb dL_lastsSo_182 (by decide) ?_
                  refine lv_istore (lv' := [(7, .int (iv 1)), (10, .int (iv z60)), (9, .int (iv z55)), (0, .ref x), (1, .int (iv k)), (2, .int (iv t)), (3, .int (iv dy)), (4, .int (iv ((aD u0).1 4))), (5, .int (iv ((aD u0).1 3))), (6, .int (iv en)), (8, .int (iv i))]) hx hb dL_lastsSo_186 hl (by decide) rfl (fun ls hl => ?_)
                  refine lv_iload hx hb dL_lastsSo_188 (lv_at hl 0 rfl) ?_
                  refine j_if_eq (tgt := 212) hx hb dL_lastsSo_190 (by decide) (fun c87 => absurd c87 (by omega)) (fun c87 => ?_) (by omega)
                  refine lv_aload_n hx hb dL_lastsSo_193 rfl (lv_at hl 3 rfl) ?_
                  refine j_const hx hb dL_lastsSo_194 ?_
                  have hDo := hD
                  refine m_callVi (As := [.int (iv 1)]) (rest := []) ⟨hx, hb, hml, hown, hts⟩ hK hH hS (c_X8_pass l G μ81 n82 x rb u85 1 hD (by omega)) (cwV 1 hts gL_lastsSo_X8_pass rfl rfl rfl (by decide +kernel) ⟨(Nat.le_of_ble_eq_true rfl), (Nat.le_of_ble_eq_true rfl)⟩) hD.1 rfl rfl rfl rfl hl.1 (Nat.le_of_ble_eq_true rfl) dL_lastsSo_195 ⟨(by show _ ≤ 6; omega), (by show _ ≤ 24; omega)⟩ (fun z91 μ88 n89 H locs hz91 hp90 hH hS => ?_)
                  obtain ⟨hvz91, hD, hf1⟩ := hp90
                  obtain ⟨u92, hu92⟩ : ∃ q : aS, q = (a_pass u85 1).1 := ⟨_, rfl⟩
                  rw [← hu92] at hD
                  have hU : UI u92 (((((b0 + 5000 * i) + 1000) + 1000) + 1000) + 1000) := by rw [hu92]; exact hU.pass
                  have hO := hD.okD
                  have h3o : (aD u85).1 3 = (aD u0).1 3 + i := by rw [hdf, fu_n (by omega), h33]; exact hJ3
                  have hse := v_pass2 (u := u85) (k := 1) (by omega) (by omega)
                  rw [h3o] at hse
                  have hvz91 : z91 = (aD u0).1 3 + i + 1 := by rw [hvz91, hse]
                  have hds : (aD u92).1 = fu (aD u85).1 3 ((aD u0).1 3 + i + 1) := by first | (rw [hu92, hse]; done) | (rw [hu92, hse]; rfl)
                  have hks : (aK u92).1 3 = (aD u0).1 3 ∧ (aK u92).1 4 = (aD u0).1 4 ∧ aT u92 = 1 := by rw [hu92, hse]; exact hkf
                  rw [hvz91]
                  rw [hvz91] at hz91
                  have hJn : i + 1 ≤ en → ((aD u92).1 3 = (aD u0).1 3 + (i + 1) ∧ (aD u92).1 4 = (aD u0).1 4 ∧ LJ (aD u0).1 k t (i + 1) (aD u92).1) := by
                    intro hie
                    rcases hst with ⟨q1, q2, q3⟩ | ⟨q1, q2⟩
                    · refine ⟨by rw [hds, fu_s]; omega, ?_, q3 _ ?_⟩
                      · rw [hds, fu_n (by omega), hdf, fu_s]; omega
                      · rw [hds, hdf]; exact day_on (by omega)
                    · exfalso; omega
                  refine lv_iload hx hb dL_lastsSo_198 (lv_at hl 8 rfl) ?_
                  refine lv_iload hx hb dL_lastsSo_200 (lv_at hl 10 rfl) ?_
                  refine j_iadd hx hb dL_lastsSo_202 ?_
                  refine j_const hx hb dL_lastsSo_203 ?_
                  refine j_iadd hx hb dL_lastsSo_204 ?_
                  refine j_icmp_ne (tgt := 212) hx hb dL_lastsSo_205 (by decide) (fun c93 => absurd c93 (by omega)) (fun c93 => ?_) (by omega) (by omega)
                  refine j_const hx hb dL_lastsSo_208 ?_
                  refine lv_goto (tgt := 213) hx hb dL_lastsSo_209 (by decide) ?_
                  refine lv_istore (lv' := [(7, .int (iv 1)), (10, .int (iv z60)), (9, .int (iv z55)), (0, .ref x), (1, .int (iv k)), (2, .int (iv t)), (3, .int (iv dy)), (4, .int (iv ((aD u0).1 4))), (5, .int (iv ((aD u0).1 3))), (6, .int (iv en)), (8, .int (iv i))]) hx hb dL_lastsSo_213 hl (by decide) rfl (fun ls hl => ?_)
                  refine j_iinc (lv' := [(8, .int (iv (i + 1))), (7, .int (iv 1)), (10, .int (iv z60)), (9, .int (iv z55)), (0, .ref x), (1, .int (iv k)), (2, .int (iv t)), (3, .int (iv dy)), (4, .int (iv ((aD u0).1 4))), (5, .int (iv ((aD u0).1 3))), (6, .int (iv en))]) hx hb dL_lastsSo_215 hl (k := 10) rfl (by decide) rfl (fun ls hl => ?_)
                  refine lv_goto (tgt := 65) hx hb dL_lastsSo_218 (by decide) ?_
                  refine W.widen (k := (i + 1).toNat) (n := (4 * (i + 1)).toNat) (by omega) (by omega) ?_
                  exact ih16 (i + 1) u92 μ88 n89 (by omega) hD (hU.mono (by omega)) hks hJn (by omega) H locs ls hH hS (lv_sub hl [4, 5, 6, 7, 8, 9, 10, 1, 0] rfl)
              refine j_icmp_ne (tgt := 121) hx hb dL_lastsSo_114 (by decide) (fun c94 => ?_) (fun c94 => ?_) (by omega) (by omega)
              · skip
                refine j_const hx hb dL_lastsSo_121 ?_
                refine lv_iload_n hx hb dL_lastsSo_122 rfl (lv_at hl 5 rfl) ?_
                refine j_bipush hx hb dL_lastsSo_123 ?_ (by decide)
                refine j_icmp_eq (tgt := 134) hx hb dL_lastsSo_125 (by decide) (fun c95 => absurd c95 (by omega)) (fun c95 => ?_) (by omega) (by omega)
                refine lv_iload hx hb dL_lastsSo_128 (lv_at hl 10 rfl) ?_
                refine lv_iload_n hx hb dL_lastsSo_130 rfl (lv_at hl 5 rfl) ?_
                refine j_icmp_ge (tgt := 138) hx hb dL_lastsSo_131 (by decide) (fun c96 => ?_) (fun c96 => absurd c96 (by omega)) (by omega) (by omega)
                refine j_const hx hb dL_lastsSo_138 ?_
                refine j_icmp_ne (tgt := 146) hx hb dL_lastsSo_139 (by decide) (fun c97 => absurd c97 (by omega)) (fun c97 => ?_) (by omega) (by omega)
                refine j_const hx hb dL_lastsSo_142 ?_
                refine lv_goto (tgt := 147) hx hb dL_lastsSo_143 (by decide) ?_
                exact jn147_63 H locs ls hH hS (lv_sub hl [0, 1, 2, 3, 4, 5, 6, 7, 8, 9, 10] rfl)
              · skip
                refine j_const hx hb dL_lastsSo_117 ?_
                refine lv_goto (tgt := 122) hx hb dL_lastsSo_118 (by decide) ?_
                refine lv_iload_n hx hb dL_lastsSo_122 rfl (lv_at hl 5 rfl) ?_
                refine j_bipush hx hb dL_lastsSo_123 ?_ (by decide)
                refine j_icmp_eq (tgt := 134) hx hb dL_lastsSo_125 (by decide) (fun c98 => ?_) (fun c98 => ?_) (by omega) (by omega)
                · skip
                  refine j_const hx hb dL_lastsSo_134 ?_
                  refine lv_goto (tgt := 139) hx hb dL_lastsSo_135 (by decide) ?_
                  refine j_icmp_ne (tgt := 146) hx hb dL_lastsSo_139 (by decide) (fun c99 => absurd c99 (by omega)) (fun c99 => ?_) (by omega) (by omega)
                  refine j_const hx hb dL_lastsSo_142 ?_
                  refine lv_goto (tgt := 147) hx hb dL_lastsSo_143 (by decide) ?_
                  exact jn147_63 H locs ls hH hS (lv_sub hl [0, 1, 2, 3, 4, 5, 6, 7, 8, 9, 10] rfl)
                · skip
                  refine lv_iload hx hb dL_lastsSo_128 (lv_at hl 10 rfl) ?_
                  refine lv_iload_n hx hb dL_lastsSo_130 rfl (lv_at hl 5 rfl) ?_
                  refine j_icmp_ge (tgt := 138) hx hb dL_lastsSo_131 (by decide) (fun c100 => absurd c100 (by omega)) (fun c100 => ?_) (by omega) (by omega)
                  refine j_const hx hb dL_lastsSo_134 ?_
                  refine lv_goto (tgt := 139) hx hb dL_lastsSo_135 (by decide) ?_
                  refine j_icmp_ne (tgt := 146) hx hb dL_lastsSo_139 (by decide) (fun c101 => absurd c101 (by omega)) (fun c101 => ?_) (by omega) (by omega)
                  refine j_const hx hb dL_lastsSo_142 ?_
                  refine lv_goto (tgt := 147) hx hb dL_lastsSo_143 (by decide) ?_
                  exact jn147_63 H locs ls hH hS (lv_sub hl [0, 1, 2, 3, 4, 5, 6, 7, 8, 9, 10] rfl)
      refine W.widen (k := (0 : Int).toNat) (n := (4 * (0 : Int)).toNat) (by omega) (by omega) ?_
      exact lp65 (8) 0 u13 μ9 n10 (by omega) hD (hU.mono (by omega)) hkk (fun _ => ⟨by rw [hk0]; omega, by rw [hk0], by rw [hk0]; exact LJ.start hO0 k t⟩) (by omega) H locs ls hH hS (lv_sub hl [6, 7, 8, 5, 4, 3, 2, 1, 0] rfl)
    refine j_icmp_eq (tgt := 55) hx hb dL_lastsSo_41 (by decide) (fun c102 => ?_) (fun c102 => ?_) (by omega) (by omega)
    · skip
      refine j_const hx hb dL_lastsSo_55 ?_
      refine lv_goto (tgt := 60) hx hb dL_lastsSo_56 (by decide) ?_
      exact jn60_15 H locs ls hH hS (lv_sub hl [0, 1, 2, 3, 4, 5, 6] rfl)
    · skip
      refine lv_iload_n hx hb dL_lastsSo_44 rfl (lv_at hl 3 rfl) ?_
      refine j_if_lt (tgt := 59) hx hb dL_lastsSo_45 (by decide) (fun c103 => absurd c103 (by omega)) (fun c103 => ?_) (by omega)
      refine lv_iload_n hx hb dL_lastsSo_48 rfl (lv_at hl 3 rfl) ?_
      refine j_sipush hx hb dL_lastsSo_49 ?_ (by decide)
      refine j_icmp_ge (tgt := 59) hx hb dL_lastsSo_52 (by decide) (fun c104 => absurd c104 (by omega)) (fun c104 => ?_) (by omega) (by omega)
      refine j_const hx hb dL_lastsSo_55 ?_
      refine lv_goto (tgt := 60) hx hb dL_lastsSo_56 (by decide) ?_
      exact jn60_15 H locs ls hH hS (lv_sub hl [0, 1, 2, 3, 4, 5, 6] rfl)
  refine j_icmp_eq (tgt := 31) hx hb dL_lastsSo_23 (by decide) (fun c105 => ?_) (fun c105 => ?_) (by omega) (by omega)
  · skip
    refine j_const hx hb dL_lastsSo_31 ?_
    refine lv_goto (tgt := 36) hx hb dL_lastsSo_32 (by decide) ?_
    refine j_norm (y := en) (by omega) ?_
    exact jn36_14 H locs ls hH hS (lv_sub hl [0, 1, 2, 3, 4, 5] rfl)
  · skip
    refine lv_iload_n hx hb dL_lastsSo_26 rfl (lv_at hl 2 rfl) ?_
    refine j_const hx hb dL_lastsSo_27 ?_
    refine j_icmp_le (tgt := 35) hx hb dL_lastsSo_28 (by decide) (fun c106 => ?_) (fun c106 => ?_) (by omega) (by omega)
    · skip
      refine lv_iload_n hx hb dL_lastsSo_35 rfl (lv_at hl 2 rfl) ?_
      refine j_norm (y := en) (by omega) ?_
      exact jn36_14 H locs ls hH hS (lv_sub hl [0, 1, 2, 3, 4, 5] rfl)
    · skip
      refine j_const hx hb dL_lastsSo_31 ?_
      refine lv_goto (tgt := 36) hx hb dL_lastsSo_32 (by decide) ?_
      refine j_norm (y := en) (by omega) ?_
      exact jn36_14 H locs ls hH hS (lv_sub hl [0, 1, 2, 3, 4, 5] rfl)
