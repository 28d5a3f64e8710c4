abbrev rm_c_L_areBandsSo : Room := { frames := 4, cells := 0, slots := 0, locals := 91 }
set_option maxHeartbeats 4000000 in
set_option maxRecDepth 100000 in
theorem c_L_areBandsSo (l : Launch) (G : wG) (μ : hM) (n : Nat) (x rb : Nat) (u0 : aS) (b0 : Int)  (hD : IsD G μ x rb u0) (hU : UI u0 b0) (hb0 : 0 ≤ b0 ∧ b0 ≤ 500000000) : Met l yL_areBandsSo wsL_areBandsSo rm_c_L_areBandsSo (mPc G μ n [.ref x]) (mQi G (fun z μ1 n1 => z = 1 ∧ μ1 = μ ∧ n1 = n)) 0 0 (gA G) := by
  refine Met.ofW (cc := cL_areBandsSo) (maxL := 11) (ret := (some .boolean)) (by decide) rfl ?_
  intro p e s m args below meth c s₁ B hml hv
  obtain ⟨hav, hK, hH⟩ := hv
  have hx := B.exec
  have hb := B.bytes
  have hr := B.returns
  have hts := atoms_spec (ws := wsL_areBandsSo) B.pre
  have hown : s.vm.findClass RL = some m.cls := findClass_of_methodNamed B.named
  have hlocks := B.notSynchronized
  have hS : va_S (gA G) s.heap s.heap [] := va_S.rf
  have hl := lv_entry ([.ref x]) (n := 11) (Nat.le_of_ble_eq_true rfl)
  have hfr : entryFrame m args 11 = entryFrame m ([.ref x] : List Value).toArray 11 := by rw [hav]
  rw [hfr, lg_entry_eq]
  generalize (lg_sl ([.ref x]) ++ List.replicate (11 - (lg_sl ([.ref x])).length) Slot.unset).toArray = ls at hl ⊢
  have hl : lv_has ls 11 [(0, .ref x)] := hl
  generalize hQ : MQ below _ args s 0 0 (gA G) = Q
  show W p l e rm_c_L_areBandsSo s m args below meth c s.heap [] 0 0 Q (F0 m 0 ls [])
  obtain ⟨H, hHe⟩ : ∃ H, H = s.heap := ⟨_, rfl⟩
  obtain ⟨locs, hlo⟩ : ∃ q : List Loc, q = [] := ⟨_, rfl⟩
  have hH : gP G μ n H := by rw [hHe]; exact hH
  have hS : va_S (gA G) s.heap H locs := by rw [hHe, hlo]; exact hS
  suffices hgo : W p l e rm_c_L_areBandsSo s m args below meth c H locs 0 0 Q (F0 m 0 ls []) by rw [hHe, hlo] at hgo; exact hgo
  clear hHe hlo hfr hav
  have hO := hD.okD
  have hOS := hO.1.1
  have hT3 := hO.1.2.1
  have hev := even_all hOS
  have hsh := (shw_rng hOS).2.2.2.2.2.2
  have hl4 := hOS.2.2.2.1
  have hdr3 := dig_rng hT3
  have hdd := dday_rng hsh
  obtain ⟨hUm, hUc, hUs, hU5, hU7, hU8, hU9⟩ := hU.1
  have hcs := cOk.sum hUc
  have hem := emax_rng hOS 60 (Nat.le_refl _)
  have hes := esum_rng hOS 60 (Nat.le_refl _)
  refine j_const hx hb dL_areBandsSo_0 ?_
  refine lv_istore_n (lv' := [(1, .int (iv 0)), (0, .ref x)]) hx hb dL_areBandsSo_1 rfl hl (by decide) rfl (fun ls hl => ?_)
  refine j_const hx hb dL_areBandsSo_2 ?_
  refine lv_istore_n (lv' := [(2, .int (iv 0)), (1, .int (iv 0)), (0, .ref x)]) hx hb dL_areBandsSo_3 rfl hl (by decide) rfl (fun ls hl => ?_)
  refine j_const hx hb dL_areBandsSo_4 ?_
  refine lv_istore_n (lv' := [(3, .int (iv 0)), (2, .int (iv 0)), (1, .int (iv 0)), (0, .ref x)]) hx hb dL_areBandsSo_5 rfl hl (by decide) rfl (fun ls hl => ?_)
  refine j_const hx hb dL_areBandsSo_6 ?_
  refine lv_istore (lv' := [(4, .int (iv 1)), (3, .int (iv 0)), (2, .int (iv 0)), (1, .int (iv 0)), (0, .ref x)]) hx hb dL_areBandsSo_7 hl (by decide) rfl (fun ls hl => ?_)
  refine j_const hx hb dL_areBandsSo_9 ?_
  refine lv_istore (lv' := [(5, .int (iv 0)), (4, .int (iv 1)), (3, .int (iv 0)), (2, .int (iv 0)), (1, .int (iv 0)), (0, .ref x)]) hx hb dL_areBandsSo_10 hl (by decide) rfl (fun ls hl => ?_)
  have lp12 : ∀ (fuel : Nat) (i : Int) (al : Int) (mo : Int) (bd : Int) (hi : 0 ≤ i ∧ i ≤ 6) (hal : al = esum (aD u0).1 (10 * i.toNat)) (hmo : mo = emax (aD u0).1 (10 * i.toNat)) (hbd : bd = (msk (aD u0).1 i.toNat : Int)) (_ : (6 - i).toNat < fuel) (H : Heap) (locs : List Loc) (ls : Array Slot) (_ : gP G μ n H) (_ : va_S (gA G) s.heap H locs) (_ : lv_has ls 11 [(0, .ref x), (1, .int (iv al)), (2, .int (iv mo)), (3, .int (iv bd)), (4, .int (iv 1)), (5, .int (iv i))]), W p l e rm_c_L_areBandsSo s m args below meth c H locs 0 0 Q (F0 m 12 ls []) := by
    intro fuel
    induction fuel with
    | zero => intro _ _ _ _ _ _ _ _ hfuel; exact absurd hfuel (Nat.not_lt_zero _)
    | succ fuel ih =>
      intro i al mo bd hi hal hmo hbd hfuel H locs ls hH hS hl
      have ih1 := ih; clear ih
      refine lv_iload hx hb dL_areBandsSo_12 (lv_at hl 5 rfl) ?_
      refine j_bipush hx hb dL_areBandsSo_14 ?_ (by decide)
      refine j_icmp_ge (tgt := 257) hx hb dL_areBandsSo_16 (by decide) (fun c2 => ?_) (fun c2 => ?_) (by omega) (by omega)
      · skip
        have hi6 : i = 6 := by omega
        rw [hi6] at hal hmo hbd
        have hal6 : al = esum (aD u0).1 60 := hal
        have hmo6 : mo = emax (aD u0).1 60 := hmo
        have hbd6 : bd = 63 := by rw [hbd]; show (msk (aD u0).1 6 : Int) = 63; rw [hUm]; rfl
        clear hal hmo hbd
        rw [← hmo6] at hem hev
        rw [← hal6] at hem hes
        have hmoa : 0 ≤ mo ∧ mo ≤ 99 ∧ mo ≤ al := ⟨hem.1, hem.2.1, hem.2.2.1⟩
        clear hem
        obtain ⟨q1, hq1, hq1a, hq1b⟩ := ev_le .g hev.1
        have hq0 : Op.cmpValue (FP.dcmp (a_even (aD u0).1) FP.dconst0) .l = iv 1 := ev_gt .l hev.2.1
        refine lv_aload_n hx hb dL_areBandsSo_257 rfl (lv_at hl 0 rfl) ?_
        refine m_callSi (As := [.ref x]) (rest := []) ⟨hx, hb, hml, hown, hts⟩ hK hH hS (c_L_shown l G μ n x rb u0 b0 hD hU (by omega)) (va_cwS 1 hts gL_areBandsSo_L_shown rfl rfl rfl (by decide +kernel) ⟨(Nat.le_of_ble_eq_true rfl), (Nat.le_of_ble_eq_true rfl)⟩) rfl rfl hl.1 (Nat.le_of_ble_eq_true rfl) dL_areBandsSo_258 ⟨Nat.zero_le _, Nat.zero_le _⟩ (fun z6 μ3 n4 H locs hz6 hp5 hH hS => ?_)
        obtain ⟨hz2, hm2, hn2⟩ := hp5
        rw [hm2, hn2] at hH
        rw [hz2] at hz6
        rw [hz2]
        clear hz2 hm2 hn2
        refine lv_aload_n hx hb dL_areBandsSo_261 rfl (lv_at hl 0 rfl) ?_
        refine lv_aload_n hx hb dL_areBandsSo_262 rfl (lv_at hl 0 rfl) ?_
        refine j_const hx hb dL_areBandsSo_263 ?_
        refine m_callVi (As := [.int (iv 0)]) (rest := [.ref x, .int (iv (shw (aD u0).1 6))]) ⟨hx, hb, hml, hown, hts⟩ hK hH hS (c_X8_count l G μ n x rb u0 0 hD (by omega)) (cwV 1 hts gL_areBandsSo_X8_count rfl rfl rfl (by decide +kernel) ⟨(Nat.le_of_ble_eq_true rfl), (Nat.le_of_ble_eq_true rfl)⟩) hD.1 rfl rfl rfl rfl hl.1 (Nat.le_of_ble_eq_true rfl) dL_areBandsSo_264 ⟨Nat.zero_le _, Nat.zero_le _⟩ (fun z10 μ7 n8 H locs hz10 hp9 hH hS => ?_)
        obtain ⟨hz2, hm2, hn2⟩ := hp9
        have hz2 := hz2.trans (show a_count u0 0 = ((aD u0).1 3) from cnt_0 u0)
        rw [hm2, hn2] at hH
        rw [hz2] at hz10
        rw [hz2]
        clear hz2 hm2 hn2
        refine j_const hx hb dL_areBandsSo_267 ?_
        refine m_callVi (As := [.int (iv ((aD u0).1 3)), .int (iv 3)]) (rest := [.int (iv (shw (aD u0).1 6))]) ⟨hx, hb, hml, hown, hts⟩ hK hH hS (c_X8_date l G μ n x rb u0 ((aD u0).1 3) 3 hD (by omega) (by omega)) (cwV 2 hts gL_areBandsSo_X8_date rfl rfl rfl (by decide +kernel) ⟨(Nat.le_of_ble_eq_true rfl), (Nat.le_of_ble_eq_true rfl)⟩) hD.1 rfl rfl rfl rfl hl.1 (Nat.le_of_ble_eq_true rfl) dL_areBandsSo_268 ⟨Nat.zero_le _, Nat.zero_le _⟩ (fun z14 μ11 n12 H locs hz14 hp13 hH hS => ?_)
        obtain ⟨hz2, hm2, hn2⟩ := hp13
        have hz2 := hz2.trans (show a_date ((aD u0).1 3) 3 = (dig ((aD u0).1 3)) from date_3 hT3)
        rw [hm2, hn2] at hH
        rw [hz2] at hz14
        rw [hz2]
        clear hz2 hm2 hn2
        refine j_icmp_ne (tgt := 278) hx hb dL_areBandsSo_271 (by decide) (fun c15 => ?_) (fun c15 => ?_) (by omega) (by omega)
        · skip
          have htd : ¬ shw (aD u0).1 6 = dig ((aD u0).1 3) := by omega
          refine j_const hx hb dL_areBandsSo_278 ?_
          refine lv_istore (lv' := [(5, .int (iv 0)), (0, .ref x), (1, .int (iv al)), (2, .int (iv mo)), (3, .int (iv bd)), (4, .int (iv 1))]) hx hb dL_areBandsSo_279 hl (by decide) rfl (fun ls hl => ?_)
          refine lv_iload hx hb dL_areBandsSo_281 (lv_at hl 5 rfl) ?_
          refine j_if_eq (tgt := 440) hx hb dL_areBandsSo_283 (by decide) (fun c16 => absurd c16 (by omega)) (fun c16 => ?_) (by omega)
          refine lv_iload_n hx hb dL_areBandsSo_286 rfl (lv_at hl 4 rfl) ?_
          refine j_bipush hx hb dL_areBandsSo_287 ?_ (by decide)
          refine j_icmp_ne (tgt := 440) hx hb dL_areBandsSo_289 (by decide) (fun c17 => absurd c17 (by omega)) (fun c17 => ?_) (by omega) (by omega)
          refine lv_aload_n hx hb dL_areBandsSo_292 rfl (lv_at hl 1 rfl) ?_
          refine j_bipush hx hb dL_areBandsSo_293 ?_ (by decide)
          refine m_callVi (As := [.int (iv 8)]) (rest := []) ⟨hx, hb, hml, hown, hts⟩ hK hH hS (c_X8_count l G μ n x rb u0 8 hD (by omega)) (cwV 1 hts gL_areBandsSo_X8_count rfl rfl rfl (by decide +kernel) ⟨(Nat.le_of_ble_eq_true rfl), (Nat.le_of_ble_eq_true rfl)⟩) hD.1 rfl rfl rfl rfl hl.1 (Nat.le_of_ble_eq_true rfl) dL_areBandsSo_295 ⟨Nat.zero_le _, Nat.zero_le _⟩ (fun z21 μ18 n19 H locs hz21 hp20 hH hS => ?_)
          obtain ⟨hz2, hm2, hn2⟩ := hp20
          have hz2 := hz2.trans (show a_count u0 8 = 0 from (cnt_8 u0).trans (if_neg htd))
          rw [hm2, hn2] at hH
          rw [hz2] at hz21
          rw [hz2]
          clear hz2 hm2 hn2
          refine j_const hx hb dL_areBandsSo_298 ?_
          refine j_icmp_ne (tgt := 306) hx hb dL_areBandsSo_299 (by decide) (fun c22 => ?_) (fun c22 => absurd c22 (by omega)) (by omega) (by omega)
          refine j_const hx hb dL_areBandsSo_306 ?_
          refine lv_iload hx hb dL_areBandsSo_307 (lv_at hl 0 rfl) ?_
          refine j_icmp_ne (tgt := 440) hx hb dL_areBandsSo_309 (by decide) (fun c23 => absurd c23 (by omega)) (fun c23 => ?_) (by omega) (by omega)
          refine lv_aload_n hx hb dL_areBandsSo_312 rfl (lv_at hl 1 rfl) ?_
          refine j_bipush hx hb dL_areBandsSo_313 ?_ (by decide)
          refine m_callVi (As := [.int (iv 9)]) (rest := []) ⟨hx, hb, hml, hown, hts⟩ hK hH hS (c_X8_count l G μ n x rb u0 9 hD (by omega)) (cwV 1 hts gL_areBandsSo_X8_count rfl rfl rfl (by decide +kernel) ⟨(Nat.le_of_ble_eq_true rfl), (Nat.le_of_ble_eq_true rfl)⟩) hD.1 rfl rfl rfl rfl hl.1 (Nat.le_of_ble_eq_true rfl) dL_areBandsSo_315 ⟨Nat.zero_le _, Nat.zero_le _⟩ (fun z27 μ24 n25 H locs hz27 hp26 hH hS => ?_)
          obtain ⟨hz2, hm2, hn2⟩ := hp26
          have hz2 := hz2.trans (show a_count u0 9 = (dday (shw (aD u0).1 6)) from cnt_9 u0)
          rw [hm2, hn2] at hH
          rw [hz2] at hz27
          rw [hz2]
          clear hz2 hm2 hn2
          refine lv_aload_n hx hb dL_areBandsSo_318 rfl (lv_at hl 1 rfl) ?_
          refine lv_aload_n hx hb dL_areBandsSo_319 rfl (lv_at hl 1 rfl) ?_
          refine m_callSi (As := [.ref x]) (rest := [.ref x, .int (iv (dday (shw (aD u0).1 6)))]) ⟨hx, hb, hml, hown, hts⟩ hK hH hS (c_L_shown l G μ n x rb u0 b0 hD hU (by omega)) (va_cwS 1 hts gL_areBandsSo_L_shown rfl rfl rfl (by decide +kernel) ⟨(Nat.le_of_ble_eq_true rfl), (Nat.le_of_ble_eq_true rfl)⟩) rfl rfl hl.1 (Nat.le_of_ble_eq_true rfl) dL_areBandsSo_320 ⟨Nat.zero_le _, Nat.zero_le _⟩ (fun z31 μ28 n29 H locs hz31 hp30 hH hS => ?_)
          obtain ⟨hz2, hm2, hn2⟩ := hp30
          rw [hm2, hn2] at hH
          rw [hz2] at hz31
          rw [hz2]
          clear hz2 hm2 hn2
          refine m_callVi (As := [.int (iv (shw (aD u0).1 6))]) (rest := [.int (iv (dday (shw (aD u0).1 6)))]) ⟨hx, hb, hml, hown, hts⟩ hK hH hS (c_X8_day l G μ n x rb u0 (shw (aD u0).1 6) hD (by omega)) (cwV 1 hts gL_areBandsSo_X8_day rfl rfl rfl (by decide +kernel) ⟨(Nat.le_of_ble_eq_true rfl), (Nat.le_of_ble_eq_true rfl)⟩) hD.1 rfl rfl rfl rfl hl.1 (Nat.le_of_ble_eq_true rfl) dL_areBandsSo_323 ⟨Nat.zero_le _, Nat.zero_le _⟩ (fun z35 μ32 n33 H locs hz35 hp34 hH hS => ?_)
          obtain ⟨hz2, hm2, hn2⟩ := hp34
          have hz2 := hz2.trans (show a_day (shw (aD u0).1 6) = (dday (shw (aD u0).1 6)) from day_of hsh)
          rw [hm2, hn2] at hH
          rw [hz2] at hz35
          rw [hz2]
          clear hz2 hm2 hn2
          refine j_icmp_ne (tgt := 440) hx hb dL_areBandsSo_326 (by decide) (fun c36 => absurd c36 (by omega)) (fun c36 => ?_) (by omega) (by omega)
          refine lv_aload_n hx hb dL_areBandsSo_329 rfl (lv_at hl 1 rfl) ?_
          refine j_const hx hb dL_areBandsSo_330 ?_
          refine m_callVi (As := [.int (iv 1)]) (rest := []) ⟨hx, hb, hml, hown, hts⟩ hK hH hS (c_X8_count l G μ n x rb u0 1 hD (by omega)) (cwV 1 hts gL_areBandsSo_X8_count rfl rfl rfl (by decide +kernel) ⟨(Nat.le_of_ble_eq_true rfl), (Nat.le_of_ble_eq_true rfl)⟩) hD.1 rfl rfl rfl rfl hl.1 (Nat.le_of_ble_eq_true rfl) dL_areBandsSo_331 ⟨Nat.zero_le _, Nat.zero_le _⟩ (fun z40 μ37 n38 H locs hz40 hp39 hH hS => ?_)
          obtain ⟨hz2, hm2, hn2⟩ := hp39
          have hz2 := hz2.trans (show a_count u0 1 = ((aD u0).1 4) from cnt_1 u0)
          rw [hm2, hn2] at hH
          rw [hz2] at hz40
          rw [hz2]
          clear hz2 hm2 hn2
          refine j_if_lt (tgt := 440) hx hb dL_areBandsSo_334 (by decide) (fun c41 => absurd c41 (by omega)) (fun c41 => ?_) (by omega)
          refine lv_aload_n hx hb dL_areBandsSo_337 rfl (lv_at hl 1 rfl) ?_
          refine j_const hx hb dL_areBandsSo_338 ?_
          refine m_callVi (As := [.int (iv 1)]) (rest := []) ⟨hx, hb, hml, hown, hts⟩ hK hH hS (c_X8_count l G μ n x rb u0 1 hD (by omega)) (cwV 1 hts gL_areBandsSo_X8_count rfl rfl rfl (by decide +kernel) ⟨(Nat.le_of_ble_eq_true rfl), (Nat.le_of_ble_eq_true rfl)⟩) hD.1 rfl rfl rfl rfl hl.1 (Nat.le_of_ble_eq_true rfl) dL_areBandsSo_339 ⟨Nat.zero_le _, Nat.zero_le _⟩ (fun z45 μ42 n43 H locs hz45 hp44 hH hS => ?_)
          obtain ⟨hz2, hm2, hn2⟩ := hp44
          have hz2 := hz2.trans (show a_count u0 1 = ((aD u0).1 4) from cnt_1 u0)
          rw [hm2, hn2] at hH
          rw [hz2] at hz45
          rw [hz2]
          clear hz2 hm2 hn2
          refine j_sipush hx hb dL_areBandsSo_342 ?_ (by decide)
          refine j_icmp_gt (tgt := 440) hx hb dL_areBandsSo_345 (by decide) (fun c46 => absurd c46 (by omega)) (fun c46 => ?_) (by omega) (by omega)
          refine lv_aload_n hx hb dL_areBandsSo_348 rfl (lv_at hl 1 rfl) ?_
          refine m_callVd (As := []) (rest := []) ⟨hx, hb, hml, hown, hts⟩ hK hH hS (c_X8_even l G μ n x rb u0 hD) (cwV 0 hts gL_areBandsSo_X8_even rfl rfl rfl (by decide +kernel) ⟨(Nat.le_of_ble_eq_true rfl), (Nat.le_of_ble_eq_true rfl)⟩) hD.1 rfl rfl rfl rfl hl.1 (Nat.le_of_ble_eq_true rfl) dL_areBandsSo_349 ⟨Nat.zero_le _, Nat.zero_le _⟩ (fun z50 μ47 n48 H locs hp49 hH hS => ?_)
          obtain ⟨hz2, hm2, hn2⟩ := hp49
          rw [hm2, hn2] at hH
          rw [hz2]
          clear hz2 hm2 hn2
          refine lv_dconst1 hx hb dL_areBandsSo_352 ?_
          refine lv_dcmp hx hb dL_areBandsSo_353 ?_
          rw [hq1]
          refine j_if_gt (tgt := 440) hx hb dL_areBandsSo_354 (by decide) (fun c51 => absurd c51 (by omega)) (fun c51 => ?_) (by omega)
          refine lv_aload_n hx hb dL_areBandsSo_357 rfl (lv_at hl 1 rfl) ?_
          refine m_callVd (As := []) (rest := []) ⟨hx, hb, hml, hown, hts⟩ hK hH hS (c_X8_even l G μ n x rb u0 hD) (cwV 0 hts gL_areBandsSo_X8_even rfl rfl rfl (by decide +kernel) ⟨(Nat.le_of_ble_eq_true rfl), (Nat.le_of_ble_eq_true rfl)⟩) hD.1 rfl rfl rfl rfl hl.1 (Nat.le_of_ble_eq_true rfl) dL_areBandsSo_358 ⟨Nat.zero_le _, Nat.zero_le _⟩ (fun z55 μ52 n53 H locs hp54 hH hS => ?_)
          obtain ⟨hz2, hm2, hn2⟩ := hp54
          rw [hm2, hn2] at hH
          rw [hz2]
          clear hz2 hm2 hn2
          refine lv_dconst0 hx hb dL_areBandsSo_361 ?_
          refine lv_dcmp hx hb dL_areBandsSo_362 ?_
          rw [hq0]
          refine j_if_lt (tgt := 440) hx hb dL_areBandsSo_363 (by decide) (fun c56 => absurd c56 (by omega)) (fun c56 => ?_) (by omega)
          refine lv_iload_n hx hb dL_areBandsSo_366 rfl (lv_at hl 3 rfl) ?_
          refine j_if_gt (tgt := 379) hx hb dL_areBandsSo_367 (by decide) (fun c57 => ?_) (fun c57 => ?_) (by omega)
          · skip
            refine lv_aload_n hx hb dL_areBandsSo_379 rfl (lv_at hl 1 rfl) ?_
            refine m_callVd (As := []) (rest := []) ⟨hx, hb, hml, hown, hts⟩ hK hH hS (c_X8_even l G μ n x rb u0 hD) (cwV 0 hts gL_areBandsSo_X8_even rfl rfl rfl (by decide +kernel) ⟨(Nat.le_of_ble_eq_true rfl), (Nat.le_of_ble_eq_true rfl)⟩) hD.1 rfl rfl rfl rfl hl.1 (Nat.le_of_ble_eq_true rfl) dL_areBandsSo_380 ⟨Nat.zero_le _, Nat.zero_le _⟩ (fun z61 μ58 n59 H locs hp60 hH hS => ?_)
            obtain ⟨hz2, hm2, hn2⟩ := hp60
            rw [hm2, hn2] at hH
            rw [hz2]
            clear hz2 hm2 hn2
            refine lv_dconst0 hx hb dL_areBandsSo_383 ?_
            refine lv_dcmp hx hb dL_areBandsSo_384 ?_
            rw [hq0]
            refine j_if_ne (tgt := 392) hx hb dL_areBandsSo_385 (by decide) (fun c62 => ?_) (fun c62 => absurd c62 (by omega)) (by omega)
            refine j_const hx hb dL_areBandsSo_392 ?_
            refine lv_iload_n hx hb dL_areBandsSo_393 rfl (lv_at hl 2 rfl) ?_
            refine j_if_ne (tgt := 405) hx hb dL_areBandsSo_394 (by decide) (fun c63 => ?_) (fun c63 => ?_) (by omega)
            · skip
              refine j_const hx hb dL_areBandsSo_405 ?_
              refine j_icmp_ne (tgt := 440) hx hb dL_areBandsSo_406 (by decide) (fun c64 => absurd c64 (by omega)) (fun c64 => ?_) (by omega) (by omega)
              refine lv_aload_n hx hb dL_areBandsSo_409 rfl (lv_at hl 1 rfl) ?_
              refine j_bipush hx hb dL_areBandsSo_410 ?_ (by decide)
              refine m_callVi (As := [.int (iv 10)]) (rest := []) ⟨hx, hb, hml, hown, hts⟩ hK hH hS (c_X8_count l G μ n x rb u0 10 hD (by omega)) (cwV 1 hts gL_areBandsSo_X8_count rfl rfl rfl (by decide +kernel) ⟨(Nat.le_of_ble_eq_true rfl), (Nat.le_of_ble_eq_true rfl)⟩) hD.1 rfl rfl rfl rfl hl.1 (Nat.le_of_ble_eq_true rfl) dL_areBandsSo_412 ⟨Nat.zero_le _, Nat.zero_le _⟩ (fun z68 μ65 n66 H locs hz68 hp67 hH hS => ?_)
              obtain ⟨hz2, hm2, hn2⟩ := hp67
              have hz2 := hz2.trans (show a_count u0 10 = ((aD u0).2.length : Int) from cnt_10 hU (by omega))
              rw [hm2, hn2] at hH
              rw [hz2] at hz68
              rw [hz2]
              clear hz2 hm2 hn2
              refine lv_aload_n hx hb dL_areBandsSo_415 rfl (lv_at hl 1 rfl) ?_
              refine j_const hx hb dL_areBandsSo_416 ?_
              refine m_callVi (As := [.int (iv 3)]) (rest := [.int (iv ((aD u0).2.length : Int))]) ⟨hx, hb, hml, hown, hts⟩ hK hH hS (c_X8_count l G μ n x rb u0 3 hD (by omega)) (cwV 1 hts gL_areBandsSo_X8_count rfl rfl rfl (by decide +kernel) ⟨(Nat.le_of_ble_eq_true rfl), (Nat.le_of_ble_eq_true rfl)⟩) hD.1 rfl rfl rfl rfl hl.1 (Nat.le_of_ble_eq_true rfl) dL_areBandsSo_417 ⟨Nat.zero_le _, Nat.zero_le _⟩ (fun z72 μ69 n70 H locs hz72 hp71 hH hS => ?_)
              obtain ⟨hz2, hm2, hn2⟩ := hp71
              have hz2 := hz2.trans (show a_count u0 3 = ((aD u0).1 6) from cnt_3 hU (by omega))
              rw [hm2, hn2] at hH
              rw [hz2] at hz72
              rw [hz2]
              clear hz2 hm2 hn2
              refine j_icmp_gt (tgt := 440) hx hb dL_areBandsSo_420 (by decide) (fun c73 => absurd c73 (by omega)) (fun c73 => ?_) (by omega) (by omega)
              refine lv_aload_n hx hb dL_areBandsSo_423 rfl (lv_at hl 1 rfl) ?_
              refine j_const hx hb dL_areBandsSo_424 ?_
              refine m_callVi (As := [.int (iv 3)]) (rest := []) ⟨hx, hb, hml, hown, hts⟩ hK hH hS (c_X8_count l G μ n x rb u0 3 hD (by omega)) (cwV 1 hts gL_areBandsSo_X8_count rfl rfl rfl (by decide +kernel) ⟨(Nat.le_of_ble_eq_true rfl), (Nat.le_of_ble_eq_true rfl)⟩) hD.1 rfl rfl rfl rfl hl.1 (Nat.le_of_ble_eq_true rfl) dL_areBandsSo_425 ⟨Nat.zero_le _, Nat.zero_le _⟩ (fun z77 μ74 n75 H locs hz77 hp76 hH hS => ?_)
              obtain ⟨hz2, hm2, hn2⟩ := hp76
              have hz2 := hz2.trans (show a_count u0 3 = ((aD u0).1 6) from cnt_3 hU (by omega))
              rw [hm2, hn2] at hH
              rw [hz2] at hz77
              rw [hz2]
              clear hz2 hm2 hn2
              refine lv_aload_n hx hb dL_areBandsSo_428 rfl (lv_at hl 1 rfl) ?_
              refine j_const hx hb dL_areBandsSo_429 ?_
              refine m_callVi (As := [.int (iv 2)]) (rest := [.int (iv ((aD u0).1 6))]) ⟨hx, hb, hml, hown, hts⟩ hK hH hS (c_X8_count l G μ n x rb u0 2 hD (by omega)) (cwV 1 hts gL_areBandsSo_X8_count rfl rfl rfl (by decide +kernel) ⟨(Nat.le_of_ble_eq_true rfl), (Nat.le_of_ble_eq_true rfl)⟩) hD.1 rfl rfl rfl rfl hl.1 (Nat.le_of_ble_eq_true rfl) dL_areBandsSo_430 ⟨Nat.zero_le _, Nat.zero_le _⟩ (fun z81 μ78 n79 H locs hz81 hp80 hH hS => ?_)
              obtain ⟨hz2, hm2, hn2⟩ := hp80
              have hz2 := hz2.trans (show a_count u0 2 = ((aD u0).1 5) from cnt_2 u0)
              rw [hm2, hn2] at hH
              rw [hz2] at hz81
              rw [hz2]
              clear hz2 hm2 hn2
              refine j_icmp_gt (tgt := 440) hx hb dL_areBandsSo_433 (by decide) (fun c82 => absurd c82 (by omega)) (fun c82 => ?_) (by omega) (by omega)
              refine j_const hx hb dL_areBandsSo_436 ?_
              refine lv_goto (tgt := 441) hx hb dL_areBandsSo_437 (by decide) ?_
              subst hQ
              refine m_zret hx hb hr hlocks hH hS dL_areBandsSo_441 ?_ (by omega)
              exact ⟨rfl, rfl, rfl⟩
            · skip
              refine lv_iload_n hx hb dL_areBandsSo_397 rfl (lv_at hl 3 rfl) ?_
              refine j_if_le (tgt := 405) hx hb dL_areBandsSo_398 (by decide) (fun c83 => ?_) (fun c83 => absurd c83 (by omega)) (by omega)
              refine j_const hx hb dL_areBandsSo_405 ?_
              refine j_icmp_ne (tgt := 440) hx hb dL_areBandsSo_406 (by decide) (fun c84 => absurd c84 (by omega)) (fun c84 => ?_) (by omega) (by omega)
              refine lv_aload_n hx hb dL_areBandsSo_409 rfl (lv_at hl 1 rfl) ?_
              refine j_bipush hx hb dL_areBandsSo_410 ?_ (by decide)
              refine m_callVi (As := [.int (iv 10)]) (rest := []) ⟨hx, hb, hml, hown, hts⟩ hK hH hS (c_X8_count l G μ n x rb u0 10 hD (by omega)) (cwV 1 hts gL_areBandsSo_X8_count rfl rfl rfl (by decide +kernel) ⟨(Nat.le_of_ble_eq_true rfl), (Nat.le_of_ble_eq_true rfl)⟩) hD.1 rfl rfl rfl rfl hl.1 (Nat.le_of_ble_eq_true rfl) dL_areBandsSo_412 ⟨Nat.zero_le _, Nat.zero_le _⟩ (fun z88 μ85 n86 H locs hz88 hp87 hH hS => ?_)
              obtain ⟨hz2, hm2, hn2⟩ := hp87
              have hz2 := hz2.trans (show a_count u0 10 = ((aD u0).2.length : Int) from cnt_10 hU (by omega))
              rw [hm2, hn2] at hH
              rw [hz2] at hz88
              rw [hz2]
              clear hz2 hm2 hn2
              refine lv_aload_n hx hb dL_areBandsSo_415 rfl (lv_at hl 1 rfl) ?_
              refine j_const hx hb dL_areBandsSo_416 ?_
              refine m_callVi (As := [.int (iv 3)]) (rest := [.int (iv ((aD u0).2.length : Int))]) ⟨hx, hb, hml, hown, hts⟩ hK hH hS (c_X8_count l G μ n x rb u0 3 hD (by omega)) (cwV 1 hts gL_areBandsSo_X8_count rfl rfl rfl (by decide +kernel) ⟨(Nat.le_of_ble_eq_true rfl), (Nat.le_of_ble_eq_true rfl)⟩) hD.1 rfl rfl rfl rfl hl.1 (Nat.le_of_ble_eq_true rfl) dL_areBandsSo_417 ⟨Nat.zero_le _, Nat.zero_le _⟩ (fun z92 μ89 n90 H locs hz92 hp91 hH hS => ?_)
              obtain ⟨hz2, hm2, hn2⟩ := hp91
              have hz2 := hz2.trans (show a_count u0 3 = ((aD u0).1 6) from cnt_3 hU (by omega))
              rw [hm2, hn2] at hH
              rw [hz2] at hz92
              rw [hz2]
              clear hz2 hm2 hn2
              refine j_icmp_gt (tgt := 440) hx hb dL_areBandsSo_420 (by decide) (fun c93 => absurd c93 (by omega)) (fun c93 => ?_) (by omega) (by omega)
              refine lv_aload_n hx hb dL_areBandsSo_423 rfl (lv_at hl 1 rfl) ?_
              refine j_const hx hb dL_areBandsSo_424 ?_
              refine m_callVi (As := [.int (iv 3)]) (rest := []) ⟨hx, hb, hml, hown, hts⟩ hK hH hS (c_X8_count l G μ n x rb u0 3 hD (by omega)) (cwV 1 hts gL_areBandsSo_X8_count rfl rfl rfl (by decide +kernel) ⟨(Nat.le_of_ble_eq_true rfl), (Nat.le_of_ble_eq_true rfl)⟩) hD.1 rfl rfl rfl rfl hl.1 (Nat.le_of_ble_eq_true rfl) dL_areBandsSo_425 ⟨Nat.zero_le _, Nat.zero_le _⟩ (fun z97 μ94 n95 H locs hz97 hp96 hH hS => ?_)
              obtain ⟨hz2, hm2, hn2⟩ := hp96
              have hz2 := hz2.trans (show a_count u0 3 = ((aD u0).1 6) from cnt_3 hU (by omega))
              rw [hm2, hn2] at hH
              rw [hz2] at hz97
              rw [hz2]
              clear hz2 hm2 hn2
              refine lv_aload_n hx hb dL_areBandsSo_428 rfl (lv_at hl 1 rfl) ?_
              refine j_const hx hb dL_areBandsSo_429 ?_
              refine m_callVi (As := [.int (iv 2)]) (rest := [.int (iv ((aD u0).1 6))]) ⟨hx, hb, hml, hown, hts⟩ hK hH hS (c_X8_count l G μ n x rb u0 2 hD (by omega)) (cwV 1 hts gL_areBandsSo_X8_count rfl rfl rfl (by decide +kernel) ⟨(Nat.le_of_ble_eq_true rfl), (Nat.le_of_ble_eq_true rfl)⟩) hD.1 rfl rfl rfl rfl hl.1 (Nat.le_of_ble_eq_true rfl) dL_areBandsSo_430 ⟨Nat.zero_le _, Nat.zero_le _⟩ (fun z101 μ98 n99 H locs hz101 hp100 hH hS => ?_)
              obtain ⟨hz2, hm2, hn2⟩ := hp100
              have hz2 := hz2.trans (show a_count u0 2 = ((aD u0).1 5) from cnt_2 u0)
              rw [hm2, hn2] at hH
              rw [hz2] at hz101
              rw [hz2]
              clear hz2 hm2 hn2
              refine j_icmp_gt (tgt := 440) hx hb dL_areBandsSo_433 (by decide) (fun c102 => absurd c102 (by omega)) (fun c102 => ?_) (by omega) (by omega)
              refine j_const hx hb dL_areBandsSo_436 ?_
              refine lv_goto (tgt := 441) hx hb dL_areBandsSo_437 (by decide) ?_
              subst hQ
              refine m_zret hx hb hr hlocks hH hS dL_areBandsSo_441 ?_ (by omega)
              exact ⟨rfl, rfl, rfl⟩
          · skip
            refine lv_aload_n hx hb dL_areBandsSo_370 rfl (lv_at hl 1 rfl) ?_
            refine m_callVd (As := []) (rest := []) ⟨hx, hb, hml, hown, hts⟩ hK hH hS (c_X8_even l G μ n x rb u0 hD) (cwV 0 hts gL_areBandsSo_X8_even rfl rfl rfl (by decide +kernel) ⟨(Nat.le_of_ble_eq_true rfl), (Nat.le_of_ble_eq_true rfl)⟩) hD.1 rfl rfl rfl rfl hl.1 (Nat.le_of_ble_eq_true rfl) dL_areBandsSo_371 ⟨Nat.zero_le _, Nat.zero_le _⟩ (fun z106 μ103 n104 H locs hp105 hH hS => ?_)
            obtain ⟨hz2, hm2, hn2⟩ := hp105
            rw [hm2, hn2] at hH
            rw [hz2]
            clear hz2 hm2 hn2
            refine lv_dconst1 hx hb dL_areBandsSo_374 ?_
            refine lv_dcmp hx hb dL_areBandsSo_375 ?_
            rw [ev_eq .l (hev.2.2 (by omega))]
            refine j_if_ne (tgt := 440) hx hb dL_areBandsSo_376 (by decide) (fun c107 => absurd c107 (by omega)) (fun c107 => ?_) (by omega)
            refine lv_aload_n hx hb dL_areBandsSo_379 rfl (lv_at hl 1 rfl) ?_
            refine m_callVd (As := []) (rest := []) ⟨hx, hb, hml, hown, hts⟩ hK hH hS (c_X8_even l G μ n x rb u0 hD) (cwV 0 hts gL_areBandsSo_X8_even rfl rfl rfl (by decide +kernel) ⟨(Nat.le_of_ble_eq_true rfl), (Nat.le_of_ble_eq_true rfl)⟩) hD.1 rfl rfl rfl rfl hl.1 (Nat.le_of_ble_eq_true rfl) dL_areBandsSo_380 ⟨Nat.zero_le _, Nat.zero_le _⟩ (fun z111 μ108 n109 H locs hp110 hH hS => ?_)
            obtain ⟨hz2, hm2, hn2⟩ := hp110
            rw [hm2, hn2] at hH
            rw [hz2]
            clear hz2 hm2 hn2
            refine lv_dconst0 hx hb dL_areBandsSo_383 ?_
            refine lv_dcmp hx hb dL_areBandsSo_384 ?_
            rw [hq0]
            refine j_if_ne (tgt := 392) hx hb dL_areBandsSo_385 (by decide) (fun c112 => ?_) (fun c112 => absurd c112 (by omega)) (by omega)
            refine j_const hx hb dL_areBandsSo_392 ?_
            refine lv_iload_n hx hb dL_areBandsSo_393 rfl (lv_at hl 2 rfl) ?_
            refine j_if_ne (tgt := 405) hx hb dL_areBandsSo_394 (by decide) (fun c113 => ?_) (fun c113 => ?_) (by omega)
            · skip
              refine j_const hx hb dL_areBandsSo_405 ?_
              refine j_icmp_ne (tgt := 440) hx hb dL_areBandsSo_406 (by decide) (fun c114 => absurd c114 (by omega)) (fun c114 => ?_) (by omega) (by omega)
              refine lv_aload_n hx hb dL_areBandsSo_409 rfl (lv_at hl 1 rfl) ?_
              refine j_bipush hx hb dL_areBandsSo_410 ?_ (by decide)
              refine m_callVi (As := [.int (iv 10)]) (rest := []) ⟨hx, hb, hml, hown, hts⟩ hK hH hS (c_X8_count l G μ n x rb u0 10 hD (by omega)) (cwV 1 hts gL_areBandsSo_X8_count rfl rfl rfl (by decide +kernel) ⟨(Nat.le_of_ble_eq_true rfl), (Nat.le_of_ble_eq_true rfl)⟩) hD.1 rfl rfl rfl rfl hl.1 (Nat.le_of_ble_eq_true rfl) dL_areBandsSo_412 ⟨Nat.zero_le _, Nat.zero_le _⟩ (fun z118 μ115 n116 H locs hz118 hp117 hH hS => ?_)
              obtain ⟨hz2, hm2, hn2⟩ := hp117
              have hz2 := hz2.trans (show a_count u0 10 = ((aD u0).2.length : Int) from cnt_10 hU (by omega))
              rw [hm2, hn2] at hH
              rw [hz2] at hz118
              rw [hz2]
              clear hz2 hm2 hn2
              refine lv_aload_n hx hb dL_areBandsSo_415 rfl (lv_at hl 1 rfl) ?_
              refine j_const hx hb dL_areBandsSo_416 ?_
              refine m_callVi (As := [.int (iv 3)]) (rest := [.int (iv ((aD u0).2.length : Int))]) ⟨hx, hb, hml, hown, hts⟩ hK hH hS (c_X8_count l G μ n x rb u0 3 hD (by omega)) (cwV 1 hts gL_areBandsSo_X8_count rfl rfl rfl (by decide +kernel) ⟨(Nat.le_of_ble_eq_true rfl), (Nat.le_of_ble_eq_true rfl)⟩) hD.1 rfl rfl rfl rfl hl.1 (Nat.le_of_ble_eq_true rfl) dL_areBandsSo_417 ⟨Nat.zero_le _, Nat.zero_le _⟩ (fun z122 μ119 n120 H locs hz122 hp121 hH hS => ?_)
              obtain ⟨hz2, hm2, hn2⟩ := hp121
              have hz2 := hz2.trans (show a_count u0 3 = ((aD u0).1 6) from cnt_3 hU (by omega))
              rw [hm2, hn2] at hH
              rw [hz2] at hz122
              rw [hz2]
              clear hz2 hm2 hn2
              refine j_icmp_gt (tgt := 440) hx hb dL_areBandsSo_420 (by decide) (fun c123 => absurd c123 (by omega)) (fun c123 => ?_) (by omega) (by omega)
              refine lv_aload_n hx hb dL_areBandsSo_423 rfl (lv_at hl 1 rfl) ?_
              refine j_const hx hb dL_areBandsSo_424 ?_
              refine m_callVi (As := [.int (iv 3)]) (rest := []) ⟨hx, hb, hml, hown, hts⟩ hK hH hS (c_X8_count l G μ n x rb u0 3 hD (by omega)) (cwV 1 hts gL_areBandsSo_X8_count rfl rfl rfl (by decide +kernel) ⟨(Nat.le_of_ble_eq_true rfl), (Nat.le_of_ble_eq_true rfl)⟩) hD.1 rfl rfl rfl rfl hl.1 (Nat.le_of_ble_eq_true rfl) dL_areBandsSo_425 ⟨Nat.zero_le _, Nat.zero_le _⟩ (fun z127 μ124 n125 H locs hz127 hp126 hH hS => ?_)
              obtain ⟨hz2, hm2, hn2⟩ := hp126
              have hz2 := hz2.trans (show a_count u0 3 = ((aD u0).1 6) from cnt_3 hU (by omega))
              rw [hm2, hn2] at hH
              rw [hz2] at hz127
              rw [hz2]
              clear hz2 hm2 hn2
              refine lv_aload_n hx hb dL_areBandsSo_428 rfl (lv_at hl 1 rfl) ?_
              refine j_const hx hb dL_areBandsSo_429 ?_
              refine m_callVi (As := [.int (iv 2)]) (rest := [.int (iv ((aD u0).1 6))]) ⟨hx, hb, hml, hown, hts⟩ hK hH hS (c_X8_count l G μ n x rb u0 2 hD (by omega)) (cwV 1 hts gL_areBandsSo_X8_count rfl rfl rfl (by decide +kernel) ⟨(Nat.le_of_ble_eq_true rfl), (Nat.le_of_ble_eq_true rfl)⟩) hD.1 rfl rfl rfl rfl hl.1 (Nat.le_of_ble_eq_true rfl) dL_areBandsSo_430 ⟨Nat.zero_le _, Nat.zero_le _⟩ (fun z131 μ128 n129 H locs hz131 hp130 hH hS => ?_)
              obtain ⟨hz2, hm2, hn2⟩ := hp130
              have hz2 := hz2.trans (show a_count u0 2 = ((aD u0).1 5) from cnt_2 u0)
              rw [hm2, hn2] at hH
              rw [hz2] at hz131
              rw [hz2]
              clear hz2 hm2 hn2
              refine j_icmp_gt (tgt := 440) hx hb dL_areBandsSo_433 (by decide) (fun c132 => absurd c132 (by omega)) (fun c132 => ?_) (by omega) (by omega)
              refine j_const hx hb dL_areBandsSo_436 ?_
              refine lv_goto (tgt := 441) hx hb dL_areBandsSo_437 (by decide) ?_
              subst hQ
              refine m_zret hx hb hr hlocks hH hS dL_areBandsSo_441 ?_ (by omega)
              exact ⟨rfl, rfl, rfl⟩
            · skip
              refine lv_iload_n hx hb dL_areBandsSo_397 rfl (lv_at hl 3 rfl) ?_
              refine j_if_le (tgt := 405) hx hb dL_areBandsSo_398 (by decide) (fun c133 => ?_) (fun c133 => absurd c133 (by omega)) (by omega)
              refine j_const hx hb dL_areBandsSo_405 ?_
              refine j_icmp_ne (tgt := 440) hx hb dL_areBandsSo_406 (by decide) (fun c134 => absurd c134 (by omega)) (fun c134 => ?_) (by omega) (by omega)
              refine lv_aload_n hx hb dL_areBandsSo_409 rfl (lv_at hl 1 rfl) ?_
              refine j_bipush hx hb dL_areBandsSo_410 ?_ (by decide)
              refine m_callVi (As := [.int (iv 10)]) (rest := []) ⟨hx, hb, hml, hown, hts⟩ hK hH hS (c_X8_count l G μ n x rb u0 10 hD (by omega)) (cwV 1 hts gL_areBandsSo_X8_count rfl rfl rfl (by decide +kernel) ⟨(Nat.le_of_ble_eq_true rfl), (Nat.le_of_ble_eq_true rfl)⟩) hD.1 rfl rfl rfl rfl hl.1 (Nat.le_of_ble_eq_true rfl) dL_areBandsSo_412 ⟨Nat.zero_le _, Nat.zero_le _⟩ (fun z138 μ135 n136 H locs hz138 hp137 hH hS => ?_)
              obtain ⟨hz2, hm2, hn2⟩ := hp137
              have hz2 := hz2.trans (show a_count u0 10 = ((aD u0).2.length : Int) from cnt_10 hU (by omega))
              rw [hm2, hn2] at hH
              rw [hz2] at hz138
              rw [hz2]
              clear hz2 hm2 hn2
              refine lv_aload_n hx hb dL_areBandsSo_415 rfl (lv_at hl 1 rfl) ?_
              refine j_const hx hb dL_areBandsSo_416 ?_
              refine m_callVi (As := [.int (iv 3)]) (rest := [.int (iv ((aD u0).2.length : Int))]) ⟨hx, hb, hml, hown, hts⟩ hK hH hS (c_X8_count l G μ n x rb u0 3 hD (by omega)) (cwV 1 hts gL_areBandsSo_X8_count rfl rfl rfl (by decide +kernel) ⟨(Nat.le_of_ble_eq_true rfl), (Nat.le_of_ble_eq_true rfl)⟩) hD.1 rfl rfl rfl rfl hl.1 (Nat.le_of_ble_eq_true rfl) dL_areBandsSo_417 ⟨Nat.zero_le _, Nat.zero_le _⟩ (fun z142 μ139 n140 H locs hz142 hp141 hH hS => ?_)
              obtain ⟨hz2, hm2, hn2⟩ := hp141
              have hz2 := hz2.trans (show a_count u0 3 = ((aD u0).1 6) from cnt_3 hU (by omega))
              rw [hm2, hn2] at hH
              rw [hz2] at hz142
              rw [hz2]
              clear hz2 hm2 hn2
              refine j_icmp_gt (tgt := 440) hx hb dL_areBandsSo_420 (by decide) (fun c143 => absurd c143 (by omega)) (fun c143 => ?_) (by omega) (by omega)
              refine lv_aload_n hx hb dL_areBandsSo_423 rfl (lv_at hl 1 rfl) ?_
              refine j_const hx hb dL_areBandsSo_424 ?_
              refine m_callVi (As := [.int (iv 3)]) (rest := []) ⟨hx, hb, hml, hown, hts⟩ hK hH hS (c_X8_count l G μ n x rb u0 3 hD (by omega)) (cwV 1 hts gL_areBandsSo_X8_count rfl rfl rfl (by decide +kernel) ⟨(Nat.le_of_ble_eq_true rfl), (Nat.le_of_ble_eq_true rfl)⟩) hD.1 rfl rfl rfl rfl hl.1 (Nat.le_of_ble_eq_true rfl) dL_areBandsSo_425 ⟨Nat.zero_le _, Nat.zero_le _⟩ (fun z147 μ144 n145 H locs hz147 hp146 hH hS => ?_)
              obtain ⟨hz2, hm2, hn2⟩ := hp146
              have hz2 := hz2.trans (show a_count u0 3 = ((aD u0).1 6) from cnt_3 hU (by omega))
              rw [hm2, hn2] at hH
              rw [hz2] at hz147
              rw [hz2]
              clear hz2 hm2 hn2
              refine lv_aload_n hx hb dL_areBandsSo_428 rfl (lv_at hl 1 rfl) ?_
              refine j_const hx hb dL_areBandsSo_429 ?_
              refine m_callVi (As := [.int (iv 2)]) (rest := [.int (iv ((aD u0).1 6))]) ⟨hx, hb, hml, hown, hts⟩ hK hH hS (c_X8_count l G μ n x rb u0 2 hD (by omega)) (cwV 1 hts gL_areBandsSo_X8_count rfl rfl rfl (by decide +kernel) ⟨(Nat.le_of_ble_eq_true rfl), (Nat.le_of_ble_eq_true rfl)⟩) hD.1 rfl rfl rfl rfl hl.1 (Nat.le_of_ble_eq_true rfl) dL_areBandsSo_430 ⟨Nat.zero_le _, Nat.zero_le _⟩ (fun z151 μ148 n149 H locs hz151 hp150 hH hS => ?_)
              obtain ⟨hz2, hm2, hn2⟩ := hp150
              have hz2 := hz2.trans (show a_count u0 2 = ((aD u0).1 5) from cnt_2 u0)
              rw [hm2, hn2] at hH
              rw [hz2] at hz151
              rw [hz2]
              clear hz2 hm2 hn2
              refine j_icmp_gt (tgt := 440) hx hb dL_areBandsSo_433 (by decide) (fun c152 => absurd c152 (by omega)) (fun c152 => ?_) (by omega) (by omega)
              refine j_const hx hb dL_areBandsSo_436 ?_
              refine lv_goto (tgt := 441) hx hb dL_areBandsSo_437 (by decide) ?_
              subst hQ
              refine m_zret hx hb hr hlocks hH hS dL_areBandsSo_441 ?_ (by omega)
              exact ⟨rfl, rfl, rfl⟩
        · skip
          have htd : shw (aD u0).1 6 = dig ((aD u0).1 3) := by omega
          refine j_const hx hb dL_areBandsSo_274 ?_
          refine lv_goto (tgt := 279) hx hb dL_areBandsSo_275 (by decide) ?_
          refine lv_istore (lv' := [(5, .int (iv 1)), (0, .ref x), (1, .int (iv al)), (2, .int (iv mo)), (3, .int (iv bd)), (4, .int (iv 1))]) hx hb dL_areBandsSo_279 hl (by decide) rfl (fun ls hl => ?_)
          refine lv_iload hx hb dL_areBandsSo_281 (lv_at hl 5 rfl) ?_
          refine j_if_eq (tgt := 440) hx hb dL_areBandsSo_283 (by decide) (fun c153 => absurd c153 (by omega)) (fun c153 => ?_) (by omega)
          refine lv_iload_n hx hb dL_areBandsSo_286 rfl (lv_at hl 4 rfl) ?_
          refine j_bipush hx hb dL_areBandsSo_287 ?_ (by decide)
          refine j_icmp_ne (tgt := 440) hx hb dL_areBandsSo_289 (by decide) (fun c154 => absurd c154 (by omega)) (fun c154 => ?_) (by omega) (by omega)
          refine lv_aload_n hx hb dL_areBandsSo_292 rfl (lv_at hl 1 rfl) ?_
          refine j_bipush hx hb dL_areBandsSo_293 ?_ (by decide)
          refine m_callVi (As := [.int (iv 8)]) (rest := []) ⟨hx, hb, hml, hown, hts⟩ hK hH hS (c_X8_count l G μ n x rb u0 8 hD (by omega)) (cwV 1 hts gL_areBandsSo_X8_count rfl rfl rfl (by decide +kernel) ⟨(Nat.le_of_ble_eq_true rfl), (Nat.le_of_ble_eq_true rfl)⟩) hD.1 rfl rfl rfl rfl hl.1 (Nat.le_of_ble_eq_true rfl) dL_areBandsSo_295 ⟨Nat.zero_le _, Nat.zero_le _⟩ (fun z158 μ155 n156 H locs hz158 hp157 hH hS => ?_)
          obtain ⟨hz2, hm2, hn2⟩ := hp157
          have hz2 := hz2.trans (show a_count u0 8 = 1 from (cnt_8 u0).trans (if_pos htd))
          rw [hm2, hn2] at hH
          rw [hz2] at hz158
          rw [hz2]
          clear hz2 hm2 hn2
          refine j_const hx hb dL_areBandsSo_298 ?_
          refine j_icmp_ne (tgt := 306) hx hb dL_areBandsSo_299 (by decide) (fun c159 => absurd c159 (by omega)) (fun c159 => ?_) (by omega) (by omega)
          refine j_const hx hb dL_areBandsSo_302 ?_
          refine lv_goto (tgt := 307) hx hb dL_areBandsSo_303 (by decide) ?_
          refine lv_iload hx hb dL_areBandsSo_307 (lv_at hl 0 rfl) ?_
          refine j_icmp_ne (tgt := 440) hx hb dL_areBandsSo_309 (by decide) (fun c160 => absurd c160 (by omega)) (fun c160 => ?_) (by omega) (by omega)
          refine lv_aload_n hx hb dL_areBandsSo_312 rfl (lv_at hl 1 rfl) ?_
          refine j_bipush hx hb dL_areBandsSo_313 ?_ (by decide)
          refine m_callVi (As := [.int (iv 9)]) (rest := []) ⟨hx, hb, hml, hown, hts⟩ hK hH hS (c_X8_count l G μ n x rb u0 9 hD (by omega)) (cwV 1 hts gL_areBandsSo_X8_count rfl rfl rfl (by decide +kernel) ⟨(Nat.le_of_ble_eq_true rfl), (Nat.le_of_ble_eq_true rfl)⟩) hD.1 rfl rfl rfl rfl hl.1 (Nat.le_of_ble_eq_true rfl) dL_areBandsSo_315 ⟨Nat.zero_le _, Nat.zero_le _⟩ (fun z164 μ161 n162 H locs hz164 hp163 hH hS => ?_)
          obtain ⟨hz2, hm2, hn2⟩ := hp163
          have hz2 := hz2.trans (show a_count u0 9 = (dday (shw (aD u0).1 6)) from cnt_9 u0)
          rw [hm2, hn2] at hH
          rw [hz2] at hz164
          rw [hz2]
          clear hz2 hm2 hn2
          refine lv_aload_n hx hb dL_areBandsSo_318 rfl (lv_at hl 1 rfl) ?_
          refine lv_aload_n hx hb dL_areBandsSo_319 rfl (lv_at hl 1 rfl) ?_
          refine m_callSi (As := [.ref x]) (rest := [.ref x, .int (iv (dday (shw (aD u0).1 6)))]) ⟨hx, hb, hml, hown, hts⟩ hK hH hS (c_L_shown l G μ n x rb u0 b0 hD hU (by omega)) (va_cwS 1 hts gL_areBandsSo_L_shown rfl rfl rfl (by decide +kernel) ⟨(Nat.le_of_ble_eq_true rfl), (Nat.le_of_ble_eq_true rfl)⟩) rfl rfl hl.1 (Nat.le_of_ble_eq_true rfl) dL_areBandsSo_320 ⟨Nat.zero_le _, Nat.zero_le _⟩ (fun z168 μ165 n166 H locs hz168 hp167 hH hS => ?_)
          obtain ⟨hz2, hm2, hn2⟩ := hp167
          rw [hm2, hn2] at hH
          rw [hz2] at hz168
          rw [hz2]
          clear hz2 hm2 hn2
          refine m_callVi (As := [.int (iv (shw (aD u0).1 6))]) (rest := [.int (iv (dday (shw (aD u0).1 6)))]) ⟨hx, hb, hml, hown, hts⟩ hK hH hS (c_X8_day l G μ n x rb u0 (shw (aD u0).1 6) hD (by omega)) (cwV 1 hts gL_areBandsSo_X8_day rfl rfl rfl (by decide +kernel) ⟨(Nat.le_of_ble_eq_true rfl), (Nat.le_of_ble_eq_true rfl)⟩) hD.1 rfl rfl rfl rfl hl.1 (Nat.le_of_ble_eq_true rfl) dL_areBandsSo_323 ⟨Nat.zero_le _, Nat.zero_le _⟩ (fun z172 μ169 n170 H locs hz172 hp171 hH hS => ?_)
          obtain ⟨hz2, hm2, hn2⟩ := hp171
          have hz2 := hz2.trans (show a_day (shw (aD u0).1 6) = (dday (shw (aD u0).1 6)) from day_of hsh)
          rw [hm2, hn2] at hH
          rw [hz2] at hz172
          rw [hz2]
          clear hz2 hm2 hn2
          refine j_icmp_ne (tgt := 440) hx hb dL_areBandsSo_326 (by decide) (fun c173 => absurd c173 (by omega)) (fun c173 => ?_) (by omega) (by omega)
          refine lv_aload_n hx hb dL_areBandsSo_329 rfl (lv_at hl 1 rfl) ?_
          refine j_const hx hb dL_areBandsSo_330 ?_
          refine m_callVi (As := [.int (iv 1)]) (rest := []) ⟨hx, hb, hml, hown, hts⟩ hK hH hS (c_X8_count l G μ n x rb u0 1 hD (by omega)) (cwV 1 hts gL_areBandsSo_X8_count rfl rfl rfl (by decide +kernel) ⟨(Nat.le_of_ble_eq_true rfl), (Nat.le_of_ble_eq_true rfl)⟩) hD.1 rfl rfl rfl rfl hl.1 (Nat.le_of_ble_eq_true rfl) dL_areBandsSo_331 ⟨Nat.zero_le _, Nat.zero_le _⟩ (fun z177 μ174 n175 H locs hz177 hp176 hH hS => ?_)
          obtain ⟨hz2, hm2, hn2⟩ := hp176
          have hz2 := hz2.trans (show a_count u0 1 = ((aD u0).1 4) from cnt_1 u0)
          rw [hm2, hn2] at hH
          rw [hz2] at hz177
          rw [hz2]
          clear hz2 hm2 hn2
          refine j_if_lt (tgt := 440) hx hb dL_areBandsSo_334 (by decide) (fun c178 => absurd c178 (by omega)) (fun c178 => ?_) (by omega)
          refine lv_aload_n hx hb dL_areBandsSo_337 rfl (lv_at hl 1 rfl) ?_
          refine j_const hx hb dL_areBandsSo_338 ?_
          refine m_callVi (As := [.int (iv 1)]) (rest := []) ⟨hx, hb, hml, hown, hts⟩ hK hH hS (c_X8_count l G μ n x rb u0 1 hD (by omega)) (cwV 1 hts gL_areBandsSo_X8_count rfl rfl rfl (by decide +kernel) ⟨(Nat.le_of_ble_eq_true rfl), (Nat.le_of_ble_eq_true rfl)⟩) hD.1 rfl rfl rfl rfl hl.1 (Nat.le_of_ble_eq_true rfl) dL_areBandsSo_339 ⟨Nat.zero_le _, Nat.zero_le _⟩ (fun z182 μ179 n180 H locs hz182 hp181 hH hS => ?_)
          obtain ⟨hz2, hm2, hn2⟩ := hp181
          have hz2 := hz2.trans (show a_count u0 1 = ((aD u0).1 4) from cnt_1 u0)
          rw [hm2, hn2] at hH
          rw [hz2] at hz182
          rw [hz2]
          clear hz2 hm2 hn2
          refine j_sipush hx hb dL_areBandsSo_342 ?_ (by decide)
          refine j_icmp_gt (tgt := 440) hx hb dL_areBandsSo_345 (by decide) (fun c183 => absurd c183 (by omega)) (fun c183 => ?_) (by omega) (by omega)
          refine lv_aload_n hx hb dL_areBandsSo_348 rfl (lv_at hl 1 rfl) ?_
          refine m_callVd (As := []) (rest := []) ⟨hx, hb, hml, hown, hts⟩ hK hH hS (c_X8_even l G μ n x rb u0 hD) (cwV 0 hts gL_areBandsSo_X8_even rfl rfl rfl (by decide +kernel) ⟨(Nat.le_of_ble_eq_true rfl), (Nat.le_of_ble_eq_true rfl)⟩) hD.1 rfl rfl rfl rfl hl.1 (Nat.le_of_ble_eq_true rfl) dL_areBandsSo_349 ⟨Nat.zero_le _, Nat.zero_le _⟩ (fun z187 μ184 n185 H locs hp186 hH hS => ?_)
          obtain ⟨hz2, hm2, hn2⟩ := hp186
          rw [hm2, hn2] at hH
          rw [hz2]
          clear hz2 hm2 hn2
          refine lv_dconst1 hx hb dL_areBandsSo_352 ?_
          refine lv_dcmp hx hb dL_areBandsSo_353 ?_
          rw [hq1]
          refine j_if_gt (tgt := 440) hx hb dL_areBandsSo_354 (by decide) (fun c188 => absurd c188 (by omega)) (fun c188 => ?_) (by omega)
          refine lv_aload_n hx hb dL_areBandsSo_357 rfl (lv_at hl 1 rfl) ?_
          refine m_callVd (As := []) (rest := []) ⟨hx, hb, hml, hown, hts⟩ hK hH hS (c_X8_even l G μ n x rb u0 hD) (cwV 0 hts gL_areBandsSo_X8_even rfl rfl rfl (by decide +kernel) ⟨(Nat.le_of_ble_eq_true rfl), (Nat.le_of_ble_eq_true rfl)⟩) hD.1 rfl rfl rfl rfl hl.1 (Nat.le_of_ble_eq_true rfl) dL_areBandsSo_358 ⟨Nat.zero_le _, Nat.zero_le _⟩ (fun z192 μ189 n190 H locs hp191 hH hS => ?_)
          obtain ⟨hz2, hm2, hn2⟩ := hp191
          rw [hm2, hn2] at hH
          rw [hz2]
          clear hz2 hm2 hn2
          refine lv_dconst0 hx hb dL_areBandsSo_361 ?_
          refine lv_dcmp hx hb dL_areBandsSo_362 ?_
          rw [hq0]
          refine j_if_lt (tgt := 440) hx hb dL_areBandsSo_363 (by decide) (fun c193 => absurd c193 (by omega)) (fun c193 => ?_) (by omega)
          refine lv_iload_n hx hb dL_areBandsSo_366 rfl (lv_at hl 3 rfl) ?_
          refine j_if_gt (tgt := 379) hx hb dL_areBandsSo_367 (by decide) (fun c194 => ?_) (fun c194 => ?_) (by omega)
          · skip
            refine lv_aload_n hx hb dL_areBandsSo_379 rfl (lv_at hl 1 rfl) ?_
            refine m_callVd (As := []) (rest := []) ⟨hx, hb, hml, hown, hts⟩ hK hH hS (c_X8_even l G μ n x rb u0 hD) (cwV 0 hts gL_areBandsSo_X8_even rfl rfl rfl (by decide +kernel) ⟨(Nat.le_of_ble_eq_true rfl), (Nat.le_of_ble_eq_true rfl)⟩) hD.1 rfl rfl rfl rfl hl.1 (Nat.le_of_ble_eq_true rfl) dL_areBandsSo_380 ⟨Nat.zero_le _, Nat.zero_le _⟩ (fun z198 μ195 n196 H locs hp197 hH hS => ?_)
            obtain ⟨hz2, hm2, hn2⟩ := hp197
            rw [hm2, hn2] at hH
            rw [hz2]
            clear hz2 hm2 hn2
            refine lv_dconst0 hx hb dL_areBandsSo_383 ?_
            refine lv_dcmp hx hb dL_areBandsSo_384 ?_
            rw [hq0]
            refine j_if_ne (tgt := 392) hx hb dL_areBandsSo_385 (by decide) (fun c199 => ?_) (fun c199 => absurd c199 (by omega)) (by omega)
            refine j_const hx hb dL_areBandsSo_392 ?_
            refine lv_iload_n hx hb dL_areBandsSo_393 rfl (lv_at hl 2 rfl) ?_
            refine j_if_ne (tgt := 405) hx hb dL_areBandsSo_394 (by decide) (fun c200 => ?_) (fun c200 => ?_) (by omega)
            · skip
              refine j_const hx hb dL_areBandsSo_405 ?_
              refine j_icmp_ne (tgt := 440) hx hb dL_areBandsSo_406 (by decide) (fun c201 => absurd c201 (by omega)) (fun c201 => ?_) (by omega) (by omega)
              refine lv_aload_n hx hb dL_areBandsSo_409 rfl (lv_at hl 1 rfl) ?_
              refine j_bipush hx hb dL_areBandsSo_410 ?_ (by decide)
              refine m_callVi (As := [.int (iv 10)]) (rest := []) ⟨hx, hb, hml, hown, hts⟩ hK hH hS (c_X8_count l G μ n x rb u0 10 hD (by omega)) (cwV 1 hts gL_areBandsSo_X8_count rfl rfl rfl (by decide +kernel) ⟨(Nat.le_of_ble_eq_true rfl), (Nat.le_of_ble_eq_true rfl)⟩) hD.1 rfl rfl rfl rfl hl.1 (Nat.le_of_ble_eq_true rfl) dL_areBandsSo_412 ⟨Nat.zero_le _, Nat.zero_le _⟩ (fun z205 μ202 n203 H locs hz205 hp204 hH hS => ?_)
              obtain ⟨hz2, hm2, hn2⟩ := hp204
              have hz2 := hz2.trans (show a_count u0 10 = ((aD u0).2.length : Int) from cnt_10 hU (by omega))
              rw [hm2, hn2] at hH
              rw [hz2] at hz205
              rw [hz2]
              clear hz2 hm2 hn2
              refine lv_aload_n hx hb dL_areBandsSo_415 rfl (lv_at hl 1 rfl) ?_
              refine j_const hx hb dL_areBandsSo_416 ?_
              refine m_callVi (As := [.int (iv 3)]) (rest := [.int (iv ((aD u0).2.length : Int))]) ⟨hx, hb, hml, hown, hts⟩ hK hH hS (c_X8_count l G μ n x rb u0 3 hD (by omega)) (cwV 1 hts gL_areBandsSo_X8_count rfl rfl rfl (by decide +kernel) ⟨(Nat.le_of_ble_eq_true rfl), (Nat.le_of_ble_eq_true rfl)⟩) hD.1 rfl rfl rfl rfl hl.1 (Nat.le_of_ble_eq_true rfl) dL_areBandsSo_417 ⟨Nat.zero_le _, Nat.zero_le _⟩ (fun z209 μ206 n207 H locs hz209 hp208 hH hS => ?_)
              obtain ⟨hz2, hm2, hn2⟩ := hp208
              have hz2 := hz2.trans (show a_count u0 3 = ((aD u0).1 6) from cnt_3 hU (by omega))
              rw [hm2, hn2] at hH
              rw [hz2] at hz209
              rw [hz2]
              clear hz2 hm2 hn2
              refine j_icmp_gt (tgt := 440) hx hb dL_areBandsSo_420 (by decide) (fun c210 => absurd c210 (by omega)) (fun c210 => ?_) (by omega) (by omega)
              refine lv_aload_n hx hb dL_areBandsSo_423 rfl (lv_at hl 1 rfl) ?_
              refine j_const hx hb dL_areBandsSo_424 ?_
              refine m_callVi (As := [.int (iv 3)]) (rest := []) ⟨hx, hb, hml, hown, hts⟩ hK hH hS (c_X8_count l G μ n x rb u0 3 hD (by omega)) (cwV 1 hts gL_areBandsSo_X8_count rfl rfl rfl (by decide +kernel) ⟨(Nat.le_of_ble_eq_true rfl), (Nat.le_of_ble_eq_true rfl)⟩) hD.1 rfl rfl rfl rfl hl.1 (Nat.le_of_ble_eq_true rfl) dL_areBandsSo_425 ⟨Nat.zero_le _, Nat.zero_le _⟩ (fun z214 μ211 n212 H locs hz214 hp213 hH hS => ?_)
              obtain ⟨hz2, hm2, hn2⟩ := hp213
              have hz2 := hz2.trans (show a_count u0 3 = ((aD u0).1 6) from cnt_3 hU (by omega))
              rw [hm2, hn2] at hH
              rw [hz2] at hz214
              rw [hz2]
              clear hz2 hm2 hn2
              refine lv_aload_n hx hb dL_areBandsSo_428 rfl (lv_at hl 1 rfl) ?_
              refine j_const hx hb dL_areBandsSo_429 ?_
              refine m_callVi (As := [.int (iv 2)]) (rest := [.int (iv ((aD u0).1 6))]) ⟨hx, hb, hml, hown, hts⟩ hK hH hS (c_X8_count l G μ n x rb u0 2 hD (by omega)) (cwV 1 hts gL_areBandsSo_X8_count rfl rfl rfl (by decide +kernel) ⟨(Nat.le_of_ble_eq_true rfl), (Nat.le_of_ble_eq_true rfl)⟩) hD.1 rfl rfl rfl rfl hl.1 (Nat.le_of_ble_eq_true rfl) dL_areBandsSo_430 ⟨Nat.zero_le _, Nat.zero_le _⟩ (fun z218 μ215 n216 H locs hz218 hp217 hH hS => ?_)
              obtain ⟨hz2, hm2, hn2⟩ := hp217
              have hz2 := hz2.trans (show a_count u0 2 = ((aD u0).1 5) from cnt_2 u0)
              rw [hm2, hn2] at hH
              rw [hz2] at hz218
              rw [hz2]
              clear hz2 hm2 hn2
              refine j_icmp_gt (tgt := 440) hx hb dL_areBandsSo_433 (by decide) (fun c219 => absurd c219 (by omega)) (fun c219 => ?_) (by omega) (by omega)
              refine j_const hx hb dL_areBandsSo_436 ?_
              refine lv_goto (tgt := 441) hx hb dL_areBandsSo_437 (by decide) ?_
              subst hQ
              refine m_zret hx hb hr hlocks hH hS dL_areBandsSo_441 ?_ (by omega)
              exact ⟨rfl, rfl, rfl⟩
            · skip
              refine lv_iload_n hx hb dL_areBandsSo_397 rfl (lv_at hl 3 rfl) ?_
              refine j_if_le (tgt := 405) hx hb dL_areBandsSo_398 (by decide) (fun c220 => ?_) (fun c220 => absurd c220 (by omega)) (by omega)
              refine j_const hx hb dL_areBandsSo_405 ?_
              refine j_icmp_ne (tgt := 440) hx hb dL_areBandsSo_406 (by decide) (fun c221 => absurd c221 (by omega)) (fun c221 => ?_) (by omega) (by omega)
              refine lv_aload_n hx hb dL_areBandsSo_409 rfl (lv_at hl 1 rfl) ?_
              refine j_bipush hx hb dL_areBandsSo_410 ?_ (by decide)
              refine m_callVi (As := [.int (iv 10)]) (rest := []) ⟨hx, hb, hml, hown, hts⟩ hK hH hS (c_X8_count l G μ n x rb u0 10 hD (by omega)) (cwV 1 hts gL_areBandsSo_X8_count rfl rfl rfl (by decide +kernel) ⟨(Nat.le_of_ble_eq_true rfl), (Nat.le_of_ble_eq_true rfl)⟩) hD.1 rfl rfl rfl rfl hl.1 (Nat.le_of_ble_eq_true rfl) dL_areBandsSo_412 ⟨Nat.zero_le _, Nat.zero_le _⟩ (fun z225 μ222 n223 H locs hz225 hp224 hH hS => ?_)
              obtain ⟨hz2, hm2, hn2⟩ := hp224
              have hz2 := hz2.trans (show a_count u0 10 = ((aD u0).2.length : Int) from cnt_10 hU (by omega))
              rw [hm2, hn2] at hH
              rw [hz2] at hz225
              rw [hz2]
              clear hz2 hm2 hn2
              refine lv_aload_n hx hb dL_areBandsSo_415 rfl (lv_at hl 1 rfl) ?_
              refine j_const hx hb dL_areBandsSo_416 ?_
              refine m_callVi (As := [.int (iv 3)]) (rest := [.int (iv ((aD u0).2.length : Int))]) ⟨hx, hb, hml, hown, hts⟩ hK hH hS (c_X8_count l G μ n x rb u0 3 hD (by omega)) (cwV 1 hts gL_areBandsSo_X8_count rfl rfl rfl (by decide +kernel) ⟨(Nat.le_of_ble_eq_true rfl), (Nat.le_of_ble_eq_true rfl)⟩) hD.1 rfl rfl rfl rfl hl.1 (Nat.le_of_ble_eq_true rfl) dL_areBandsSo_417 ⟨Nat.zero_le _, Nat.zero_le _⟩ (fun z229 μ226 n227 H locs hz229 hp228 hH hS => ?_)
              obtain ⟨hz2, hm2, hn2⟩ := hp228
              have hz2 := hz2.trans (show a_count u0 3 = ((aD u0).1 6) from cnt_3 hU (by omega))
              rw [hm2, hn2] at hH
              rw [hz2] at hz229
              rw [hz2]
              clear hz2 hm2 hn2
              refine j_icmp_gt (tgt := 440) hx hb dL_areBandsSo_420 (by decide) (fun c230 => absurd c230 (by omega)) (fun c230 => ?_) (by omega) (by omega)
              refine lv_aload_n hx hb dL_areBandsSo_423 rfl (lv_at hl 1 rfl) ?_
              refine j_const hx hb dL_areBandsSo_424 ?_
              refine m_callVi (As := [.int (iv 3)]) (rest := []) ⟨hx, hb, hml, hown, hts⟩ hK hH hS (c_X8_count l G μ n x rb u0 3 hD (by omega)) (cwV 1 hts gL_areBandsSo_X8_count rfl rfl rfl (by decide +kernel) ⟨(Nat.le_of_ble_eq_true rfl), (Nat.le_of_ble_eq_true rfl)⟩) hD.1 rfl rfl rfl rfl hl.1 (Nat.le_of_ble_eq_true rfl) dL_areBandsSo_425 ⟨Nat.zero_le _, Nat.zero_le _⟩ (fun z234 μ231 n232 H locs hz234 hp233 hH hS => ?_)
              obtain ⟨hz2, hm2, hn2⟩ := hp233
              have hz2 := hz2.trans (show a_count u0 3 = ((aD u0).1 6) from cnt_3 hU (by omega))
              rw [hm2, hn2] at hH
              rw [hz2] at hz234
              rw [hz2]
              clear hz2 hm2 hn2
              refine lv_aload_n hx hb dL_areBandsSo_428 rfl (lv_at hl 1 rfl) ?_
              refine j_const hx hb dL_areBandsSo_429 ?_
              refine m_callVi (As := [.int (iv 2)]) (rest := [.int (iv ((aD u0).1 6))]) ⟨hx, hb, hml, hown, hts⟩ hK hH hS (c_X8_count l G μ n x rb u0 2 hD (by omega)) (cwV 1 hts gL_areBandsSo_X8_count rfl rfl rfl (by decide +kernel) ⟨(Nat.le_of_ble_eq_true rfl), (Nat.le_of_ble_eq_true rfl)⟩) hD.1 rfl rfl rfl rfl hl.1 (Nat.le_of_ble_eq_true rfl) dL_areBandsSo_430 ⟨Nat.zero_le _, Nat.zero_le _⟩ (fun z238 μ235 n236 H locs hz238 hp237 hH hS => ?_)
              obtain ⟨hz2, hm2, hn2⟩ := hp237
              have hz2 := hz2.trans (show a_count u0 2 = ((aD u0).1 5) from cnt_2 u0)
              rw [hm2, hn2] at hH
              rw [hz2] at hz238
              rw [hz2]
              clear hz2 hm2 hn2
              refine j_icmp_gt (tgt := 440) hx hb dL_areBandsSo_433 (by decide) (fun c239 => absurd c239 (by omega)) (fun c239 => ?_) (by omega) (by omega)
              refine j_const hx hb dL_areBandsSo_436 ?_
              refine lv_goto (tgt := 441) hx hb dL_areBandsSo_437 (by decide) ?_
              subst hQ
              refine m_zret hx hb hr hlocks hH hS dL_areBandsSo_441 ?_ (by omega)
              exact ⟨rfl, rfl, rfl⟩
          · skip
            refine lv_aload_n hx hb dL_areBandsSo_370 rfl (lv_at hl 1 rfl) ?_
            refine m_callVd (As := []) (rest := []) ⟨hx, hb, hml, hown, hts⟩ hK hH hS (c_X8_even l G μ n x rb u0 hD) (cwV 0 hts gL_areBandsSo_X8_even rfl rfl rfl (by decide +kernel) ⟨(Nat.le_of_ble_eq_true rfl), (Nat.le_of_ble_eq_true rfl)⟩) hD.1 rfl rfl rfl rfl hl.1 (Nat.le_of_ble_eq_true rfl) dL_areBandsSo_371 ⟨Nat.zero_le _, Nat.zero_le _⟩ (fun z243 μ240 n241 H locs hp242 hH hS => ?_)
            obtain ⟨hz2, hm2, hn2⟩ := hp242
            rw [hm2, hn2] at hH
            rw [hz2]
            clear hz2 hm2 hn2
            refine lv_dconst1 hx hb dL_areBandsSo_374 ?_
            refine lv_dcmp hx hb dL_areBandsSo_375 ?_
            rw [ev_eq .l (hev.2.2 (by omega))]
            refine j_if_ne (tgt := 440) hx hb dL_areBandsSo_376 (by decide) (fun c244 => absurd c244 (by omega)) (fun c244 => ?_) (by omega)
            refine lv_aload_n hx hb dL_areBandsSo_379 rfl (lv_at hl 1 rfl) ?_
            refine m_callVd (As := []) (rest := []) ⟨hx, hb, hml, hown, hts⟩ hK hH hS (c_X8_even l G μ n x rb u0 hD) (cwV 0 hts gL_areBandsSo_X8_even rfl rfl rfl (by decide +kernel) ⟨(Nat.le_of_ble_eq_true rfl), (Nat.le_of_ble_eq_true rfl)⟩) hD.1 rfl rfl rfl rfl hl.1 (Nat.le_of_ble_eq_true rfl) dL_areBandsSo_380 ⟨Nat.zero_le _, Nat.zero_le _⟩ (fun z248 μ245 n246 H locs hp247 hH hS => ?_)
            obtain ⟨hz2, hm2, hn2⟩ := hp247
            rw [hm2, hn2] at hH
            rw [hz2]
            clear hz2 hm2 hn2
            refine lv_dconst0 hx hb dL_areBandsSo_383 ?_
            refine lv_dcmp hx hb dL_areBandsSo_384 ?_
            rw [hq0]
            refine j_if_ne (tgt := 392) hx hb dL_areBandsSo_385 (by decide) (fun c249 => ?_) (fun c249 => absurd c249 (by omega)) (by omega)
            refine j_const hx hb dL_areBandsSo_392 ?_
            refine lv_iload_n hx hb dL_areBandsSo_393 rfl (lv_at hl 2 rfl) ?_
            refine j_if_ne (tgt := 405) hx hb dL_areBandsSo_394 (by decide) (fun c250 => ?_) (fun c250 => ?_) (by omega)
            · skip
              refine j_const hx hb dL_areBandsSo_405 ?_
              refine j_icmp_ne (tgt := 440) hx hb dL_areBandsSo_406 (by decide) (fun c251 => absurd c251 (by omega)) (fun c251 => ?_) (by omega) (by omega)
              refine lv_aload_n hx hb dL_areBandsSo_409 rfl (lv_at hl 1 rfl) ?_
              refine j_bipush hx hb dL_areBandsSo_410 ?_ (by decide)
              refine m_callVi (As := [.int (iv 10)]) (rest := []) ⟨hx, hb, hml, hown, hts⟩ hK hH hS (c_X8_count l G μ n x rb u0 10 hD (by omega)) (cwV 1 hts gL_areBandsSo_X8_count rfl rfl rfl (by decide +kernel) ⟨(Nat.le_of_ble_eq_true rfl), (Nat.le_of_ble_eq_true rfl)⟩) hD.1 rfl rfl rfl rfl hl.1 (Nat.le_of_ble_eq_true rfl) dL_areBandsSo_412 ⟨Nat.zero_le _, Nat.zero_le _⟩ (fun z255 μ252 n253 H locs hz255 hp254 hH hS => ?_)
              obtain ⟨hz2, hm2, hn2⟩ := hp254
              have hz2 := hz2.trans (show a_count u0 10 = ((aD u0).2.length : Int) from cnt_10 hU (by omega))
              rw [hm2, hn2] at hH
              rw [hz2] at hz255
              rw [hz2]
              clear hz2 hm2 hn2
              refine lv_aload_n hx hb dL_areBandsSo_415 rfl (lv_at hl 1 rfl) ?_
              refine j_const hx hb dL_areBandsSo_416 ?_
              refine m_callVi (As := [.int (iv 3)]) (rest := [.int (iv ((aD u0).2.length : Int))]) ⟨hx, hb, hml, hown, hts⟩ hK hH hS (c_X8_count l G μ n x rb u0 3 hD (by omega)) (cwV 1 hts gL_areBandsSo_X8_count rfl rfl rfl (by decide +kernel) ⟨(Nat.le_of_ble_eq_true rfl), (Nat.le_of_ble_eq_true rfl)⟩) hD.1 rfl rfl rfl rfl hl.1 (Nat.le_of_ble_eq_true rfl) dL_areBandsSo_417 ⟨Nat.zero_le _, Nat.zero_le _⟩ (fun z259 μ256 n257 H locs hz259 hp258 hH hS => ?_)
              obtain ⟨hz2, hm2, hn2⟩ := hp258
              have hz2 := hz2.trans (show a_count u0 3 = ((aD u0).1 6) from cnt_3 hU (by omega))
              rw [hm2, hn2] at hH
              rw [hz2] at hz259
              rw [hz2]
              clear hz2 hm2 hn2
              refine j_icmp_gt (tgt := 440) hx hb dL_areBandsSo_420 (by decide) (fun c260 => absurd c260 (by omega)) (fun c260 => ?_) (by omega) (by omega)
              refine lv_aload_n hx hb dL_areBandsSo_423 rfl (lv_at hl 1 rfl) ?_
              refine j_const hx hb dL_areBandsSo_424 ?_
              refine m_callVi (As := [.int (iv 3)]) (rest := []) ⟨hx, hb, hml, hown, hts⟩ hK hH hS (c_X8_count l G μ n x rb u0 3 hD (by omega)) (cwV 1 hts gL_areBandsSo_X8_count rfl rfl rfl (by decide +kernel) ⟨(Nat.le_of_ble_eq_true rfl), (Nat.le_of_ble_eq_true rfl)⟩) hD.1 rfl rfl rfl rfl hl.1 (Nat.le_of_ble_eq_true rfl) dL_areBandsSo_425 ⟨Nat.zero_le _, Nat.zero_le _⟩ (fun z264 μ261 n262 H locs hz264 hp263 hH hS => ?_)
              obtain ⟨hz2, hm2, hn2⟩ := hp263
              have hz2 := hz2.trans (show a_count u0 3 = ((aD u0).1 6) from cnt_3 hU (by omega))
              rw [hm2, hn2] at hH
              rw [hz2] at hz264
              rw [hz2]
              clear hz2 hm2 hn2
              refine lv_aload_n hx hb dL_areBandsSo_428 rfl (lv_at hl 1 rfl) ?_
              refine j_const hx hb dL_areBandsSo_429 ?_
              refine m_callVi (As := [.int (iv 2)]) (rest := [.int (iv ((aD u0).1 6))]) ⟨hx, hb, hml, hown, hts⟩ hK hH hS (c_X8_count l G μ n x rb u0 2 hD (by omega)) (cwV 1 hts gL_areBandsSo_X8_count rfl rfl rfl (by decide +kernel) ⟨(Nat.le_of_ble_eq_true rfl), (Nat.le_of_ble_eq_true rfl)⟩) hD.1 rfl rfl rfl rfl hl.1 (Nat.le_of_ble_eq_true rfl) dL_areBandsSo_430 ⟨Nat.zero_le _, Nat.zero_le _⟩ (fun z268 μ265 n266 H locs hz268 hp267 hH hS => ?_)
              obtain ⟨hz2, hm2, hn2⟩ := hp267
              have hz2 := hz2.trans (show a_count u0 2 = ((aD u0).1 5) from cnt_2 u0)
              rw [hm2, hn2] at hH
              rw [hz2] at hz268
              rw [hz2]
              clear hz2 hm2 hn2
              refine j_icmp_gt (tgt := 440) hx hb dL_areBandsSo_433 (by decide) (fun c269 => absurd c269 (by omega)) (fun c269 => ?_) (by omega) (by omega)
              refine j_const hx hb dL_areBandsSo_436 ?_
              refine lv_goto (tgt := 441) hx hb dL_areBandsSo_437 (by decide) ?_
              subst hQ
              refine m_zret hx hb hr hlocks hH hS dL_areBandsSo_441 ?_ (by omega)
              exact ⟨rfl, rfl, rfl⟩
            · skip
              refine lv_iload_n hx hb dL_areBandsSo_397 rfl (lv_at hl 3 rfl) ?_
              refine j_if_le (tgt := 405) hx hb dL_areBandsSo_398 (by decide) (fun c270 => ?_) (fun c270 => absurd c270 (by omega)) (by omega)
              refine j_const hx hb dL_areBandsSo_405 ?_
              refine j_icmp_ne (tgt := 440) hx hb dL_areBandsSo_406 (by decide) (fun c271 => absurd c271 (by omega)) (fun c271 => ?_) (by omega) (by omega)
              refine lv_aload_n hx hb dL_areBandsSo_409 rfl (lv_at hl 1 rfl) ?_
              refine j_bipush hx hb dL_areBandsSo_410 ?_ (by decide)
              refine m_callVi (As := [.int (iv 10)]) (rest := []) ⟨hx, hb, hml, hown, hts⟩ hK hH hS (c_X8_count l G μ n x rb u0 10 hD (by omega)) (cwV 1 hts gL_areBandsSo_X8_count rfl rfl rfl (by decide +kernel) ⟨(Nat.le_of_ble_eq_true rfl), (Nat.le_of_ble_eq_true rfl)⟩) hD.1 rfl rfl rfl rfl hl.1 (Nat.le_of_ble_eq_true rfl) dL_areBandsSo_412 ⟨Nat.zero_le _, Nat.zero_le _⟩ (fun z275 μ272 n273 H locs hz275 hp274 hH hS => ?_)
              obtain ⟨hz2, hm2, hn2⟩ := hp274
              have hz2 := hz2.trans (show a_count u0 10 = ((aD u0).2.length : Int) from cnt_10 hU (by omega))
              rw [hm2, hn2] at hH
              rw [hz2] at hz275
              rw [hz2]
              clear hz2 hm2 hn2
              refine lv_aload_n hx hb dL_areBandsSo_415 rfl (lv_at hl 1 rfl) ?_
              refine j_const hx hb dL_areBandsSo_416 ?_
              refine m_callVi (As := [.int (iv 3)]) (rest := [.int (iv ((aD u0).2.length : Int))]) ⟨hx, hb, hml, hown, hts⟩ hK hH hS (c_X8_count l G μ n x rb u0 3 hD (by omega)) (cwV 1 hts gL_areBandsSo_X8_count rfl rfl rfl (by decide +kernel) ⟨(Nat.le_of_ble_eq_true rfl), (Nat.le_of_ble_eq_true rfl)⟩) hD.1 rfl rfl rfl rfl hl.1 (Nat.le_of_ble_eq_true rfl) dL_areBandsSo_417 ⟨Nat.zero_le _, Nat.zero_le _⟩ (fun z279 μ276 n277 H locs hz279 hp278 hH hS => ?_)
              obtain ⟨hz2, hm2, hn2⟩ := hp278
              have hz2 := hz2.trans (show a_count u0 3 = ((aD u0).1 6) from cnt_3 hU (by omega))
              rw [hm2, hn2] at hH
              rw [hz2] at hz279
              rw [hz2]
              clear hz2 hm2 hn2
              refine j_icmp_gt (tgt := 440) hx hb dL_areBandsSo_420 (by decide) (fun c280 => absurd c280 (by omega)) (fun c280 => ?_) (by omega) (by omega)
              refine lv_aload_n hx hb dL_areBandsSo_423 rfl (lv_at hl 1 rfl) ?_
              refine j_const hx hb dL_areBandsSo_424 ?_
              refine m_callVi (As := [.int (iv 3)]) (rest := []) ⟨hx, hb, hml, hown, hts⟩ hK hH hS (c_X8_count l G μ n x rb u0 3 hD (by omega)) (cwV 1 hts gL_areBandsSo_X8_count rfl rfl rfl (by decide +kernel) ⟨(Nat.le_of_ble_eq_true rfl), (Nat.le_of_ble_eq_true rfl)⟩) hD.1 rfl rfl rfl rfl hl.1 (Nat.le_of_ble_eq_true rfl) dL_areBandsSo_425 ⟨Nat.zero_le _, Nat.zero_le _⟩ (fun z284 μ281 n282 H locs hz284 hp283 hH hS => ?_)
              obtain ⟨hz2, hm2, hn2⟩ := hp283
              have hz2 := hz2.trans (show a_count u0 3 = ((aD u0).1 6) from cnt_3 hU (by omega))
              rw [hm2, hn2] at hH
              rw [hz2] at hz284
              rw [hz2]
              clear hz2 hm2 hn2
              refine lv_aload_n hx hb dL_areBandsSo_428 rfl (lv_at hl 1 rfl) ?_
              refine j_const hx hb dL_areBandsSo_429 ?_
              refine m_callVi (As := [.int (iv 2)]) (rest := [.int (iv ((aD u0).1 6))]) ⟨hx, hb, hml, hown, hts⟩ hK hH hS (c_X8_count l G μ n x rb u0 2 hD (by omega)) (cwV 1 hts gL_areBandsSo_X8_count rfl rfl rfl (by decide +kernel) ⟨(Nat.le_of_ble_eq_true rfl), (Nat.le_of_ble_eq_true rfl)⟩) hD.1 rfl rfl rfl rfl hl.1 (Nat.le_of_ble_eq_true rfl) dL_areBandsSo_430 ⟨Nat.zero_le _, Nat.zero_le _⟩ (fun z288 μ285 n286 H locs hz288 hp287 hH hS => ?_)
              obtain ⟨hz2, hm2, hn2⟩ := hp287
              have hz2 := hz2.trans (show a_count u0 2 = ((aD u0).1 5) from cnt_2 u0)
              rw [hm2, hn2] at hH
              rw [hz2] at hz288
              rw [hz2]
              clear hz2 hm2 hn2
              refine j_icmp_gt (tgt := 440) hx hb dL_areBandsSo_433 (by decide) (fun c289 => absurd c289 (by omega)) (fun c289 => ?_) (by omega) (by omega)
              refine j_const hx hb dL_areBandsSo_436 ?_
              refine lv_goto (tgt := 441) hx hb dL_areBandsSo_437 (by decide) ?_
              subst hQ
              refine m_zret hx hb hr hlocks hH hS dL_areBandsSo_441 ?_ (by omega)
              exact ⟨rfl, rfl, rfl⟩
      · skip
        have hip : i.toNat < 6 := by omega
        have hwr := OkS.w hOS hip
        have hbb := hOS.2.2.2.2 i.toNat hip
        have hbw := hbb.2.2.2 ((aD u0).1 (86 + 13 * i.toNat)).toNat (by omega)
        have hal60 := esum_rng hOS (10 * i.toNat) (by omega)
        rw [← hal] at hal60
        have hmo60 := emax_rng hOS (10 * i.toNat) (by omega)
        rw [← hmo] at hmo60
        have hmo99 : 0 ≤ mo ∧ mo ≤ 99 := ⟨hmo60.1, hmo60.2.1⟩
        clear hmo60
        refine j_const hx hb dL_areBandsSo_19 ?_
        refine lv_istore (lv' := [(6, .int (iv 0)), (0, .ref x), (1, .int (iv al)), (2, .int (iv mo)), (3, .int (iv bd)), (4, .int (iv 1)), (5, .int (iv i))]) hx hb dL_areBandsSo_20 hl (by decide) rfl (fun ls hl => ?_)
        refine j_bipush hx hb dL_areBandsSo_22 ?_ (by decide)
        refine lv_istore (lv' := [(7, .int (iv 99)), (6, .int (iv 0)), (0, .ref x), (1, .int (iv al)), (2, .int (iv mo)), (3, .int (iv bd)), (4, .int (iv 1)), (5, .int (iv i))]) hx hb dL_areBandsSo_24 hl (by decide) rfl (fun ls hl => ?_)
        refine j_const hx hb dL_areBandsSo_26 ?_
        refine lv_istore (lv' := [(8, .int (iv 0)), (7, .int (iv 99)), (6, .int (iv 0)), (0, .ref x), (1, .int (iv al)), (2, .int (iv mo)), (3, .int (iv bd)), (4, .int (iv 1)), (5, .int (iv i))]) hx hb dL_areBandsSo_27 hl (by decide) rfl (fun ls hl => ?_)
        refine j_const hx hb dL_areBandsSo_29 ?_
        refine lv_istore (lv' := [(9, .int (iv 0)), (8, .int (iv 0)), (7, .int (iv 99)), (6, .int (iv 0)), (0, .ref x), (1, .int (iv al)), (2, .int (iv mo)), (3, .int (iv bd)), (4, .int (iv 1)), (5, .int (iv i))]) hx hb dL_areBandsSo_30 hl (by decide) rfl (fun ls hl => ?_)
        have lp32 : ∀ (fuel : Nat) (j : Int) (al2 : Int) (gr : Int) (lw : Int) (ga : Int) (hj : 0 ≤ j ∧ j ≤ 10) (hal2 : al2 = al + bsum (roww (aD u0).1 i.toNat) j.toNat) (hgr : gr = gG (roww (aD u0).1 i.toNat) j.toNat) (hlw : lw = bleast (roww (aD u0).1 i.toNat) j.toNat) (hga : ga = (gAt (roww (aD u0).1 i.toNat) j.toNat : Int)) (_ : (10 - j).toNat < fuel) (H : Heap) (locs : List Loc) (ls : Array Slot) (_ : gP G μ n H) (_ : va_S (gA G) s.heap H locs) (_ : lv_has ls 11 [(0, .ref x), (1, .int (iv al2)), (2, .int (iv mo)), (3, .int (iv bd)), (4, .int (iv 1)), (5, .int (iv i)), (6, .int (iv gr)), (7, .int (iv lw)), (8, .int (iv ga)), (9, .int (iv j))]), W p l e rm_c_L_areBandsSo s m args below meth c H locs 0 0 Q (F0 m 32 ls []) := by
          intro fuel
          induction fuel with
          | zero => intro _ _ _ _ _ _ _ _ _ _ hfuel; exact absurd hfuel (Nat.not_lt_zero _)
          | succ fuel ih =>
            intro j al2 gr lw ga hj hal2 hgr hlw hga hfuel H locs ls hH hS hl
            have ih290 := ih; clear ih
            refine lv_iload hx hb dL_areBandsSo_32 (lv_at hl 9 rfl) ?_
            refine j_bipush hx hb dL_areBandsSo_34 ?_ (by decide)
            refine j_icmp_ge (tgt := 108) hx hb dL_areBandsSo_36 (by decide) (fun c291 => ?_) (fun c291 => ?_) (by omega) (by omega)
            · skip
              have hj10 : j = 10 := by omega
              rw [hj10] at hal2 hgr hlw hga
              have hgb := gG_b (f := (roww (aD u0).1 i.toNat)) (hwr 0 (by omega)).1 9
              have hgr : gr = (roww (aD u0).1 i.toNat) (bmost (roww (aD u0).1 i.toNat) 9) := hgr.trans hgb.1
              have hga : ga = ((bmost (roww (aD u0).1 i.toNat) 9 : Nat) : Int) := by rw [hga]; exact congrArg (fun q : Nat => (q : Int)) hgb.2
              have hlw : lw = bleast (roww (aD u0).1 i.toNat) 10 := hlw
              have hbm := bmost_le (roww (aD u0).1 i.toNat) 9
              have hgj := hwr (bmost (roww (aD u0).1 i.toNat) 9) (by omega)
              have hbl := bleast_rng (f := (roww (aD u0).1 i.toNat)) 10 hwr
              have hin : (i + 1).toNat = i.toNat + 1 := by omega
              have hem2 := emax_b (σ := (aD u0).1) (p := i.toNat) 9 (Nat.le_refl _)
              rw [← hmo, ← hgr] at hem2
              obtain ⟨mx, hmx⟩ : ∃ q : Int, q = max mo gr := ⟨_, rfl⟩
              rw [← hmx] at hem2
              have haln : al2 = esum (aD u0).1 (10 * (i + 1).toNat) := by rw [hin, show 10 * (i.toNat + 1) = 10 * i.toNat + 10 by omega, esum_b (aD u0).1 i.toNat 10 (by omega), ← hal]; exact hal2
              have hmon : mx = emax (aD u0).1 (10 * (i + 1).toNat) := by rw [hin, show 10 * (i.toNat + 1) = 10 * i.toNat + (9 + 1) by omega]; exact hem2.symm
              have hbdn : ((msk (aD u0).1 (i.toNat + 1) : Nat) : Int) = (msk (aD u0).1 (i + 1).toNat : Int) := by rw [hin]
              have jn120_292 : ∀ (H : Heap) (locs : List Loc) (ls : Array Slot) (_ : gP G μ n H) (_ : va_S (gA G) s.heap H locs) (_ : lv_has ls 11 [(0, .ref x), (1, .int (iv al2)), (2, .int (iv mo)), (3, .int (iv bd)), (4, .int (iv 1)), (5, .int (iv i)), (6, .int (iv gr)), (7, .int (iv lw)), (8, .int (iv ga)), (9, .int (iv j))]), W p l e rm_c_L_areBandsSo s m args below meth c H locs 0 0 Q (F0 m 120 ls [.int (iv mx)]) := by
                intro H locs ls hH hS hl
                refine lv_istore_n (lv' := [(2, .int (iv mx)), (0, .ref x), (1, .int (iv al2)), (3, .int (iv bd)), (4, .int (iv 1)), (5, .int (iv i)), (6, .int (iv gr)), (7, .int (iv lw)), (8, .int (iv ga)), (9, .int (iv j))]) hx hb dL_areBandsSo_120 rfl hl (by decide) rfl (fun ls hl => ?_)
                refine lv_iload_n hx hb dL_areBandsSo_121 rfl (lv_at hl 3 rfl) ?_
                refine j_const hx hb dL_areBandsSo_122 ?_
                refine lv_aload_n hx hb dL_areBandsSo_123 rfl (lv_at hl 1 rfl) ?_
                refine lv_iload hx hb dL_areBandsSo_124 (lv_at hl 5 rfl) ?_
                refine j_const hx hb dL_areBandsSo_126 ?_
                refine m_callVi (As := [.int (iv i), .int (iv 0)]) (rest := [.int (iv 1), .int (iv bd)]) ⟨hx, hb, hml, hown, hts⟩ hK hH hS (c_X8_band l G μ n x rb u0 i 0 hD (by omega) (by omega)) (cwV 2 hts gL_areBandsSo_X8_band rfl rfl rfl (by decide +kernel) ⟨(Nat.le_of_ble_eq_true rfl), (Nat.le_of_ble_eq_true rfl)⟩) hD.1 rfl rfl rfl rfl hl.1 (Nat.le_of_ble_eq_true rfl) dL_areBandsSo_127 ⟨Nat.zero_le _, Nat.zero_le _⟩ (fun z296 μ293 n294 H locs hz296 hp295 hH hS => ?_)
                obtain ⟨hz2, hm2, hn2⟩ := hp295
                have hz2 := hz2.trans (show a_band (aD u0).1 i 0 = ((aD u0).1 (85 + 13 * i.toNat)) from band_0 (by omega))
                rw [hm2, hn2] at hH
                rw [hz2] at hz296
                rw [hz2]
                clear hz2 hm2 hn2
                refine j_ishl (v := ((2 ^ ((aD u0).1 (85 + 13 * i.toNat)).toNat : Nat) : Int)) hx hb dL_areBandsSo_130 (by have hq := bit_shl ((aD u0).1 (85 + 13 * i.toNat)).toNat (by omega); rw [show ((((aD u0).1 (85 + 13 * i.toNat)).toNat : Nat) : Int) = ((aD u0).1 (85 + 13 * i.toNat)) by omega] at hq; exact hq) ?_
                refine j_ior (v := ((msk (aD u0).1 (i.toNat + 1) : Nat) : Int)) hx hb dL_areBandsSo_131 (by rw [hbd]; exact clA _ (msk_lt hOS i.toNat (by omega)) _ (Nat.lt_of_le_of_lt (Nat.pow_le_pow_right (by omega) (show ((aD u0).1 (85 + 13 * i.toNat)).toNat ≤ 5 by omega)) (by decide))) ?_
                refine lv_istore_n (lv' := [(3, .int (iv ((msk (aD u0).1 (i.toNat + 1) : Nat) : Int))), (2, .int (iv mx)), (0, .ref x), (1, .int (iv al2)), (4, .int (iv 1)), (5, .int (iv i)), (6, .int (iv gr)), (7, .int (iv lw)), (8, .int (iv ga)), (9, .int (iv j))]) hx hb dL_areBandsSo_132 rfl hl (by decide) rfl (fun ls hl => ?_)
                refine lv_iload hx hb dL_areBandsSo_133 (lv_at hl 4 rfl) ?_
                refine j_if_eq (tgt := 248) hx hb dL_areBandsSo_135 (by decide) (fun c297 => absurd c297 (by omega)) (fun c297 => ?_) (by omega)
                refine lv_aload_n hx hb dL_areBandsSo_138 rfl (lv_at hl 2 rfl) ?_
                refine lv_iload hx hb dL_areBandsSo_139 (lv_at hl 5 rfl) ?_
                refine j_const hx hb dL_areBandsSo_141 ?_
                refine m_callVi (As := [.int (iv i), .int (iv 3)]) (rest := []) ⟨hx, hb, hml, hown, hts⟩ hK hH hS (c_X8_band l G μ n x rb u0 i 3 hD (by omega) (by omega)) (cwV 2 hts gL_areBandsSo_X8_band rfl rfl rfl (by decide +kernel) ⟨(Nat.le_of_ble_eq_true rfl), (Nat.le_of_ble_eq_true rfl)⟩) hD.1 rfl rfl rfl rfl hl.1 (Nat.le_of_ble_eq_true rfl) dL_areBandsSo_142 ⟨Nat.zero_le _, Nat.zero_le _⟩ (fun z301 μ298 n299 H locs hz301 hp300 hH hS => ?_)
                obtain ⟨hz2, hm2, hn2⟩ := hp300
                have hz2 := hz2.trans (show a_band (aD u0).1 i 3 = ((roww (aD u0).1 i.toNat) (bmost (roww (aD u0).1 i.toNat) 9)) from band_3 (by omega))
                rw [hm2, hn2] at hH
                rw [hz2] at hz301
                rw [hz2]
                clear hz2 hm2 hn2
                refine lv_iload hx hb dL_areBandsSo_145 (lv_at hl 6 rfl) ?_
                refine j_icmp_ne (tgt := 248) hx hb dL_areBandsSo_147 (by decide) (fun c302 => absurd c302 (by omega)) (fun c302 => ?_) (by omega) (by omega)
                refine lv_aload_n hx hb dL_areBandsSo_150 rfl (lv_at hl 2 rfl) ?_
                refine lv_iload hx hb dL_areBandsSo_151 (lv_at hl 5 rfl) ?_
                refine j_const hx hb dL_areBandsSo_153 ?_
                refine m_callVi (As := [.int (iv i), .int (iv 4)]) (rest := []) ⟨hx, hb, hml, hown, hts⟩ hK hH hS (c_X8_band l G μ n x rb u0 i 4 hD (by omega) (by omega)) (cwV 2 hts gL_areBandsSo_X8_band rfl rfl rfl (by decide +kernel) ⟨(Nat.le_of_ble_eq_true rfl), (Nat.le_of_ble_eq_true rfl)⟩) hD.1 rfl rfl rfl rfl hl.1 (Nat.le_of_ble_eq_true rfl) dL_areBandsSo_154 ⟨Nat.zero_le _, Nat.zero_le _⟩ (fun z306 μ303 n304 H locs hz306 hp305 hH hS => ?_)
                obtain ⟨hz2, hm2, hn2⟩ := hp305
                have hz2 := hz2.trans (show a_band (aD u0).1 i 4 = (bleast (roww (aD u0).1 i.toNat) 10) from band_4 (by omega))
                rw [hm2, hn2] at hH
                rw [hz2] at hz306
                rw [hz2]
                clear hz2 hm2 hn2
                refine lv_iload hx hb dL_areBandsSo_157 (lv_at hl 7 rfl) ?_
                refine j_icmp_ne (tgt := 248) hx hb dL_areBandsSo_159 (by decide) (fun c307 => absurd c307 (by omega)) (fun c307 => ?_) (by omega) (by omega)
                refine lv_aload_n hx hb dL_areBandsSo_162 rfl (lv_at hl 2 rfl) ?_
                refine lv_iload hx hb dL_areBandsSo_163 (lv_at hl 5 rfl) ?_
                refine j_const hx hb dL_areBandsSo_165 ?_
                refine m_callVi (As := [.int (iv i), .int (iv 5)]) (rest := []) ⟨hx, hb, hml, hown, hts⟩ hK hH hS (c_X8_band l G μ n x rb u0 i 5 hD (by omega) (by omega)) (cwV 2 hts gL_areBandsSo_X8_band rfl rfl rfl (by decide +kernel) ⟨(Nat.le_of_ble_eq_true rfl), (Nat.le_of_ble_eq_true rfl)⟩) hD.1 rfl rfl rfl rfl hl.1 (Nat.le_of_ble_eq_true rfl) dL_areBandsSo_166 ⟨Nat.zero_le _, Nat.zero_le _⟩ (fun z311 μ308 n309 H locs hz311 hp310 hH hS => ?_)
                obtain ⟨hz2, hm2, hn2⟩ := hp310
                have hz2 := hz2.trans (show a_band (aD u0).1 i 5 = ((bmost (roww (aD u0).1 i.toNat) 9 : Nat) : Int) from band_5 (by omega))
                rw [hm2, hn2] at hH
                rw [hz2] at hz311
                rw [hz2]
                clear hz2 hm2 hn2
                refine lv_iload hx hb dL_areBandsSo_169 (lv_at hl 8 rfl) ?_
                refine j_icmp_ne (tgt := 248) hx hb dL_areBandsSo_171 (by decide) (fun c312 => absurd c312 (by omega)) (fun c312 => ?_) (by omega) (by omega)
                refine lv_aload_n hx hb dL_areBandsSo_174 rfl (lv_at hl 2 rfl) ?_
                refine lv_iload hx hb dL_areBandsSo_175 (lv_at hl 5 rfl) ?_
                refine j_const hx hb dL_areBandsSo_177 ?_
                refine m_callVi (As := [.int (iv i), .int (iv 2)]) (rest := []) ⟨hx, hb, hml, hown, hts⟩ hK hH hS (c_X8_band l G μ n x rb u0 i 2 hD (by omega) (by omega)) (cwV 2 hts gL_areBandsSo_X8_band rfl rfl rfl (by decide +kernel) ⟨(Nat.le_of_ble_eq_true rfl), (Nat.le_of_ble_eq_true rfl)⟩) hD.1 rfl rfl rfl rfl hl.1 (Nat.le_of_ble_eq_true rfl) dL_areBandsSo_178 ⟨Nat.zero_le _, Nat.zero_le _⟩ (fun z316 μ313 n314 H locs hz316 hp315 hH hS => ?_)
                obtain ⟨hz2, hm2, hn2⟩ := hp315
                have hz2 := hz2.trans (show a_band (aD u0).1 i 2 = ((aD u0).1 (87 + 13 * i.toNat)) from band_2 (by omega))
                rw [hm2, hn2] at hH
                rw [hz2] at hz316
                rw [hz2]
                clear hz2 hm2 hn2
                refine j_if_lt (tgt := 248) hx hb dL_areBandsSo_181 (by decide) (fun c317 => absurd c317 (by omega)) (fun c317 => ?_) (by omega)
                refine lv_aload_n hx hb dL_areBandsSo_184 rfl (lv_at hl 2 rfl) ?_
                refine lv_iload hx hb dL_areBandsSo_185 (lv_at hl 5 rfl) ?_
                refine j_const hx hb dL_areBandsSo_187 ?_
                refine m_callVi (As := [.int (iv i), .int (iv 2)]) (rest := []) ⟨hx, hb, hml, hown, hts⟩ hK hH hS (c_X8_band l G μ n x rb u0 i 2 hD (by omega) (by omega)) (cwV 2 hts gL_areBandsSo_X8_band rfl rfl rfl (by decide +kernel) ⟨(Nat.le_of_ble_eq_true rfl), (Nat.le_of_ble_eq_true rfl)⟩) hD.1 rfl rfl rfl rfl hl.1 (Nat.le_of_ble_eq_true rfl) dL_areBandsSo_188 ⟨Nat.zero_le _, Nat.zero_le _⟩ (fun z321 μ318 n319 H locs hz321 hp320 hH hS => ?_)
                obtain ⟨hz2, hm2, hn2⟩ := hp320
                have hz2 := hz2.trans (show a_band (aD u0).1 i 2 = ((aD u0).1 (87 + 13 * i.toNat)) from band_2 (by omega))
                rw [hm2, hn2] at hH
                rw [hz2] at hz321
                rw [hz2]
                clear hz2 hm2 hn2
                refine j_bipush hx hb dL_areBandsSo_191 ?_ (by decide)
                refine j_icmp_gt (tgt := 248) hx hb dL_areBandsSo_193 (by decide) (fun c322 => absurd c322 (by omega)) (fun c322 => ?_) (by omega) (by omega)
                refine lv_iload hx hb dL_areBandsSo_196 (lv_at hl 6 rfl) ?_
                refine j_bipush hx hb dL_areBandsSo_198 ?_ (by decide)
                refine j_icmp_gt (tgt := 248) hx hb dL_areBandsSo_200 (by decide) (fun c323 => absurd c323 (by omega)) (fun c323 => ?_) (by omega) (by omega)
                refine lv_iload hx hb dL_areBandsSo_203 (lv_at hl 7 rfl) ?_
                refine j_if_lt (tgt := 248) hx hb dL_areBandsSo_205 (by decide) (fun c324 => absurd c324 (by omega)) (fun c324 => ?_) (by omega)
                refine lv_aload_n hx hb dL_areBandsSo_208 rfl (lv_at hl 2 rfl) ?_
                refine lv_iload hx hb dL_areBandsSo_209 (lv_at hl 5 rfl) ?_
                refine j_bipush hx hb dL_areBandsSo_211 ?_ (by decide)
                have hdk : drk (aD u0).1 i.toNat 5 = 8 * 5 + (aD u0).1 4 / 4 - (aD u0).1 (88 + 13 * i.toNat + ((aD u0).1 (86 + 13 * i.toNat)).toNat) := rfl
                refine m_callVi (As := [.int (iv i), .int (iv 6)]) (rest := []) ⟨hx, hb, hml, hown, hts⟩ hK hH hS (c_X8_band l G μ n x rb u0 i 6 hD (by omega) (by omega)) (cwV 2 hts gL_areBandsSo_X8_band rfl rfl rfl (by decide +kernel) ⟨(Nat.le_of_ble_eq_true rfl), (Nat.le_of_ble_eq_true rfl)⟩) hD.1 rfl rfl rfl rfl hl.1 (Nat.le_of_ble_eq_true rfl) dL_areBandsSo_213 ⟨Nat.zero_le _, Nat.zero_le _⟩ (fun z328 μ325 n326 H locs hz328 hp327 hH hS => ?_)
                obtain ⟨hz2, hm2, hn2⟩ := hp327
                have hz2 := hz2.trans (show a_band (aD u0).1 i 6 = (drk (aD u0).1 i.toNat 5 + 100) from band_6 (by omega))
                rw [hm2, hn2] at hH
                rw [hz2] at hz328
                rw [hz2]
                clear hz2 hm2 hn2
                refine j_sipush hx hb dL_areBandsSo_216 ?_ (by decide)
                refine lv_aload_n hx hb dL_areBandsSo_219 rfl (lv_at hl 2 rfl) ?_
                refine j_const hx hb dL_areBandsSo_220 ?_
                refine m_callVi (As := [.int (iv 1)]) (rest := [.int (iv 140), .int (iv (drk (aD u0).1 i.toNat 5 + 100))]) ⟨hx, hb, hml, hown, hts⟩ hK hH hS (c_X8_count l G μ n x rb u0 1 hD (by omega)) (cwV 1 hts gL_areBandsSo_X8_count rfl rfl rfl (by decide +kernel) ⟨(Nat.le_of_ble_eq_true rfl), (Nat.le_of_ble_eq_true rfl)⟩) hD.1 rfl rfl rfl rfl hl.1 (Nat.le_of_ble_eq_true rfl) dL_areBandsSo_221 ⟨Nat.zero_le _, Nat.zero_le _⟩ (fun z332 μ329 n330 H locs hz332 hp331 hH hS => ?_)
                obtain ⟨hz2, hm2, hn2⟩ := hp331
                have hz2 := hz2.trans (show a_count u0 1 = ((aD u0).1 4) from cnt_1 u0)
                rw [hm2, hn2] at hH
                rw [hz2] at hz332
                rw [hz2]
                clear hz2 hm2 hn2
                refine j_const hx hb dL_areBandsSo_224 ?_
                refine j_idiv hx hb dL_areBandsSo_225 ?_ (by omega) (by omega)
                refine j_iadd hx hb dL_areBandsSo_226 ?_
                refine lv_aload_n hx hb dL_areBandsSo_227 rfl (lv_at hl 2 rfl) ?_
                refine lv_iload hx hb dL_areBandsSo_228 (lv_at hl 5 rfl) ?_
                refine lv_aload_n hx hb dL_areBandsSo_230 rfl (lv_at hl 2 rfl) ?_
                refine lv_iload hx hb dL_areBandsSo_231 (lv_at hl 5 rfl) ?_
                refine j_const hx hb dL_areBandsSo_233 ?_
                refine m_callVi (As := [.int (iv i), .int (iv 1)]) (rest := [.int (iv i), .ref x, .int (iv (140 + (((aD u0).1 4) / 4))), .int (iv (drk (aD u0).1 i.toNat 5 + 100))]) ⟨hx, hb, hml, hown, hts⟩ hK hH hS (c_X8_band l G μ n x rb u0 i 1 hD (by omega) (by omega)) (cwV 2 hts gL_areBandsSo_X8_band rfl rfl rfl (by decide +kernel) ⟨(Nat.le_of_ble_eq_true rfl), (Nat.le_of_ble_eq_true rfl)⟩) hD.1 rfl rfl rfl rfl hl.1 (Nat.le_of_ble_eq_true rfl) dL_areBandsSo_234 ⟨Nat.zero_le _, Nat.zero_le _⟩ (fun z336 μ333 n334 H locs hz336 hp335 hH hS => ?_)
                obtain ⟨hz2, hm2, hn2⟩ := hp335
                have hz2 := hz2.trans (show a_band (aD u0).1 i 1 = ((aD u0).1 (86 + 13 * i.toNat)) from band_1 (by omega))
                rw [hm2, hn2] at hH
                rw [hz2] at hz336
                rw [hz2]
                clear hz2 hm2 hn2
                refine m_callVi (As := [.int (iv i), .int (iv ((aD u0).1 (86 + 13 * i.toNat)))]) (rest := [.int (iv (140 + (((aD u0).1 4) / 4))), .int (iv (drk (aD u0).1 i.toNat 5 + 100))]) ⟨hx, hb, hml, hown, hts⟩ hK hH hS (c_X8_wear l G μ n x rb u0 i ((aD u0).1 (86 + 13 * i.toNat)) hD (by omega) (by omega)) (cwV 2 hts gL_areBandsSo_X8_wear rfl rfl rfl (by decide +kernel) ⟨(Nat.le_of_ble_eq_true rfl), (Nat.le_of_ble_eq_true rfl)⟩) hD.1 rfl rfl rfl rfl hl.1 (Nat.le_of_ble_eq_true rfl) dL_areBandsSo_237 ⟨Nat.zero_le _, Nat.zero_le _⟩ (fun z340 μ337 n338 H locs hz340 hp339 hH hS => ?_)
                obtain ⟨hz2, hm2, hn2⟩ := hp339
                have hz2 := hz2.trans (show a_wear (aD u0).1 i ((aD u0).1 (86 + 13 * i.toNat)) = ((aD u0).1 (88 + 13 * i.toNat + ((aD u0).1 (86 + 13 * i.toNat)).toNat)) from (wear_of (by omega) (by omega)).trans (roww_at (by omega)))
                rw [hm2, hn2] at hH
                rw [hz2] at hz340
                rw [hz2]
                clear hz2 hm2 hn2
                refine j_isub hx hb dL_areBandsSo_240 ?_
                refine j_icmp_ne (tgt := 248) hx hb dL_areBandsSo_241 (by decide) (fun c341 => absurd c341 (by omega)) (fun c341 => ?_) (by omega) (by omega)
                refine j_const hx hb dL_areBandsSo_244 ?_
                refine lv_goto (tgt := 249) hx hb dL_areBandsSo_245 (by decide) ?_
                refine lv_istore (lv' := [(4, .int (iv 1)), (3, .int (iv ((msk (aD u0).1 (i.toNat + 1) : Nat) : Int))), (2, .int (iv mx)), (0, .ref x), (1, .int (iv al2)), (5, .int (iv i)), (6, .int (iv gr)), (7, .int (iv lw)), (8, .int (iv ga)), (9, .int (iv j))]) hx hb dL_areBandsSo_249 hl (by decide) rfl (fun ls hl => ?_)
                refine j_iinc (lv' := [(5, .int (iv (i + 1))), (4, .int (iv 1)), (3, .int (iv ((msk (aD u0).1 (i.toNat + 1) : Nat) : Int))), (2, .int (iv mx)), (0, .ref x), (1, .int (iv al2)), (6, .int (iv gr)), (7, .int (iv lw)), (8, .int (iv ga)), (9, .int (iv j))]) hx hb dL_areBandsSo_251 hl (k := 5) rfl (by decide) rfl (fun ls hl => ?_)
                refine lv_goto (tgt := 12) hx hb dL_areBandsSo_254 (by decide) ?_
                exact ih1 (i + 1) al2 mx ((msk (aD u0).1 (i.toNat + 1) : Nat) : Int) (by omega) haln hmon hbdn (by omega) H locs ls hH hS (lv_sub hl [4, 5, 3, 2, 1, 0] rfl)
              refine lv_iload hx hb dL_areBandsSo_108 (lv_at hl 6 rfl) ?_
              refine lv_iload_n hx hb dL_areBandsSo_110 rfl (lv_at hl 2 rfl) ?_
              refine j_icmp_le (tgt := 119) hx hb dL_areBandsSo_111 (by decide) (fun c342 => ?_) (fun c342 => ?_) (by omega) (by omega)
              · skip
                refine lv_iload_n hx hb dL_areBandsSo_119 rfl (lv_at hl 2 rfl) ?_
                refine j_norm (y := mx) (by omega) ?_
                exact jn120_292 H locs ls hH hS (lv_sub hl [0, 1, 2, 3, 4, 5, 6, 7, 8, 9] rfl)
              · skip
                refine lv_iload hx hb dL_areBandsSo_114 (lv_at hl 6 rfl) ?_
                refine lv_goto (tgt := 120) hx hb dL_areBandsSo_116 (by decide) ?_
                refine j_norm (y := mx) (by omega) ?_
                exact jn120_292 H locs ls hH hS (lv_sub hl [0, 1, 2, 3, 4, 5, 6, 7, 8, 9] rfl)
            · skip
              have hwj := hwr j.toNat (by omega)
              have hgj := gG_rng hwr j.toNat (by omega)
              rw [← hgr] at hgj
              have hbl := bleast_rng (f := (roww (aD u0).1 i.toNat)) j.toNat (fun q hq => hwr q (by omega))
              rw [← hlw] at hbl
              have hbs := bsum_rng (f := (roww (aD u0).1 i.toNat)) (M := 99) j.toNat (fun q hq => hwr q (by omega))
              have hjn : (j + 1).toNat = j.toNat + 1 := by omega
              have hgl := gAt_le (roww (aD u0).1 i.toNat) j.toNat
              refine lv_aload_n hx hb dL_areBandsSo_39 rfl (lv_at hl 0 rfl) ?_
              refine lv_iload hx hb dL_areBandsSo_40 (lv_at hl 5 rfl) ?_
              refine lv_iload hx hb dL_areBandsSo_42 (lv_at hl 9 rfl) ?_
              refine m_callVi (As := [.int (iv i), .int (iv j)]) (rest := []) ⟨hx, hb, hml, hown, hts⟩ hK hH hS (c_X8_wear l G μ n x rb u0 i j hD (by omega) (by omega)) (cwV 2 hts gL_areBandsSo_X8_wear rfl rfl rfl (by decide +kernel) ⟨(Nat.le_of_ble_eq_true rfl), (Nat.le_of_ble_eq_true rfl)⟩) hD.1 rfl rfl rfl rfl hl.1 (Nat.le_of_ble_eq_true rfl) dL_areBandsSo_44 ⟨Nat.zero_le _, Nat.zero_le _⟩ (fun z346 μ343 n344 H locs hz346 hp345 hH hS => ?_)
              obtain ⟨hz2, hm2, hn2⟩ := hp345
              have hz2 := hz2.trans (show a_wear (aD u0).1 i j = ((roww (aD u0).1 i.toNat) j.toNat) from wear_of (by omega) (by omega))
              rw [hm2, hn2] at hH
              rw [hz2] at hz346
              rw [hz2]
              clear hz2 hm2 hn2
              refine lv_istore (lv' := [(10, .int (iv ((roww (aD u0).1 i.toNat) j.toNat))), (0, .ref x), (1, .int (iv al2)), (2, .int (iv mo)), (3, .int (iv bd)), (4, .int (iv 1)), (5, .int (iv i)), (6, .int (iv gr)), (7, .int (iv lw)), (8, .int (iv ga)), (9, .int (iv j))]) hx hb dL_areBandsSo_47 hl (by decide) rfl (fun ls hl => ?_)
              refine lv_iload hx hb dL_areBandsSo_49 (lv_at hl 0 rfl) ?_
              refine lv_iload hx hb dL_areBandsSo_51 (lv_at hl 7 rfl) ?_
              refine j_icmp_le (tgt := 61) hx hb dL_areBandsSo_53 (by decide) (fun c347 => ?_) (fun c347 => ?_) (by omega) (by omega)
              · skip
                have hyy : ¬ gG (roww (aD u0).1 i.toNat) j.toNat < (roww (aD u0).1 i.toNat) j.toNat := by rw [← hgr]; omega
                refine lv_iload hx hb dL_areBandsSo_61 (lv_at hl 9 rfl) ?_
                refine lv_istore (lv' := [(8, .int (iv ga)), (10, .int (iv ((roww (aD u0).1 i.toNat) j.toNat))), (0, .ref x), (1, .int (iv al2)), (2, .int (iv mo)), (3, .int (iv bd)), (4, .int (iv 1)), (5, .int (iv i)), (6, .int (iv gr)), (7, .int (iv lw)), (9, .int (iv j))]) hx hb dL_areBandsSo_63 hl (by decide) rfl (fun ls hl => ?_)
                refine lv_iload hx hb dL_areBandsSo_65 (lv_at hl 1 rfl) ?_
                refine lv_iload hx hb dL_areBandsSo_67 (lv_at hl 8 rfl) ?_
                refine j_icmp_le (tgt := 77) hx hb dL_areBandsSo_69 (by decide) (fun c348 => ?_) (fun c348 => absurd c348 (by omega)) (by omega) (by omega)
                refine lv_iload hx hb dL_areBandsSo_77 (lv_at hl 8 rfl) ?_
                refine lv_istore (lv' := [(6, .int (iv gr)), (8, .int (iv ga)), (10, .int (iv ((roww (aD u0).1 i.toNat) j.toNat))), (0, .ref x), (1, .int (iv al2)), (2, .int (iv mo)), (3, .int (iv bd)), (4, .int (iv 1)), (5, .int (iv i)), (7, .int (iv lw)), (9, .int (iv j))]) hx hb dL_areBandsSo_79 hl (by decide) rfl (fun ls hl => ?_)
                refine lv_iload hx hb dL_areBandsSo_81 (lv_at hl 2 rfl) ?_
                refine lv_iload hx hb dL_areBandsSo_83 (lv_at hl 9 rfl) ?_
                refine j_icmp_ge (tgt := 93) hx hb dL_areBandsSo_85 (by decide) (fun c349 => ?_) (fun c349 => ?_) (by omega) (by omega)
                · skip
                  refine lv_iload hx hb dL_areBandsSo_93 (lv_at hl 9 rfl) ?_
                  refine lv_istore (lv' := [(7, .int (iv lw)), (6, .int (iv gr)), (8, .int (iv ga)), (10, .int (iv ((roww (aD u0).1 i.toNat) j.toNat))), (0, .ref x), (1, .int (iv al2)), (2, .int (iv mo)), (3, .int (iv bd)), (4, .int (iv 1)), (5, .int (iv i)), (9, .int (iv j))]) hx hb dL_areBandsSo_95 hl (by decide) rfl (fun ls hl => ?_)
                  refine lv_iload_n hx hb dL_areBandsSo_97 rfl (lv_at hl 5 rfl) ?_
                  refine lv_iload hx hb dL_areBandsSo_98 (lv_at hl 3 rfl) ?_
                  refine j_iadd hx hb dL_areBandsSo_100 ?_
                  refine lv_istore_n (lv' := [(1, .int (iv (al2 + ((roww (aD u0).1 i.toNat) j.toNat)))), (7, .int (iv lw)), (6, .int (iv gr)), (8, .int (iv ga)), (10, .int (iv ((roww (aD u0).1 i.toNat) j.toNat))), (0, .ref x), (2, .int (iv mo)), (3, .int (iv bd)), (4, .int (iv 1)), (5, .int (iv i)), (9, .int (iv j))]) hx hb dL_areBandsSo_101 rfl hl (by decide) rfl (fun ls hl => ?_)
                  have hal2n : (al2 + ((roww (aD u0).1 i.toNat) j.toNat)) = al + bsum (roww (aD u0).1 i.toNat) (j + 1).toNat := by rw [hjn, hal2]; show _ = al + (bsum (roww (aD u0).1 i.toNat) j.toNat + (roww (aD u0).1 i.toNat) j.toNat); omega
                  have hgrn : gr = gG (roww (aD u0).1 i.toNat) (j + 1).toNat := by rw [hjn, (gG_n hyy).1]; exact hgr
                  have hgan : ga = (gAt (roww (aD u0).1 i.toNat) (j + 1).toNat : Int) := by rw [hjn, (gG_n hyy).2]; exact hga
                  have hlwn : lw = bleast (roww (aD u0).1 i.toNat) (j + 1).toNat := by rw [hjn]; show _ = min (bleast (roww (aD u0).1 i.toNat) j.toNat) ((roww (aD u0).1 i.toNat) j.toNat); rw [← hlw]; omega
                  refine j_iinc (lv' := [(9, .int (iv (j + 1))), (1, .int (iv (al2 + ((roww (aD u0).1 i.toNat) j.toNat)))), (7, .int (iv lw)), (6, .int (iv gr)), (8, .int (iv ga)), (10, .int (iv ((roww (aD u0).1 i.toNat) j.toNat))), (0, .ref x), (2, .int (iv mo)), (3, .int (iv bd)), (4, .int (iv 1)), (5, .int (iv i))]) hx hb dL_areBandsSo_102 hl (k := 10) rfl (by decide) rfl (fun ls hl => ?_)
                  refine lv_goto (tgt := 32) hx hb dL_areBandsSo_105 (by decide) ?_
                  exact ih290 (j + 1) (al2 + ((roww (aD u0).1 i.toNat) j.toNat)) gr lw ga (by omega) hal2n hgrn hlwn hgan (by omega) H locs ls hH hS (lv_sub hl [6, 1, 7, 8, 9, 10, 3, 2, 4, 0] rfl)
                · skip
                  refine lv_iload hx hb dL_areBandsSo_88 (lv_at hl 2 rfl) ?_
                  refine lv_goto (tgt := 95) hx hb dL_areBandsSo_90 (by decide) ?_
                  refine lv_istore (lv' := [(7, .int (iv ((roww (aD u0).1 i.toNat) j.toNat))), (6, .int (iv gr)), (8, .int (iv ga)), (10, .int (iv ((roww (aD u0).1 i.toNat) j.toNat))), (0, .ref x), (1, .int (iv al2)), (2, .int (iv mo)), (3, .int (iv bd)), (4, .int (iv 1)), (5, .int (iv i)), (9, .int (iv j))]) hx hb dL_areBandsSo_95 hl (by decide) rfl (fun ls hl => ?_)
                  refine lv_iload_n hx hb dL_areBandsSo_97 rfl (lv_at hl 5 rfl) ?_
                  refine lv_iload hx hb dL_areBandsSo_98 (lv_at hl 3 rfl) ?_
                  refine j_iadd hx hb dL_areBandsSo_100 ?_
                  refine lv_istore_n (lv' := [(1, .int (iv (al2 + ((roww (aD u0).1 i.toNat) j.toNat)))), (7, .int (iv ((roww (aD u0).1 i.toNat) j.toNat))), (6, .int (iv gr)), (8, .int (iv ga)), (10, .int (iv ((roww (aD u0).1 i.toNat) j.toNat))), (0, .ref x), (2, .int (iv mo)), (3, .int (iv bd)), (4, .int (iv 1)), (5, .int (iv i)), (9, .int (iv j))]) hx hb dL_areBandsSo_101 rfl hl (by decide) rfl (fun ls hl => ?_)
                  have hal2n : (al2 + ((roww (aD u0).1 i.toNat) j.toNat)) = al + bsum (roww (aD u0).1 i.toNat) (j + 1).toNat := by rw [hjn, hal2]; show _ = al + (bsum (roww (aD u0).1 i.toNat) j.toNat + (roww (aD u0).1 i.toNat) j.toNat); omega
                  have hgrn : gr = gG (roww (aD u0).1 i.toNat) (j + 1).toNat := by rw [hjn, (gG_n hyy).1]; exact hgr
                  have hgan : ga = (gAt (roww (aD u0).1 i.toNat) (j + 1).toNat : Int) := by rw [hjn, (gG_n hyy).2]; exact hga
                  have hlwn : ((roww (aD u0).1 i.toNat) j.toNat) = bleast (roww (aD u0).1 i.toNat) (j + 1).toNat := by rw [hjn]; show _ = min (bleast (roww (aD u0).1 i.toNat) j.toNat) ((roww (aD u0).1 i.toNat) j.toNat); rw [← hlw]; omega
                  refine j_iinc (lv' := [(9, .int (iv (j + 1))), (1, .int (iv (al2 + ((roww (aD u0).1 i.toNat) j.toNat)))), (7, .int (iv ((roww (aD u0).1 i.toNat) j.toNat))), (6, .int (iv gr)), (8, .int (iv ga)), (10, .int (iv ((roww (aD u0).1 i.toNat) j.toNat))), (0, .ref x), (2, .int (iv mo)), (3, .int (iv bd)), (4, .int (iv 1)), (5, .int (iv i))]) hx hb dL_areBandsSo_102 hl (k := 10) rfl (by decide) rfl (fun ls hl => ?_)
                  refine lv_goto (tgt := 32) hx hb dL_areBandsSo_105 (by decide) ?_
                  exact ih290 (j + 1) (al2 + ((roww (aD u0).1 i.toNat) j.toNat)) gr ((roww (aD u0).1 i.toNat) j.toNat) ga (by omega) hal2n hgrn hlwn hgan (by omega) H locs ls hH hS (lv_sub hl [6, 1, 7, 8, 9, 10, 3, 2, 4, 0] rfl)
              · skip
                have hyy : gG (roww (aD u0).1 i.toNat) j.toNat < (roww (aD u0).1 i.toNat) j.toNat := by rw [← hgr]; omega
                refine lv_iload hx hb dL_areBandsSo_56 (lv_at hl 10 rfl) ?_
                refine lv_goto (tgt := 63) hx hb dL_areBandsSo_58 (by decide) ?_
                refine lv_istore (lv' := [(8, .int (iv j)), (10, .int (iv ((roww (aD u0).1 i.toNat) j.toNat))), (0, .ref x), (1, .int (iv al2)), (2, .int (iv mo)), (3, .int (iv bd)), (4, .int (iv 1)), (5, .int (iv i)), (6, .int (iv gr)), (7, .int (iv lw)), (9, .int (iv j))]) hx hb dL_areBandsSo_63 hl (by decide) rfl (fun ls hl => ?_)
                refine lv_iload hx hb dL_areBandsSo_65 (lv_at hl 1 rfl) ?_
                refine lv_iload hx hb dL_areBandsSo_67 (lv_at hl 8 rfl) ?_
                refine j_icmp_le (tgt := 77) hx hb dL_areBandsSo_69 (by decide) (fun c350 => absurd c350 (by omega)) (fun c350 => ?_) (by omega) (by omega)
                refine lv_iload hx hb dL_areBandsSo_72 (lv_at hl 1 rfl) ?_
                refine lv_goto (tgt := 79) hx hb dL_areBandsSo_74 (by decide) ?_
                refine lv_istore (lv' := [(6, .int (iv ((roww (aD u0).1 i.toNat) j.toNat))), (8, .int (iv j)), (10, .int (iv ((roww (aD u0).1 i.toNat) j.toNat))), (0, .ref x), (1, .int (iv al2)), (2, .int (iv mo)), (3, .int (iv bd)), (4, .int (iv 1)), (5, .int (iv i)), (7, .int (iv lw)), (9, .int (iv j))]) hx hb dL_areBandsSo_79 hl (by decide) rfl (fun ls hl => ?_)
                refine lv_iload hx hb dL_areBandsSo_81 (lv_at hl 2 rfl) ?_
                refine lv_iload hx hb dL_areBandsSo_83 (lv_at hl 9 rfl) ?_
                refine j_icmp_ge (tgt := 93) hx hb dL_areBandsSo_85 (by decide) (fun c351 => ?_) (fun c351 => ?_) (by omega) (by omega)
                · skip
                  refine lv_iload hx hb dL_areBandsSo_93 (lv_at hl 9 rfl) ?_
                  refine lv_istore (lv' := [(7, .int (iv lw)), (6, .int (iv ((roww (aD u0).1 i.toNat) j.toNat))), (8, .int (iv j)), (10, .int (iv ((roww (aD u0).1 i.toNat) j.toNat))), (0, .ref x), (1, .int (iv al2)), (2, .int (iv mo)), (3, .int (iv bd)), (4, .int (iv 1)), (5, .int (iv i)), (9, .int (iv j))]) hx hb dL_areBandsSo_95 hl (by decide) rfl (fun ls hl => ?_)
                  refine lv_iload_n hx hb dL_areBandsSo_97 rfl (lv_at hl 5 rfl) ?_
                  refine lv_iload hx hb dL_areBandsSo_98 (lv_at hl 3 rfl) ?_
                  refine j_iadd hx hb dL_areBandsSo_100 ?_
                  refine lv_istore_n (lv' := [(1, .int (iv (al2 + ((roww (aD u0).1 i.toNat) j.toNat)))), (7, .int (iv lw)), (6, .int (iv ((roww (aD u0).1 i.toNat) j.toNat))), (8, .int (iv j)), (10, .int (iv ((roww (aD u0).1 i.toNat) j.toNat))), (0, .ref x), (2, .int (iv mo)), (3, .int (iv bd)), (4, .int (iv 1)), (5, .int (iv i)), (9, .int (iv j))]) hx hb dL_areBandsSo_101 rfl hl (by decide) rfl (fun ls hl => ?_)
                  have hal2n : (al2 + ((roww (aD u0).1 i.toNat) j.toNat)) = al + bsum (roww (aD u0).1 i.toNat) (j + 1).toNat := by rw [hjn, hal2]; show _ = al + (bsum (roww (aD u0).1 i.toNat) j.toNat + (roww (aD u0).1 i.toNat) j.toNat); omega
                  have hgrn : ((roww (aD u0).1 i.toNat) j.toNat) = gG (roww (aD u0).1 i.toNat) (j + 1).toNat := by rw [hjn, (gG_y hyy).1]
                  have hgan : j = (gAt (roww (aD u0).1 i.toNat) (j + 1).toNat : Int) := by rw [hjn, (gG_y hyy).2]; omega
                  have hlwn : lw = bleast (roww (aD u0).1 i.toNat) (j + 1).toNat := by rw [hjn]; show _ = min (bleast (roww (aD u0).1 i.toNat) j.toNat) ((roww (aD u0).1 i.toNat) j.toNat); rw [← hlw]; omega
                  refine j_iinc (lv' := [(9, .int (iv (j + 1))), (1, .int (iv (al2 + ((roww (aD u0).1 i.toNat) j.toNat)))), (7, .int (iv lw)), (6, .int (iv ((roww (aD u0).1 i.toNat) j.toNat))), (8, .int (iv j)), (10, .int (iv ((roww (aD u0).1 i.toNat) j.toNat))), (0, .ref x), (2, .int (iv mo)), (3, .int (iv bd)), (4, .int (iv 1)), (5, .int (iv i))]) hx hb dL_areBandsSo_102 hl (k := 10) rfl (by decide) rfl (fun ls hl => ?_)
                  refine lv_goto (tgt := 32) hx hb dL_areBandsSo_105 (by decide) ?_
                  exact ih290 (j + 1) (al2 + ((roww (aD u0).1 i.toNat) j.toNat)) ((roww (aD u0).1 i.toNat) j.toNat) lw j (by omega) hal2n hgrn hlwn hgan (by omega) H locs ls hH hS (lv_sub hl [6, 1, 7, 8, 9, 10, 3, 2, 4, 0] rfl)
                · skip
                  refine lv_iload hx hb dL_areBandsSo_88 (lv_at hl 2 rfl) ?_
                  refine lv_goto (tgt := 95) hx hb dL_areBandsSo_90 (by decide) ?_
                  refine lv_istore (lv' := [(7, .int (iv ((roww (aD u0).1 i.toNat) j.toNat))), (6, .int (iv ((roww (aD u0).1 i.toNat) j.toNat))), (8, .int (iv j)), (10, .int (iv ((roww (aD u0).1 i.toNat) j.toNat))), (0, .ref x), (1, .int (iv al2)), (2, .int (iv mo)), (3, .int (iv bd)), (4, .int (iv 1)), (5, .int (iv i)), (9, .int (iv j))]) hx hb dL_areBandsSo_95 hl (by decide) rfl (fun ls hl => ?_)
                  refine lv_iload_n hx hb dL_areBandsSo_97 rfl (lv_at hl 5 rfl) ?_
                  refine lv_iload hx hb dL_areBandsSo_98 (lv_at hl 3 rfl) ?_
                  refine j_iadd hx hb dL_areBandsSo_100 ?_
                  refine lv_istore_n (lv' := [(1, .int (iv (al2 + ((roww (aD u0).1 i.toNat) j.toNat)))), (7, .int (iv ((roww (aD u0).1 i.toNat) j.toNat))), (6, .int (iv ((roww (aD u0).1 i.toNat) j.toNat))), (8, .int (iv j)), (10, .int (iv ((roww (aD u0).1 i.toNat) j.toNat))), (0, .ref x), (2, .int (iv mo)), (3, .int (iv bd)), (4, .int (iv 1)), (5, .int (iv i)), (9, .int (iv j))]) hx hb dL_areBandsSo_101 rfl hl (by decide) rfl (fun ls hl => ?_)
                  have hal2n : (al2 + ((roww (aD u0).1 i.toNat) j.toNat)) = al + bsum (roww (aD u0).1 i.toNat) (j + 1).toNat := by rw [hjn, hal2]; show _ = al + (bsum (roww (aD u0).1 i.toNat) j.toNat + (roww (aD u0).1 i.toNat) j.toNat); omega
                  have hgrn : ((roww (aD u0).1 i.toNat) j.toNat) = gG (roww (aD u0).1 i.toNat) (j + 1).toNat := by rw [hjn, (gG_y hyy).1]
                  have hgan : j = (gAt (roww (aD u0).1 i.toNat) (j + 1).toNat : Int) := by rw [hjn, (gG_y hyy).2]; omega
                  have hlwn : ((roww (aD u0).1 i.toNat) j.toNat) = bleast (roww (aD u0).1 i.toNat) (j + 1).toNat := by rw [hjn]; show _ = min (bleast (roww (aD u0).1 i.toNat) j.toNat) ((roww (aD u0).1 i.toNat) j.toNat); rw [← hlw]; omega
                  refine j_iinc (lv' := [(9, .int (iv (j + 1))), (1, .int (iv (al2 + ((roww (aD u0).1 i.toNat) j.toNat)))), (7, .int (iv ((roww (aD u0).1 i.toNat) j.toNat))), (6, .int (iv ((roww (aD u0).1 i.toNat) j.toNat))), (8, .int (iv j)), (10, .int (iv ((roww (aD u0).1 i.toNat) j.toNat))), (0, .ref x), (2, .int (iv mo)), (3, .int (iv bd)), (4, .int (iv 1)), (5, .int (iv i))]) hx hb dL_areBandsSo_102 hl (k := 10) rfl (by decide) rfl (fun ls hl => ?_)
                  refine lv_goto (tgt := 32) hx hb dL_areBandsSo_105 (by decide) ?_
                  exact ih290 (j + 1) (al2 + ((roww (aD u0).1 i.toNat) j.toNat)) ((roww (aD u0).1 i.toNat) j.toNat) ((roww (aD u0).1 i.toNat) j.toNat) j (by omega) hal2n hgrn hlwn hgan (by omega) H locs ls hH hS (lv_sub hl [6, 1, 7, 8, 9, 10, 3, 2, 4, 0] rfl)
        exact lp32 (11) 0 al 0 99 0 (by omega) (Int.add_zero _).symm rfl rfl rfl (by omega) H locs ls hH hS (lv_sub hl [4, 5, 6, 7, 8, 9, 3, 2, 1, 0] rfl)
  exact lp12 (7) 0 0 0 0 (by omega) rfl rfl rfl (by omega) H locs ls hH hS (lv_sub hl [5, 4, 3, 2, 1, 0] rfl)
