abbrev rm_c_L_low : Room := { frames := 0, cells := 0, slots := 0, locals := 0 }
set_option maxHeartbeats 4000000 in
set_option maxRecDepth 100000 in
theorem c_L_low (l : Launch) (G : wG) (μ : hM) (n : Nat) (v k : Int) (hv1 : -2147483648 ≤ v ∧ v ≤ 2147483647) (hk1 : 0 < k ∧ k ≤ 2147483647) : Met l yL_low wsL_low rm_c_L_low (mPc G μ n [.int (iv v), .int (iv k)]) (mQi G (fun z μ1 n1 => (0 ≤ z ∧ z < k) ∧ μ1 = μ ∧ n1 = n)) 0 0 (gA G) := by
  refine Met.ofW (cc := cL_low) (maxL := 2) (ret := (some .int)) (by decide) rfl ?_
  intro p e s m args below meth c s₁ B hml hv
  obtain ⟨hav, hK, hH⟩ := hv
  have hx := B.exec
  have hb := B.bytes
  have hr := B.returns
  have hts := atoms_spec (ws := wsL_low) B.pre
  have hown : s.vm.findClass RL = some m.cls := findClass_of_methodNamed B.named
  have hlocks := B.notSynchronized
  have hS : va_S (gA G) s.heap s.heap [] := va_S.rf
  have hl := lv_entry ([.int (iv v), .int (iv k)]) (n := 2) (Nat.le_of_ble_eq_true rfl)
  have hfr : entryFrame m args 2 = entryFrame m ([.int (iv v), .int (iv k)] : List Value).toArray 2 := by rw [hav]
  rw [hfr, lg_entry_eq]
  generalize (lg_sl ([.int (iv v), .int (iv k)]) ++ List.replicate (2 - (lg_sl ([.int (iv v), .int (iv k)])).length) Slot.unset).toArray = ls at hl ⊢
  have hl : lv_has ls 2 [(0, .int (iv v)), (1, .int (iv k))] := hl
  generalize hQ : MQ below _ args s 0 0 (gA G) = Q
  show W p l e rm_c_L_low s m args below meth c s.heap [] 0 0 Q (F0 m 0 ls [])
  obtain ⟨H, hHe⟩ : ∃ H, H = s.heap := ⟨_, rfl⟩
  obtain ⟨locs, hlo⟩ : ∃ q : List Loc, q = [] := ⟨_, rfl⟩
  have hH : gP G μ n H := by rw [hHe]; exact hH
  have hS : va_S (gA G) s.heap H locs := by rw [hHe, hlo]; exact hS
  suffices hgo : W p l e rm_c_L_low s m args below meth c H locs 0 0 Q (F0 m 0 ls []) by rw [hHe, hlo] at hgo; exact hgo
  clear hHe hlo hfr hav
  have f_0 := hts (.constant RL 7 (2147483647)) (List.mem_of_getElem? (i := 1) rfl)
  refine lv_iload_n hx hb dL_low_0 rfl (lv_at hl 0 rfl) ?_
  refine j_ldc hx hb (2147483647) hown f_0 dL_low_1 ?_ (by decide)
  refine lv_iand hx hb dL_low_3 ?_
  obtain ⟨y1, hy1, hry1⟩ := and_le (iv v) (iv 2147483647) 2147483647 (by decide)
  rw [hy1]
  clear hy1
  refine lv_iload_n hx hb dL_low_4 rfl (lv_at hl 1 rfl) ?_
  refine j_irem hx hb dL_low_5 ?_ (by omega) (by omega)
  have hmn := Int.emod_nonneg y1 (show k ≠ 0 by omega)
  have hmx := Int.emod_lt_of_pos y1 (show 0 < k by omega)
  subst hQ
  refine m_iret hx hb hr hlocks hH hS dL_low_6 ?_ (by omega)
  exact ⟨⟨hmn, hmx⟩, rfl, rfl⟩

abbrev rm_c_L_shown : Room := { frames := 3, cells := 0, slots := 0, locals := 69 }
set_option maxHeartbeats 4000000 in
set_option maxRecDepth 100000 in
theorem c_L_shown (l : Launch) (G : wG) (μ : hM) (n : Nat) (x rb : Nat) (u0 : aS) (b0 : Int)  (hD : IsD G μ x rb u0) (hU : UI u0 b0) (hb0 : 0 ≤ b0 ∧ b0 ≤ 1900000000) : Met l yL_shown wsL_shown rm_c_L_shown (mPc G μ n [.ref x]) (mQi G (fun z μ1 n1 => z = shw (aD u0).1 6 ∧ μ1 = μ ∧ n1 = n)) 0 0 (gA G) := by
  refine Met.ofW (cc := cL_shown) (maxL := 3) (ret := (some .int)) (by decide) rfl ?_
  intro p e s m args below meth c s₁ B hml hv
  obtain ⟨hav, hK, hH⟩ := hv
  have hx := B.exec
  have hb := B.bytes
  have hr := B.returns
  have hts := atoms_spec (ws := wsL_shown) B.pre
  have hown : s.vm.findClass RL = some m.cls := findClass_of_methodNamed B.named
  have hlocks := B.notSynchronized
  have hS : va_S (gA G) s.heap s.heap [] := va_S.rf
  have hl := lv_entry ([.ref x]) (n := 3) (Nat.le_of_ble_eq_true rfl)
  have hfr : entryFrame m args 3 = entryFrame m ([.ref x] : List Value).toArray 3 := by rw [hav]
  rw [hfr, lg_entry_eq]
  generalize (lg_sl ([.ref x]) ++ List.replicate (3 - (lg_sl ([.ref x])).length) Slot.unset).toArray = ls at hl ⊢
  have hl : lv_has ls 3 [(0, .ref x)] := hl
  generalize hQ : MQ below _ args s 0 0 (gA G) = Q
  show W p l e rm_c_L_shown s m args below meth c s.heap [] 0 0 Q (F0 m 0 ls [])
  obtain ⟨H, hHe⟩ : ∃ H, H = s.heap := ⟨_, rfl⟩
  obtain ⟨locs, hlo⟩ : ∃ q : List Loc, q = [] := ⟨_, rfl⟩
  have hH : gP G μ n H := by rw [hHe]; exact hH
  have hS : va_S (gA G) s.heap H locs := by rw [hHe, hlo]; exact hS
  suffices hgo : W p l e rm_c_L_shown s m args below meth c H locs 0 0 Q (F0 m 0 ls []) by rw [hHe, hlo] at hgo; exact hgo
  clear hHe hlo hfr hav
  have hO := hD.okD
  have hsr := shw_rng hO.1.1
  refine j_const hx hb dL_shown_0 ?_
  refine lv_istore_n (lv' := [(1, .int (iv 0)), (0, .ref x)]) hx hb dL_shown_1 rfl hl (by decide) rfl (fun ls hl => ?_)
  refine j_const hx hb dL_shown_2 ?_
  refine lv_istore_n (lv' := [(2, .int (iv 0)), (1, .int (iv 0)), (0, .ref x)]) hx hb dL_shown_3 rfl hl (by decide) rfl (fun ls hl => ?_)
  refine lv_iload_n hx hb dL_shown_4 rfl (lv_at hl 0 rfl) ?_
  refine j_bipush hx hb dL_shown_5 ?_ (by decide)
  refine j_icmp_ge (tgt := 28) hx hb dL_shown_7 (by decide) (fun c1 => absurd c1 (by omega)) (fun c1 => ?_) (by omega) (by omega)
  refine j_bipush hx hb dL_shown_10 ?_ (by decide)
  refine lv_iload_n hx hb dL_shown_12 rfl (lv_at hl 1 rfl) ?_
  refine j_imul hx hb dL_shown_13 ?_
  refine j_norm (y := 0) (by decide) ?_
  refine lv_aload_n hx hb dL_shown_14 rfl (lv_at hl 2 rfl) ?_
  refine lv_iload_n hx hb dL_shown_15 rfl (lv_at hl 0 rfl) ?_
  refine j_const hx hb dL_shown_16 ?_
  refine m_callVi (As := [.int (iv 0), .int (iv 1)]) (rest := [.int (iv 0)]) ⟨hx, hb, hml, hown, hts⟩ hK hH hS (c_X8_band l G μ n x rb u0 0 1 hD (by omega) (by omega)) (cwV 2 hts gL_shown_X8_band rfl rfl rfl (by decide +kernel) ⟨(Nat.le_of_ble_eq_true rfl), (Nat.le_of_ble_eq_true rfl)⟩) hD.1 rfl rfl rfl rfl hl.1 (Nat.le_of_ble_eq_true rfl) dL_shown_17 ⟨Nat.zero_le _, Nat.zero_le _⟩ (fun z5 μ2 n3 H locs hz5 hp4 hH hS => ?_)
  obtain ⟨hz2, hm2, hn2⟩ := hp4
  have hz2 := hz2.trans (show a_band (aD u0).1 0 1 = ((aD u0).1 86) from rfl)
  rw [hm2, hn2] at hH
  rw [hz2] at hz5
  rw [hz2]
  clear hz2 hm2 hn2
  refine j_iadd hx hb dL_shown_20 ?_
  refine lv_istore_n (lv' := [(1, .int (iv (0 + ((aD u0).1 86)))), (2, .int (iv 0)), (0, .ref x)]) hx hb dL_shown_21 rfl hl (by decide) rfl (fun ls hl => ?_)
  refine j_iinc (lv' := [(2, .int (iv 1)), (1, .int (iv (0 + ((aD u0).1 86)))), (0, .ref x)]) hx hb dL_shown_22 hl (k := 1) rfl (by decide) rfl (fun ls hl => ?_)
  refine lv_goto (tgt := 4) hx hb dL_shown_25 (by decide) ?_
  refine lv_iload_n hx hb dL_shown_4 rfl (lv_at hl 0 rfl) ?_
  refine j_bipush hx hb dL_shown_5 ?_ (by decide)
  refine j_icmp_ge (tgt := 28) hx hb dL_shown_7 (by decide) (fun c6 => absurd c6 (by omega)) (fun c6 => ?_) (by omega) (by omega)
  refine j_bipush hx hb dL_shown_10 ?_ (by decide)
  refine lv_iload_n hx hb dL_shown_12 rfl (lv_at hl 1 rfl) ?_
  refine j_imul hx hb dL_shown_13 ?_
  refine lv_aload_n hx hb dL_shown_14 rfl (lv_at hl 2 rfl) ?_
  refine lv_iload_n hx hb dL_shown_15 rfl (lv_at hl 0 rfl) ?_
  refine j_const hx hb dL_shown_16 ?_
  refine m_callVi (As := [.int (iv 1), .int (iv 1)]) (rest := [.int (iv (10 * (0 + ((aD u0).1 86))))]) ⟨hx, hb, hml, hown, hts⟩ hK hH hS (c_X8_band l G μ n x rb u0 1 1 hD (by omega) (by omega)) (cwV 2 hts gL_shown_X8_band rfl rfl rfl (by decide +kernel) ⟨(Nat.le_of_ble_eq_true rfl), (Nat.le_of_ble_eq_true rfl)⟩) hD.1 rfl rfl rfl rfl hl.1 (Nat.le_of_ble_eq_true rfl) dL_shown_17 ⟨Nat.zero_le _, Nat.zero_le _⟩ (fun z10 μ7 n8 H locs hz10 hp9 hH hS => ?_)
  obtain ⟨hz2, hm2, hn2⟩ := hp9
  have hz2 := hz2.trans (show a_band (aD u0).1 1 1 = ((aD u0).1 99) from rfl)
  rw [hm2, hn2] at hH
  rw [hz2] at hz10
  rw [hz2]
  clear hz2 hm2 hn2
  refine j_iadd hx hb dL_shown_20 ?_
  refine lv_istore_n (lv' := [(1, .int (iv ((10 * (0 + ((aD u0).1 86))) + ((aD u0).1 99)))), (2, .int (iv 1)), (0, .ref x)]) hx hb dL_shown_21 rfl hl (by decide) rfl (fun ls hl => ?_)
  refine j_iinc (lv' := [(2, .int (iv 2)), (1, .int (iv ((10 * (0 + ((aD u0).1 86))) + ((aD u0).1 99)))), (0, .ref x)]) hx hb dL_shown_22 hl (k := 1) rfl (by decide) rfl (fun ls hl => ?_)
  refine lv_goto (tgt := 4) hx hb dL_shown_25 (by decide) ?_
  refine lv_iload_n hx hb dL_shown_4 rfl (lv_at hl 0 rfl) ?_
  refine j_bipush hx hb dL_shown_5 ?_ (by decide)
  refine j_icmp_ge (tgt := 28) hx hb dL_shown_7 (by decide) (fun c11 => absurd c11 (by omega)) (fun c11 => ?_) (by omega) (by omega)
  refine j_bipush hx hb dL_shown_10 ?_ (by decide)
  refine lv_iload_n hx hb dL_shown_12 rfl (lv_at hl 1 rfl) ?_
  refine j_imul hx hb dL_shown_13 ?_
  refine lv_aload_n hx hb dL_shown_14 rfl (lv_at hl 2 rfl) ?_
  refine lv_iload_n hx hb dL_shown_15 rfl (lv_at hl 0 rfl) ?_
  refine j_const hx hb dL_shown_16 ?_
  refine m_callVi (As := [.int (iv 2), .int (iv 1)]) (rest := [.int (iv (10 * ((10 * (0 + ((aD u0).1 86))) + ((aD u0).1 99))))]) ⟨hx, hb, hml, hown, hts⟩ hK hH hS (c_X8_band l G μ n x rb u0 2 1 hD (by omega) (by omega)) (cwV 2 hts gL_shown_X8_band rfl rfl rfl (by decide +kernel) ⟨(Nat.le_of_ble_eq_true rfl), (Nat.le_of_ble_eq_true rfl)⟩) hD.1 rfl rfl rfl rfl hl.1 (Nat.le_of_ble_eq_true rfl) dL_shown_17 ⟨Nat.zero_le _, Nat.zero_le _⟩ (fun z15 μ12 n13 H locs hz15 hp14 hH hS => ?_)
  obtain ⟨hz2, hm2, hn2⟩ := hp14
  have hz2 := hz2.trans (show a_band (aD u0).1 2 1 = ((aD u0).1 112) from rfl)
  rw [hm2, hn2] at hH
  rw [hz2] at hz15
  rw [hz2]
  clear hz2 hm2 hn2
  refine j_iadd hx hb dL_shown_20 ?_
  refine lv_istore_n (lv' := [(1, .int (iv ((10 * ((10 * (0 + ((aD u0).1 86))) + ((aD u0).1 99))) + ((aD u0).1 112)))), (2, .int (iv 2)), (0, .ref x)]) hx hb dL_shown_21 rfl hl (by decide) rfl (fun ls hl => ?_)
  refine j_iinc (lv' := [(2, .int (iv 3)), (1, .int (iv ((10 * ((10 * (0 + ((aD u0).1 86))) + ((aD u0).1 99))) + ((aD u0).1 112)))), (0, .ref x)]) hx hb dL_shown_22 hl (k := 1) rfl (by decide) rfl (fun ls hl => ?_)
  refine lv_goto (tgt := 4) hx hb dL_shown_25 (by decide) ?_
  refine lv_iload_n hx hb dL_shown_4 rfl (lv_at hl 0 rfl) ?_
  refine j_bipush hx hb dL_shown_5 ?_ (by decide)
  refine j_icmp_ge (tgt := 28) hx hb dL_shown_7 (by decide) (fun c16 => absurd c16 (by omega)) (fun c16 => ?_) (by omega) (by omega)
  refine j_bipush hx hb dL_shown_10 ?_ (by decide)
  refine lv_iload_n hx hb dL_shown_12 rfl (lv_at hl 1 rfl) ?_
  refine j_imul hx hb dL_shown_13 ?_
  refine lv_aload_n hx hb dL_shown_14 rfl (lv_at hl 2 rfl) ?_
  refine lv_iload_n hx hb dL_shown_15 rfl (lv_at hl 0 rfl) ?_
  refine j_const hx hb dL_shown_16 ?_
  refine m_callVi (As := [.int (iv 3), .int (iv 1)]) (rest := [.int (iv (10 * ((10 * ((10 * (0 + ((aD u0).1 86))) + ((aD u0).1 99))) + ((aD u0).1 112))))]) ⟨hx, hb, hml, hown, hts⟩ hK hH hS (c_X8_band l G μ n x rb u0 3 1 hD (by omega) (by omega)) (cwV 2 hts gL_shown_X8_band rfl rfl rfl (by decide +kernel) ⟨(Nat.le_of_ble_eq_true rfl), (Nat.le_of_ble_eq_true rfl)⟩) hD.1 rfl rfl rfl rfl hl.1 (Nat.le_of_ble_eq_true rfl) dL_shown_17 ⟨Nat.zero_le _, Nat.zero_le _⟩ (fun z20 μ17 n18 H locs hz20 hp19 hH hS => ?_)
  obtain ⟨hz2, hm2, hn2⟩ := hp19
  have hz2 := hz2.trans (show a_band (aD u0).1 3 1 = ((aD u0).1 125) from rfl)
  rw [hm2, hn2] at hH
  rw [hz2] at hz20
  rw [hz2]
  clear hz2 hm2 hn2
  refine j_iadd hx hb dL_shown_20 ?_
  refine lv_istore_n (lv' := [(1, .int (iv ((10 * ((10 * ((10 * (0 + ((aD u0).1 86))) + ((aD u0).1 99))) + ((aD u0).1 112))) + ((aD u0).1 125)))), (2, .int (iv 3)), (0, .ref x)]) hx hb dL_shown_21 rfl hl (by decide) rfl (fun ls hl => ?_)
  refine j_iinc (lv' := [(2, .int (iv 4)), (1, .int (iv ((10 * ((10 * ((10 * (0 + ((aD u0).1 86))) + ((aD u0).1 99))) + ((aD u0).1 112))) + ((aD u0).1 125)))), (0, .ref x)]) hx hb dL_shown_22 hl (k := 1) rfl (by decide) rfl (fun ls hl => ?_)
  refine lv_goto (tgt := 4) hx hb dL_shown_25 (by decide) ?_
  refine lv_iload_n hx hb dL_shown_4 rfl (lv_at hl 0 rfl) ?_
  refine j_bipush hx hb dL_shown_5 ?_ (by decide)
  refine j_icmp_ge (tgt := 28) hx hb dL_shown_7 (by decide) (fun c21 => absurd c21 (by omega)) (fun c21 => ?_) (by omega) (by omega)
  refine j_bipush hx hb dL_shown_10 ?_ (by decide)
  refine lv_iload_n hx hb dL_shown_12 rfl (lv_at hl 1 rfl) ?_
  refine j_imul hx hb dL_shown_13 ?_
  refine lv_aload_n hx hb dL_shown_14 rfl (lv_at hl 2 rfl) ?_
  refine lv_iload_n hx hb dL_shown_15 rfl (lv_at hl 0 rfl) ?_
  refine j_const hx hb dL_shown_16 ?_
  refine m_callVi (As := [.int (iv 4), .int (iv 1)]) (rest := [.int (iv (10 * ((10 * ((10 * ((10 * (0 + ((aD u0).1 86))) + ((aD u0).1 99))) + ((aD u0).1 112))) + ((aD u0).1 125))))]) ⟨hx, hb, hml, hown, hts⟩ hK hH hS (c_X8_band l G μ n x rb u0 4 1 hD (by omega) (by omega)) (cwV 2 hts gL_shown_X8_band rfl rfl rfl (by decide +kernel) ⟨(Nat.le_of_ble_eq_true rfl), (Nat.le_of_ble_eq_true rfl)⟩) hD.1 rfl rfl rfl rfl hl.1 (Nat.le_of_ble_eq_true rfl) dL_shown_17 ⟨Nat.zero_le _, Nat.zero_le _⟩ (fun z25 μ22 n23 H locs hz25 hp24 hH hS => ?_)
  obtain ⟨hz2, hm2, hn2⟩ := hp24
  have hz2 := hz2.trans (show a_band (aD u0).1 4 1 = ((aD u0).1 138) from rfl)
  rw [hm2, hn2] at hH
  rw [hz2] at hz25
  rw [hz2]
  clear hz2 hm2 hn2
  refine j_iadd hx hb dL_shown_20 ?_
  refine lv_istore_n (lv' := [(1, .int (iv ((10 * ((10 * ((10 * ((10 * (0 + ((aD u0).1 86))) + ((aD u0).1 99))) + ((aD u0).1 112))) + ((aD u0).1 125))) + ((aD u0).1 138)))), (2, .int (iv 4)), (0, .ref x)]) hx hb dL_shown_21 rfl hl (by decide) rfl (fun ls hl => ?_)
  refine j_iinc (lv' := [(2, .int (iv 5)), (1, .int (iv ((10 * ((10 * ((10 * ((10 * (0 + ((aD u0).1 86))) + ((aD u0).1 99))) + ((aD u0).1 112))) + ((aD u0).1 125))) + ((aD u0).1 138)))), (0, .ref x)]) hx hb dL_shown_22 hl (k := 1) rfl (by decide) rfl (fun ls hl => ?_)
  refine lv_goto (tgt := 4) hx hb dL_shown_25 (by decide) ?_
  refine lv_iload_n hx hb dL_shown_4 rfl (lv_at hl 0 rfl) ?_
  refine j_bipush hx hb dL_shown_5 ?_ (by decide)
  refine j_icmp_ge (tgt := 28) hx hb dL_shown_7 (by decide) (fun c26 => absurd c26 (by omega)) (fun c26 => ?_) (by omega) (by omega)
  refine j_bipush hx hb dL_shown_10 ?_ (by decide)
  refine lv_iload_n hx hb dL_shown_12 rfl (lv_at hl 1 rfl) ?_
  refine j_imul hx hb dL_shown_13 ?_
  refine lv_aload_n hx hb dL_shown_14 rfl (lv_at hl 2 rfl) ?_
  refine lv_iload_n hx hb dL_shown_15 rfl (lv_at hl 0 rfl) ?_
  refine j_const hx hb dL_shown_16 ?_
  refine m_callVi (As := [.int (iv 5), .int (iv 1)]) (rest := [.int (iv (10 * ((10 * ((10 * ((10 * ((10 * (0 + ((aD u0).1 86))) + ((aD u0).1 99))) + ((aD u0).1 112))) + ((aD u0).1 125))) + ((aD u0).1 138))))]) ⟨hx, hb, hml, hown, hts⟩ hK hH hS (c_X8_band l G μ n x rb u0 5 1 hD (by omega) (by omega)) (cwV 2 hts gL_shown_X8_band rfl rfl rfl (by decide +kernel) ⟨(Nat.le_of_ble_eq_true rfl), (Nat.le_of_ble_eq_true rfl)⟩) hD.1 rfl rfl rfl rfl hl.1 (Nat.le_of_ble_eq_true rfl) dL_shown_17 ⟨Nat.zero_le _, Nat.zero_le _⟩ (fun z30 μ27 n28 H locs hz30 hp29 hH hS => ?_)
  obtain ⟨hz2, hm2, hn2⟩ := hp29
  have hz2 := hz2.trans (show a_band (aD u0).1 5 1 = ((aD u0).1 151) from rfl)
  rw [hm2, hn2] at hH
  rw [hz2] at hz30
  rw [hz2]
  clear hz2 hm2 hn2
  refine j_iadd hx hb dL_shown_20 ?_
  refine lv_istore_n (lv' := [(1, .int (iv ((10 * ((10 * ((10 * ((10 * ((10 * (0 + ((aD u0).1 86))) + ((aD u0).1 99))) + ((aD u0).1 112))) + ((aD u0).1 125))) + ((aD u0).1 138))) + ((aD u0).1 151)))), (2, .int (iv 5)), (0, .ref x)]) hx hb dL_shown_21 rfl hl (by decide) rfl (fun ls hl => ?_)
  refine j_iinc (lv' := [(2, .int (iv 6)), (1, .int (iv ((10 * ((10 * ((10 * ((10 * ((10 * (0 + ((aD u0).1 86))) + ((aD u0).1 99))) + ((aD u0).1 112))) + ((aD u0).1 125))) + ((aD u0).1 138))) + ((aD u0).1 151)))), (0, .ref x)]) hx hb dL_shown_22 hl (k := 1) rfl (by decide) rfl (fun ls hl => ?_)
  refine lv_goto (tgt := 4) hx hb dL_shown_25 (by decide) ?_
  refine lv_iload_n hx hb dL_shown_4 rfl (lv_at hl 0 rfl) ?_
  refine j_bipush hx hb dL_shown_5 ?_ (by decide)
  refine j_icmp_ge (tgt := 28) hx hb dL_shown_7 (by decide) (fun c31 => ?_) (fun c31 => absurd c31 (by omega)) (by omega) (by omega)
  refine lv_iload_n hx hb dL_shown_28 rfl (lv_at hl 1 rfl) ?_
  have hse : shw (aD u0).1 6 = ((10 * ((10 * ((10 * ((10 * ((10 * (0 + ((aD u0).1 86))) + ((aD u0).1 99))) + ((aD u0).1 112))) + ((aD u0).1 125))) + ((aD u0).1 138))) + ((aD u0).1 151)) := by
    show 10 * (10 * (10 * (10 * (10 * (10 * 0 + (aD u0).1 86) + (aD u0).1 99) + (aD u0).1 112) + (aD u0).1 125) + (aD u0).1 138) + (aD u0).1 151 = _
    omega
  subst hQ
  refine m_iret hx hb hr hlocks hH hS dL_shown_29 ?_ (by omega)
  exact ⟨hse.symm, rfl, rfl⟩

abbrev rm_c_L_isDateSo : Room := { frames := 4, cells := 0, slots := 0, locals := 87 }
set_option maxHeartbeats 4000000 in
set_option maxRecDepth 100000 in
theorem c_L_isDateSo (l : Launch) (G : wG) (μ : hM) (n : Nat) (x rb : Nat) (u0 : aS) (b0 : Int) (k : Int) (hD : IsD G μ x rb u0) (hU : UI u0 b0) (hb0 : 0 ≤ b0 ∧ b0 ≤ 500000000) (hk : 0 ≤ k ∧ k ≤ 36524) : Met l yL_isDateSo wsL_isDateSo rm_c_L_isDateSo (mPc G μ n [.ref x, .int (iv k)]) (mQi G (fun z μ1 n1 => z = 1 ∧ μ1 = μ ∧ n1 = n)) 0 0 (gA G) := by
  refine Met.ofW (cc := cL_isDateSo) (maxL := 9) (ret := (some .boolean)) (by decide) rfl ?_
  intro p e s m args below meth c s₁ B hml hv
  obtain ⟨hav, hK, hH⟩ := hv
  have hx := B.exec
  have hb := B.bytes
  have hr := B.returns
  have hts := atoms_spec (ws := wsL_isDateSo) B.pre
  have hown : s.vm.findClass RL = some m.cls := findClass_of_methodNamed B.named
  have hlocks := B.notSynchronized
  have hS : va_S (gA G) s.heap s.heap [] := va_S.rf
  have hl := lv_entry ([.ref x, .int (iv k)]) (n := 9) (Nat.le_of_ble_eq_true rfl)
  have hfr : entryFrame m args 9 = entryFrame m ([.ref x, .int (iv k)] : List Value).toArray 9 := by rw [hav]
  rw [hfr, lg_entry_eq]
  generalize (lg_sl ([.ref x, .int (iv k)]) ++ List.replicate (9 - (lg_sl ([.ref x, .int (iv k)])).length) Slot.unset).toArray = ls at hl ⊢
  have hl : lv_has ls 9 [(0, .ref x), (1, .int (iv k))] := hl
  generalize hQ : MQ below _ args s 0 0 (gA G) = Q
  show W p l e rm_c_L_isDateSo s m args below meth c s.heap [] 0 0 Q (F0 m 0 ls [])
  obtain ⟨H, hHe⟩ : ∃ H, H = s.heap := ⟨_, rfl⟩
  obtain ⟨locs, hlo⟩ : ∃ q : List Loc, q = [] := ⟨_, rfl⟩
  have hH : gP G μ n H := by rw [hHe]; exact hH
  have hS : va_S (gA G) s.heap H locs := by rw [hHe, hlo]; exact hS
  suffices hgo : W p l e rm_c_L_isDateSo s m args below meth c H locs 0 0 Q (F0 m 0 ls []) by rw [hHe, hlo] at hgo; exact hgo
  clear hHe hlo hfr hav
  have f_0 := hts (.constant RL 57 (36524)) (List.mem_of_getElem? (i := 1) rfl)
  have f_1 := hts (.constant RL 58 (290200)) (List.mem_of_getElem? (i := 2) rfl)
  have f_2 := hts (.constant RL 59 (300200)) (List.mem_of_getElem? (i := 3) rfl)
  have f_3 := hts (.constant RL 60 (310400)) (List.mem_of_getElem? (i := 4) rfl)
  have f_4 := hts (.constant RL 61 (311200)) (List.mem_of_getElem? (i := 5) rfl)
  have hO := hD.okD
  obtain ⟨yy, mo, dd, hy, hmo, hdd, hday, hdg⟩ := date_of hk
  have hmln := mlen_rng mo yy
  have hld := leap_day hy
  have h30 := no_30 hy
  have h31 := no_31 hy
  have hi31 := is_31 hy
  obtain ⟨q29, hq29⟩ : ∃ q, q = dday (290200 + yy) := ⟨_, rfl⟩
  rw [← hq29] at hld
  obtain ⟨q31, hq31⟩ : ∃ q, q = dday (311200 + yy) := ⟨_, rfl⟩
  rw [← hq31] at hi31
  have hdk : dday (10000 * dd + 100 * mo + yy) = k := by rw [← hdg]; exact dday_dig hk
  have hnd := fun h => next_date hy hmo hdd hday h
  refine lv_aload_n hx hb dL_isDateSo_0 rfl (lv_at hl 0 rfl) ?_
  refine lv_iload_n hx hb dL_isDateSo_1 rfl (lv_at hl 1 rfl) ?_
  refine j_const hx hb dL_isDateSo_2 ?_
  refine m_callVi (As := [.int (iv k), .int (iv 0)]) (rest := []) ⟨hx, hb, hml, hown, hts⟩ hK hH hS (c_X8_date l G μ n x rb u0 k 0 hD (by omega) (by omega)) (cwV 2 hts gL_isDateSo_X8_date rfl rfl rfl (by decide +kernel) ⟨(Nat.le_of_ble_eq_true rfl), (Nat.le_of_ble_eq_true rfl)⟩) hD.1 rfl rfl rfl rfl hl.1 (Nat.le_of_ble_eq_true rfl) dL_isDateSo_3 ⟨Nat.zero_le _, Nat.zero_le _⟩ (fun z4 μ1 n2 H locs hz4 hp3 hH hS => ?_)
  obtain ⟨hz2, hm2, hn2⟩ := hp3
  have hz2 := hz2.trans (show a_date k 0 = dd from ((date_0 hk).trans (by rw [hdg]; omega)))
  rw [hm2, hn2] at hH
  rw [hz2] at hz4
  rw [hz2]
  clear hz2 hm2 hn2
  refine lv_istore_n (lv' := [(2, .int (iv dd)), (0, .ref x), (1, .int (iv k))]) hx hb dL_isDateSo_6 rfl hl (by decide) rfl (fun ls hl => ?_)
  refine lv_aload_n hx hb dL_isDateSo_7 rfl (lv_at hl 1 rfl) ?_
  refine lv_iload_n hx hb dL_isDateSo_8 rfl (lv_at hl 2 rfl) ?_
  refine j_const hx hb dL_isDateSo_9 ?_
  refine m_callVi (As := [.int (iv k), .int (iv 1)]) (rest := []) ⟨hx, hb, hml, hown, hts⟩ hK hH hS (c_X8_date l G μ n x rb u0 k 1 hD (by omega) (by omega)) (cwV 2 hts gL_isDateSo_X8_date rfl rfl rfl (by decide +kernel) ⟨(Nat.le_of_ble_eq_true rfl), (Nat.le_of_ble_eq_true rfl)⟩) hD.1 rfl rfl rfl rfl hl.1 (Nat.le_of_ble_eq_true rfl) dL_isDateSo_10 ⟨Nat.zero_le _, Nat.zero_le _⟩ (fun z8 μ5 n6 H locs hz8 hp7 hH hS => ?_)
  obtain ⟨hz2, hm2, hn2⟩ := hp7
  have hz2 := hz2.trans (show a_date k 1 = mo from ((date_1 hk).trans (by rw [hdg]; omega)))
  rw [hm2, hn2] at hH
  rw [hz2] at hz8
  rw [hz2]
  clear hz2 hm2 hn2
  refine lv_istore_n (lv' := [(3, .int (iv mo)), (2, .int (iv dd)), (0, .ref x), (1, .int (iv k))]) hx hb dL_isDateSo_13 rfl hl (by decide) rfl (fun ls hl => ?_)
  refine lv_aload_n hx hb dL_isDateSo_14 rfl (lv_at hl 2 rfl) ?_
  refine lv_iload_n hx hb dL_isDateSo_15 rfl (lv_at hl 3 rfl) ?_
  refine j_const hx hb dL_isDateSo_16 ?_
  refine m_callVi (As := [.int (iv k), .int (iv 2)]) (rest := []) ⟨hx, hb, hml, hown, hts⟩ hK hH hS (c_X8_date l G μ n x rb u0 k 2 hD (by omega) (by omega)) (cwV 2 hts gL_isDateSo_X8_date rfl rfl rfl (by decide +kernel) ⟨(Nat.le_of_ble_eq_true rfl), (Nat.le_of_ble_eq_true rfl)⟩) hD.1 rfl rfl rfl rfl hl.1 (Nat.le_of_ble_eq_true rfl) dL_isDateSo_17 ⟨Nat.zero_le _, Nat.zero_le _⟩ (fun z12 μ9 n10 H locs hz12 hp11 hH hS => ?_)
  obtain ⟨hz2, hm2, hn2⟩ := hp11
  have hz2 := hz2.trans (show a_date k 2 = yy from ((date_2 hk).trans (by rw [hdg]; omega)))
  rw [hm2, hn2] at hH
  rw [hz2] at hz12
  rw [hz2]
  clear hz2 hm2 hn2
  refine lv_istore (lv' := [(4, .int (iv yy)), (3, .int (iv mo)), (2, .int (iv dd)), (0, .ref x), (1, .int (iv k))]) hx hb dL_isDateSo_20 hl (by decide) rfl (fun ls hl => ?_)
  refine lv_aload_n hx hb dL_isDateSo_22 rfl (lv_at hl 3 rfl) ?_
  refine lv_iload_n hx hb dL_isDateSo_23 rfl (lv_at hl 4 rfl) ?_
  refine j_const hx hb dL_isDateSo_24 ?_
  refine m_callVi (As := [.int (iv k), .int (iv 3)]) (rest := []) ⟨hx, hb, hml, hown, hts⟩ hK hH hS (c_X8_date l G μ n x rb u0 k 3 hD (by omega) (by omega)) (cwV 2 hts gL_isDateSo_X8_date rfl rfl rfl (by decide +kernel) ⟨(Nat.le_of_ble_eq_true rfl), (Nat.le_of_ble_eq_true rfl)⟩) hD.1 rfl rfl rfl rfl hl.1 (Nat.le_of_ble_eq_true rfl) dL_isDateSo_25 ⟨Nat.zero_le _, Nat.zero_le _⟩ (fun z16 μ13 n14 H locs hz16 hp15 hH hS => ?_)
  obtain ⟨hz2, hm2, hn2⟩ := hp15
  have hz2 := hz2.trans (show a_date k 3 = (10000 * dd + 100 * mo + yy) from ((date_3 hk).trans (by rw [hdg])))
  rw [hm2, hn2] at hH
  rw [hz2] at hz16
  rw [hz2]
  clear hz2 hm2 hn2
  refine lv_istore (lv' := [(5, .int (iv (10000 * dd + 100 * mo + yy))), (4, .int (iv yy)), (3, .int (iv mo)), (2, .int (iv dd)), (0, .ref x), (1, .int (iv k))]) hx hb dL_isDateSo_28 hl (by decide) rfl (fun ls hl => ?_)
  refine lv_iload hx hb dL_isDateSo_30 (lv_at hl 0 rfl) ?_
  refine j_sipush hx hb dL_isDateSo_32 ?_ (by decide)
  refine lv_iload_n hx hb dL_isDateSo_35 rfl (lv_at hl 3 rfl) ?_
  refine j_imul hx hb dL_isDateSo_36 ?_
  refine j_bipush hx hb dL_isDateSo_37 ?_ (by decide)
  refine lv_iload_n hx hb dL_isDateSo_39 rfl (lv_at hl 2 rfl) ?_
  refine j_imul hx hb dL_isDateSo_40 ?_
  refine j_iadd hx hb dL_isDateSo_41 ?_
  refine lv_iload hx hb dL_isDateSo_42 (lv_at hl 1 rfl) ?_
  refine j_iadd hx hb dL_isDateSo_44 ?_
  refine j_icmp_ne (tgt := 73) hx hb dL_isDateSo_45 (by decide) (fun c17 => absurd c17 (by omega)) (fun c17 => ?_) (by omega) (by omega)
  refine lv_aload_n hx hb dL_isDateSo_48 rfl (lv_at hl 4 rfl) ?_
  refine lv_iload hx hb dL_isDateSo_49 (lv_at hl 0 rfl) ?_
  refine m_callVi (As := [.int (iv (10000 * dd + 100 * mo + yy))]) (rest := []) ⟨hx, hb, hml, hown, hts⟩ hK hH hS (c_X8_day l G μ n x rb u0 (10000 * dd + 100 * mo + yy) hD (by omega)) (cwV 1 hts gL_isDateSo_X8_day rfl rfl rfl (by decide +kernel) ⟨(Nat.le_of_ble_eq_true rfl), (Nat.le_of_ble_eq_true rfl)⟩) hD.1 rfl rfl rfl rfl hl.1 (Nat.le_of_ble_eq_true rfl) dL_isDateSo_51 ⟨Nat.zero_le _, Nat.zero_le _⟩ (fun z21 μ18 n19 H locs hz21 hp20 hH hS => ?_)
  obtain ⟨hz2, hm2, hn2⟩ := hp20
  have hz2 := hz2.trans (show a_day (10000 * dd + 100 * mo + yy) = k from (day_of (by omega)).trans hdk)
  rw [hm2, hn2] at hH
  rw [hz2] at hz21
  rw [hz2]
  clear hz2 hm2 hn2
  refine lv_iload_n hx hb dL_isDateSo_54 rfl (lv_at hl 5 rfl) ?_
  refine j_icmp_ne (tgt := 73) hx hb dL_isDateSo_55 (by decide) (fun c22 => absurd c22 (by omega)) (fun c22 => ?_) (by omega) (by omega)
  refine lv_iload_n hx hb dL_isDateSo_58 rfl (lv_at hl 2 rfl) ?_
  refine j_const hx hb dL_isDateSo_59 ?_
  refine j_icmp_lt (tgt := 73) hx hb dL_isDateSo_60 (by decide) (fun c23 => absurd c23 (by omega)) (fun c23 => ?_) (by omega) (by omega)
  refine lv_iload_n hx hb dL_isDateSo_63 rfl (lv_at hl 2 rfl) ?_
  refine j_bipush hx hb dL_isDateSo_64 ?_ (by decide)
  refine j_icmp_gt (tgt := 73) hx hb dL_isDateSo_66 (by decide) (fun c24 => absurd c24 (by omega)) (fun c24 => ?_) (by omega) (by omega)
  refine j_const hx hb dL_isDateSo_69 ?_
  refine lv_goto (tgt := 74) hx hb dL_isDateSo_70 (by decide) ?_
  refine lv_istore (lv' := [(6, .int (iv 1)), (5, .int (iv (10000 * dd + 100 * mo + yy))), (4, .int (iv yy)), (3, .int (iv mo)), (2, .int (iv dd)), (0, .ref x), (1, .int (iv k))]) hx hb dL_isDateSo_74 hl (by decide) rfl (fun ls hl => ?_)
  refine lv_iload_n hx hb dL_isDateSo_76 rfl (lv_at hl 6 rfl) ?_
  refine j_ldc hx hb (36524) hown f_0 dL_isDateSo_77 ?_ (by decide)
  refine j_icmp_ge (tgt := 183) hx hb dL_isDateSo_79 (by decide) (fun c25 => ?_) (fun c25 => ?_) (by omega) (by omega)
  · skip
    refine lv_iload hx hb dL_isDateSo_183 (lv_at hl 2 rfl) ?_
    refine j_const hx hb dL_isDateSo_185 ?_
    refine j_irem hx hb dL_isDateSo_186 ?_ (by omega) (by omega)
    refine j_if_ne (tgt := 194) hx hb dL_isDateSo_187 (by decide) (fun c26 => ?_) (fun c26 => ?_) (by omega)
    · skip
      refine j_const hx hb dL_isDateSo_194 ?_
      refine lv_istore (lv' := [(7, .int (iv 0)), (6, .int (iv 1)), (5, .int (iv (10000 * dd + 100 * mo + yy))), (4, .int (iv yy)), (3, .int (iv mo)), (2, .int (iv dd)), (0, .ref x), (1, .int (iv k))]) hx hb dL_isDateSo_195 hl (by decide) rfl (fun ls hl => ?_)
      refine lv_iload hx hb dL_isDateSo_197 (lv_at hl 1 rfl) ?_
      refine j_if_eq (tgt := 268) hx hb dL_isDateSo_199 (by decide) (fun c27 => absurd c27 (by omega)) (fun c27 => ?_) (by omega)
      refine lv_aload_n hx hb dL_isDateSo_202 rfl (lv_at hl 6 rfl) ?_
      refine j_ldc hx hb (290200) hown f_1 dL_isDateSo_203 ?_ (by decide)
      refine lv_iload hx hb dL_isDateSo_205 (lv_at hl 3 rfl) ?_
      refine j_iadd hx hb dL_isDateSo_207 ?_
      refine m_callVi (As := [.int (iv (290200 + yy))]) (rest := []) ⟨hx, hb, hml, hown, hts⟩ hK hH hS (c_X8_day l G μ n x rb u0 (290200 + yy) hD (by omega)) (cwV 1 hts gL_isDateSo_X8_day rfl rfl rfl (by decide +kernel) ⟨(Nat.le_of_ble_eq_true rfl), (Nat.le_of_ble_eq_true rfl)⟩) hD.1 rfl rfl rfl rfl hl.1 (Nat.le_of_ble_eq_true rfl) dL_isDateSo_208 ⟨Nat.zero_le _, Nat.zero_le _⟩ (fun z31 μ28 n29 H locs hz31 hp30 hH hS => ?_)
      obtain ⟨hz2, hm2, hn2⟩ := hp30
      have hz2 := hz2.trans (show a_day (290200 + yy) = q29 from (day_of (by omega)).trans hq29.symm)
      rw [hm2, hn2] at hH
      rw [hz2] at hz31
      rw [hz2]
      clear hz2 hm2 hn2
      refine j_if_lt (tgt := 218) hx hb dL_isDateSo_211 (by decide) (fun c32 => ?_) (fun c32 => absurd c32 (by omega)) (by omega)
      refine j_const hx hb dL_isDateSo_218 ?_
      refine lv_iload hx hb dL_isDateSo_219 (lv_at hl 0 rfl) ?_
      refine j_icmp_ne (tgt := 268) hx hb dL_isDateSo_221 (by decide) (fun c33 => absurd c33 (by omega)) (fun c33 => ?_) (by omega) (by omega)
      refine lv_aload_n hx hb dL_isDateSo_224 rfl (lv_at hl 6 rfl) ?_
      refine j_ldc hx hb (300200) hown f_2 dL_isDateSo_225 ?_ (by decide)
      refine lv_iload hx hb dL_isDateSo_227 (lv_at hl 3 rfl) ?_
      refine j_iadd hx hb dL_isDateSo_229 ?_
      refine m_callVi (As := [.int (iv (300200 + yy))]) (rest := []) ⟨hx, hb, hml, hown, hts⟩ hK hH hS (c_X8_day l G μ n x rb u0 (300200 + yy) hD (by omega)) (cwV 1 hts gL_isDateSo_X8_day rfl rfl rfl (by decide +kernel) ⟨(Nat.le_of_ble_eq_true rfl), (Nat.le_of_ble_eq_true rfl)⟩) hD.1 rfl rfl rfl rfl hl.1 (Nat.le_of_ble_eq_true rfl) dL_isDateSo_230 ⟨Nat.zero_le _, Nat.zero_le _⟩ (fun z37 μ34 n35 H locs hz37 hp36 hH hS => ?_)
      obtain ⟨hz2, hm2, hn2⟩ := hp36
      have hz2 := hz2.trans (show a_day (300200 + yy) = (-5) from (day_of (by omega)).trans h30)
      rw [hm2, hn2] at hH
      rw [hz2] at hz37
      rw [hz2]
      clear hz2 hm2 hn2
      refine j_bipush hx hb dL_isDateSo_233 ?_ (by decide)
      refine j_icmp_ne (tgt := 268) hx hb dL_isDateSo_235 (by decide) (fun c38 => absurd c38 (by omega)) (fun c38 => ?_) (by omega) (by omega)
      refine lv_aload_n hx hb dL_isDateSo_238 rfl (lv_at hl 6 rfl) ?_
      refine j_ldc hx hb (310400) hown f_3 dL_isDateSo_239 ?_ (by decide)
      refine lv_iload hx hb dL_isDateSo_241 (lv_at hl 3 rfl) ?_
      refine j_iadd hx hb dL_isDateSo_243 ?_
      refine m_callVi (As := [.int (iv (310400 + yy))]) (rest := []) ⟨hx, hb, hml, hown, hts⟩ hK hH hS (c_X8_day l G μ n x rb u0 (310400 + yy) hD (by omega)) (cwV 1 hts gL_isDateSo_X8_day rfl rfl rfl (by decide +kernel) ⟨(Nat.le_of_ble_eq_true rfl), (Nat.le_of_ble_eq_true rfl)⟩) hD.1 rfl rfl rfl rfl hl.1 (Nat.le_of_ble_eq_true rfl) dL_isDateSo_244 ⟨Nat.zero_le _, Nat.zero_le _⟩ (fun z42 μ39 n40 H locs hz42 hp41 hH hS => ?_)
      obtain ⟨hz2, hm2, hn2⟩ := hp41
      have hz2 := hz2.trans (show a_day (310400 + yy) = (-5) from (day_of (by omega)).trans h31)
      rw [hm2, hn2] at hH
      rw [hz2] at hz42
      rw [hz2]
      clear hz2 hm2 hn2
      refine j_bipush hx hb dL_isDateSo_247 ?_ (by decide)
      refine j_icmp_ne (tgt := 268) hx hb dL_isDateSo_249 (by decide) (fun c43 => absurd c43 (by omega)) (fun c43 => ?_) (by omega) (by omega)
      refine lv_aload_n hx hb dL_isDateSo_252 rfl (lv_at hl 6 rfl) ?_
      refine j_ldc hx hb (311200) hown f_4 dL_isDateSo_253 ?_ (by decide)
      refine lv_iload hx hb dL_isDateSo_255 (lv_at hl 3 rfl) ?_
      refine j_iadd hx hb dL_isDateSo_257 ?_
      refine m_callVi (As := [.int (iv (311200 + yy))]) (rest := []) ⟨hx, hb, hml, hown, hts⟩ hK hH hS (c_X8_day l G μ n x rb u0 (311200 + yy) hD (by omega)) (cwV 1 hts gL_isDateSo_X8_day rfl rfl rfl (by decide +kernel) ⟨(Nat.le_of_ble_eq_true rfl), (Nat.le_of_ble_eq_true rfl)⟩) hD.1 rfl rfl rfl rfl hl.1 (Nat.le_of_ble_eq_true rfl) dL_isDateSo_258 ⟨Nat.zero_le _, Nat.zero_le _⟩ (fun z47 μ44 n45 H locs hz47 hp46 hH hS => ?_)
      obtain ⟨hz2, hm2, hn2⟩ := hp46
      have hz2 := hz2.trans (show a_day (311200 + yy) = q31 from (day_of (by omega)).trans hq31.symm)
      rw [hm2, hn2] at hH
      rw [hz2] at hz47
      rw [hz2]
      clear hz2 hm2 hn2
      refine j_if_lt (tgt := 268) hx hb dL_isDateSo_261 (by decide) (fun c48 => absurd c48 (by omega)) (fun c48 => ?_) (by omega)
      refine j_const hx hb dL_isDateSo_264 ?_
      refine lv_goto (tgt := 269) hx hb dL_isDateSo_265 (by decide) ?_
      subst hQ
      refine m_zret hx hb hr hlocks hH hS dL_isDateSo_269 ?_ (by omega)
      exact ⟨rfl, rfl, rfl⟩
    · skip
      refine j_const hx hb dL_isDateSo_190 ?_
      refine lv_goto (tgt := 195) hx hb dL_isDateSo_191 (by decide) ?_
      refine lv_istore (lv' := [(7, .int (iv 1)), (6, .int (iv 1)), (5, .int (iv (10000 * dd + 100 * mo + yy))), (4, .int (iv yy)), (3, .int (iv mo)), (2, .int (iv dd)), (0, .ref x), (1, .int (iv k))]) hx hb dL_isDateSo_195 hl (by decide) rfl (fun ls hl => ?_)
      refine lv_iload hx hb dL_isDateSo_197 (lv_at hl 1 rfl) ?_
      refine j_if_eq (tgt := 268) hx hb dL_isDateSo_199 (by decide) (fun c49 => absurd c49 (by omega)) (fun c49 => ?_) (by omega)
      refine lv_aload_n hx hb dL_isDateSo_202 rfl (lv_at hl 6 rfl) ?_
      refine j_ldc hx hb (290200) hown f_1 dL_isDateSo_203 ?_ (by decide)
      refine lv_iload hx hb dL_isDateSo_205 (lv_at hl 3 rfl) ?_
      refine j_iadd hx hb dL_isDateSo_207 ?_
      refine m_callVi (As := [.int (iv (290200 + yy))]) (rest := []) ⟨hx, hb, hml, hown, hts⟩ hK hH hS (c_X8_day l G μ n x rb u0 (290200 + yy) hD (by omega)) (cwV 1 hts gL_isDateSo_X8_day rfl rfl rfl (by decide +kernel) ⟨(Nat.le_of_ble_eq_true rfl), (Nat.le_of_ble_eq_true rfl)⟩) hD.1 rfl rfl rfl rfl hl.1 (Nat.le_of_ble_eq_true rfl) dL_isDateSo_208 ⟨Nat.zero_le _, Nat.zero_le _⟩ (fun z53 μ50 n51 H locs hz53 hp52 hH hS => ?_)
      obtain ⟨hz2, hm2, hn2⟩ := hp52
      have hz2 := hz2.trans (show a_day (290200 + yy) = q29 from (day_of (by omega)).trans hq29.symm)
      rw [hm2, hn2] at hH
      rw [hz2] at hz53
      rw [hz2]
      clear hz2 hm2 hn2
      refine j_if_lt (tgt := 218) hx hb dL_isDateSo_211 (by decide) (fun c54 => absurd c54 (by omega)) (fun c54 => ?_) (by omega)
      refine j_const hx hb dL_isDateSo_214 ?_
      refine lv_goto (tgt := 219) hx hb dL_isDateSo_215 (by decide) ?_
      refine lv_iload hx hb dL_isDateSo_219 (lv_at hl 0 rfl) ?_
      refine j_icmp_ne (tgt := 268) hx hb dL_isDateSo_221 (by decide) (fun c55 => absurd c55 (by omega)) (fun c55 => ?_) (by omega) (by omega)
      refine lv_aload_n hx hb dL_isDateSo_224 rfl (lv_at hl 6 rfl) ?_
      refine j_ldc hx hb (300200) hown f_2 dL_isDateSo_225 ?_ (by decide)
      refine lv_iload hx hb dL_isDateSo_227 (lv_at hl 3 rfl) ?_
      refine j_iadd hx hb dL_isDateSo_229 ?_
      refine m_callVi (As := [.int (iv (300200 + yy))]) (rest := []) ⟨hx, hb, hml, hown, hts⟩ hK hH hS (c_X8_day l G μ n x rb u0 (300200 + yy) hD (by omega)) (cwV 1 hts gL_isDateSo_X8_day rfl rfl rfl (by decide +kernel) ⟨(Nat.le_of_ble_eq_true rfl), (Nat.le_of_ble_eq_true rfl)⟩) hD.1 rfl rfl rfl rfl hl.1 (Nat.le_of_ble_eq_true rfl) dL_isDateSo_230 ⟨Nat.zero_le _, Nat.zero_le _⟩ (fun z59 μ56 n57 H locs hz59 hp58 hH hS => ?_)
      obtain ⟨hz2, hm2, hn2⟩ := hp58
      have hz2 := hz2.trans (show a_day (300200 + yy) = (-5) from (day_of (by omega)).trans h30)
      rw [hm2, hn2] at hH
      rw [hz2] at hz59
      rw [hz2]
      clear hz2 hm2 hn2
      refine j_bipush hx hb dL_isDateSo_233 ?_ (by decide)
      refine j_icmp_ne (tgt := 268) hx hb dL_isDateSo_235 (by decide) (fun c60 => absurd c60 (by omega)) (fun c60 => ?_) (by omega) (by omega)
      refine lv_aload_n hx hb dL_isDateSo_238 rfl (lv_at hl 6 rfl) ?_
      refine j_ldc hx hb (310400) hown f_3 dL_isDateSo_239 ?_ (by decide)
      refine lv_iload hx hb dL_isDateSo_241 (lv_at hl 3 rfl) ?_
      refine j_iadd hx hb dL_isDateSo_243 ?_
      refine m_callVi (As := [.int (iv (310400 + yy))]) (rest := []) ⟨hx, hb, hml, hown, hts⟩ hK hH hS (c_X8_day l G μ n x rb u0 (310400 + yy) hD (by omega)) (cwV 1 hts gL_isDateSo_X8_day rfl rfl rfl (by decide +kernel) ⟨(Nat.le_of_ble_eq_true rfl), (Nat.le_of_ble_eq_true rfl)⟩) hD.1 rfl rfl rfl rfl hl.1 (Nat.le_of_ble_eq_true rfl) dL_isDateSo_244 ⟨Nat.zero_le _, Nat.zero_le _⟩ (fun z64 μ61 n62 H locs hz64 hp63 hH hS => ?_)
      obtain ⟨hz2, hm2, hn2⟩ := hp63
      have hz2 := hz2.trans (show a_day (310400 + yy) = (-5) from (day_of (by omega)).trans h31)
      rw [hm2, hn2] at hH
      rw [hz2] at hz64
      rw [hz2]
      clear hz2 hm2 hn2
      refine j_bipush hx hb dL_isDateSo_247 ?_ (by decide)
      refine j_icmp_ne (tgt := 268) hx hb dL_isDateSo_249 (by decide) (fun c65 => absurd c65 (by omega)) (fun c65 => ?_) (by omega) (by omega)
      refine lv_aload_n hx hb dL_isDateSo_252 rfl (lv_at hl 6 rfl) ?_
      refine j_ldc hx hb (311200) hown f_4 dL_isDateSo_253 ?_ (by decide)
      refine lv_iload hx hb dL_isDateSo_255 (lv_at hl 3 rfl) ?_
      refine j_iadd hx hb dL_isDateSo_257 ?_
      refine m_callVi (As := [.int (iv (311200 + yy))]) (rest := []) ⟨hx, hb, hml, hown, hts⟩ hK hH hS (c_X8_day l G μ n x rb u0 (311200 + yy) hD (by omega)) (cwV 1 hts gL_isDateSo_X8_day rfl rfl rfl (by decide +kernel) ⟨(Nat.le_of_ble_eq_true rfl), (Nat.le_of_ble_eq_true rfl)⟩) hD.1 rfl rfl rfl rfl hl.1 (Nat.le_of_ble_eq_true rfl) dL_isDateSo_258 ⟨Nat.zero_le _, Nat.zero_le _⟩ (fun z69 μ66 n67 H locs hz69 hp68 hH hS => ?_)
      obtain ⟨hz2, hm2, hn2⟩ := hp68
      have hz2 := hz2.trans (show a_day (311200 + yy) = q31 from (day_of (by omega)).trans hq31.symm)
      rw [hm2, hn2] at hH
      rw [hz2] at hz69
      rw [hz2]
      clear hz2 hm2 hn2
      refine j_if_lt (tgt := 268) hx hb dL_isDateSo_261 (by decide) (fun c70 => absurd c70 (by omega)) (fun c70 => ?_) (by omega)
      refine j_const hx hb dL_isDateSo_264 ?_
      refine lv_goto (tgt := 269) hx hb dL_isDateSo_265 (by decide) ?_
      subst hQ
      refine m_zret hx hb hr hlocks hH hS dL_isDateSo_269 ?_ (by omega)
      exact ⟨rfl, rfl, rfl⟩
  · skip
    have hn0 := hnd (by omega)
    have hnr := dig_rng (day := k + 1) (by omega)
    obtain ⟨nx, hnx⟩ : ∃ q, q = dig (k + 1) := ⟨_, rfl⟩
    rw [← hnx] at hn0 hnr
    refine lv_aload_n hx hb dL_isDateSo_82 rfl (lv_at hl 5 rfl) ?_
    refine lv_iload_n hx hb dL_isDateSo_83 rfl (lv_at hl 6 rfl) ?_
    refine j_const hx hb dL_isDateSo_84 ?_
    refine j_iadd hx hb dL_isDateSo_85 ?_
    refine j_const hx hb dL_isDateSo_86 ?_
    refine m_callVi (As := [.int (iv (k + 1)), .int (iv 3)]) (rest := []) ⟨hx, hb, hml, hown, hts⟩ hK hH hS (c_X8_date l G μ n x rb u0 (k + 1) 3 hD (by omega) (by omega)) (cwV 2 hts gL_isDateSo_X8_date rfl rfl rfl (by decide +kernel) ⟨(Nat.le_of_ble_eq_true rfl), (Nat.le_of_ble_eq_true rfl)⟩) hD.1 rfl rfl rfl rfl hl.1 (Nat.le_of_ble_eq_true rfl) dL_isDateSo_87 ⟨Nat.zero_le _, Nat.zero_le _⟩ (fun z74 μ71 n72 H locs hz74 hp73 hH hS => ?_)
    obtain ⟨hz2, hm2, hn2⟩ := hp73
    have hz2 := hz2.trans (show a_date (k + 1) 3 = nx from (date_3 (by omega)).trans hnx.symm)
    rw [hm2, hn2] at hH
    rw [hz2] at hz74
    rw [hz2]
    clear hz2 hm2 hn2
    refine lv_istore (lv' := [(7, .int (iv nx)), (6, .int (iv 1)), (5, .int (iv (10000 * dd + 100 * mo + yy))), (4, .int (iv yy)), (3, .int (iv mo)), (2, .int (iv dd)), (0, .ref x), (1, .int (iv k))]) hx hb dL_isDateSo_90 hl (by decide) rfl (fun ls hl => ?_)
    refine lv_iload hx hb dL_isDateSo_92 (lv_at hl 0 rfl) ?_
    refine lv_iload hx hb dL_isDateSo_94 (lv_at hl 2 rfl) ?_
    refine j_sipush hx hb dL_isDateSo_96 ?_ (by decide)
    refine j_iadd hx hb dL_isDateSo_99 ?_
    refine j_icmp_eq (tgt := 159) hx hb dL_isDateSo_100 (by decide) (fun c75 => ?_) (fun c75 => ?_) (by omega) (by omega)
    · skip
      refine j_const hx hb dL_isDateSo_159 ?_
      refine lv_goto (tgt := 164) hx hb dL_isDateSo_160 (by decide) ?_
      refine lv_istore (lv' := [(8, .int (iv 1)), (7, .int (iv nx)), (6, .int (iv 1)), (5, .int (iv (10000 * dd + 100 * mo + yy))), (4, .int (iv yy)), (3, .int (iv mo)), (2, .int (iv dd)), (0, .ref x), (1, .int (iv k))]) hx hb dL_isDateSo_164 hl (by decide) rfl (fun ls hl => ?_)
      refine lv_iload hx hb dL_isDateSo_166 (lv_at hl 2 rfl) ?_
      refine j_if_eq (tgt := 180) hx hb dL_isDateSo_168 (by decide) (fun c76 => absurd c76 (by omega)) (fun c76 => ?_) (by omega)
      refine lv_iload hx hb dL_isDateSo_171 (lv_at hl 0 rfl) ?_
      refine j_if_eq (tgt := 180) hx hb dL_isDateSo_173 (by decide) (fun c77 => absurd c77 (by omega)) (fun c77 => ?_) (by omega)
      refine j_const hx hb dL_isDateSo_176 ?_
      refine lv_goto (tgt := 181) hx hb dL_isDateSo_177 (by decide) ?_
      refine lv_istore (lv' := [(6, .int (iv 1)), (8, .int (iv 1)), (7, .int (iv nx)), (5, .int (iv (10000 * dd + 100 * mo + yy))), (4, .int (iv yy)), (3, .int (iv mo)), (2, .int (iv dd)), (0, .ref x), (1, .int (iv k))]) hx hb dL_isDateSo_181 hl (by decide) rfl (fun ls hl => ?_)
      refine lv_iload hx hb dL_isDateSo_183 (lv_at hl 4 rfl) ?_
      refine j_const hx hb dL_isDateSo_185 ?_
      refine j_irem hx hb dL_isDateSo_186 ?_ (by omega) (by omega)
      refine j_if_ne (tgt := 194) hx hb dL_isDateSo_187 (by decide) (fun c78 => ?_) (fun c78 => ?_) (by omega)
      · skip
        refine j_const hx hb dL_isDateSo_194 ?_
        refine lv_istore (lv' := [(7, .int (iv 0)), (6, .int (iv 1)), (8, .int (iv 1)), (5, .int (iv (10000 * dd + 100 * mo + yy))), (4, .int (iv yy)), (3, .int (iv mo)), (2, .int (iv dd)), (0, .ref x), (1, .int (iv k))]) hx hb dL_isDateSo_195 hl (by decide) rfl (fun ls hl => ?_)
        refine lv_iload hx hb dL_isDateSo_197 (lv_at hl 1 rfl) ?_
        refine j_if_eq (tgt := 268) hx hb dL_isDateSo_199 (by decide) (fun c79 => absurd c79 (by omega)) (fun c79 => ?_) (by omega)
        refine lv_aload_n hx hb dL_isDateSo_202 rfl (lv_at hl 7 rfl) ?_
        refine j_ldc hx hb (290200) hown f_1 dL_isDateSo_203 ?_ (by decide)
        refine lv_iload hx hb dL_isDateSo_205 (lv_at hl 4 rfl) ?_
        refine j_iadd hx hb dL_isDateSo_207 ?_
        refine m_callVi (As := [.int (iv (290200 + yy))]) (rest := []) ⟨hx, hb, hml, hown, hts⟩ hK hH hS (c_X8_day l G μ n x rb u0 (290200 + yy) hD (by omega)) (cwV 1 hts gL_isDateSo_X8_day rfl rfl rfl (by decide +kernel) ⟨(Nat.le_of_ble_eq_true rfl), (Nat.le_of_ble_eq_true rfl)⟩) hD.1 rfl rfl rfl rfl hl.1 (Nat.le_of_ble_eq_true rfl) dL_isDateSo_208 ⟨Nat.zero_le _, Nat.zero_le _⟩ (fun z83 μ80 n81 H locs hz83 hp82 hH hS => ?_)
        obtain ⟨hz2, hm2, hn2⟩ := hp82
        have hz2 := hz2.trans (show a_day (290200 + yy) = q29 from (day_of (by omega)).trans hq29.symm)
        rw [hm2, hn2] at hH
        rw [hz2] at hz83
        rw [hz2]
        clear hz2 hm2 hn2
        refine j_if_lt (tgt := 218) hx hb dL_isDateSo_211 (by decide) (fun c84 => ?_) (fun c84 => absurd c84 (by omega)) (by omega)
        refine j_const hx hb dL_isDateSo_218 ?_
        refine lv_iload hx hb dL_isDateSo_219 (lv_at hl 0 rfl) ?_
        refine j_icmp_ne (tgt := 268) hx hb dL_isDateSo_221 (by decide) (fun c85 => absurd c85 (by omega)) (fun c85 => ?_) (by omega) (by omega)
        refine lv_aload_n hx hb dL_isDateSo_224 rfl (lv_at hl 7 rfl) ?_
        refine j_ldc hx hb (300200) hown f_2 dL_isDateSo_225 ?_ (by decide)
        refine lv_iload hx hb dL_isDateSo_227 (lv_at hl 4 rfl) ?_
        refine j_iadd hx hb dL_isDateSo_229 ?_
        refine m_callVi (As := [.int (iv (300200 + yy))]) (rest := []) ⟨hx, hb, hml, hown, hts⟩ hK hH hS (c_X8_day l G μ n x rb u0 (300200 + yy) hD (by omega)) (cwV 1 hts gL_isDateSo_X8_day rfl rfl rfl (by decide +kernel) ⟨(Nat.le_of_ble_eq_true rfl), (Nat.le_of_ble_eq_true rfl)⟩) hD.1 rfl rfl rfl rfl hl.1 (Nat.le_of_ble_eq_true rfl) dL_isDateSo_230 ⟨Nat.zero_le _, Nat.zero_le _⟩ (fun z89 μ86 n87 H locs hz89 hp88 hH hS => ?_)
        obtain ⟨hz2, hm2, hn2⟩ := hp88
        have hz2 := hz2.trans (show a_day (300200 + yy) = (-5) from (day_of (by omega)).trans h30)
        rw [hm2, hn2] at hH
        rw [hz2] at hz89
        rw [hz2]
        clear hz2 hm2 hn2
        refine j_bipush hx hb dL_isDateSo_233 ?_ (by decide)
        refine j_icmp_ne (tgt := 268) hx hb dL_isDateSo_235 (by decide) (fun c90 => absurd c90 (by omega)) (fun c90 => ?_) (by omega) (by omega)
        refine lv_aload_n hx hb dL_isDateSo_238 rfl (lv_at hl 7 rfl) ?_
        refine j_ldc hx hb (310400) hown f_3 dL_isDateSo_239 ?_ (by decide)
        refine lv_iload hx hb dL_isDateSo_241 (lv_at hl 4 rfl) ?_
        refine j_iadd hx hb dL_isDateSo_243 ?_
        refine m_callVi (As := [.int (iv (310400 + yy))]) (rest := []) ⟨hx, hb, hml, hown, hts⟩ hK hH hS (c_X8_day l G μ n x rb u0 (310400 + yy) hD (by omega)) (cwV 1 hts gL_isDateSo_X8_day rfl rfl rfl (by decide +kernel) ⟨(Nat.le_of_ble_eq_true rfl), (Nat.le_of_ble_eq_true rfl)⟩) hD.1 rfl rfl rfl rfl hl.1 (Nat.le_of_ble_eq_true rfl) dL_isDateSo_244 ⟨Nat.zero_le _, Nat.zero_le _⟩ (fun z94 μ91 n92 H locs hz94 hp93 hH hS => ?_)
        obtain ⟨hz2, hm2, hn2⟩ := hp93
        have hz2 := hz2.trans (show a_day (310400 + yy) = (-5) from (day_of (by omega)).trans h31)
        rw [hm2, hn2] at hH
        rw [hz2] at hz94
        rw [hz2]
        clear hz2 hm2 hn2
        refine j_bipush hx hb dL_isDateSo_247 ?_ (by decide)
        refine j_icmp_ne (tgt := 268) hx hb dL_isDateSo_249 (by decide) (fun c95 => absurd c95 (by omega)) (fun c95 => ?_) (by omega) (by omega)
        refine lv_aload_n hx hb dL_isDateSo_252 rfl (lv_at hl 7 rfl) ?_
        refine j_ldc hx hb (311200) hown f_4 dL_isDateSo_253 ?_ (by decide)
        refine lv_iload hx hb dL_isDateSo_255 (lv_at hl 4 rfl) ?_
        refine j_iadd hx hb dL_isDateSo_257 ?_
        refine m_callVi (As := [.int (iv (311200 + yy))]) (rest := []) ⟨hx, hb, hml, hown, hts⟩ hK hH hS (c_X8_day l G μ n x rb u0 (311200 + yy) hD (by omega)) (cwV 1 hts gL_isDateSo_X8_day rfl rfl rfl (by decide +kernel) ⟨(Nat.le_of_ble_eq_true rfl), (Nat.le_of_ble_eq_true rfl)⟩) hD.1 rfl rfl rfl rfl hl.1 (Nat.le_of_ble_eq_true rfl) dL_isDateSo_258 ⟨Nat.zero_le _, Nat.zero_le _⟩ (fun z99 μ96 n97 H locs hz99 hp98 hH hS => ?_)
        obtain ⟨hz2, hm2, hn2⟩ := hp98
        have hz2 := hz2.trans (show a_day (311200 + yy) = q31 from (day_of (by omega)).trans hq31.symm)
        rw [hm2, hn2] at hH
        rw [hz2] at hz99
        rw [hz2]
        clear hz2 hm2 hn2
        refine j_if_lt (tgt := 268) hx hb dL_isDateSo_261 (by decide) (fun c100 => absurd c100 (by omega)) (fun c100 => ?_) (by omega)
        refine j_const hx hb dL_isDateSo_264 ?_
        refine lv_goto (tgt := 269) hx hb dL_isDateSo_265 (by decide) ?_
        subst hQ
        refine m_zret hx hb hr hlocks hH hS dL_isDateSo_269 ?_ (by omega)
        exact ⟨rfl, rfl, rfl⟩
      · skip
        refine j_const hx hb dL_isDateSo_190 ?_
        refine lv_goto (tgt := 195) hx hb dL_isDateSo_191 (by decide) ?_
        refine lv_istore (lv' := [(7, .int (iv 1)), (6, .int (iv 1)), (8, .int (iv 1)), (5, .int (iv (10000 * dd + 100 * mo + yy))), (4, .int (iv yy)), (3, .int (iv mo)), (2, .int (iv dd)), (0, .ref x), (1, .int (iv k))]) hx hb dL_isDateSo_195 hl (by decide) rfl (fun ls hl => ?_)
        refine lv_iload hx hb dL_isDateSo_197 (lv_at hl 1 rfl) ?_
        refine j_if_eq (tgt := 268) hx hb dL_isDateSo_199 (by decide) (fun c101 => absurd c101 (by omega)) (fun c101 => ?_) (by omega)
        refine lv_aload_n hx hb dL_isDateSo_202 rfl (lv_at hl 7 rfl) ?_
        refine j_ldc hx hb (290200) hown f_1 dL_isDateSo_203 ?_ (by decide)
        refine lv_iload hx hb dL_isDateSo_205 (lv_at hl 4 rfl) ?_
        refine j_iadd hx hb dL_isDateSo_207 ?_
        refine m_callVi (As := [.int (iv (290200 + yy))]) (rest := []) ⟨hx, hb, hml, hown, hts⟩ hK hH hS (c_X8_day l G μ n x rb u0 (290200 + yy) hD (by omega)) (cwV 1 hts gL_isDateSo_X8_day rfl rfl rfl (by decide +kernel) ⟨(Nat.le_of_ble_eq_true rfl), (Nat.le_of_ble_eq_true rfl)⟩) hD.1 rfl rfl rfl rfl hl.1 (Nat.le_of_ble_eq_true rfl) dL_isDateSo_208 ⟨Nat.zero_le _, Nat.zero_le _⟩ (fun z105 μ102 n103 H locs hz105 hp104 hH hS => ?_)
        obtain ⟨hz2, hm2, hn2⟩ := hp104
        have hz2 := hz2.trans (show a_day (290200 + yy) = q29 from (day_of (by omega)).trans hq29.symm)
        rw [hm2, hn2] at hH
        rw [hz2] at hz105
        rw [hz2]
        clear hz2 hm2 hn2
        refine j_if_lt (tgt := 218) hx hb dL_isDateSo_211 (by decide) (fun c106 => absurd c106 (by omega)) (fun c106 => ?_) (by omega)
        refine j_const hx hb dL_isDateSo_214 ?_
        refine lv_goto (tgt := 219) hx hb dL_isDateSo_215 (by decide) ?_
        refine lv_iload hx hb dL_isDateSo_219 (lv_at hl 0 rfl) ?_
        refine j_icmp_ne (tgt := 268) hx hb dL_isDateSo_221 (by decide) (fun c107 => absurd c107 (by omega)) (fun c107 => ?_) (by omega) (by omega)
        refine lv_aload_n hx hb dL_isDateSo_224 rfl (lv_at hl 7 rfl) ?_
        refine j_ldc hx hb (300200) hown f_2 dL_isDateSo_225 ?_ (by decide)
        refine lv_iload hx hb dL_isDateSo_227 (lv_at hl 4 rfl) ?_
        refine j_iadd hx hb dL_isDateSo_229 ?_
        refine m_callVi (As := [.int (iv (300200 + yy))]) (rest := []) ⟨hx, hb, hml, hown, hts⟩ hK hH hS (c_X8_day l G μ n x rb u0 (300200 + yy) hD (by omega)) (cwV 1 hts gL_isDateSo_X8_day rfl rfl rfl (by decide +kernel) ⟨(Nat.le_of_ble_eq_true rfl), (Nat.le_of_ble_eq_true rfl)⟩) hD.1 rfl rfl rfl rfl hl.1 (Nat.le_of_ble_eq_true rfl) dL_isDateSo_230 ⟨Nat.zero_le _, Nat.zero_le _⟩ (fun z111 μ108 n109 H locs hz111 hp110 hH hS => ?_)
        obtain ⟨hz2, hm2, hn2⟩ := hp110
        have hz2 := hz2.trans (show a_day (300200 + yy) = (-5) from (day_of (by omega)).trans h30)
        rw [hm2, hn2] at hH
        rw [hz2] at hz111
        rw [hz2]
        clear hz2 hm2 hn2
        refine j_bipush hx hb dL_isDateSo_233 ?_ (by decide)
        refine j_icmp_ne (tgt := 268) hx hb dL_isDateSo_235 (by decide) (fun c112 => absurd c112 (by omega)) (fun c112 => ?_) (by omega) (by omega)
        refine lv_aload_n hx hb dL_isDateSo_238 rfl (lv_at hl 7 rfl) ?_
        refine j_ldc hx hb (310400) hown f_3 dL_isDateSo_239 ?_ (by decide)
        refine lv_iload hx hb dL_isDateSo_241 (lv_at hl 4 rfl) ?_
        refine j_iadd hx hb dL_isDateSo_243 ?_
        refine m_callVi (As := [.int (iv (310400 + yy))]) (rest := []) ⟨hx, hb, hml, hown, hts⟩ hK hH hS (c_X8_day l G μ n x rb u0 (310400 + yy) hD (by omega)) (cwV 1 hts gL_isDateSo_X8_day rfl rfl rfl (by decide +kernel) ⟨(Nat.le_of_ble_eq_true rfl), (Nat.le_of_ble_eq_true rfl)⟩) hD.1 rfl rfl rfl rfl hl.1 (Nat.le_of_ble_eq_true rfl) dL_isDateSo_244 ⟨Nat.zero_le _, Nat.zero_le _⟩ (fun z116 μ113 n114 H locs hz116 hp115 hH hS => ?_)
        obtain ⟨hz2, hm2, hn2⟩ := hp115
        have hz2 := hz2.trans (show a_day (310400 + yy) = (-5) from (day_of (by omega)).trans h31)
        rw [hm2, hn2] at hH
        rw [hz2] at hz116
        rw [hz2]
        clear hz2 hm2 hn2
        refine j_bipush hx hb dL_isDateSo_247 ?_ (by decide)
        refine j_icmp_ne (tgt := 268) hx hb dL_isDateSo_249 (by decide) (fun c117 => absurd c117 (by omega)) (fun c117 => ?_) (by omega) (by omega)
        refine lv_aload_n hx hb dL_isDateSo_252 rfl (lv_at hl 7 rfl) ?_
        refine j_ldc hx hb (311200) hown f_4 dL_isDateSo_253 ?_ (by decide)
        refine lv_iload hx hb dL_isDateSo_255 (lv_at hl 4 rfl) ?_
        refine j_iadd hx hb dL_isDateSo_257 ?_
        refine m_callVi (As := [.int (iv (311200 + yy))]) (rest := []) ⟨hx, hb, hml, hown, hts⟩ hK hH hS (c_X8_day l G μ n x rb u0 (311200 + yy) hD (by omega)) (cwV 1 hts gL_isDateSo_X8_day rfl rfl rfl (by decide +kernel) ⟨(Nat.le_of_ble_eq_true rfl), (Nat.le_of_ble_eq_true rfl)⟩) hD.1 rfl rfl rfl rfl hl.1 (Nat.le_of_ble_eq_true rfl) dL_isDateSo_258 ⟨Nat.zero_le _, Nat.zero_le _⟩ (fun z121 μ118 n119 H locs hz121 hp120 hH hS => ?_)
        obtain ⟨hz2, hm2, hn2⟩ := hp120
        have hz2 := hz2.trans (show a_day (311200 + yy) = q31 from (day_of (by omega)).trans hq31.symm)
        rw [hm2, hn2] at hH
        rw [hz2] at hz121
        rw [hz2]
        clear hz2 hm2 hn2
        refine j_if_lt (tgt := 268) hx hb dL_isDateSo_261 (by decide) (fun c122 => absurd c122 (by omega)) (fun c122 => ?_) (by omega)
        refine j_const hx hb dL_isDateSo_264 ?_
        refine lv_goto (tgt := 269) hx hb dL_isDateSo_265 (by decide) ?_
        subst hQ
        refine m_zret hx hb hr hlocks hH hS dL_isDateSo_269 ?_ (by omega)
        exact ⟨rfl, rfl, rfl⟩
    · skip
      refine lv_iload hx hb dL_isDateSo_103 (lv_at hl 0 rfl) ?_
      refine j_sipush hx hb dL_isDateSo_105 ?_ (by decide)
      refine j_idiv hx hb dL_isDateSo_108 ?_ (by omega) (by omega)
      refine j_const hx hb dL_isDateSo_109 ?_
      refine j_icmp_ne (tgt := 163) hx hb dL_isDateSo_110 (by decide) (fun c123 => absurd c123 (by omega)) (fun c123 => ?_) (by omega) (by omega)
      refine lv_iload_n hx hb dL_isDateSo_113 rfl (lv_at hl 5 rfl) ?_
      refine j_bipush hx hb dL_isDateSo_114 ?_ (by decide)
      refine j_icmp_lt (tgt := 163) hx hb dL_isDateSo_116 (by decide) (fun c124 => absurd c124 (by omega)) (fun c124 => ?_) (by omega) (by omega)
      refine lv_iload hx hb dL_isDateSo_119 (lv_at hl 0 rfl) ?_
      refine j_sipush hx hb dL_isDateSo_121 ?_ (by decide)
      refine j_irem hx hb dL_isDateSo_124 ?_ (by omega) (by omega)
      refine j_bipush hx hb dL_isDateSo_125 ?_ (by decide)
      refine lv_iload_n hx hb dL_isDateSo_127 rfl (lv_at hl 4 rfl) ?_
      refine j_const hx hb dL_isDateSo_128 ?_
      refine j_iadd hx hb dL_isDateSo_129 ?_
      refine j_imul hx hb dL_isDateSo_130 ?_
      refine lv_iload hx hb dL_isDateSo_131 (lv_at hl 3 rfl) ?_
      refine j_iadd hx hb dL_isDateSo_133 ?_
      refine j_icmp_eq (tgt := 159) hx hb dL_isDateSo_134 (by decide) (fun c125 => ?_) (fun c125 => ?_) (by omega) (by omega)
      · skip
        refine j_const hx hb dL_isDateSo_159 ?_
        refine lv_goto (tgt := 164) hx hb dL_isDateSo_160 (by decide) ?_
        refine lv_istore (lv' := [(8, .int (iv 1)), (7, .int (iv nx)), (6, .int (iv 1)), (5, .int (iv (10000 * dd + 100 * mo + yy))), (4, .int (iv yy)), (3, .int (iv mo)), (2, .int (iv dd)), (0, .ref x), (1, .int (iv k))]) hx hb dL_isDateSo_164 hl (by decide) rfl (fun ls hl => ?_)
        refine lv_iload hx hb dL_isDateSo_166 (lv_at hl 2 rfl) ?_
        refine j_if_eq (tgt := 180) hx hb dL_isDateSo_168 (by decide) (fun c126 => absurd c126 (by omega)) (fun c126 => ?_) (by omega)
        refine lv_iload hx hb dL_isDateSo_171 (lv_at hl 0 rfl) ?_
        refine j_if_eq (tgt := 180) hx hb dL_isDateSo_173 (by decide) (fun c127 => absurd c127 (by omega)) (fun c127 => ?_) (by omega)
        refine j_const hx hb dL_isDateSo_176 ?_
        refine lv_goto (tgt := 181) hx hb dL_isDateSo_177 (by decide) ?_
        refine lv_istore (lv' := [(6, .int (iv 1)), (8, .int (iv 1)), (7, .int (iv nx)), (5, .int (iv (10000 * dd + 100 * mo + yy))), (4, .int (iv yy)), (3, .int (iv mo)), (2, .int (iv dd)), (0, .ref x), (1, .int (iv k))]) hx hb dL_isDateSo_181 hl (by decide) rfl (fun ls hl => ?_)
        refine lv_iload hx hb dL_isDateSo_183 (lv_at hl 4 rfl) ?_
        refine j_const hx hb dL_isDateSo_185 ?_
        refine j_irem hx hb dL_isDateSo_186 ?_ (by omega) (by omega)
        refine j_if_ne (tgt := 194) hx hb dL_isDateSo_187 (by decide) (fun c128 => ?_) (fun c128 => ?_) (by omega)
        · skip
          refine j_const hx hb dL_isDateSo_194 ?_
          refine lv_istore (lv' := [(7, .int (iv 0)), (6, .int (iv 1)), (8, .int (iv 1)), (5, .int (iv (10000 * dd + 100 * mo + yy))), (4, .int (iv yy)), (3, .int (iv mo)), (2, .int (iv dd)), (0, .ref x), (1, .int (iv k))]) hx hb dL_isDateSo_195 hl (by decide) rfl (fun ls hl => ?_)
          refine lv_iload hx hb dL_isDateSo_197 (lv_at hl 1 rfl) ?_
          refine j_if_eq (tgt := 268) hx hb dL_isDateSo_199 (by decide) (fun c129 => absurd c129 (by omega)) (fun c129 => ?_) (by omega)
          refine lv_aload_n hx hb dL_isDateSo_202 rfl (lv_at hl 7 rfl) ?_
          refine j_ldc hx hb (290200) hown f_1 dL_isDateSo_203 ?_ (by decide)
          refine lv_iload hx hb dL_isDateSo_205 (lv_at hl 4 rfl) ?_
          refine j_iadd hx hb dL_isDateSo_207 ?_
          refine m_callVi (As := [.int (iv (290200 + yy))]) (rest := []) ⟨hx, hb, hml, hown, hts⟩ hK hH hS (c_X8_day l G μ n x rb u0 (290200 + yy) hD (by omega)) (cwV 1 hts gL_isDateSo_X8_day rfl rfl rfl (by decide +kernel) ⟨(Nat.le_of_ble_eq_true rfl), (Nat.le_of_ble_eq_true rfl)⟩) hD.1 rfl rfl rfl rfl hl.1 (Nat.le_of_ble_eq_true rfl) dL_isDateSo_208 ⟨Nat.zero_le _, Nat.zero_le _⟩ (fun z133 μ130 n131 H locs hz133 hp132 hH hS => ?_)
          obtain ⟨hz2, hm2, hn2⟩ := hp132
          have hz2 := hz2.trans (show a_day (290200 + yy) = q29 from (day_of (by omega)).trans hq29.symm)
          rw [hm2, hn2] at hH
          rw [hz2] at hz133
          rw [hz2]
          clear hz2 hm2 hn2
          refine j_if_lt (tgt := 218) hx hb dL_isDateSo_211 (by decide) (fun c134 => ?_) (fun c134 => absurd c134 (by omega)) (by omega)
          refine j_const hx hb dL_isDateSo_218 ?_
          refine lv_iload hx hb dL_isDateSo_219 (lv_at hl 0 rfl) ?_
          refine j_icmp_ne (tgt := 268) hx hb dL_isDateSo_221 (by decide) (fun c135 => absurd c135 (by omega)) (fun c135 => ?_) (by omega) (by omega)
          refine lv_aload_n hx hb dL_isDateSo_224 rfl (lv_at hl 7 rfl) ?_
          refine j_ldc hx hb (300200) hown f_2 dL_isDateSo_225 ?_ (by decide)
          refine lv_iload hx hb dL_isDateSo_227 (lv_at hl 4 rfl) ?_
          refine j_iadd hx hb dL_isDateSo_229 ?_
          refine m_callVi (As := [.int (iv (300200 + yy))]) (rest := []) ⟨hx, hb, hml, hown, hts⟩ hK hH hS (c_X8_day l G μ n x rb u0 (300200 + yy) hD (by omega)) (cwV 1 hts gL_isDateSo_X8_day rfl rfl rfl (by decide +kernel) ⟨(Nat.le_of_ble_eq_true rfl), (Nat.le_of_ble_eq_true rfl)⟩) hD.1 rfl rfl rfl rfl hl.1 (Nat.le_of_ble_eq_true rfl) dL_isDateSo_230 ⟨Nat.zero_le _, Nat.zero_le _⟩ (fun z139 μ136 n137 H locs hz139 hp138 hH hS => ?_)
          obtain ⟨hz2, hm2, hn2⟩ := hp138
          have hz2 := hz2.trans (show a_day (300200 + yy) = (-5) from (day_of (by omega)).trans h30)
          rw [hm2, hn2] at hH
          rw [hz2] at hz139
          rw [hz2]
          clear hz2 hm2 hn2
          refine j_bipush hx hb dL_isDateSo_233 ?_ (by decide)
          refine j_icmp_ne (tgt := 268) hx hb dL_isDateSo_235 (by decide) (fun c140 => absurd c140 (by omega)) (fun c140 => ?_) (by omega) (by omega)
          refine lv_aload_n hx hb dL_isDateSo_238 rfl (lv_at hl 7 rfl) ?_
          refine j_ldc hx hb (310400) hown f_3 dL_isDateSo_239 ?_ (by decide)
          refine lv_iload hx hb dL_isDateSo_241 (lv_at hl 4 rfl) ?_
          refine j_iadd hx hb dL_isDateSo_243 ?_
          refine m_callVi (As := [.int (iv (310400 + yy))]) (rest := []) ⟨hx, hb, hml, hown, hts⟩ hK hH hS (c_X8_day l G μ n x rb u0 (310400 + yy) hD (by omega)) (cwV 1 hts gL_isDateSo_X8_day rfl rfl rfl (by decide +kernel) ⟨(Nat.le_of_ble_eq_true rfl), (Nat.le_of_ble_eq_true rfl)⟩) hD.1 rfl rfl rfl rfl hl.1 (Nat.le_of_ble_eq_true rfl) dL_isDateSo_244 ⟨Nat.zero_le _, Nat.zero_le _⟩ (fun z144 μ141 n142 H locs hz144 hp143 hH hS => ?_)
          obtain ⟨hz2, hm2, hn2⟩ := hp143
          have hz2 := hz2.trans (show a_day (310400 + yy) = (-5) from (day_of (by omega)).trans h31)
          rw [hm2, hn2] at hH
          rw [hz2] at hz144
          rw [hz2]
          clear hz2 hm2 hn2
          refine j_bipush hx hb dL_isDateSo_247 ?_ (by decide)
          refine j_icmp_ne (tgt := 268) hx hb dL_isDateSo_249 (by decide) (fun c145 => absurd c145 (by omega)) (fun c145 => ?_) (by omega) (by omega)
          refine lv_aload_n hx hb dL_isDateSo_252 rfl (lv_at hl 7 rfl) ?_
          refine j_ldc hx hb (311200) hown f_4 dL_isDateSo_253 ?_ (by decide)
          refine lv_iload hx hb dL_isDateSo_255 (lv_at hl 4 rfl) ?_
          refine j_iadd hx hb dL_isDateSo_257 ?_
          refine m_callVi (As := [.int (iv (311200 + yy))]) (rest := []) ⟨hx, hb, hml, hown, hts⟩ hK hH hS (c_X8_day l G μ n x rb u0 (311200 + yy) hD (by omega)) (cwV 1 hts gL_isDateSo_X8_day rfl rfl rfl (by decide +kernel) ⟨(Nat.le_of_ble_eq_true rfl), (Nat.le_of_ble_eq_true rfl)⟩) hD.1 rfl rfl rfl rfl hl.1 (Nat.le_of_ble_eq_true rfl) dL_isDateSo_258 ⟨Nat.zero_le _, Nat.zero_le _⟩ (fun z149 μ146 n147 H locs hz149 hp148 hH hS => ?_)
          obtain ⟨hz2, hm2, hn2⟩ := hp148
          have hz2 := hz2.trans (show a_day (311200 + yy) = q31 from (day_of (by omega)).trans hq31.symm)
          rw [hm2, hn2] at hH
          rw [hz2] at hz149
          rw [hz2]
          clear hz2 hm2 hn2
          refine j_if_lt (tgt := 268) hx hb dL_isDateSo_261 (by decide) (fun c150 => absurd c150 (by omega)) (fun c150 => ?_) (by omega)
          refine j_const hx hb dL_isDateSo_264 ?_
          refine lv_goto (tgt := 269) hx hb dL_isDateSo_265 (by decide) ?_
          subst hQ
          refine m_zret hx hb hr hlocks hH hS dL_isDateSo_269 ?_ (by omega)
          exact ⟨rfl, rfl, rfl⟩
        · skip
          refine j_const hx hb dL_isDateSo_190 ?_
          refine lv_goto (tgt := 195) hx hb dL_isDateSo_191 (by decide) ?_
          refine lv_istore (lv' := [(7, .int (iv 1)), (6, .int (iv 1)), (8, .int (iv 1)), (5, .int (iv (10000 * dd + 100 * mo + yy))), (4, .int (iv yy)), (3, .int (iv mo)), (2, .int (iv dd)), (0, .ref x), (1, .int (iv k))]) hx hb dL_isDateSo_195 hl (by decide) rfl (fun ls hl => ?_)
          refine lv_iload hx hb dL_isDateSo_197 (lv_at hl 1 rfl) ?_
          refine j_if_eq (tgt := 268) hx hb dL_isDateSo_199 (by decide) (fun c151 => absurd c151 (by omega)) (fun c151 => ?_) (by omega)
          refine lv_aload_n hx hb dL_isDateSo_202 rfl (lv_at hl 7 rfl) ?_
          refine j_ldc hx hb (290200) hown f_1 dL_isDateSo_203 ?_ (by decide)
          refine lv_iload hx hb dL_isDateSo_205 (lv_at hl 4 rfl) ?_
          refine j_iadd hx hb dL_isDateSo_207 ?_
          refine m_callVi (As := [.int (iv (290200 + yy))]) (rest := []) ⟨hx, hb, hml, hown, hts⟩ hK hH hS (c_X8_day l G μ n x rb u0 (290200 + yy) hD (by omega)) (cwV 1 hts gL_isDateSo_X8_day rfl rfl rfl (by decide +kernel) ⟨(Nat.le_of_ble_eq_true rfl), (Nat.le_of_ble_eq_true rfl)⟩) hD.1 rfl rfl rfl rfl hl.1 (Nat.le_of_ble_eq_true rfl) dL_isDateSo_208 ⟨Nat.zero_le _, Nat.zero_le _⟩ (fun z155 μ152 n153 H locs hz155 hp154 hH hS => ?_)
          obtain ⟨hz2, hm2, hn2⟩ := hp154
          have hz2 := hz2.trans (show a_day (290200 + yy) = q29 from (day_of (by omega)).trans hq29.symm)
          rw [hm2, hn2] at hH
          rw [hz2] at hz155
          rw [hz2]
          clear hz2 hm2 hn2
          refine j_if_lt (tgt := 218) hx hb dL_isDateSo_211 (by decide) (fun c156 => absurd c156 (by omega)) (fun c156 => ?_) (by omega)
          refine j_const hx hb dL_isDateSo_214 ?_
          refine lv_goto (tgt := 219) hx hb dL_isDateSo_215 (by decide) ?_
          refine lv_iload hx hb dL_isDateSo_219 (lv_at hl 0 rfl) ?_
          refine j_icmp_ne (tgt := 268) hx hb dL_isDateSo_221 (by decide) (fun c157 => absurd c157 (by omega)) (fun c157 => ?_) (by omega) (by omega)
          refine lv_aload_n hx hb dL_isDateSo_224 rfl (lv_at hl 7 rfl) ?_
          refine j_ldc hx hb (300200) hown f_2 dL_isDateSo_225 ?_ (by decide)
          refine lv_iload hx hb dL_isDateSo_227 (lv_at hl 4 rfl) ?_
          refine j_iadd hx hb dL_isDateSo_229 ?_
          refine m_callVi (As := [.int (iv (300200 + yy))]) (rest := []) ⟨hx, hb, hml, hown, hts⟩ hK hH hS (c_X8_day l G μ n x rb u0 (300200 + yy) hD (by omega)) (cwV 1 hts gL_isDateSo_X8_day rfl rfl rfl (by decide +kernel) ⟨(Nat.le_of_ble_eq_true rfl), (Nat.le_of_ble_eq_true rfl)⟩) hD.1 rfl rfl rfl rfl hl.1 (Nat.le_of_ble_eq_true rfl) dL_isDateSo_230 ⟨Nat.zero_le _, Nat.zero_le _⟩ (fun z161 μ158 n159 H locs hz161 hp160 hH hS => ?_)
          obtain ⟨hz2, hm2, hn2⟩ := hp160
          have hz2 := hz2.trans (show a_day (300200 + yy) = (-5) from (day_of (by omega)).trans h30)
          rw [hm2, hn2] at hH
          rw [hz2] at hz161
          rw [hz2]
          clear hz2 hm2 hn2
          refine j_bipush hx hb dL_isDateSo_233 ?_ (by decide)
          refine j_icmp_ne (tgt := 268) hx hb dL_isDateSo_235 (by decide) (fun c162 => absurd c162 (by omega)) (fun c162 => ?_) (by omega) (by omega)
          refine lv_aload_n hx hb dL_isDateSo_238 rfl (lv_at hl 7 rfl) ?_
          refine j_ldc hx hb (310400) hown f_3 dL_isDateSo_239 ?_ (by decide)
          refine lv_iload hx hb dL_isDateSo_241 (lv_at hl 4 rfl) ?_
          refine j_iadd hx hb dL_isDateSo_243 ?_
          refine m_callVi (As := [.int (iv (310400 + yy))]) (rest := []) ⟨hx, hb, hml, hown, hts⟩ hK hH hS (c_X8_day l G μ n x rb u0 (310400 + yy) hD (by omega)) (cwV 1 hts gL_isDateSo_X8_day rfl rfl rfl (by decide +kernel) ⟨(Nat.le_of_ble_eq_true rfl), (Nat.le_of_ble_eq_true rfl)⟩) hD.1 rfl rfl rfl rfl hl.1 (Nat.le_of_ble_eq_true rfl) dL_isDateSo_244 ⟨Nat.zero_le _, Nat.zero_le _⟩ (fun z166 μ163 n164 H locs hz166 hp165 hH hS => ?_)
          obtain ⟨hz2, hm2, hn2⟩ := hp165
          have hz2 := hz2.trans (show a_day (310400 + yy) = (-5) from (day_of (by omega)).trans h31)
          rw [hm2, hn2] at hH
          rw [hz2] at hz166
          rw [hz2]
          clear hz2 hm2 hn2
          refine j_bipush hx hb dL_isDateSo_247 ?_ (by decide)
          refine j_icmp_ne (tgt := 268) hx hb dL_isDateSo_249 (by decide) (fun c167 => absurd c167 (by omega)) (fun c167 => ?_) (by omega) (by omega)
          refine lv_aload_n hx hb dL_isDateSo_252 rfl (lv_at hl 7 rfl) ?_
          refine j_ldc hx hb (311200) hown f_4 dL_isDateSo_253 ?_ (by decide)
          refine lv_iload hx hb dL_isDateSo_255 (lv_at hl 4 rfl) ?_
          refine j_iadd hx hb dL_isDateSo_257 ?_
          refine m_callVi (As := [.int (iv (311200 + yy))]) (rest := []) ⟨hx, hb, hml, hown, hts⟩ hK hH hS (c_X8_day l G μ n x rb u0 (311200 + yy) hD (by omega)) (cwV 1 hts gL_isDateSo_X8_day rfl rfl rfl (by decide +kernel) ⟨(Nat.le_of_ble_eq_true rfl), (Nat.le_of_ble_eq_true rfl)⟩) hD.1 rfl rfl rfl rfl hl.1 (Nat.le_of_ble_eq_true rfl) dL_isDateSo_258 ⟨Nat.zero_le _, Nat.zero_le _⟩ (fun z171 μ168 n169 H locs hz171 hp170 hH hS => ?_)
          obtain ⟨hz2, hm2, hn2⟩ := hp170
          have hz2 := hz2.trans (show a_day (311200 + yy) = q31 from (day_of (by omega)).trans hq31.symm)
          rw [hm2, hn2] at hH
          rw [hz2] at hz171
          rw [hz2]
          clear hz2 hm2 hn2
          refine j_if_lt (tgt := 268) hx hb dL_isDateSo_261 (by decide) (fun c172 => absurd c172 (by omega)) (fun c172 => ?_) (by omega)
          refine j_const hx hb dL_isDateSo_264 ?_
          refine lv_goto (tgt := 269) hx hb dL_isDateSo_265 (by decide) ?_
          subst hQ
          refine m_zret hx hb hr hlocks hH hS dL_isDateSo_269 ?_ (by omega)
          exact ⟨rfl, rfl, rfl⟩
      · skip
        refine lv_iload_n hx hb dL_isDateSo_137 rfl (lv_at hl 4 rfl) ?_
        refine j_bipush hx hb dL_isDateSo_138 ?_ (by decide)
        refine j_icmp_ne (tgt := 163) hx hb dL_isDateSo_140 (by decide) (fun c173 => absurd c173 (by omega)) (fun c173 => ?_) (by omega) (by omega)
        refine lv_iload hx hb dL_isDateSo_143 (lv_at hl 0 rfl) ?_
        refine j_sipush hx hb dL_isDateSo_145 ?_ (by decide)
        refine j_irem hx hb dL_isDateSo_148 ?_ (by omega) (by omega)
        refine j_bipush hx hb dL_isDateSo_149 ?_ (by decide)
        refine lv_iload hx hb dL_isDateSo_151 (lv_at hl 3 rfl) ?_
        refine j_iadd hx hb dL_isDateSo_153 ?_
        refine j_const hx hb dL_isDateSo_154 ?_
        refine j_iadd hx hb dL_isDateSo_155 ?_
        refine j_icmp_ne (tgt := 163) hx hb dL_isDateSo_156 (by decide) (fun c174 => absurd c174 (by omega)) (fun c174 => ?_) (by omega) (by omega)
        refine j_const hx hb dL_isDateSo_159 ?_
        refine lv_goto (tgt := 164) hx hb dL_isDateSo_160 (by decide) ?_
        refine lv_istore (lv' := [(8, .int (iv 1)), (7, .int (iv nx)), (6, .int (iv 1)), (5, .int (iv (10000 * dd + 100 * mo + yy))), (4, .int (iv yy)), (3, .int (iv mo)), (2, .int (iv dd)), (0, .ref x), (1, .int (iv k))]) hx hb dL_isDateSo_164 hl (by decide) rfl (fun ls hl => ?_)
        refine lv_iload hx hb dL_isDateSo_166 (lv_at hl 2 rfl) ?_
        refine j_if_eq (tgt := 180) hx hb dL_isDateSo_168 (by decide) (fun c175 => absurd c175 (by omega)) (fun c175 => ?_) (by omega)
        refine lv_iload hx hb dL_isDateSo_171 (lv_at hl 0 rfl) ?_
        refine j_if_eq (tgt := 180) hx hb dL_isDateSo_173 (by decide) (fun c176 => absurd c176 (by omega)) (fun c176 => ?_) (by omega)
        refine j_const hx hb dL_isDateSo_176 ?_
        refine lv_goto (tgt := 181) hx hb dL_isDateSo_177 (by decide) ?_
        refine lv_istore (lv' := [(6, .int (iv 1)), (8, .int (iv 1)), (7, .int (iv nx)), (5, .int (iv (10000 * dd + 100 * mo + yy))), (4, .int (iv yy)), (3, .int (iv mo)), (2, .int (iv dd)), (0, .ref x), (1, .int (iv k))]) hx hb dL_isDateSo_181 hl (by decide) rfl (fun ls hl => ?_)
        refine lv_iload hx hb dL_isDateSo_183 (lv_at hl 4 rfl) ?_
        refine j_const hx hb dL_isDateSo_185 ?_
        refine j_irem hx hb dL_isDateSo_186 ?_ (by omega) (by omega)
        refine j_if_ne (tgt := 194) hx hb dL_isDateSo_187 (by decide) (fun c177 => ?_) (fun c177 => ?_) (by omega)
        · skip
          refine j_const hx hb dL_isDateSo_194 ?_
          refine lv_istore (lv' := [(7, .int (iv 0)), (6, .int (iv 1)), (8, .int (iv 1)), (5, .int (iv (10000 * dd + 100 * mo + yy))), (4, .int (iv yy)), (3, .int (iv mo)), (2, .int (iv dd)), (0, .ref x), (1, .int (iv k))]) hx hb dL_isDateSo_195 hl (by decide) rfl (fun ls hl => ?_)
          refine lv_iload hx hb dL_isDateSo_197 (lv_at hl 1 rfl) ?_
          refine j_if_eq (tgt := 268) hx hb dL_isDateSo_199 (by decide) (fun c178 => absurd c178 (by omega)) (fun c178 => ?_) (by omega)
          refine lv_aload_n hx hb dL_isDateSo_202 rfl (lv_at hl 7 rfl) ?_
          refine j_ldc hx hb (290200) hown f_1 dL_isDateSo_203 ?_ (by decide)
          refine lv_iload hx hb dL_isDateSo_205 (lv_at hl 4 rfl) ?_
          refine j_iadd hx hb dL_isDateSo_207 ?_
          refine m_callVi (As := [.int (iv (290200 + yy))]) (rest := []) ⟨hx, hb, hml, hown, hts⟩ hK hH hS (c_X8_day l G μ n x rb u0 (290200 + yy) hD (by omega)) (cwV 1 hts gL_isDateSo_X8_day rfl rfl rfl (by decide +kernel) ⟨(Nat.le_of_ble_eq_true rfl), (Nat.le_of_ble_eq_true rfl)⟩) hD.1 rfl rfl rfl rfl hl.1 (Nat.le_of_ble_eq_true rfl) dL_isDateSo_208 ⟨Nat.zero_le _, Nat.zero_le _⟩ (fun z182 μ179 n180 H locs hz182 hp181 hH hS => ?_)
          obtain ⟨hz2, hm2, hn2⟩ := hp181
          have hz2 := hz2.trans (show a_day (290200 + yy) = q29 from (day_of (by omega)).trans hq29.symm)
          rw [hm2, hn2] at hH
          rw [hz2] at hz182
          rw [hz2]
          clear hz2 hm2 hn2
          refine j_if_lt (tgt := 218) hx hb dL_isDateSo_211 (by decide) (fun c183 => ?_) (fun c183 => absurd c183 (by omega)) (by omega)
          refine j_const hx hb dL_isDateSo_218 ?_
          refine lv_iload hx hb dL_isDateSo_219 (lv_at hl 0 rfl) ?_
          refine j_icmp_ne (tgt := 268) hx hb dL_isDateSo_221 (by decide) (fun c184 => absurd c184 (by omega)) (fun c184 => ?_) (by omega) (by omega)
          refine lv_aload_n hx hb dL_isDateSo_224 rfl (lv_at hl 7 rfl) ?_
          refine j_ldc hx hb (300200) hown f_2 dL_isDateSo_225 ?_ (by decide)
          refine lv_iload hx hb dL_isDateSo_227 (lv_at hl 4 rfl) ?_
          refine j_iadd hx hb dL_isDateSo_229 ?_
          refine m_callVi (As := [.int (iv (300200 + yy))]) (rest := []) ⟨hx, hb, hml, hown, hts⟩ hK hH hS (c_X8_day l G μ n x rb u0 (300200 + yy) hD (by omega)) (cwV 1 hts gL_isDateSo_X8_day rfl rfl rfl (by decide +kernel) ⟨(Nat.le_of_ble_eq_true rfl), (Nat.le_of_ble_eq_true rfl)⟩) hD.1 rfl rfl rfl rfl hl.1 (Nat.le_of_ble_eq_true rfl) dL_isDateSo_230 ⟨Nat.zero_le _, Nat.zero_le _⟩ (fun z188 μ185 n186 H locs hz188 hp187 hH hS => ?_)
          obtain ⟨hz2, hm2, hn2⟩ := hp187
          have hz2 := hz2.trans (show a_day (300200 + yy) = (-5) from (day_of (by omega)).trans h30)
          rw [hm2, hn2] at hH
          rw [hz2] at hz188
          rw [hz2]
          clear hz2 hm2 hn2
          refine j_bipush hx hb dL_isDateSo_233 ?_ (by decide)
          refine j_icmp_ne (tgt := 268) hx hb dL_isDateSo_235 (by decide) (fun c189 => absurd c189 (by omega)) (fun c189 => ?_) (by omega) (by omega)
          refine lv_aload_n hx hb dL_isDateSo_238 rfl (lv_at hl 7 rfl) ?_
          refine j_ldc hx hb (310400) hown f_3 dL_isDateSo_239 ?_ (by decide)
          refine lv_iload hx hb dL_isDateSo_241 (lv_at hl 4 rfl) ?_
          refine j_iadd hx hb dL_isDateSo_243 ?_
          refine m_callVi (As := [.int (iv (310400 + yy))]) (rest := []) ⟨hx, hb, hml, hown, hts⟩ hK hH hS (c_X8_day l G μ n x rb u0 (310400 + yy) hD (by omega)) (cwV 1 hts gL_isDateSo_X8_day rfl rfl rfl (by decide +kernel) ⟨(Nat.le_of_ble_eq_true rfl), (Nat.le_of_ble_eq_true rfl)⟩) hD.1 rfl rfl rfl rfl hl.1 (Nat.le_of_ble_eq_true rfl) dL_isDateSo_244 ⟨Nat.zero_le _, Nat.zero_le _⟩ (fun z193 μ190 n191 H locs hz193 hp192 hH hS => ?_)
          obtain ⟨hz2, hm2, hn2⟩ := hp192
          have hz2 := hz2.trans (show a_day (310400 + yy) = (-5) from (day_of (by omega)).trans h31)
          rw [hm2, hn2] at hH
          rw [hz2] at hz193
          rw [hz2]
          clear hz2 hm2 hn2
          refine j_bipush hx hb dL_isDateSo_247 ?_ (by decide)
          refine j_icmp_ne (tgt := 268) hx hb dL_isDateSo_249 (by decide) (fun c194 => absurd c194 (by omega)) (fun c194 => ?_) (by omega) (by omega)
          refine lv_aload_n hx hb dL_isDateSo_252 rfl (lv_at hl 7 rfl) ?_
          refine j_ldc hx hb (311200) hown f_4 dL_isDateSo_253 ?_ (by decide)
          refine lv_iload hx hb dL_isDateSo_255 (lv_at hl 4 rfl) ?_
          refine j_iadd hx hb dL_isDateSo_257 ?_
          refine m_callVi (As := [.int (iv (311200 + yy))]) (rest := []) ⟨hx, hb, hml, hown, hts⟩ hK hH hS (c_X8_day l G μ n x rb u0 (311200 + yy) hD (by omega)) (cwV 1 hts gL_isDateSo_X8_day rfl rfl rfl (by decide +kernel) ⟨(Nat.le_of_ble_eq_true rfl), (Nat.le_of_ble_eq_true rfl)⟩) hD.1 rfl rfl rfl rfl hl.1 (Nat.le_of_ble_eq_true rfl) dL_isDateSo_258 ⟨Nat.zero_le _, Nat.zero_le _⟩ (fun z198 μ195 n196 H locs hz198 hp197 hH hS => ?_)
          obtain ⟨hz2, hm2, hn2⟩ := hp197
          have hz2 := hz2.trans (show a_day (311200 + yy) = q31 from (day_of (by omega)).trans hq31.symm)
          rw [hm2, hn2] at hH
          rw [hz2] at hz198
          rw [hz2]
          clear hz2 hm2 hn2
          refine j_if_lt (tgt := 268) hx hb dL_isDateSo_261 (by decide) (fun c199 => absurd c199 (by omega)) (fun c199 => ?_) (by omega)
          refine j_const hx hb dL_isDateSo_264 ?_
          refine lv_goto (tgt := 269) hx hb dL_isDateSo_265 (by decide) ?_
          subst hQ
          refine m_zret hx hb hr hlocks hH hS dL_isDateSo_269 ?_ (by omega)
          exact ⟨rfl, rfl, rfl⟩
        · skip
          refine j_const hx hb dL_isDateSo_190 ?_
          refine lv_goto (tgt := 195) hx hb dL_isDateSo_191 (by decide) ?_
          refine lv_istore (lv' := [(7, .int (iv 1)), (6, .int (iv 1)), (8, .int (iv 1)), (5, .int (iv (10000 * dd + 100 * mo + yy))), (4, .int (iv yy)), (3, .int (iv mo)), (2, .int (iv dd)), (0, .ref x), (1, .int (iv k))]) hx hb dL_isDateSo_195 hl (by decide) rfl (fun ls hl => ?_)
          refine lv_iload hx hb dL_isDateSo_197 (lv_at hl 1 rfl) ?_
          refine j_if_eq (tgt := 268) hx hb dL_isDateSo_199 (by decide) (fun c200 => absurd c200 (by omega)) (fun c200 => ?_) (by omega)
          refine lv_aload_n hx hb dL_isDateSo_202 rfl (lv_at hl 7 rfl) ?_
          refine j_ldc hx hb (290200) hown f_1 dL_isDateSo_203 ?_ (by decide)
          refine lv_iload hx hb dL_isDateSo_205 (lv_at hl 4 rfl) ?_
          refine j_iadd hx hb dL_isDateSo_207 ?_
          refine m_callVi (As := [.int (iv (290200 + yy))]) (rest := []) ⟨hx, hb, hml, hown, hts⟩ hK hH hS (c_X8_day l G μ n x rb u0 (290200 + yy) hD (by omega)) (cwV 1 hts gL_isDateSo_X8_day rfl rfl rfl (by decide +kernel) ⟨(Nat.le_of_ble_eq_true rfl), (Nat.le_of_ble_eq_true rfl)⟩) hD.1 rfl rfl rfl rfl hl.1 (Nat.le_of_ble_eq_true rfl) dL_isDateSo_208 ⟨Nat.zero_le _, Nat.zero_le _⟩ (fun z204 μ201 n202 H locs hz204 hp203 hH hS => ?_)
          obtain ⟨hz2, hm2, hn2⟩ := hp203
          have hz2 := hz2.trans (show a_day (290200 + yy) = q29 from (day_of (by omega)).trans hq29.symm)
          rw [hm2, hn2] at hH
          rw [hz2] at hz204
          rw [hz2]
          clear hz2 hm2 hn2
          refine j_if_lt (tgt := 218) hx hb dL_isDateSo_211 (by decide) (fun c205 => absurd c205 (by omega)) (fun c205 => ?_) (by omega)
          refine j_const hx hb dL_isDateSo_214 ?_
          refine lv_goto (tgt := 219) hx hb dL_isDateSo_215 (by decide) ?_
          refine lv_iload hx hb dL_isDateSo_219 (lv_at hl 0 rfl) ?_
          refine j_icmp_ne (tgt := 268) hx hb dL_isDateSo_221 (by decide) (fun c206 => absurd c206 (by omega)) (fun c206 => ?_) (by omega) (by omega)
          refine lv_aload_n hx hb dL_isDateSo_224 rfl (lv_at hl 7 rfl) ?_
          refine j_ldc hx hb (300200) hown f_2 dL_isDateSo_225 ?_ (by decide)
          refine lv_iload hx hb dL_isDateSo_227 (lv_at hl 4 rfl) ?_
          refine j_iadd hx hb dL_isDateSo_229 ?_
          refine m_callVi (As := [.int (iv (300200 + yy))]) (rest := []) ⟨hx, hb, hml, hown, hts⟩ hK hH hS (c_X8_day l G μ n x rb u0 (300200 + yy) hD (by omega)) (cwV 1 hts gL_isDateSo_X8_day rfl rfl rfl (by decide +kernel) ⟨(Nat.le_of_ble_eq_true rfl), (Nat.le_of_ble_eq_true rfl)⟩) hD.1 rfl rfl rfl rfl hl.1 (Nat.le_of_ble_eq_true rfl) dL_isDateSo_230 ⟨Nat.zero_le _, Nat.zero_le _⟩ (fun z210 μ207 n208 H locs hz210 hp209 hH hS => ?_)
          obtain ⟨hz2, hm2, hn2⟩ := hp209
          have hz2 := hz2.trans (show a_day (300200 + yy) = (-5) from (day_of (by omega)).trans h30)
          rw [hm2, hn2] at hH
          rw [hz2] at hz210
          rw [hz2]
          clear hz2 hm2 hn2
          refine j_bipush hx hb dL_isDateSo_233 ?_ (by decide)
          refine j_icmp_ne (tgt := 268) hx hb dL_isDateSo_235 (by decide) (fun c211 => absurd c211 (by omega)) (fun c211 => ?_) (by omega) (by omega)
          refine lv_aload_n hx hb dL_isDateSo_238 rfl (lv_at hl 7 rfl) ?_
          refine j_ldc hx hb (310400) hown f_3 dL_isDateSo_239 ?_ (by decide)
          refine lv_iload hx hb dL_isDateSo_241 (lv_at hl 4 rfl) ?_
          refine j_iadd hx hb dL_isDateSo_243 ?_
          refine m_callVi (As := [.int (iv (310400 + yy))]) (rest := []) ⟨hx, hb, hml, hown, hts⟩ hK hH hS (c_X8_day l G μ n x rb u0 (310400 + yy) hD (by omega)) (cwV 1 hts gL_isDateSo_X8_day rfl rfl rfl (by decide +kernel) ⟨(Nat.le_of_ble_eq_true rfl), (Nat.le_of_ble_eq_true rfl)⟩) hD.1 rfl rfl rfl rfl hl.1 (Nat.le_of_ble_eq_true rfl) dL_isDateSo_244 ⟨Nat.zero_le _, Nat.zero_le _⟩ (fun z215 μ212 n213 H locs hz215 hp214 hH hS => ?_)
          obtain ⟨hz2, hm2, hn2⟩ := hp214
          have hz2 := hz2.trans (show a_day (310400 + yy) = (-5) from (day_of (by omega)).trans h31)
          rw [hm2, hn2] at hH
          rw [hz2] at hz215
          rw [hz2]
          clear hz2 hm2 hn2
          refine j_bipush hx hb dL_isDateSo_247 ?_ (by decide)
          refine j_icmp_ne (tgt := 268) hx hb dL_isDateSo_249 (by decide) (fun c216 => absurd c216 (by omega)) (fun c216 => ?_) (by omega) (by omega)
          refine lv_aload_n hx hb dL_isDateSo_252 rfl (lv_at hl 7 rfl) ?_
          refine j_ldc hx hb (311200) hown f_4 dL_isDateSo_253 ?_ (by decide)
          refine lv_iload hx hb dL_isDateSo_255 (lv_at hl 4 rfl) ?_
          refine j_iadd hx hb dL_isDateSo_257 ?_
          refine m_callVi (As := [.int (iv (311200 + yy))]) (rest := []) ⟨hx, hb, hml, hown, hts⟩ hK hH hS (c_X8_day l G μ n x rb u0 (311200 + yy) hD (by omega)) (cwV 1 hts gL_isDateSo_X8_day rfl rfl rfl (by decide +kernel) ⟨(Nat.le_of_ble_eq_true rfl), (Nat.le_of_ble_eq_true rfl)⟩) hD.1 rfl rfl rfl rfl hl.1 (Nat.le_of_ble_eq_true rfl) dL_isDateSo_258 ⟨Nat.zero_le _, Nat.zero_le _⟩ (fun z220 μ217 n218 H locs hz220 hp219 hH hS => ?_)
          obtain ⟨hz2, hm2, hn2⟩ := hp219
          have hz2 := hz2.trans (show a_day (311200 + yy) = q31 from (day_of (by omega)).trans hq31.symm)
          rw [hm2, hn2] at hH
          rw [hz2] at hz220
          rw [hz2]
          clear hz2 hm2 hn2
          refine j_if_lt (tgt := 268) hx hb dL_isDateSo_261 (by decide) (fun c221 => absurd c221 (by omega)) (fun c221 => ?_) (by omega)
          refine j_const hx hb dL_isDateSo_264 ?_
          refine lv_goto (tgt := 269) hx hb dL_isDateSo_265 (by decide) ?_
          subst hQ
          refine m_zret hx hb hr hlocks hH hS dL_isDateSo_269 ?_ (by omega)
          exact ⟨rfl, rfl, rfl⟩
