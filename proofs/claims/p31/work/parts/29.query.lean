abbrev rm_c_X8_date : Room := { frames := 3, cells := 0, slots := 0, locals := 64 }
set_option maxHeartbeats 4000000 in
set_option maxRecDepth 100000 in
theorem c_X8_date (l : Launch) (G : wG) (μ : hM) (n : Nat) (x rb : Nat) (u0 : aS) (k wa : Int) (hD : IsD G μ x rb u0) (hk1 : -2147483648 ≤ k ∧ k ≤ 2147483647) (hwa1 : -2147483648 ≤ wa ∧ wa ≤ 2147483647) : Met l yX8_date wsX8_date rm_c_X8_date (mPc G μ n [.ref x, .int (iv k), .int (iv wa)]) (mQi G (fun z μ1 n1 => z = a_date k wa ∧ μ1 = μ ∧ n1 = n)) 0 0 (gA G) := by
  refine Met.ofW (cc := cX8_date) (maxL := 4) (ret := (some .int)) (by decide) rfl ?_
  intro p e s m args below meth c s₁ B hml hv
  obtain ⟨hav, hK, hH⟩ := hv
  have hx := B.exec
  have hb := B.bytes
  have hr := B.returns
  have hts := atoms_spec (ws := wsX8_date) B.pre
  have hown : s.vm.findClass RX8 = some m.cls := findClass_of_methodNamed B.named
  have hlocks := B.notSynchronized
  have hS : va_S (gA G) s.heap s.heap [] := va_S.rf
  have hl := lv_entry ([.ref x, .int (iv k), .int (iv wa)]) (n := 4) (Nat.le_of_ble_eq_true rfl)
  have hfr : entryFrame m args 4 = entryFrame m ([.ref x, .int (iv k), .int (iv wa)] : List Value).toArray 4 := by rw [hav]
  rw [hfr, lg_entry_eq]
  generalize (lg_sl ([.ref x, .int (iv k), .int (iv wa)]) ++ List.replicate (4 - (lg_sl ([.ref x, .int (iv k), .int (iv wa)])).length) Slot.unset).toArray = ls at hl ⊢
  have hl : lv_has ls 4 [(0, .ref x), (1, .int (iv k)), (2, .int (iv wa))] := hl
  generalize hQ : MQ below _ args s 0 0 (gA G) = Q
  show W p l e rm_c_X8_date s m args below meth c s.heap [] 0 0 Q (F0 m 0 ls [])
  obtain ⟨H, hHe⟩ : ∃ H, H = s.heap := ⟨_, rfl⟩
  obtain ⟨locs, hlo⟩ : ∃ q : List Loc, q = [] := ⟨_, rfl⟩
  have hH : gP G μ n H := by rw [hHe]; exact hH
  have hS : va_S (gA G) s.heap H locs := by rw [hHe, hlo]; exact hS
  suffices hgo : W p l e rm_c_X8_date s m args below meth c H locs 0 0 Q (F0 m 0 ls []) by rw [hHe, hlo] at hgo; exact hgo
  clear hHe hlo hfr hav
  have hfr : DFr x μ μ := DFr.rf
  have hD9 := hD
  obtain ⟨hX, ⟨π, fp, sp, rd, hZ, hC, hT, hch⟩, ⟨ρ, πs, fps, sps, rds, hL, hLs⟩, ⟨πk, fpk, spk, rdk, hY, hCk, hTk, hchk⟩, ⟨to, td, tk, tn, tt, ta, hTX⟩, ⟨πr, τr, fpr, spr, hI2, hOk2⟩, hsz, hkt, hOC, hrb, hlast⟩ := hD9
  have h3 := hT.2.1
  have h5 := hT.2.2.1
  have hS0 := hT.1
  have h4 := hS0.2.2.2.1
  refine lv_iload_n hx hb dX8_date_0 rfl (lv_at hl 1 rfl) ?_
  refine m_callSi (As := [.int (iv k)]) (rest := []) ⟨hx, hb, hml, hown, hts⟩ hK hH hS (c_X1_isDay l G μ n k (by omega)) (va_cwS 1 hts gX8_date_X1_isDay rfl rfl rfl (by decide +kernel) ⟨(Nat.le_of_ble_eq_true rfl), (Nat.le_of_ble_eq_true rfl)⟩) rfl rfl hl.1 (Nat.le_of_ble_eq_true rfl) dX8_date_1 ⟨Nat.zero_le _, Nat.zero_le _⟩ (fun z4 μ1 n2 H locs hz4 hp3 hH hS => ?_)
  obtain ⟨hz9, hm9, hn9⟩ := hp3
  rw [hm9, hn9] at hH
  have hz4c : (z4 = 1 ∧ (0 ≤ k ∧ k ≤ 36524)) ∨ (z4 = 0 ∧ ¬ (0 ≤ k ∧ k ≤ 36524)) := by
    by_cases q9 : 0 ≤ k ∧ k ≤ 36524
    · rw [if_pos q9] at hz9; exact Or.inl ⟨hz9, q9⟩
    · rw [if_neg q9] at hz9; exact Or.inr ⟨hz9, q9⟩
  clear hz9 hm9 hn9
  refine j_if_ne (tgt := 9) hx hb dX8_date_4 (by decide) (fun c5 => ?_) (fun c5 => ?_) (by omega)
  · skip
    refine lv_iload_n hx hb dX8_date_9 rfl (lv_at hl 1 rfl) ?_
    have hdr := dig_rng (day := k) (by omega)
    refine m_callSi (As := [.int (iv k)]) (rest := []) ⟨hx, hb, hml, hown, hts⟩ hK hH hS (c_X1_digitsOf l G μ n k (by omega)) (va_cwS 1 hts gX8_date_X1_digitsOf rfl rfl rfl (by decide +kernel) ⟨(Nat.le_of_ble_eq_true rfl), (Nat.le_of_ble_eq_true rfl)⟩) rfl rfl hl.1 (Nat.le_of_ble_eq_true rfl) dX8_date_10 ⟨Nat.zero_le _, Nat.zero_le _⟩ (fun z9 μ6 n7 H locs hz9 hp8 hH hS => ?_)
    obtain ⟨hz2, hm2, hn2⟩ := hp8; rw [hz2]; rw [hm2, hn2] at hH; clear hz2 hm2 hn2
    refine lv_istore_n (lv' := [(3, .int (iv (dig k))), (0, .ref x), (1, .int (iv k)), (2, .int (iv wa))]) hx hb dX8_date_13 rfl hl (by decide) rfl (fun ls hl => ?_)
    refine lv_iload_n hx hb dX8_date_14 rfl (lv_at hl 3 rfl) ?_
    by_cases k10_0 : wa = 0
    · skip
      refine j_table hx hb (tgt := 44) (0) k10_0 dX8_date_15 ?_
      refine lv_iload_n hx hb dX8_date_44 rfl (lv_at hl 0 rfl) ?_
      refine m_callSi (As := [.int (iv (dig k))]) (rest := []) ⟨hx, hb, hml, hown, hts⟩ hK hH hS (c_X1_dayOfMonth l G μ n (dig k) (by omega)) (va_cwS 1 hts gX8_date_X1_dayOfMonth rfl rfl rfl (by decide +kernel) ⟨(Nat.le_of_ble_eq_true rfl), (Nat.le_of_ble_eq_true rfl)⟩) rfl rfl hl.1 (Nat.le_of_ble_eq_true rfl) dX8_date_45 ⟨Nat.zero_le _, Nat.zero_le _⟩ (fun z14 μ11 n12 H locs hz14 hp13 hH hS => ?_)
      obtain ⟨hz2, hm2, hn2⟩ := hp13; rw [hz2]; rw [hm2, hn2] at hH; clear hz2 hm2 hn2
      subst hQ
      refine m_iret hx hb hr hlocks hH hS dX8_date_48 ?_ (by omega)
      refine ⟨?_, rfl, rfl⟩
      unfold a_date
      rw [if_pos (by omega), if_pos (by omega)]
    by_cases k10_1 : wa = 1
    · skip
      refine j_table hx hb (tgt := 49) (1) k10_1 dX8_date_15 ?_
      refine lv_iload_n hx hb dX8_date_49 rfl (lv_at hl 0 rfl) ?_
      refine m_callSi (As := [.int (iv (dig k))]) (rest := []) ⟨hx, hb, hml, hown, hts⟩ hK hH hS (c_X1_month l G μ n (dig k) (by omega)) (va_cwS 1 hts gX8_date_X1_month rfl rfl rfl (by decide +kernel) ⟨(Nat.le_of_ble_eq_true rfl), (Nat.le_of_ble_eq_true rfl)⟩) rfl rfl hl.1 (Nat.le_of_ble_eq_true rfl) dX8_date_50 ⟨Nat.zero_le _, Nat.zero_le _⟩ (fun z18 μ15 n16 H locs hz18 hp17 hH hS => ?_)
      obtain ⟨hz2, hm2, hn2⟩ := hp17; rw [hz2]; rw [hm2, hn2] at hH; clear hz2 hm2 hn2
      subst hQ
      refine m_iret hx hb hr hlocks hH hS dX8_date_53 ?_ (by omega)
      refine ⟨?_, rfl, rfl⟩
      unfold a_date
      rw [if_pos (by omega), if_neg (by omega), if_pos (by omega)]
    by_cases k10_2 : wa = 2
    · skip
      refine j_table hx hb (tgt := 54) (2) k10_2 dX8_date_15 ?_
      refine lv_iload_n hx hb dX8_date_54 rfl (lv_at hl 0 rfl) ?_
      refine m_callSi (As := [.int (iv (dig k))]) (rest := []) ⟨hx, hb, hml, hown, hts⟩ hK hH hS (c_X1_year l G μ n (dig k) (by omega)) (va_cwS 1 hts gX8_date_X1_year rfl rfl rfl (by decide +kernel) ⟨(Nat.le_of_ble_eq_true rfl), (Nat.le_of_ble_eq_true rfl)⟩) rfl rfl hl.1 (Nat.le_of_ble_eq_true rfl) dX8_date_55 ⟨Nat.zero_le _, Nat.zero_le _⟩ (fun z22 μ19 n20 H locs hz22 hp21 hH hS => ?_)
      obtain ⟨hz2, hm2, hn2⟩ := hp21; rw [hz2]; rw [hm2, hn2] at hH; clear hz2 hm2 hn2
      subst hQ
      refine m_iret hx hb hr hlocks hH hS dX8_date_58 ?_ (by omega)
      refine ⟨?_, rfl, rfl⟩
      unfold a_date
      rw [if_pos (by omega), if_neg (by omega), if_neg (by omega), if_pos (by omega)]
    by_cases k10_3 : wa = 3
    · skip
      refine j_table hx hb (tgt := 59) (3) k10_3 dX8_date_15 ?_
      refine lv_iload_n hx hb dX8_date_59 rfl (lv_at hl 0 rfl) ?_
      subst hQ
      refine m_iret hx hb hr hlocks hH hS dX8_date_60 ?_ (by omega)
      refine ⟨?_, rfl, rfl⟩
      unfold a_date
      rw [if_pos (by omega), if_neg (by omega), if_neg (by omega), if_neg (by omega), if_pos (by omega)]
    refine j_tableO (tgt := 61) hx hb dX8_date_15 (by omega) ?_ (by decide) (by omega)
    refine j_bipush hx hb dX8_date_61 ?_ (by decide)
    subst hQ
    refine m_iret hx hb hr hlocks hH hS dX8_date_63 ?_ (by omega)
    refine ⟨?_, rfl, rfl⟩
    unfold a_date
    rw [if_pos (by omega), if_neg (by omega), if_neg (by omega), if_neg (by omega), if_neg (by omega)]
  · skip
    refine j_const hx hb dX8_date_7 ?_
    subst hQ
    refine m_iret hx hb hr hlocks hH hS dX8_date_8 ?_ (by omega)
    refine ⟨?_, rfl, rfl⟩
    unfold a_date
    rw [if_neg (by omega)]

abbrev rm_c_X8_day : Room := { frames := 3, cells := 0, slots := 0, locals := 66 }
set_option maxHeartbeats 4000000 in
set_option maxRecDepth 100000 in
theorem c_X8_day (l : Launch) (G : wG) (μ : hM) (n : Nat) (x rb : Nat) (u0 : aS) (k : Int) (hD : IsD G μ x rb u0) (hk1 : -2147483648 ≤ k ∧ k ≤ 2147483647) : Met l yX8_day wsX8_day rm_c_X8_day (mPc G μ n [.ref x, .int (iv k)]) (mQi G (fun z μ1 n1 => z = a_day k ∧ μ1 = μ ∧ n1 = n)) 0 0 (gA G) := by
  refine Met.ofW (cc := cX8_day) (maxL := 2) (ret := (some .int)) (by decide) rfl ?_
  intro p e s m args below meth c s₁ B hml hv
  obtain ⟨hav, hK, hH⟩ := hv
  have hx := B.exec
  have hb := B.bytes
  have hr := B.returns
  have hts := atoms_spec (ws := wsX8_day) B.pre
  have hown : s.vm.findClass RX8 = some m.cls := findClass_of_methodNamed B.named
  have hlocks := B.notSynchronized
  have hS : va_S (gA G) s.heap s.heap [] := va_S.rf
  have hl := lv_entry ([.ref x, .int (iv k)]) (n := 2) (Nat.le_of_ble_eq_true rfl)
  have hfr : entryFrame m args 2 = entryFrame m ([.ref x, .int (iv k)] : List Value).toArray 2 := by rw [hav]
  rw [hfr, lg_entry_eq]
  generalize (lg_sl ([.ref x, .int (iv k)]) ++ List.replicate (2 - (lg_sl ([.ref x, .int (iv k)])).length) Slot.unset).toArray = ls at hl ⊢
  have hl : lv_has ls 2 [(0, .ref x), (1, .int (iv k))] := hl
  generalize hQ : MQ below _ args s 0 0 (gA G) = Q
  show W p l e rm_c_X8_day s m args below meth c s.heap [] 0 0 Q (F0 m 0 ls [])
  obtain ⟨H, hHe⟩ : ∃ H, H = s.heap := ⟨_, rfl⟩
  obtain ⟨locs, hlo⟩ : ∃ q : List Loc, q = [] := ⟨_, rfl⟩
  have hH : gP G μ n H := by rw [hHe]; exact hH
  have hS : va_S (gA G) s.heap H locs := by rw [hHe, hlo]; exact hS
  suffices hgo : W p l e rm_c_X8_day s m args below meth c H locs 0 0 Q (F0 m 0 ls []) by rw [hHe, hlo] at hgo; exact hgo
  clear hHe hlo hfr hav
  have f_0 := hts (.constant RX8 186 (999999)) (List.mem_of_getElem? (i := 1) rfl)
  have hfr : DFr x μ μ := DFr.rf
  have hD9 := hD
  obtain ⟨hX, ⟨π, fp, sp, rd, hZ, hC, hT, hch⟩, ⟨ρ, πs, fps, sps, rds, hL, hLs⟩, ⟨πk, fpk, spk, rdk, hY, hCk, hTk, hchk⟩, ⟨to, td, tk, tn, tt, ta, hTX⟩, ⟨πr, τr, fpr, spr, hI2, hOk2⟩, hsz, hkt, hOC, hrb, hlast⟩ := hD9
  have h3 := hT.2.1
  have h5 := hT.2.2.1
  have hS0 := hT.1
  have h4 := hS0.2.2.2.1
  refine lv_iload_n hx hb dX8_day_0 rfl (lv_at hl 1 rfl) ?_
  refine j_const hx hb dX8_day_1 ?_
  refine j_ldc hx hb (999999) hown f_0 dX8_day_2 ?_ (by decide)
  refine m_callSi (As := [.int (iv k), .int (iv 0), .int (iv 999999)]) (rest := []) ⟨hx, hb, hml, hown, hts⟩ hK hH hS (c_X8_isWithin l G μ n k 0 999999 (by omega) (by omega) (by omega)) (va_cwS 3 hts gX8_day_X8_isWithin rfl rfl rfl (by decide +kernel) ⟨(Nat.le_of_ble_eq_true rfl), (Nat.le_of_ble_eq_true rfl)⟩) rfl rfl hl.1 (Nat.le_of_ble_eq_true rfl) dX8_day_4 ⟨Nat.zero_le _, Nat.zero_le _⟩ (fun z4 μ1 n2 H locs hz4 hp3 hH hS => ?_)
  obtain ⟨hz9, hm9, hn9⟩ := hp3
  rw [hm9, hn9] at hH
  have hz4c : (z4 = 1 ∧ (0 ≤ k ∧ k ≤ 999999)) ∨ (z4 = 0 ∧ ¬ (0 ≤ k ∧ k ≤ 999999)) := by
    by_cases q9 : 0 ≤ k ∧ k ≤ 999999
    · rw [if_pos q9] at hz9; exact Or.inl ⟨hz9, q9⟩
    · rw [if_neg q9] at hz9; exact Or.inr ⟨hz9, q9⟩
  clear hz9 hm9 hn9
  refine j_if_ne (tgt := 13) hx hb dX8_day_7 (by decide) (fun c5 => ?_) (fun c5 => ?_) (by omega)
  · skip
    have hdd := dday_rng (D := k) (by omega)
    refine lv_iload_n hx hb dX8_day_13 rfl (lv_at hl 1 rfl) ?_
    refine m_callSi (As := [.int (iv k)]) (rest := []) ⟨hx, hb, hml, hown, hts⟩ hK hH hS (c_X1_dayOf l G μ n k (by omega)) (va_cwS 1 hts gX8_day_X1_dayOf rfl rfl rfl (by decide +kernel) ⟨(Nat.le_of_ble_eq_true rfl), (Nat.le_of_ble_eq_true rfl)⟩) rfl rfl hl.1 (Nat.le_of_ble_eq_true rfl) dX8_day_14 ⟨Nat.zero_le _, Nat.zero_le _⟩ (fun z9 μ6 n7 H locs hz9 hp8 hH hS => ?_)
    obtain ⟨hz2, hm2, hn2⟩ := hp8; rw [hz2]; rw [hm2, hn2] at hH; clear hz2 hm2 hn2
    subst hQ
    refine m_iret hx hb hr hlocks hH hS dX8_day_17 ?_ (by omega)
    refine ⟨?_, rfl, rfl⟩
    unfold a_day
    rw [if_pos (by omega)]
  · skip
    refine j_bipush hx hb dX8_day_10 ?_ (by decide)
    subst hQ
    refine m_iret hx hb hr hlocks hH hS dX8_day_12 ?_ (by omega)
    refine ⟨?_, rfl, rfl⟩
    unfold a_day
    rw [if_neg (by omega)]

abbrev rm_c_X8_band : Room := { frames := 2, cells := 0, slots := 0, locals := 46 }
set_option maxHeartbeats 4000000 in
set_option maxRecDepth 100000 in
theorem c_X8_band (l : Launch) (G : wG) (μ : hM) (n : Nat) (x rb : Nat) (u0 : aS) (pa wa : Int) (hD : IsD G μ x rb u0) (hpa1 : -2147483648 ≤ pa ∧ pa ≤ 2147483647) (hwa1 : -2147483648 ≤ wa ∧ wa ≤ 2147483647) : Met l yX8_band wsX8_band rm_c_X8_band (mPc G μ n [.ref x, .int (iv pa), .int (iv wa)]) (mQi G (fun z μ1 n1 => z = a_band ((aD u0).1) pa wa ∧ μ1 = μ ∧ n1 = n)) 0 0 (gA G) := by
  refine Met.ofW (cc := cX8_band) (maxL := 4) (ret := (some .int)) (by decide) rfl ?_
  intro p e s m args below meth c s₁ B hml hv
  obtain ⟨hav, hK, hH⟩ := hv
  have hx := B.exec
  have hb := B.bytes
  have hr := B.returns
  have hts := atoms_spec (ws := wsX8_band) B.pre
  have hown : s.vm.findClass RX8 = some m.cls := findClass_of_methodNamed B.named
  have hlocks := B.notSynchronized
  have hS : va_S (gA G) s.heap s.heap [] := va_S.rf
  have hl := lv_entry ([.ref x, .int (iv pa), .int (iv wa)]) (n := 4) (Nat.le_of_ble_eq_true rfl)
  have hfr : entryFrame m args 4 = entryFrame m ([.ref x, .int (iv pa), .int (iv wa)] : List Value).toArray 4 := by rw [hav]
  rw [hfr, lg_entry_eq]
  generalize (lg_sl ([.ref x, .int (iv pa), .int (iv wa)]) ++ List.replicate (4 - (lg_sl ([.ref x, .int (iv pa), .int (iv wa)])).length) Slot.unset).toArray = ls at hl ⊢
  have hl : lv_has ls 4 [(0, .ref x), (1, .int (iv pa)), (2, .int (iv wa))] := hl
  generalize hQ : MQ below _ args s 0 0 (gA G) = Q
  show W p l e rm_c_X8_band s m args below meth c s.heap [] 0 0 Q (F0 m 0 ls [])
  obtain ⟨H, hHe⟩ : ∃ H, H = s.heap := ⟨_, rfl⟩
  obtain ⟨locs, hlo⟩ : ∃ q : List Loc, q = [] := ⟨_, rfl⟩
  have hH : gP G μ n H := by rw [hHe]; exact hH
  have hS : va_S (gA G) s.heap H locs := by rw [hHe, hlo]; exact hS
  suffices hgo : W p l e rm_c_X8_band s m args below meth c H locs 0 0 Q (F0 m 0 ls []) by rw [hHe, hlo] at hgo; exact hgo
  clear hHe hlo hfr hav
  have f_0 := hts (.fieldLink RX8 10 "StampDater" "state" "LStampDater$State;") (List.mem_of_getElem? (i := 1) rfl)
  have i_X8 : ∀ w ∈ u_ws RX8 TX8 6, w ∈ wsX8_band := by decide +kernel
  have f_2 := hts (.fieldLink RX8 63 "StampDater$State" "stamp" "LStampDater$Stamp;") (List.mem_of_getElem? (i := 2) rfl)
  have i_X6 : ∀ w ∈ u_ws RX6 TX6 8, w ∈ wsX8_band := by decide +kernel
  have f_4 := hts (.fieldLink RX8 80 "StampDater$Stamp" "bands" "[LStampDater$Band;") (List.mem_of_getElem? (i := 3) rfl)
  have i_X5 : ∀ w ∈ u_ws RX5 TX5 7, w ∈ wsX8_band := by decide +kernel
  have f_6 := hts (.fieldLink RX8 106 "StampDater$Band" "number" "I") (List.mem_of_getElem? (i := 4) rfl)
  have i_X0 : ∀ w ∈ u_ws RX0 TX0 4, w ∈ wsX8_band := by decide +kernel
  have f_8 := hts (.fieldLink RX8 84 "StampDater$Band" "shown" "I") (List.mem_of_getElem? (i := 5) rfl)
  have f_9 := hts (.fieldLink RX8 109 "StampDater$Band" "slack" "I") (List.mem_of_getElem? (i := 6) rfl)
  have hfr : DFr x μ μ := DFr.rf
  have hD9 := hD
  obtain ⟨hX, ⟨π, fp, sp, rd, hZ, hC, hT, hch⟩, ⟨ρ, πs, fps, sps, rds, hL, hLs⟩, ⟨πk, fpk, spk, rdk, hY, hCk, hTk, hchk⟩, ⟨to, td, tk, tn, tt, ta, hTX⟩, ⟨πr, τr, fpr, spr, hI2, hOk2⟩, hsz, hkt, hOC, hrb, hlast⟩ := hD9
  have h3 := hT.2.1
  have h5 := hT.2.2.1
  have hS0 := hT.1
  have h4 := hS0.2.2.2.1
  refine lv_iload_n hx hb dX8_band_0 rfl (lv_at hl 1 rfl) ?_
  refine m_callSi (As := [.int (iv pa)]) (rest := []) ⟨hx, hb, hml, hown, hts⟩ hK hH hS (c_X8_isPlace l G μ n pa (by omega)) (va_cwS 1 hts gX8_band_X8_isPlace rfl rfl rfl (by decide +kernel) ⟨(Nat.le_of_ble_eq_true rfl), (Nat.le_of_ble_eq_true rfl)⟩) rfl rfl hl.1 (Nat.le_of_ble_eq_true rfl) dX8_band_1 ⟨Nat.zero_le _, Nat.zero_le _⟩ (fun z4 μ1 n2 H locs hz4 hp3 hH hS => ?_)
  obtain ⟨hz9, hm9, hn9⟩ := hp3
  rw [hm9, hn9] at hH
  have hz4c : (z4 = 1 ∧ (0 ≤ pa ∧ pa ≤ 5)) ∨ (z4 = 0 ∧ ¬ (0 ≤ pa ∧ pa ≤ 5)) := by
    by_cases q9 : 0 ≤ pa ∧ pa ≤ 5
    · rw [if_pos q9] at hz9; exact Or.inl ⟨hz9, q9⟩
    · rw [if_neg q9] at hz9; exact Or.inr ⟨hz9, q9⟩
  clear hz9 hm9 hn9
  refine j_if_ne (tgt := 9) hx hb dX8_band_4 (by decide) (fun c5 => ?_) (fun c5 => ?_) (by omega)
  · skip
    obtain ⟨pn, hpn⟩ : ∃ pn : Nat, pn = pa.toNat := ⟨_, rfl⟩
    have hpe : pa = (pn : Int) := by omega
    clear hpn
    subst hpe
    have hpn : pn < 6 := by omega
    have hsr := hS0.2.2.2.2 pn hpn
    have hwr := OkS.w hS0 hpn
    have hbm := bmost_le (roww (aD u0).1 pn) 9
    have hbl := bleast_rng 10 hwr
    have hdk := drk_rng hS0 hpn (k := 5) (by omega)
    have hwm := hwr (bmost (roww (aD u0).1 pn) 9) (by omega)
    refine lv_aload_n hx hb dX8_band_9 rfl (lv_at hl 0 rfl) ?_
    refine m_get (C := RX8) (T := TX8) (N := 6) (ci := 7) hx hb hts i_X8 hown hK hH hX rfl 0 (by decide) f_0 rfl dX8_band_10 ?_
    refine m_get (C := RX6) (T := TX6) (N := 8) (ci := 5) hx hb hts i_X6 hown hK hH hZ.1 rfl 0 (by decide) f_2 rfl dX8_band_13 ?_
    refine m_get (C := RX5) (T := TX5) (N := 7) (ci := 4) hx hb hts i_X5 hown hK hH hZ.2.1.1 rfl 0 (by decide) f_4 rfl dX8_band_16 ?_
    refine lv_iload_n hx hb dX8_band_19 rfl (lv_at hl 1 rfl) ?_
    refine m_aald (b := ((x + 1 + 1) + 2 + 2 * π pn)) hx hb hK hH 2 hZ.2.1.2.1 rfl rfl dX8_band_20 ?_ (by omega) (by omega)
    refine lv_astore_n (lv' := [(3, .ref ((x + 1 + 1) + 2 + 2 * π pn)), (0, .ref x), (1, .int (iv (pn : Int))), (2, .int (iv wa))]) hx hb dX8_band_21 rfl hl (by decide) rfl (fun ls hl => ?_)
    refine lv_iload_n hx hb dX8_band_22 rfl (lv_at hl 3 rfl) ?_
    by_cases k6_0 : wa = 0
    · skip
      refine j_table hx hb (tgt := 64) (0) k6_0 dX8_band_23 ?_
      refine lv_aload_n hx hb dX8_band_64 rfl (lv_at hl 0 rfl) ?_
      refine m_get (C := RX0) (T := TX0) (N := 4) (ci := 0) hx hb hts i_X0 hown hK hH (hZ.2.1.2.2.2.1 pn (by omega)) rfl 0 (by decide) f_6 rfl dX8_band_65 ?_
      subst hQ
      refine m_iret hx hb hr hlocks hH hS dX8_band_68 ?_ (by omega)
      refine ⟨?_, rfl, rfl⟩
      unfold a_band
      rw [show ((pn : Nat) : Int).toNat = pn from rfl]
      rw [if_pos (by omega), if_pos (by omega)]
    by_cases k6_1 : wa = 1
    · skip
      refine j_table hx hb (tgt := 69) (1) k6_1 dX8_band_23 ?_
      refine lv_aload_n hx hb dX8_band_69 rfl (lv_at hl 0 rfl) ?_
      refine m_get (C := RX0) (T := TX0) (N := 4) (ci := 0) hx hb hts i_X0 hown hK hH (hZ.2.1.2.2.2.1 pn (by omega)) rfl 1 (by decide) f_8 rfl dX8_band_70 ?_
      subst hQ
      refine m_iret hx hb hr hlocks hH hS dX8_band_73 ?_ (by omega)
      refine ⟨?_, rfl, rfl⟩
      unfold a_band
      rw [show ((pn : Nat) : Int).toNat = pn from rfl]
      rw [if_pos (by omega), if_neg (by omega), if_pos (by omega)]
    by_cases k6_2 : wa = 2
    · skip
      refine j_table hx hb (tgt := 74) (2) k6_2 dX8_band_23 ?_
      refine lv_aload_n hx hb dX8_band_74 rfl (lv_at hl 0 rfl) ?_
      refine m_get (C := RX0) (T := TX0) (N := 4) (ci := 0) hx hb hts i_X0 hown hK hH (hZ.2.1.2.2.2.1 pn (by omega)) rfl 2 (by decide) f_9 rfl dX8_band_75 ?_
      subst hQ
      refine m_iret hx hb hr hlocks hH hS dX8_band_78 ?_ (by omega)
      refine ⟨?_, rfl, rfl⟩
      unfold a_band
      rw [show ((pn : Nat) : Int).toNat = pn from rfl]
      rw [if_pos (by omega), if_neg (by omega), if_neg (by omega), if_pos (by omega)]
    by_cases k6_3 : wa = 3
    · skip
      refine j_table hx hb (tgt := 79) (3) k6_3 dX8_band_23 ?_
      refine lv_aload_n hx hb dX8_band_79 rfl (lv_at hl 0 rfl) ?_
      refine lv_aload_n hx hb dX8_band_80 rfl (lv_at hl 0 rfl) ?_
      refine m_callVi (As := []) (rest := [.ref ((x + 1 + 1) + 2 + 2 * π pn)]) ⟨hx, hb, hml, hown, hts⟩ hK hH hS (c_X0_mostWornDigit l G μ n (x + 1 + 1 + 2 + 2 * π pn) (x + 1 + 1 + 3 + 2 * π pn) (((aD u0).1) (85 + 13 * pn)) (((aD u0).1) (86 + 13 * pn)) (((aD u0).1) (87 + 13 * pn)) (roww ((aD u0).1) pn) (hZ.2.1.2.2.2.1 pn hpn) (hZ.2.1.2.2.2.2.1 pn hpn) hwr) (cwV 0 hts gX8_band_X0_mostWornDigit rfl rfl rfl (by decide +kernel) ⟨(Nat.le_of_ble_eq_true rfl), (Nat.le_of_ble_eq_true rfl)⟩) (hZ.2.1.2.2.2.1 pn (by omega)) rfl rfl rfl rfl hl.1 (Nat.le_of_ble_eq_true rfl) dX8_band_81 ⟨Nat.zero_le _, Nat.zero_le _⟩ (fun z10 μ7 n8 H locs hz10 hp9 hH hS => ?_)
      obtain ⟨hz2, hm2, hn2⟩ := hp9; rw [hz2]; rw [hm2, hn2] at hH; clear hz2 hm2 hn2
      refine m_callVi (As := [.int (iv ((bmost (roww ((aD u0).1) pn) 9 : Nat) : Int))]) (rest := []) ⟨hx, hb, hml, hown, hts⟩ hK hH hS (c_X0_wearOf l G μ n (x + 1 + 1 + 2 + 2 * π pn) (x + 1 + 1 + 3 + 2 * π pn) (((aD u0).1) (85 + 13 * pn)) (((aD u0).1) (86 + 13 * pn)) (((aD u0).1) (87 + 13 * pn)) (roww ((aD u0).1) pn) ((bmost (roww ((aD u0).1) pn) 9 : Nat) : Int) (hZ.2.1.2.2.2.1 pn hpn) (hZ.2.1.2.2.2.2.1 pn hpn) (by omega) hwm) (cwV 1 hts gX8_band_X0_wearOf rfl rfl rfl (by decide +kernel) ⟨(Nat.le_of_ble_eq_true rfl), (Nat.le_of_ble_eq_true rfl)⟩) (hZ.2.1.2.2.2.1 pn (by omega)) rfl rfl rfl rfl hl.1 (Nat.le_of_ble_eq_true rfl) dX8_band_84 ⟨Nat.zero_le _, Nat.zero_le _⟩ (fun z14 μ11 n12 H locs hz14 hp13 hH hS => ?_)
      obtain ⟨hz2, hm2, hn2⟩ := hp13; rw [hz2]; rw [hm2, hn2] at hH; clear hz2 hm2 hn2
      refine j_norm (y := (roww ((aD u0).1) pn (bmost (roww ((aD u0).1) pn) 9))) rfl ?_
      subst hQ
      refine m_iret hx hb hr hlocks hH hS dX8_band_87 ?_ (by omega)
      refine ⟨?_, rfl, rfl⟩
      unfold a_band
      rw [show ((pn : Nat) : Int).toNat = pn from rfl]
      rw [if_pos (by omega), if_neg (by omega), if_neg (by omega), if_neg (by omega), if_pos (by omega)]
    by_cases k6_4 : wa = 4
    · skip
      refine j_table hx hb (tgt := 88) (4) k6_4 dX8_band_23 ?_
      refine lv_aload_n hx hb dX8_band_88 rfl (lv_at hl 0 rfl) ?_
      refine m_callVi (As := []) (rest := []) ⟨hx, hb, hml, hown, hts⟩ hK hH hS (c_X0_leastWear l G μ n (x + 1 + 1 + 2 + 2 * π pn) (x + 1 + 1 + 3 + 2 * π pn) (((aD u0).1) (85 + 13 * pn)) (((aD u0).1) (86 + 13 * pn)) (((aD u0).1) (87 + 13 * pn)) (roww ((aD u0).1) pn) (hZ.2.1.2.2.2.1 pn hpn) (hZ.2.1.2.2.2.2.1 pn hpn) hwr) (cwV 0 hts gX8_band_X0_leastWear rfl rfl rfl (by decide +kernel) ⟨(Nat.le_of_ble_eq_true rfl), (Nat.le_of_ble_eq_true rfl)⟩) (hZ.2.1.2.2.2.1 pn (by omega)) rfl rfl rfl rfl hl.1 (Nat.le_of_ble_eq_true rfl) dX8_band_89 ⟨Nat.zero_le _, Nat.zero_le _⟩ (fun z18 μ15 n16 H locs hz18 hp17 hH hS => ?_)
      obtain ⟨hz2, hm2, hn2⟩ := hp17; rw [hz2]; rw [hm2, hn2] at hH; clear hz2 hm2 hn2
      subst hQ
      refine m_iret hx hb hr hlocks hH hS dX8_band_92 ?_ (by omega)
      refine ⟨?_, rfl, rfl⟩
      unfold a_band
      rw [show ((pn : Nat) : Int).toNat = pn from rfl]
      rw [if_pos (by omega), if_neg (by omega), if_neg (by omega), if_neg (by omega), if_neg (by omega), if_pos (by omega)]
    by_cases k6_5 : wa = 5
    · skip
      refine j_table hx hb (tgt := 93) (5) k6_5 dX8_band_23 ?_
      refine lv_aload_n hx hb dX8_band_93 rfl (lv_at hl 0 rfl) ?_
      refine m_callVi (As := []) (rest := []) ⟨hx, hb, hml, hown, hts⟩ hK hH hS (c_X0_mostWornDigit l G μ n (x + 1 + 1 + 2 + 2 * π pn) (x + 1 + 1 + 3 + 2 * π pn) (((aD u0).1) (85 + 13 * pn)) (((aD u0).1) (86 + 13 * pn)) (((aD u0).1) (87 + 13 * pn)) (roww ((aD u0).1) pn) (hZ.2.1.2.2.2.1 pn hpn) (hZ.2.1.2.2.2.2.1 pn hpn) hwr) (cwV 0 hts gX8_band_X0_mostWornDigit rfl rfl rfl (by decide +kernel) ⟨(Nat.le_of_ble_eq_true rfl), (Nat.le_of_ble_eq_true rfl)⟩) (hZ.2.1.2.2.2.1 pn (by omega)) rfl rfl rfl rfl hl.1 (Nat.le_of_ble_eq_true rfl) dX8_band_94 ⟨Nat.zero_le _, Nat.zero_le _⟩ (fun z22 μ19 n20 H locs hz22 hp21 hH hS => ?_)
      obtain ⟨hz2, hm2, hn2⟩ := hp21; rw [hz2]; rw [hm2, hn2] at hH; clear hz2 hm2 hn2
      subst hQ
      refine m_iret hx hb hr hlocks hH hS dX8_band_97 ?_ (by omega)
      refine ⟨?_, rfl, rfl⟩
      unfold a_band
      rw [show ((pn : Nat) : Int).toNat = pn from rfl]
      rw [if_pos (by omega), if_neg (by omega), if_neg (by omega), if_neg (by omega), if_neg (by omega), if_neg (by omega), if_pos (by omega)]
    by_cases k6_6 : wa = 6
    · skip
      refine j_table hx hb (tgt := 98) (6) k6_6 dX8_band_23 ?_
      refine lv_aload_n hx hb dX8_band_98 rfl (lv_at hl 1 rfl) ?_
      refine m_get (C := RX8) (T := TX8) (N := 6) (ci := 7) hx hb hts i_X8 hown hK hH hX rfl 0 (by decide) f_0 rfl dX8_band_99 ?_
      refine m_get (C := RX6) (T := TX6) (N := 8) (ci := 5) hx hb hts i_X6 hown hK hH hZ.1 rfl 0 (by decide) f_2 rfl dX8_band_102 ?_
      refine lv_aload_n hx hb dX8_band_105 rfl (lv_at hl 0 rfl) ?_
      refine j_const hx hb dX8_band_106 ?_
      refine m_callVi (As := [.ref ((x + 1 + 1) + 2 + 2 * π pn), .int (iv 5)]) (rest := []) ⟨hx, hb, hml, hown, hts⟩ hK hH hS (c_X5_darkness l G μ n (x + 1 + 1) π ((aD u0).1) fp sp pn 5 hZ.2.1 hT.1 hpn (by omega)) (cwV 2 hts gX8_band_X5_darkness rfl rfl rfl (by decide +kernel) ⟨(Nat.le_of_ble_eq_true rfl), (Nat.le_of_ble_eq_true rfl)⟩) hZ.2.1.1 rfl rfl rfl rfl hl.1 (Nat.le_of_ble_eq_true rfl) dX8_band_107 ⟨Nat.zero_le _, Nat.zero_le _⟩ (fun z26 μ23 n24 H locs hz26 hp25 hH hS => ?_)
      obtain ⟨hz2, hm2, hn2⟩ := hp25; rw [hz2]; rw [hm2, hn2] at hH; clear hz2 hm2 hn2
      refine j_bipush hx hb dX8_band_110 ?_ (by decide)
      refine j_iadd hx hb dX8_band_112 ?_
      subst hQ
      refine m_iret hx hb hr hlocks hH hS dX8_band_113 ?_ (by omega)
      refine ⟨?_, rfl, rfl⟩
      unfold a_band
      rw [show ((pn : Nat) : Int).toNat = pn from rfl]
      rw [if_pos (by omega), if_neg (by omega), if_neg (by omega), if_neg (by omega), if_neg (by omega), if_neg (by omega), if_neg (by omega), if_pos (by omega)]
    refine j_tableO (tgt := 114) hx hb dX8_band_23 (by omega) ?_ (by decide) (by omega)
    refine j_bipush hx hb dX8_band_114 ?_ (by decide)
    subst hQ
    refine m_iret hx hb hr hlocks hH hS dX8_band_116 ?_ (by omega)
    refine ⟨?_, rfl, rfl⟩
    unfold a_band
    rw [show ((pn : Nat) : Int).toNat = pn from rfl]
    rw [if_pos (by omega), if_neg (by omega), if_neg (by omega), if_neg (by omega), if_neg (by omega), if_neg (by omega), if_neg (by omega), if_neg (by omega)]
  · skip
    refine j_const hx hb dX8_band_7 ?_
    subst hQ
    refine m_iret hx hb hr hlocks hH hS dX8_band_8 ?_ (by omega)
    refine ⟨?_, rfl, rfl⟩
    unfold a_band
    rw [if_neg (by omega)]

abbrev rm_c_X8_wear : Room := { frames := 2, cells := 0, slots := 0, locals := 42 }
set_option maxHeartbeats 4000000 in
set_option maxRecDepth 100000 in
theorem c_X8_wear (l : Launch) (G : wG) (μ : hM) (n : Nat) (x rb : Nat) (u0 : aS) (pa ka : Int) (hD : IsD G μ x rb u0) (hpa1 : -2147483648 ≤ pa ∧ pa ≤ 2147483647) (hka1 : -2147483648 ≤ ka ∧ ka ≤ 2147483647) : Met l yX8_wear wsX8_wear rm_c_X8_wear (mPc G μ n [.ref x, .int (iv pa), .int (iv ka)]) (mQi G (fun z μ1 n1 => z = a_wear ((aD u0).1) pa ka ∧ μ1 = μ ∧ n1 = n)) 0 0 (gA G) := by
  refine Met.ofW (cc := cX8_wear) (maxL := 3) (ret := (some .int)) (by decide) rfl ?_
  intro p e s m args below meth c s₁ B hml hv
  obtain ⟨hav, hK, hH⟩ := hv
  have hx := B.exec
  have hb := B.bytes
  have hr := B.returns
  have hts := atoms_spec (ws := wsX8_wear) B.pre
  have hown : s.vm.findClass RX8 = some m.cls := findClass_of_methodNamed B.named
  have hlocks := B.notSynchronized
  have hS : va_S (gA G) s.heap s.heap [] := va_S.rf
  have hl := lv_entry ([.ref x, .int (iv pa), .int (iv ka)]) (n := 3) (Nat.le_of_ble_eq_true rfl)
  have hfr : entryFrame m args 3 = entryFrame m ([.ref x, .int (iv pa), .int (iv ka)] : List Value).toArray 3 := by rw [hav]
  rw [hfr, lg_entry_eq]
  generalize (lg_sl ([.ref x, .int (iv pa), .int (iv ka)]) ++ List.replicate (3 - (lg_sl ([.ref x, .int (iv pa), .int (iv ka)])).length) Slot.unset).toArray = ls at hl ⊢
  have hl : lv_has ls 3 [(0, .ref x), (1, .int (iv pa)), (2, .int (iv ka))] := hl
  generalize hQ : MQ below _ args s 0 0 (gA G) = Q
  show W p l e rm_c_X8_wear s m args below meth c s.heap [] 0 0 Q (F0 m 0 ls [])
  obtain ⟨H, hHe⟩ : ∃ H, H = s.heap := ⟨_, rfl⟩
  obtain ⟨locs, hlo⟩ : ∃ q : List Loc, q = [] := ⟨_, rfl⟩
  have hH : gP G μ n H := by rw [hHe]; exact hH
  have hS : va_S (gA G) s.heap H locs := by rw [hHe, hlo]; exact hS
  suffices hgo : W p l e rm_c_X8_wear s m args below meth c H locs 0 0 Q (F0 m 0 ls []) by rw [hHe, hlo] at hgo; exact hgo
  clear hHe hlo hfr hav
  have f_0 := hts (.fieldLink RX8 10 "StampDater" "state" "LStampDater$State;") (List.mem_of_getElem? (i := 1) rfl)
  have i_X8 : ∀ w ∈ u_ws RX8 TX8 6, w ∈ wsX8_wear := by decide +kernel
  have f_2 := hts (.fieldLink RX8 63 "StampDater$State" "stamp" "LStampDater$Stamp;") (List.mem_of_getElem? (i := 2) rfl)
  have i_X6 : ∀ w ∈ u_ws RX6 TX6 8, w ∈ wsX8_wear := by decide +kernel
  have f_4 := hts (.fieldLink RX8 80 "StampDater$Stamp" "bands" "[LStampDater$Band;") (List.mem_of_getElem? (i := 3) rfl)
  have i_X5 : ∀ w ∈ u_ws RX5 TX5 7, w ∈ wsX8_wear := by decide +kernel
  have hfr : DFr x μ μ := DFr.rf
  have hD9 := hD
  obtain ⟨hX, ⟨π, fp, sp, rd, hZ, hC, hT, hch⟩, ⟨ρ, πs, fps, sps, rds, hL, hLs⟩, ⟨πk, fpk, spk, rdk, hY, hCk, hTk, hchk⟩, ⟨to, td, tk, tn, tt, ta, hTX⟩, ⟨πr, τr, fpr, spr, hI2, hOk2⟩, hsz, hkt, hOC, hrb, hlast⟩ := hD9
  have h3 := hT.2.1
  have h5 := hT.2.2.1
  have hS0 := hT.1
  have h4 := hS0.2.2.2.1
  refine lv_iload_n hx hb dX8_wear_0 rfl (lv_at hl 1 rfl) ?_
  refine m_callSi (As := [.int (iv pa)]) (rest := []) ⟨hx, hb, hml, hown, hts⟩ hK hH hS (c_X8_isPlace l G μ n pa (by omega)) (va_cwS 1 hts gX8_wear_X8_isPlace rfl rfl rfl (by decide +kernel) ⟨(Nat.le_of_ble_eq_true rfl), (Nat.le_of_ble_eq_true rfl)⟩) rfl rfl hl.1 (Nat.le_of_ble_eq_true rfl) dX8_wear_1 ⟨Nat.zero_le _, Nat.zero_le _⟩ (fun z4 μ1 n2 H locs hz4 hp3 hH hS => ?_)
  obtain ⟨hz9, hm9, hn9⟩ := hp3
  rw [hm9, hn9] at hH
  have hz4c : (z4 = 1 ∧ (0 ≤ pa ∧ pa ≤ 5)) ∨ (z4 = 0 ∧ ¬ (0 ≤ pa ∧ pa ≤ 5)) := by
    by_cases q9 : 0 ≤ pa ∧ pa ≤ 5
    · rw [if_pos q9] at hz9; exact Or.inl ⟨hz9, q9⟩
    · rw [if_neg q9] at hz9; exact Or.inr ⟨hz9, q9⟩
  clear hz9 hm9 hn9
  refine j_if_ne (tgt := 9) hx hb dX8_wear_4 (by decide) (fun c5 => ?_) (fun c5 => ?_) (by omega)
  · skip
    obtain ⟨pn, hpn⟩ : ∃ pn : Nat, pn = pa.toNat := ⟨_, rfl⟩
    have hpe : pa = (pn : Int) := by omega
    clear hpn
    subst hpe
    have hpn : pn < 6 := by omega
    have hwr := OkS.w hS0 hpn
    refine lv_iload_n hx hb dX8_wear_9 rfl (lv_at hl 2 rfl) ?_
    refine j_const hx hb dX8_wear_10 ?_
    refine j_bipush hx hb dX8_wear_11 ?_ (by decide)
    refine m_callSi (As := [.int (iv ka), .int (iv 0), .int (iv 9)]) (rest := []) ⟨hx, hb, hml, hown, hts⟩ hK hH hS (c_X8_isWithin l G μ n ka 0 9 (by omega) (by omega) (by omega)) (va_cwS 3 hts gX8_wear_X8_isWithin rfl rfl rfl (by decide +kernel) ⟨(Nat.le_of_ble_eq_true rfl), (Nat.le_of_ble_eq_true rfl)⟩) rfl rfl hl.1 (Nat.le_of_ble_eq_true rfl) dX8_wear_13 ⟨Nat.zero_le _, Nat.zero_le _⟩ (fun z9 μ6 n7 H locs hz9 hp8 hH hS => ?_)
    obtain ⟨hz9, hm9, hn9⟩ := hp8
    rw [hm9, hn9] at hH
    have hz9c : (z9 = 1 ∧ (0 ≤ ka ∧ ka ≤ 9)) ∨ (z9 = 0 ∧ ¬ (0 ≤ ka ∧ ka ≤ 9)) := by
      by_cases q9 : 0 ≤ ka ∧ ka ≤ 9
      · rw [if_pos q9] at hz9; exact Or.inl ⟨hz9, q9⟩
      · rw [if_neg q9] at hz9; exact Or.inr ⟨hz9, q9⟩
    clear hz9 hm9 hn9
    refine j_if_ne (tgt := 22) hx hb dX8_wear_16 (by decide) (fun c10 => ?_) (fun c10 => ?_) (by omega)
    · skip
      have hwm := hwr ka.toNat (by omega)
      refine lv_aload_n hx hb dX8_wear_22 rfl (lv_at hl 0 rfl) ?_
      refine m_get (C := RX8) (T := TX8) (N := 6) (ci := 7) hx hb hts i_X8 hown hK hH hX rfl 0 (by decide) f_0 rfl dX8_wear_23 ?_
      refine m_get (C := RX6) (T := TX6) (N := 8) (ci := 5) hx hb hts i_X6 hown hK hH hZ.1 rfl 0 (by decide) f_2 rfl dX8_wear_26 ?_
      refine m_get (C := RX5) (T := TX5) (N := 7) (ci := 4) hx hb hts i_X5 hown hK hH hZ.2.1.1 rfl 0 (by decide) f_4 rfl dX8_wear_29 ?_
      refine lv_iload_n hx hb dX8_wear_32 rfl (lv_at hl 1 rfl) ?_
      refine m_aald (b := ((x + 1 + 1) + 2 + 2 * π pn)) hx hb hK hH 2 hZ.2.1.2.1 rfl rfl dX8_wear_33 ?_ (by omega) (by omega)
      refine lv_iload_n hx hb dX8_wear_34 rfl (lv_at hl 2 rfl) ?_
      refine m_callVi (As := [.int (iv ka)]) (rest := []) ⟨hx, hb, hml, hown, hts⟩ hK hH hS (c_X0_wearOf l G μ n (x + 1 + 1 + 2 + 2 * π pn) (x + 1 + 1 + 3 + 2 * π pn) (((aD u0).1) (85 + 13 * pn)) (((aD u0).1) (86 + 13 * pn)) (((aD u0).1) (87 + 13 * pn)) (roww ((aD u0).1) pn) ka (hZ.2.1.2.2.2.1 pn hpn) (hZ.2.1.2.2.2.2.1 pn hpn) (by omega) hwm) (cwV 1 hts gX8_wear_X0_wearOf rfl rfl rfl (by decide +kernel) ⟨(Nat.le_of_ble_eq_true rfl), (Nat.le_of_ble_eq_true rfl)⟩) (hZ.2.1.2.2.2.1 pn (by omega)) rfl rfl rfl rfl hl.1 (Nat.le_of_ble_eq_true rfl) dX8_wear_35 ⟨Nat.zero_le _, Nat.zero_le _⟩ (fun z14 μ11 n12 H locs hz14 hp13 hH hS => ?_)
      obtain ⟨hz2, hm2, hn2⟩ := hp13; rw [hz2]; rw [hm2, hn2] at hH; clear hz2 hm2 hn2
      subst hQ
      refine m_iret hx hb hr hlocks hH hS dX8_wear_38 ?_ (by omega)
      refine ⟨?_, rfl, rfl⟩
      unfold a_wear
      rw [show ((pn : Nat) : Int).toNat = pn from rfl]
      rw [if_pos (by omega), if_pos (by omega)]
    · skip
      refine j_bipush hx hb dX8_wear_19 ?_ (by decide)
      subst hQ
      refine m_iret hx hb hr hlocks hH hS dX8_wear_21 ?_ (by omega)
      refine ⟨?_, rfl, rfl⟩
      unfold a_wear
      rw [show ((pn : Nat) : Int).toNat = pn from rfl]
      rw [if_pos (by omega), if_neg (by omega)]
  · skip
    refine j_const hx hb dX8_wear_7 ?_
    subst hQ
    refine m_iret hx hb hr hlocks hH hS dX8_wear_8 ?_ (by omega)
    refine ⟨?_, rfl, rfl⟩
    unfold a_wear
    rw [if_neg (by omega)]

abbrev rm_c_X8_print : Room := { frames := 5, cells := 0, slots := 0, locals := 117 }
set_option maxHeartbeats 4000000 in
set_option maxRecDepth 100000 in
theorem c_X8_print (l : Launch) (G : wG) (μ : hM) (n : Nat) (x rb : Nat) (u0 : aS) (ia wa : Int) (hD : IsD G μ x rb u0) (hia1 : -2147483648 ≤ ia ∧ ia ≤ 2147483647) (hwa1 : -2147483648 ≤ wa ∧ wa ≤ 2147483647) : Met l yX8_print wsX8_print rm_c_X8_print (mPc G μ n [.ref x, .int (iv ia), .int (iv wa)]) (mQi G (fun z μ1 n1 => z = a_print ((aD u0).1) ia wa ∧ μ1 = μ ∧ n1 = n)) 0 0 (gA G) := by
  refine Met.ofW (cc := cX8_print) (maxL := 4) (ret := (some .int)) (by decide) rfl ?_
  intro p e s m args below meth c s₁ B hml hv
  obtain ⟨hav, hK, hH⟩ := hv
  have hx := B.exec
  have hb := B.bytes
  have hr := B.returns
  have hts := atoms_spec (ws := wsX8_print) B.pre
  have hown : s.vm.findClass RX8 = some m.cls := findClass_of_methodNamed B.named
  have hlocks := B.notSynchronized
  have hS : va_S (gA G) s.heap s.heap [] := va_S.rf
  have hl := lv_entry ([.ref x, .int (iv ia), .int (iv wa)]) (n := 4) (Nat.le_of_ble_eq_true rfl)
  have hfr : entryFrame m args 4 = entryFrame m ([.ref x, .int (iv ia), .int (iv wa)] : List Value).toArray 4 := by rw [hav]
  rw [hfr, lg_entry_eq]
  generalize (lg_sl ([.ref x, .int (iv ia), .int (iv wa)]) ++ List.replicate (4 - (lg_sl ([.ref x, .int (iv ia), .int (iv wa)])).length) Slot.unset).toArray = ls at hl ⊢
  have hl : lv_has ls 4 [(0, .ref x), (1, .int (iv ia)), (2, .int (iv wa))] := hl
  generalize hQ : MQ below _ args s 0 0 (gA G) = Q
  show W p l e rm_c_X8_print s m args below meth c s.heap [] 0 0 Q (F0 m 0 ls [])
  obtain ⟨H, hHe⟩ : ∃ H, H = s.heap := ⟨_, rfl⟩
  obtain ⟨locs, hlo⟩ : ∃ q : List Loc, q = [] := ⟨_, rfl⟩
  have hH : gP G μ n H := by rw [hHe]; exact hH
  have hS : va_S (gA G) s.heap H locs := by rw [hHe, hlo]; exact hS
  suffices hgo : W p l e rm_c_X8_print s m args below meth c H locs 0 0 Q (F0 m 0 ls []) by rw [hHe, hlo] at hgo; exact hgo
  clear hHe hlo hfr hav
  have f_0 := hts (.fieldLink RX8 10 "StampDater" "state" "LStampDater$State;") (List.mem_of_getElem? (i := 1) rfl)
  have i_X8 : ∀ w ∈ u_ws RX8 TX8 6, w ∈ wsX8_print := by decide +kernel
  have f_2 := hts (.fieldLink RX8 206 "StampDater$State" "prints" "[LStampDater$Print;") (List.mem_of_getElem? (i := 2) rfl)
  have i_X6 : ∀ w ∈ u_ws RX6 TX6 8, w ∈ wsX8_print := by decide +kernel
  have f_4 := hts (.fieldLink RX8 213 "StampDater$Print" "digits" "I") (List.mem_of_getElem? (i := 3) rfl)
  have i_X3 : ∀ w ∈ u_ws RX3 TX3 6, w ∈ wsX8_print := by decide +kernel
  have f_6 := hts (.fieldLink RX8 218 "StampDater$Print" "day" "I") (List.mem_of_getElem? (i := 4) rfl)
  have f_7 := hts (.fieldLink RX8 221 "StampDater$Print" "faint" "I") (List.mem_of_getElem? (i := 5) rfl)
  have f_8 := hts (.fieldLink RX8 224 "StampDater$Print" "smudged" "I") (List.mem_of_getElem? (i := 6) rfl)
  have f_9 := hts (.fieldLink RX8 227 "StampDater$Print" "right" "Z") (List.mem_of_getElem? (i := 7) rfl)
  have f_10 := hts (.fieldLink RX8 230 "StampDater$Print" "strength" "I") (List.mem_of_getElem? (i := 8) rfl)
  have hfr : DFr x μ μ := DFr.rf
  have hD9 := hD
  obtain ⟨hX, ⟨π, fp, sp, rd, hZ, hC, hT, hch⟩, ⟨ρ, πs, fps, sps, rds, hL, hLs⟩, ⟨πk, fpk, spk, rdk, hY, hCk, hTk, hchk⟩, ⟨to, td, tk, tn, tt, ta, hTX⟩, ⟨πr, τr, fpr, spr, hI2, hOk2⟩, hsz, hkt, hOC, hrb, hlast⟩ := hD9
  have h3 := hT.2.1
  have h5 := hT.2.2.1
  have hS0 := hT.1
  have h4 := hS0.2.2.2.1
  refine lv_aload_n hx hb dX8_print_0 rfl (lv_at hl 0 rfl) ?_
  refine m_get (C := RX8) (T := TX8) (N := 6) (ci := 7) hx hb hts i_X8 hown hK hH hX rfl 0 (by decide) f_0 rfl dX8_print_1 ?_
  refine lv_iload_n hx hb dX8_print_4 rfl (lv_at hl 1 rfl) ?_
  refine m_callVi (As := [.int (iv ia)]) (rest := []) ⟨hx, hb, hml, hown, hts⟩ hK hH hS (c_X6_isKnownPrint l G μ n (x + 1) π ((aD u0).1) fp sp rd ia hZ hT (by omega)) (cwV 1 hts gX8_print_X6_isKnownPrint rfl rfl rfl (by decide +kernel) ⟨(Nat.le_of_ble_eq_true rfl), (Nat.le_of_ble_eq_true rfl)⟩) hZ.1 rfl rfl rfl rfl hl.1 (Nat.le_of_ble_eq_true rfl) dX8_print_5 ⟨Nat.zero_le _, Nat.zero_le _⟩ (fun z4 μ1 n2 H locs hz4 hp3 hH hS => ?_)
  obtain ⟨hz9, hm9, hn9⟩ := hp3
  rw [hm9, hn9] at hH
  have hz4c : (z4 = 1 ∧ (0 ≤ ia ∧ ia < 12 ∧ ia < ((aD u0).1) 5)) ∨ (z4 = 0 ∧ ¬ (0 ≤ ia ∧ ia < 12 ∧ ia < ((aD u0).1) 5)) := by
    by_cases q9 : 0 ≤ ia ∧ ia < 12 ∧ ia < ((aD u0).1) 5
    · rw [if_pos q9] at hz9; exact Or.inl ⟨hz9, q9⟩
    · rw [if_neg q9] at hz9; exact Or.inr ⟨hz9, q9⟩
  clear hz9 hm9 hn9
  refine j_if_ne (tgt := 13) hx hb dX8_print_8 (by decide) (fun c5 => ?_) (fun c5 => ?_) (by omega)
  · skip
    obtain ⟨jn, hjn⟩ : ∃ jn : Nat, jn = ia.toNat := ⟨_, rfl⟩
    have hje : ia = (jn : Int) := by omega
    clear hjn
    subst hje
    have hj12 : jn < 12 := by omega
    have hok := hT.2.2.2.2 jn hj12
    have hPR := hZ.2.2.2 ((((aD u0).1) 5 - 1 - (jn : Int)) % 12).toNat (by omega)
    rw [pix_of hj12] at hPR
    have hf : ((aD u0).1) (15 + 6 * jn) = ((((aD u0).1) (15 + 6 * jn)).toNat : Int) := (Int.toNat_of_nonneg hok.2.2.1.1).symm
    have hg : ((aD u0).1) (16 + 6 * jn) = ((((aD u0).1) (16 + 6 * jn)).toNat : Int) := (Int.toNat_of_nonneg hok.2.2.2.1.1).symm
    have hPR2 : μ (x + 1 + 17 + ((((aD u0).1) 5 - 1 - (jn : Int)) % 12).toNat) = some (.inr (2, [.int (iv (((aD u0).1) (13 + 6 * jn))), .int (iv (((aD u0).1) (14 + 6 * jn))), .int (iv (((((aD u0).1) (15 + 6 * jn)).toNat : Nat) : Int)), .int (iv (((((aD u0).1) (16 + 6 * jn)).toNat : Nat) : Int)), .int (iv (((aD u0).1) (17 + 6 * jn))), .int (iv (((aD u0).1) (18 + 6 * jn)))])) := by rw [← hf, ← hg]; exact hPR
    refine lv_aload_n hx hb dX8_print_13 rfl (lv_at hl 0 rfl) ?_
    refine m_get (C := RX8) (T := TX8) (N := 6) (ci := 7) hx hb hts i_X8 hown hK hH hX rfl 0 (by decide) f_0 rfl dX8_print_14 ?_
    refine m_get (C := RX6) (T := TX6) (N := 8) (ci := 5) hx hb hts i_X6 hown hK hH hZ.1 rfl 1 (by decide) f_2 rfl dX8_print_17 ?_
    refine lv_aload_n hx hb dX8_print_20 rfl (lv_at hl 0 rfl) ?_
    refine m_get (C := RX8) (T := TX8) (N := 6) (ci := 7) hx hb hts i_X8 hown hK hH hX rfl 0 (by decide) f_0 rfl dX8_print_21 ?_
    refine lv_iload_n hx hb dX8_print_24 rfl (lv_at hl 1 rfl) ?_
    refine m_callVi (As := [.int (iv (jn : Int))]) (rest := [.ref (x + 1 + 16)]) ⟨hx, hb, hml, hown, hts⟩ hK hH hS (c_X6_rowOfPrint l G μ n (x + 1) π ((aD u0).1) fp sp rd (jn : Int) hZ.1 h5 (by omega)) (cwV 1 hts gX8_print_X6_rowOfPrint rfl rfl rfl (by decide +kernel) ⟨(Nat.le_of_ble_eq_true rfl), (Nat.le_of_ble_eq_true rfl)⟩) hZ.1 rfl rfl rfl rfl hl.1 (Nat.le_of_ble_eq_true rfl) dX8_print_25 ⟨Nat.zero_le _, Nat.zero_le _⟩ (fun z9 μ6 n7 H locs hz9 hp8 hH hS => ?_)
    obtain ⟨hz2, hm2, hn2⟩ := hp8; rw [hz2]; rw [hm2, hn2] at hH; clear hz2 hm2 hn2
    refine m_aald (b := (x + 1 + 17 + ((((aD u0).1) 5 - 1 - (jn : Int)) % 12).toNat)) hx hb hK hH 3 hZ.2.2.1 rfl rfl dX8_print_28 ?_ (by omega) (by omega)
    refine lv_astore_n (lv' := [(3, .ref (x + 1 + 17 + ((((aD u0).1) 5 - 1 - (jn : Int)) % 12).toNat)), (0, .ref x), (1, .int (iv (jn : Int))), (2, .int (iv wa))]) hx hb dX8_print_29 rfl hl (by decide) rfl (fun ls hl => ?_)
    refine lv_iload_n hx hb dX8_print_30 rfl (lv_at hl 3 rfl) ?_
    by_cases k10_0 : wa = 0
    · skip
      refine j_table hx hb (tgt := 76) (0) k10_0 dX8_print_31 ?_
      refine lv_aload_n hx hb dX8_print_76 rfl (lv_at hl 0 rfl) ?_
      refine m_get (C := RX3) (T := TX3) (N := 6) (ci := 2) hx hb hts i_X3 hown hK hH hPR rfl 0 (by decide) f_4 rfl dX8_print_77 ?_
      subst hQ
      refine m_iret hx hb hr hlocks hH hS dX8_print_80 ?_ (by omega)
      refine ⟨?_, rfl, rfl⟩
      unfold a_print
      rw [show ((jn : Nat) : Int).toNat = jn from rfl]
      rw [if_pos (by omega), if_pos (by omega)]
    by_cases k10_1 : wa = 1
    · skip
      refine j_table hx hb (tgt := 81) (1) k10_1 dX8_print_31 ?_
      refine lv_aload_n hx hb dX8_print_81 rfl (lv_at hl 0 rfl) ?_
      refine m_get (C := RX3) (T := TX3) (N := 6) (ci := 2) hx hb hts i_X3 hown hK hH hPR rfl 1 (by decide) f_6 rfl dX8_print_82 ?_
      subst hQ
      refine m_iret hx hb hr hlocks hH hS dX8_print_85 ?_ (by omega)
      refine ⟨?_, rfl, rfl⟩
      unfold a_print
      rw [show ((jn : Nat) : Int).toNat = jn from rfl]
      rw [if_pos (by omega), if_neg (by omega), if_pos (by omega)]
    by_cases k10_2 : wa = 2
    · skip
      refine j_table hx hb (tgt := 86) (2) k10_2 dX8_print_31 ?_
      refine lv_aload_n hx hb dX8_print_86 rfl (lv_at hl 0 rfl) ?_
      refine m_get (C := RX3) (T := TX3) (N := 6) (ci := 2) hx hb hts i_X3 hown hK hH hPR rfl 2 (by decide) f_7 rfl dX8_print_87 ?_
      subst hQ
      refine m_iret hx hb hr hlocks hH hS dX8_print_90 ?_ (by omega)
      refine ⟨?_, rfl, rfl⟩
      unfold a_print
      rw [show ((jn : Nat) : Int).toNat = jn from rfl]
      rw [if_pos (by omega), if_neg (by omega), if_neg (by omega), if_pos (by omega)]
    by_cases k10_3 : wa = 3
    · skip
      refine j_table hx hb (tgt := 91) (3) k10_3 dX8_print_31 ?_
      refine lv_aload_n hx hb dX8_print_91 rfl (lv_at hl 0 rfl) ?_
      refine m_get (C := RX3) (T := TX3) (N := 6) (ci := 2) hx hb hts i_X3 hown hK hH hPR rfl 3 (by decide) f_8 rfl dX8_print_92 ?_
      subst hQ
      refine m_iret hx hb hr hlocks hH hS dX8_print_95 ?_ (by omega)
      refine ⟨?_, rfl, rfl⟩
      unfold a_print
      rw [show ((jn : Nat) : Int).toNat = jn from rfl]
      rw [if_pos (by omega), if_neg (by omega), if_neg (by omega), if_neg (by omega), if_pos (by omega)]
    by_cases k10_4 : wa = 4
    · skip
      refine j_table hx hb (tgt := 96) (4) k10_4 dX8_print_31 ?_
      refine lv_aload_n hx hb dX8_print_96 rfl (lv_at hl 0 rfl) ?_
      refine m_get (C := RX3) (T := TX3) (N := 6) (ci := 2) hx hb hts i_X3 hown hK hH hPR rfl 4 (by decide) f_9 rfl dX8_print_97 ?_
      refine j_if_eq (tgt := 107) hx hb dX8_print_100 (by decide) (fun c11 => ?_) (fun c11 => ?_) (by omega)
      · skip
        refine j_const hx hb dX8_print_107 ?_
        subst hQ
        refine m_iret hx hb hr hlocks hH hS dX8_print_108 ?_ (by omega)
        refine ⟨?_, rfl, rfl⟩
        unfold a_print
        rw [show ((jn : Nat) : Int).toNat = jn from rfl]
        rw [if_pos (by omega), if_neg (by omega), if_neg (by omega), if_neg (by omega), if_neg (by omega), if_pos (by omega)]
        omega
      · skip
        refine j_const hx hb dX8_print_103 ?_
        refine lv_goto (tgt := 108) hx hb dX8_print_104 (by decide) ?_
        subst hQ
        refine m_iret hx hb hr hlocks hH hS dX8_print_108 ?_ (by omega)
        refine ⟨?_, rfl, rfl⟩
        unfold a_print
        rw [show ((jn : Nat) : Int).toNat = jn from rfl]
        rw [if_pos (by omega), if_neg (by omega), if_neg (by omega), if_neg (by omega), if_neg (by omega), if_pos (by omega)]
        omega
    by_cases k10_5 : wa = 5
    · skip
      refine j_table hx hb (tgt := 109) (5) k10_5 dX8_print_31 ?_
      refine lv_aload_n hx hb dX8_print_109 rfl (lv_at hl 0 rfl) ?_
      refine m_get (C := RX3) (T := TX3) (N := 6) (ci := 2) hx hb hts i_X3 hown hK hH hPR rfl 5 (by decide) f_10 rfl dX8_print_110 ?_
      subst hQ
      refine m_iret hx hb hr hlocks hH hS dX8_print_113 ?_ (by omega)
      refine ⟨?_, rfl, rfl⟩
      unfold a_print
      rw [show ((jn : Nat) : Int).toNat = jn from rfl]
      rw [if_pos (by omega), if_neg (by omega), if_neg (by omega), if_neg (by omega), if_neg (by omega), if_neg (by omega), if_pos (by omega)]
    by_cases k10_6 : wa = 6
    · skip
      refine j_table hx hb (tgt := 114) (6) k10_6 dX8_print_31 ?_
      refine lv_aload_n hx hb dX8_print_114 rfl (lv_at hl 0 rfl) ?_
      refine m_get (C := RX3) (T := TX3) (N := 6) (ci := 2) hx hb hts i_X3 hown hK hH hPR rfl 0 (by decide) f_4 rfl dX8_print_115 ?_
      refine lv_aload_n hx hb dX8_print_118 rfl (lv_at hl 0 rfl) ?_
      refine m_callVi (As := []) (rest := [.int (iv (((aD u0).1) (13 + 6 * jn)))]) ⟨hx, hb, hml, hown, hts⟩ hK hH hS (c_X3_clearPlaces l G μ n (x + 1 + 17 + ((((aD u0).1) 5 - 1 - (jn : Int)) % 12).toNat) (((aD u0).1) (13 + 6 * jn)) (((aD u0).1) (14 + 6 * jn)) (((aD u0).1) (17 + 6 * jn)) (((aD u0).1) (18 + 6 * jn)) (((aD u0).1) (15 + 6 * jn)).toNat (((aD u0).1) (16 + 6 * jn)).toNat hPR2 (by omega) (by omega)) (cwV 0 hts gX8_print_X3_clearPlaces rfl rfl rfl (by decide +kernel) ⟨(Nat.le_of_ble_eq_true rfl), (Nat.le_of_ble_eq_true rfl)⟩) hPR rfl rfl rfl rfl hl.1 (Nat.le_of_ble_eq_true rfl) dX8_print_119 ⟨Nat.zero_le _, Nat.zero_le _⟩ (fun z15 μ12 n13 H locs hz15 hp14 hH hS => ?_)
      obtain ⟨hz2, hm2, hn2⟩ := hp14; rw [hz2]; rw [hm2, hn2] at hH; clear hz2 hm2 hn2
      have hag := acnt_rng ((aD u0).1 (13 + 6 * jn)) (clr (aD u0).1 jn) 36525
      have hfg := afst_rng ((aD u0).1 (13 + 6 * jn)) (clr (aD u0).1 jn) 36525
      refine m_callSi (As := [.int (iv (((aD u0).1) (13 + 6 * jn))), .int (iv ((clr ((aD u0).1) jn : Nat) : Int))]) (rest := []) ⟨hx, hb, hml, hown, hts⟩ hK hH hS (c_X1_daysAgreeing l G μ n (((aD u0).1) (13 + 6 * jn)) (clr ((aD u0).1) jn) hok.1 (clr_lt _ _)) (va_cwS 2 hts gX8_print_X1_daysAgreeing rfl rfl rfl (by decide +kernel) ⟨(Nat.le_of_ble_eq_true rfl), (Nat.le_of_ble_eq_true rfl)⟩) rfl rfl hl.1 (Nat.le_of_ble_eq_true rfl) dX8_print_122 ⟨Nat.zero_le _, Nat.zero_le _⟩ (fun z19 μ16 n17 H locs hz19 hp18 hH hS => ?_)
      obtain ⟨hz2, hm2, hn2⟩ := hp18; rw [hz2]; rw [hm2, hn2] at hH; clear hz2 hm2 hn2
      subst hQ
      refine m_iret hx hb hr hlocks hH hS dX8_print_125 ?_ (by omega)
      refine ⟨?_, rfl, rfl⟩
      unfold a_print
      rw [show ((jn : Nat) : Int).toNat = jn from rfl]
      rw [if_pos (by omega), if_neg (by omega), if_neg (by omega), if_neg (by omega), if_neg (by omega), if_neg (by omega), if_neg (by omega), if_pos (by omega)]
    by_cases k10_7 : wa = 7
    · skip
      refine j_table hx hb (tgt := 126) (7) k10_7 dX8_print_31 ?_
      refine lv_aload_n hx hb dX8_print_126 rfl (lv_at hl 0 rfl) ?_
      refine m_get (C := RX3) (T := TX3) (N := 6) (ci := 2) hx hb hts i_X3 hown hK hH hPR rfl 0 (by decide) f_4 rfl dX8_print_127 ?_
      refine lv_aload_n hx hb dX8_print_130 rfl (lv_at hl 0 rfl) ?_
      refine m_callVi (As := []) (rest := [.int (iv (((aD u0).1) (13 + 6 * jn)))]) ⟨hx, hb, hml, hown, hts⟩ hK hH hS (c_X3_clearPlaces l G μ n (x + 1 + 17 + ((((aD u0).1) 5 - 1 - (jn : Int)) % 12).toNat) (((aD u0).1) (13 + 6 * jn)) (((aD u0).1) (14 + 6 * jn)) (((aD u0).1) (17 + 6 * jn)) (((aD u0).1) (18 + 6 * jn)) (((aD u0).1) (15 + 6 * jn)).toNat (((aD u0).1) (16 + 6 * jn)).toNat hPR2 (by omega) (by omega)) (cwV 0 hts gX8_print_X3_clearPlaces rfl rfl rfl (by decide +kernel) ⟨(Nat.le_of_ble_eq_true rfl), (Nat.le_of_ble_eq_true rfl)⟩) hPR rfl rfl rfl rfl hl.1 (Nat.le_of_ble_eq_true rfl) dX8_print_131 ⟨Nat.zero_le _, Nat.zero_le _⟩ (fun z23 μ20 n21 H locs hz23 hp22 hH hS => ?_)
      obtain ⟨hz2, hm2, hn2⟩ := hp22; rw [hz2]; rw [hm2, hn2] at hH; clear hz2 hm2 hn2
      have hag := acnt_rng ((aD u0).1 (13 + 6 * jn)) (clr (aD u0).1 jn) 36525
      have hfg := afst_rng ((aD u0).1 (13 + 6 * jn)) (clr (aD u0).1 jn) 36525
      refine m_callSi (As := [.int (iv (((aD u0).1) (13 + 6 * jn))), .int (iv ((clr ((aD u0).1) jn : Nat) : Int))]) (rest := []) ⟨hx, hb, hml, hown, hts⟩ hK hH hS (c_X1_firstAgreeing l G μ n (((aD u0).1) (13 + 6 * jn)) (clr ((aD u0).1) jn) hok.1 (clr_lt _ _)) (va_cwS 2 hts gX8_print_X1_firstAgreeing rfl rfl rfl (by decide +kernel) ⟨(Nat.le_of_ble_eq_true rfl), (Nat.le_of_ble_eq_true rfl)⟩) rfl rfl hl.1 (Nat.le_of_ble_eq_true rfl) dX8_print_134 ⟨Nat.zero_le _, Nat.zero_le _⟩ (fun z27 μ24 n25 H locs hz27 hp26 hH hS => ?_)
      obtain ⟨hz2, hm2, hn2⟩ := hp26; rw [hz2]; rw [hm2, hn2] at hH; clear hz2 hm2 hn2
      subst hQ
      refine m_iret hx hb hr hlocks hH hS dX8_print_137 ?_ (by omega)
      refine ⟨?_, rfl, rfl⟩
      unfold a_print
      rw [show ((jn : Nat) : Int).toNat = jn from rfl]
      rw [if_pos (by omega), if_neg (by omega), if_neg (by omega), if_neg (by omega), if_neg (by omega), if_neg (by omega), if_neg (by omega), if_neg (by omega), if_pos (by omega)]
    refine j_tableO (tgt := 138) hx hb dX8_print_31 (by omega) ?_ (by decide) (by omega)
    refine j_bipush hx hb dX8_print_138 ?_ (by decide)
    subst hQ
    refine m_iret hx hb hr hlocks hH hS dX8_print_140 ?_ (by omega)
    refine ⟨?_, rfl, rfl⟩
    unfold a_print
    rw [show ((jn : Nat) : Int).toNat = jn from rfl]
    rw [if_pos (by omega), if_neg (by omega), if_neg (by omega), if_neg (by omega), if_neg (by omega), if_neg (by omega), if_neg (by omega), if_neg (by omega), if_neg (by omega)]
  · skip
    refine j_const hx hb dX8_print_11 ?_
    subst hQ
    refine m_iret hx hb hr hlocks hH hS dX8_print_12 ?_ (by omega)
    refine ⟨?_, rfl, rfl⟩
    unfold a_print
    rw [if_neg (by omega)]

abbrev rm_c_X8_rightOf : Room := { frames := 1, cells := 0, slots := 0, locals := 22 }
set_option maxHeartbeats 4000000 in
set_option maxRecDepth 100000 in
theorem c_X8_rightOf (l : Launch) (G : wG) (μ : hM) (n : Nat) (x rb : Nat) (u0 : aS) (k : Int) (hD : IsD G μ x rb u0) (hk1 : -2147483648 ≤ k ∧ k ≤ 2147483647) : Met l yX8_rightOf wsX8_rightOf rm_c_X8_rightOf (mPc G μ n [.ref x, .int (iv k)]) (mQi G (fun z μ1 n1 => z = a_rightOf (aD u0) k ∧ μ1 = μ ∧ n1 = n)) 0 0 (gA G) := by
  refine Met.ofW (cc := cX8_rightOf) (maxL := 2) (ret := (some .int)) (by decide) rfl ?_
  intro p e s m args below meth c s₁ B hml hv
  obtain ⟨hav, hK, hH⟩ := hv
  have hx := B.exec
  have hb := B.bytes
  have hr := B.returns
  have hts := atoms_spec (ws := wsX8_rightOf) B.pre
  have hown : s.vm.findClass RX8 = some m.cls := findClass_of_methodNamed B.named
  have hlocks := B.notSynchronized
  have hS : va_S (gA G) s.heap s.heap [] := va_S.rf
  have hl := lv_entry ([.ref x, .int (iv k)]) (n := 2) (Nat.le_of_ble_eq_true rfl)
  have hfr : entryFrame m args 2 = entryFrame m ([.ref x, .int (iv k)] : List Value).toArray 2 := by rw [hav]
  rw [hfr, lg_entry_eq]
  generalize (lg_sl ([.ref x, .int (iv k)]) ++ List.replicate (2 - (lg_sl ([.ref x, .int (iv k)])).length) Slot.unset).toArray = ls at hl ⊢
  have hl : lv_has ls 2 [(0, .ref x), (1, .int (iv k))] := hl
  generalize hQ : MQ below _ args s 0 0 (gA G) = Q
  show W p l e rm_c_X8_rightOf s m args below meth c s.heap [] 0 0 Q (F0 m 0 ls [])
  obtain ⟨H, hHe⟩ : ∃ H, H = s.heap := ⟨_, rfl⟩
  obtain ⟨locs, hlo⟩ : ∃ q : List Loc, q = [] := ⟨_, rfl⟩
  have hH : gP G μ n H := by rw [hHe]; exact hH
  have hS : va_S (gA G) s.heap H locs := by rw [hHe, hlo]; exact hS
  suffices hgo : W p l e rm_c_X8_rightOf s m args below meth c H locs 0 0 Q (F0 m 0 ls []) by rw [hHe, hlo] at hgo; exact hgo
  clear hHe hlo hfr hav
  have f_0 := hts (.fieldLink RX8 10 "StampDater" "state" "LStampDater$State;") (List.mem_of_getElem? (i := 1) rfl)
  have i_X8 : ∀ w ∈ u_ws RX8 TX8 6, w ∈ wsX8_rightOf := by decide +kernel
  have hfr : DFr x μ μ := DFr.rf
  have hD9 := hD
  obtain ⟨hX, ⟨π, fp, sp, rd, hZ, hC, hT, hch⟩, ⟨ρ, πs, fps, sps, rds, hL, hLs⟩, ⟨πk, fpk, spk, rdk, hY, hCk, hTk, hchk⟩, ⟨to, td, tk, tn, tt, ta, hTX⟩, ⟨πr, τr, fpr, spr, hI2, hOk2⟩, hsz, hkt, hOC, hrb, hlast⟩ := hD9
  have h3 := hT.2.1
  have h5 := hT.2.2.1
  have hS0 := hT.1
  have h4 := hS0.2.2.2.1
  refine lv_iload_n hx hb dX8_rightOf_0 rfl (lv_at hl 1 rfl) ?_
  refine m_callSi (As := [.int (iv k)]) (rest := []) ⟨hx, hb, hml, hown, hts⟩ hK hH hS (c_X1_isDay l G μ n k (by omega)) (va_cwS 1 hts gX8_rightOf_X1_isDay rfl rfl rfl (by decide +kernel) ⟨(Nat.le_of_ble_eq_true rfl), (Nat.le_of_ble_eq_true rfl)⟩) rfl rfl hl.1 (Nat.le_of_ble_eq_true rfl) dX8_rightOf_1 ⟨Nat.zero_le _, Nat.zero_le _⟩ (fun z4 μ1 n2 H locs hz4 hp3 hH hS => ?_)
  obtain ⟨hz9, hm9, hn9⟩ := hp3
  rw [hm9, hn9] at hH
  have hz4c : (z4 = 1 ∧ (0 ≤ k ∧ k ≤ 36524)) ∨ (z4 = 0 ∧ ¬ (0 ≤ k ∧ k ≤ 36524)) := by
    by_cases q9 : 0 ≤ k ∧ k ≤ 36524
    · rw [if_pos q9] at hz9; exact Or.inl ⟨hz9, q9⟩
    · rw [if_neg q9] at hz9; exact Or.inr ⟨hz9, q9⟩
  clear hz9 hm9 hn9
  refine j_if_ne (tgt := 9) hx hb dX8_rightOf_4 (by decide) (fun c5 => ?_) (fun c5 => ?_) (by omega)
  · skip
    refine lv_aload_n hx hb dX8_rightOf_9 rfl (lv_at hl 0 rfl) ?_
    refine m_get (C := RX8) (T := TX8) (N := 6) (ci := 7) hx hb hts i_X8 hown hK hH hX rfl 0 (by decide) f_0 rfl dX8_rightOf_10 ?_
    refine lv_iload_n hx hb dX8_rightOf_13 rfl (lv_at hl 1 rfl) ?_
    have hwz := wr32_rng (chOf (aD u0).2 k)
    refine m_callVi (As := [.int (iv k)]) (rest := []) ⟨hx, hb, hml, hown, hts⟩ hK hH hS (c_X6_rightPrintsOf l G μ n (x + 1) π ((aD u0).1) fp sp rd rb (aD u0).2 k hZ.1 hC (by omega) hch) (cwV 1 hts gX8_rightOf_X6_rightPrintsOf rfl rfl rfl (by decide +kernel) ⟨(Nat.le_of_ble_eq_true rfl), (Nat.le_of_ble_eq_true rfl)⟩) hZ.1 rfl rfl rfl rfl hl.1 (Nat.le_of_ble_eq_true rfl) dX8_rightOf_14 ⟨Nat.zero_le _, Nat.zero_le _⟩ (fun z9 μ6 n7 H locs hz9 hp8 hH hS => ?_)
    obtain ⟨hz2, hm2, hn2⟩ := hp8; rw [hz2]; rw [hm2, hn2] at hH; clear hz2 hm2 hn2
    subst hQ
    refine m_iret hx hb hr hlocks hH hS dX8_rightOf_17 ?_ (by omega)
    refine ⟨?_, rfl, rfl⟩
    unfold a_rightOf
    rw [if_pos (by omega)]
  · skip
    refine j_const hx hb dX8_rightOf_7 ?_
    subst hQ
    refine m_iret hx hb hr hlocks hH hS dX8_rightOf_8 ?_ (by omega)
    refine ⟨?_, rfl, rfl⟩
    unfold a_rightOf
    rw [if_neg (by omega)]

abbrev rm_c_X8_stepsTo : Room := { frames := 3, cells := 0, slots := 0, locals := 68 }
set_option maxHeartbeats 4000000 in
set_option maxRecDepth 100000 in
theorem c_X8_stepsTo (l : Launch) (G : wG) (μ : hM) (n : Nat) (x rb : Nat) (u0 : aS) (k : Int) (hD : IsD G μ x rb u0) (hk1 : -2147483648 ≤ k ∧ k ≤ 2147483647) : Met l yX8_stepsTo wsX8_stepsTo rm_c_X8_stepsTo (mPc G μ n [.ref x, .int (iv k)]) (mQi G (fun z μ1 n1 => z = a_stepsTo ((aD u0).1) k ∧ μ1 = μ ∧ n1 = n)) 0 0 (gA G) := by
  refine Met.ofW (cc := cX8_stepsTo) (maxL := 2) (ret := (some .int)) (by decide) rfl ?_
  intro p e s m args below meth c s₁ B hml hv
  obtain ⟨hav, hK, hH⟩ := hv
  have hx := B.exec
  have hb := B.bytes
  have hr := B.returns
  have hts := atoms_spec (ws := wsX8_stepsTo) B.pre
  have hown : s.vm.findClass RX8 = some m.cls := findClass_of_methodNamed B.named
  have hlocks := B.notSynchronized
  have hS : va_S (gA G) s.heap s.heap [] := va_S.rf
  have hl := lv_entry ([.ref x, .int (iv k)]) (n := 2) (Nat.le_of_ble_eq_true rfl)
  have hfr : entryFrame m args 2 = entryFrame m ([.ref x, .int (iv k)] : List Value).toArray 2 := by rw [hav]
  rw [hfr, lg_entry_eq]
  generalize (lg_sl ([.ref x, .int (iv k)]) ++ List.replicate (2 - (lg_sl ([.ref x, .int (iv k)])).length) Slot.unset).toArray = ls at hl ⊢
  have hl : lv_has ls 2 [(0, .ref x), (1, .int (iv k))] := hl
  generalize hQ : MQ below _ args s 0 0 (gA G) = Q
  show W p l e rm_c_X8_stepsTo s m args below meth c s.heap [] 0 0 Q (F0 m 0 ls [])
  obtain ⟨H, hHe⟩ : ∃ H, H = s.heap := ⟨_, rfl⟩
  obtain ⟨locs, hlo⟩ : ∃ q : List Loc, q = [] := ⟨_, rfl⟩
  have hH : gP G μ n H := by rw [hHe]; exact hH
  have hS : va_S (gA G) s.heap H locs := by rw [hHe, hlo]; exact hS
  suffices hgo : W p l e rm_c_X8_stepsTo s m args below meth c H locs 0 0 Q (F0 m 0 ls []) by rw [hHe, hlo] at hgo; exact hgo
  clear hHe hlo hfr hav
  have f_0 := hts (.fieldLink RX8 10 "StampDater" "state" "LStampDater$State;") (List.mem_of_getElem? (i := 1) rfl)
  have i_X8 : ∀ w ∈ u_ws RX8 TX8 6, w ∈ wsX8_stepsTo := by decide +kernel
  have f_2 := hts (.fieldLink RX8 63 "StampDater$State" "stamp" "LStampDater$Stamp;") (List.mem_of_getElem? (i := 2) rfl)
  have i_X6 : ∀ w ∈ u_ws RX6 TX6 8, w ∈ wsX8_stepsTo := by decide +kernel
  have hfr : DFr x μ μ := DFr.rf
  have hD9 := hD
  obtain ⟨hX, ⟨π, fp, sp, rd, hZ, hC, hT, hch⟩, ⟨ρ, πs, fps, sps, rds, hL, hLs⟩, ⟨πk, fpk, spk, rdk, hY, hCk, hTk, hchk⟩, ⟨to, td, tk, tn, tt, ta, hTX⟩, ⟨πr, τr, fpr, spr, hI2, hOk2⟩, hsz, hkt, hOC, hrb, hlast⟩ := hD9
  have h3 := hT.2.1
  have h5 := hT.2.2.1
  have hS0 := hT.1
  have h4 := hS0.2.2.2.1
  refine lv_iload_n hx hb dX8_stepsTo_0 rfl (lv_at hl 1 rfl) ?_
  refine m_callSi (As := [.int (iv k)]) (rest := []) ⟨hx, hb, hml, hown, hts⟩ hK hH hS (c_X1_isDay l G μ n k (by omega)) (va_cwS 1 hts gX8_stepsTo_X1_isDay rfl rfl rfl (by decide +kernel) ⟨(Nat.le_of_ble_eq_true rfl), (Nat.le_of_ble_eq_true rfl)⟩) rfl rfl hl.1 (Nat.le_of_ble_eq_true rfl) dX8_stepsTo_1 ⟨Nat.zero_le _, Nat.zero_le _⟩ (fun z4 μ1 n2 H locs hz4 hp3 hH hS => ?_)
  obtain ⟨hz9, hm9, hn9⟩ := hp3
  rw [hm9, hn9] at hH
  have hz4c : (z4 = 1 ∧ (0 ≤ k ∧ k ≤ 36524)) ∨ (z4 = 0 ∧ ¬ (0 ≤ k ∧ k ≤ 36524)) := by
    by_cases q9 : 0 ≤ k ∧ k ≤ 36524
    · rw [if_pos q9] at hz9; exact Or.inl ⟨hz9, q9⟩
    · rw [if_neg q9] at hz9; exact Or.inr ⟨hz9, q9⟩
  clear hz9 hm9 hn9
  refine j_if_ne (tgt := 9) hx hb dX8_stepsTo_4 (by decide) (fun c5 => ?_) (fun c5 => ?_) (by omega)
  · skip
    refine lv_aload_n hx hb dX8_stepsTo_9 rfl (lv_at hl 0 rfl) ?_
    refine m_get (C := RX8) (T := TX8) (N := 6) (ci := 7) hx hb hts i_X8 hown hK hH hX rfl 0 (by decide) f_0 rfl dX8_stepsTo_10 ?_
    refine m_get (C := RX6) (T := TX6) (N := 8) (ci := 5) hx hb hts i_X6 hown hK hH hZ.1 rfl 0 (by decide) f_2 rfl dX8_stepsTo_13 ?_
    refine lv_iload_n hx hb dX8_stepsTo_16 rfl (lv_at hl 1 rfl) ?_
    have hdr := dig_rng (day := k) (by omega)
    refine m_callSi (As := [.int (iv k)]) (rest := [.ref (x + 1 + 1)]) ⟨hx, hb, hml, hown, hts⟩ hK hH hS (c_X1_digitsOf l G μ n k (by omega)) (va_cwS 1 hts gX8_stepsTo_X1_digitsOf rfl rfl rfl (by decide +kernel) ⟨(Nat.le_of_ble_eq_true rfl), (Nat.le_of_ble_eq_true rfl)⟩) rfl rfl hl.1 (Nat.le_of_ble_eq_true rfl) dX8_stepsTo_17 ⟨Nat.zero_le _, Nat.zero_le _⟩ (fun z9 μ6 n7 H locs hz9 hp8 hH hS => ?_)
    obtain ⟨hz2, hm2, hn2⟩ := hp8; rw [hz2]; rw [hm2, hn2] at hH; clear hz2 hm2 hn2
    have hws := wsm_rng ((aD u0).1) (dig k) 0 6
    refine m_callVi (As := [.int (iv (dig k))]) (rest := []) ⟨hx, hb, hml, hown, hts⟩ hK hH hS (c_X5_stepsToDigits l G μ n (x + 1 + 1) π ((aD u0).1) fp sp (dig k) hZ.2.1 hT.1 (by omega)) (cwV 1 hts gX8_stepsTo_X5_stepsToDigits rfl rfl rfl (by decide +kernel) ⟨(Nat.le_of_ble_eq_true rfl), (Nat.le_of_ble_eq_true rfl)⟩) hZ.2.1.1 rfl rfl rfl rfl hl.1 (Nat.le_of_ble_eq_true rfl) dX8_stepsTo_20 ⟨Nat.zero_le _, Nat.zero_le _⟩ (fun z13 μ10 n11 H locs hz13 hp12 hH hS => ?_)
    obtain ⟨hz2, hm2, hn2⟩ := hp12; rw [hz2]; rw [hm2, hn2] at hH; clear hz2 hm2 hn2
    subst hQ
    refine m_iret hx hb hr hlocks hH hS dX8_stepsTo_23 ?_ (by omega)
    refine ⟨?_, rfl, rfl⟩
    unfold a_stepsTo
    rw [if_pos (by omega)]
  · skip
    refine j_const hx hb dX8_stepsTo_7 ?_
    subst hQ
    refine m_iret hx hb hr hlocks hH hS dX8_stepsTo_8 ?_ (by omega)
    refine ⟨?_, rfl, rfl⟩
    unfold a_stepsTo
    rw [if_neg (by omega)]

abbrev rm_c_X8_leastPress : Room := { frames := 3, cells := 0, slots := 0, locals := 69 }
set_option maxHeartbeats 4000000 in
set_option maxRecDepth 100000 in
theorem c_X8_leastPress (l : Launch) (G : wG) (μ : hM) (n : Nat) (x rb : Nat) (u0 : aS)  (hD : IsD G μ x rb u0) : Met l yX8_leastPress wsX8_leastPress rm_c_X8_leastPress (mPc G μ n [.ref x]) (mQi G (fun z μ1 n1 => z = a_leastPress ((aD u0).1) ∧ μ1 = μ ∧ n1 = n)) 0 0 (gA G) := by
  refine Met.ofW (cc := cX8_leastPress) (maxL := 2) (ret := (some .int)) (by decide) rfl ?_
  intro p e s m args below meth c s₁ B hml hv
  obtain ⟨hav, hK, hH⟩ := hv
  have hx := B.exec
  have hb := B.bytes
  have hr := B.returns
  have hts := atoms_spec (ws := wsX8_leastPress) B.pre
  have hown : s.vm.findClass RX8 = some m.cls := findClass_of_methodNamed B.named
  have hlocks := B.notSynchronized
  have hS : va_S (gA G) s.heap s.heap [] := va_S.rf
  have hl := lv_entry ([.ref x]) (n := 2) (Nat.le_of_ble_eq_true rfl)
  have hfr : entryFrame m args 2 = entryFrame m ([.ref x] : List Value).toArray 2 := by rw [hav]
  rw [hfr, lg_entry_eq]
  generalize (lg_sl ([.ref x]) ++ List.replicate (2 - (lg_sl ([.ref x])).length) Slot.unset).toArray = ls at hl ⊢
  have hl : lv_has ls 2 [(0, .ref x)] := hl
  generalize hQ : MQ below _ args s 0 0 (gA G) = Q
  show W p l e rm_c_X8_leastPress s m args below meth c s.heap [] 0 0 Q (F0 m 0 ls [])
  obtain ⟨H, hHe⟩ : ∃ H, H = s.heap := ⟨_, rfl⟩
  obtain ⟨locs, hlo⟩ : ∃ q : List Loc, q = [] := ⟨_, rfl⟩
  have hH : gP G μ n H := by rw [hHe]; exact hH
  have hS : va_S (gA G) s.heap H locs := by rw [hHe, hlo]; exact hS
  suffices hgo : W p l e rm_c_X8_leastPress s m args below meth c H locs 0 0 Q (F0 m 0 ls []) by rw [hHe, hlo] at hgo; exact hgo
  clear hHe hlo hfr hav
  have f_0 := hts (.fieldLink RX8 10 "StampDater" "state" "LStampDater$State;") (List.mem_of_getElem? (i := 1) rfl)
  have i_X8 : ∀ w ∈ u_ws RX8 TX8 6, w ∈ wsX8_leastPress := by decide +kernel
  have f_2 := hts (.fieldLink RX8 63 "StampDater$State" "stamp" "LStampDater$Stamp;") (List.mem_of_getElem? (i := 2) rfl)
  have i_X6 : ∀ w ∈ u_ws RX6 TX6 8, w ∈ wsX8_leastPress := by decide +kernel
  have hfr : DFr x μ μ := DFr.rf
  have hD9 := hD
  obtain ⟨hX, ⟨π, fp, sp, rd, hZ, hC, hT, hch⟩, ⟨ρ, πs, fps, sps, rds, hL, hLs⟩, ⟨πk, fpk, spk, rdk, hY, hCk, hTk, hchk⟩, ⟨to, td, tk, tn, tt, ta, hTX⟩, ⟨πr, τr, fpr, spr, hI2, hOk2⟩, hsz, hkt, hOC, hrb, hlast⟩ := hD9
  have h3 := hT.2.1
  have h5 := hT.2.2.1
  have hS0 := hT.1
  have h4 := hS0.2.2.2.1
  refine j_const hx hb dX8_leastPress_0 ?_
  refine lv_istore_n (lv' := [(1, .int (iv 1)), (0, .ref x)]) hx hb dX8_leastPress_1 rfl hl (by decide) rfl (fun ls hl => ?_)
  have lp2 : ∀ (fuel : Nat) (i : Int) (hi : 1 ≤ i ∧ i ≤ 10) (he : a_leastPress ((aD u0).1) = lpF ((aD u0).1) (10 - i).toNat i) (_ : (10 - i).toNat < fuel) (H : Heap) (locs : List Loc) (ls : Array Slot) (_ : gP G μ n H) (_ : va_S (gA G) s.heap H locs) (_ : lv_has ls 2 [(0, .ref x), (1, .int (iv i))]), W p l e rm_c_X8_leastPress s m args below meth c H locs 0 0 Q (F0 m 2 ls []) := by
    intro fuel
    induction fuel with
    | zero => intro _ _ _ hfuel; exact absurd hfuel (Nat.not_lt_zero _)
    | succ fuel ih =>
      intro i hi he hfuel H locs ls hH hS hl
      have ih1 := ih; clear ih
      refine lv_iload_n hx hb dX8_leastPress_2 rfl (lv_at hl 1 rfl) ?_
      refine j_bipush hx hb dX8_leastPress_3 ?_ (by decide)
      refine j_icmp_gt (tgt := 30) hx hb dX8_leastPress_5 (by decide) (fun c2 => ?_) (fun c2 => ?_) (by omega) (by omega)
      · skip
        refine j_bipush hx hb dX8_leastPress_30 ?_ (by decide)
        subst hQ
        refine m_iret hx hb hr hlocks hH hS dX8_leastPress_32 ?_ (by omega)
        refine ⟨?_, rfl, rfl⟩
        rw [he]
        rw [show (10 - i).toNat = 0 by omega]
        rfl
      · skip
        refine lv_aload_n hx hb dX8_leastPress_8 rfl (lv_at hl 0 rfl) ?_
        refine m_get (C := RX8) (T := TX8) (N := 6) (ci := 7) hx hb hts i_X8 hown hK hH hX rfl 0 (by decide) f_0 rfl dX8_leastPress_9 ?_
        refine m_get (C := RX6) (T := TX6) (N := 8) (ci := 5) hx hb hts i_X6 hown hK hH hZ.1 rfl 0 (by decide) f_2 rfl dX8_leastPress_12 ?_
        refine lv_iload_n hx hb dX8_leastPress_15 rfl (lv_at hl 1 rfl) ?_
        refine m_callVi (As := [.int (iv i)]) (rest := []) ⟨hx, hb, hml, hown, hts⟩ hK hH hS (c_X5_allClear l G μ n (x + 1 + 1) π ((aD u0).1) fp sp i hZ.2.1 hT.1 (by omega)) (cwV 1 hts gX8_leastPress_X5_allClear rfl rfl rfl (by decide +kernel) ⟨(Nat.le_of_ble_eq_true rfl), (Nat.le_of_ble_eq_true rfl)⟩) hZ.2.1.1 rfl rfl rfl rfl hl.1 (Nat.le_of_ble_eq_true rfl) dX8_leastPress_16 ⟨Nat.zero_le _, Nat.zero_le _⟩ (fun z6 μ3 n4 H locs hz6 hp5 hH hS => ?_)
        obtain ⟨hz9, hm9, hn9⟩ := hp5
        rw [hm9, hn9] at hH
        have hzr : 0 ≤ z6 ∧ z6 ≤ 1 := by rw [hz9]; split <;> omega
        refine j_if_eq (tgt := 24) hx hb dX8_leastPress_19 (by decide) (fun c7 => ?_) (fun c7 => ?_) (by omega)
        · skip
          have hno : ¬ (fbN ((aD u0).1) i 6 = 0 ∧ sbN ((aD u0).1) i 6 = 0) := by intro h9; rw [if_pos h9] at hz9; omega
          refine j_iinc (lv' := [(1, .int (iv (i + 1))), (0, .ref x)]) hx hb dX8_leastPress_24 hl (k := 1) rfl (by decide) rfl (fun ls hl => ?_)
          refine lv_goto (tgt := 2) hx hb dX8_leastPress_27 (by decide) ?_
          exact ih1 (i + 1) (by omega) (by rw [he, show (10 - i).toNat = (10 - (i + 1)).toNat + 1 by omega]; exact if_neg hno) (by omega) H locs ls hH hS (lv_sub hl [1, 0] rfl)
        · skip
          have hye : fbN ((aD u0).1) i 6 = 0 ∧ sbN ((aD u0).1) i 6 = 0 := by refine Decidable.byContradiction (fun h9 => ?_); rw [if_neg h9] at hz9; omega
          refine lv_iload_n hx hb dX8_leastPress_22 rfl (lv_at hl 1 rfl) ?_
          subst hQ
          refine m_iret hx hb hr hlocks hH hS dX8_leastPress_23 ?_ (by omega)
          refine ⟨?_, rfl, rfl⟩
          rw [he]
          rw [show (10 - i).toNat = (9 - i).toNat + 1 by omega]
          exact (if_pos hye).symm
  exact lp2 (11) 1 (by omega) rfl (by omega) H locs ls hH hS (lv_sub hl [1, 0] rfl)

abbrev rm_c_X8_count : Room := { frames := 3, cells := 0, slots := 0, locals := 66 }
set_option maxHeartbeats 4000000 in
set_option maxRecDepth 100000 in
theorem c_X8_count (l : Launch) (G : wG) (μ : hM) (n : Nat) (x rb : Nat) (u0 : aS) (wa : Int) (hD : IsD G μ x rb u0) (hwa1 : -2147483648 ≤ wa ∧ wa ≤ 2147483647) : Met l yX8_count wsX8_count rm_c_X8_count (mPc G μ n [.ref x, .int (iv wa)]) (mQi G (fun z μ1 n1 => z = a_count u0 wa ∧ μ1 = μ ∧ n1 = n)) 0 0 (gA G) := by
  refine Met.ofW (cc := cX8_count) (maxL := 2) (ret := (some .int)) (by decide) rfl ?_
  intro p e s m args below meth c s₁ B hml hv
  obtain ⟨hav, hK, hH⟩ := hv
  have hx := B.exec
  have hb := B.bytes
  have hr := B.returns
  have hts := atoms_spec (ws := wsX8_count) B.pre
  have hown : s.vm.findClass RX8 = some m.cls := findClass_of_methodNamed B.named
  have hlocks := B.notSynchronized
  have hS : va_S (gA G) s.heap s.heap [] := va_S.rf
  have hl := lv_entry ([.ref x, .int (iv wa)]) (n := 2) (Nat.le_of_ble_eq_true rfl)
  have hfr : entryFrame m args 2 = entryFrame m ([.ref x, .int (iv wa)] : List Value).toArray 2 := by rw [hav]
  rw [hfr, lg_entry_eq]
  generalize (lg_sl ([.ref x, .int (iv wa)]) ++ List.replicate (2 - (lg_sl ([.ref x, .int (iv wa)])).length) Slot.unset).toArray = ls at hl ⊢
  have hl : lv_has ls 2 [(0, .ref x), (1, .int (iv wa))] := hl
  generalize hQ : MQ below _ args s 0 0 (gA G) = Q
  show W p l e rm_c_X8_count s m args below meth c s.heap [] 0 0 Q (F0 m 0 ls [])
  obtain ⟨H, hHe⟩ : ∃ H, H = s.heap := ⟨_, rfl⟩
  obtain ⟨locs, hlo⟩ : ∃ q : List Loc, q = [] := ⟨_, rfl⟩
  have hH : gP G μ n H := by rw [hHe]; exact hH
  have hS : va_S (gA G) s.heap H locs := by rw [hHe, hlo]; exact hS
  suffices hgo : W p l e rm_c_X8_count s m args below meth c H locs 0 0 Q (F0 m 0 ls []) by rw [hHe, hlo] at hgo; exact hgo
  clear hHe hlo hfr hav
  have f_0 := hts (.fieldLink RX8 10 "StampDater" "state" "LStampDater$State;") (List.mem_of_getElem? (i := 1) rfl)
  have i_X8 : ∀ w ∈ u_ws RX8 TX8 6, w ∈ wsX8_count := by decide +kernel
  have f_2 := hts (.fieldLink RX8 48 "StampDater$State" "today" "I") (List.mem_of_getElem? (i := 2) rfl)
  have i_X6 : ∀ w ∈ u_ws RX6 TX6 8, w ∈ wsX8_count := by decide +kernel
  have f_4 := hts (.fieldLink RX8 63 "StampDater$State" "stamp" "LStampDater$Stamp;") (List.mem_of_getElem? (i := 3) rfl)
  have f_5 := hts (.fieldLink RX8 96 "StampDater$Stamp" "ink" "I") (List.mem_of_getElem? (i := 4) rfl)
  have i_X5 : ∀ w ∈ u_ws RX5 TX5 7, w ∈ wsX8_count := by decide +kernel
  have f_7 := hts (.fieldLink RX8 245 "StampDater$State" "printed" "I") (List.mem_of_getElem? (i := 5) rfl)
  have f_8 := hts (.fieldLink RX8 248 "StampDater$State" "right" "I") (List.mem_of_getElem? (i := 6) rfl)
  have f_9 := hts (.fieldLink RX8 250 "StampDater$State" "faint" "I") (List.mem_of_getElem? (i := 7) rfl)
  have f_10 := hts (.fieldLink RX8 251 "StampDater$State" "smudged" "I") (List.mem_of_getElem? (i := 8) rfl)
  have f_11 := hts (.fieldLink RX8 252 "StampDater$Stamp" "steps" "I") (List.mem_of_getElem? (i := 9) rfl)
  have f_12 := hts (.fieldLink RX8 255 "StampDater$Stamp" "slips" "I") (List.mem_of_getElem? (i := 10) rfl)
  have f_13 := hts (.fieldLink RX8 261 "StampDater$State" "rightDays" "LStampDater$RightDay;") (List.mem_of_getElem? (i := 11) rfl)
  have f_14 := hts (.fieldLink RX8 265 "StampDater$RightDay" "days" "I") (List.mem_of_getElem? (i := 12) rfl)
  have i_X4 : ∀ w ∈ u_ws RX4 TX4 4, w ∈ wsX8_count := by decide +kernel
  have f_16 := hts (.fieldLink RX8 19 "StampDater" "history" "LStampDater$History;") (List.mem_of_getElem? (i := 13) rfl)
  have f_17 := hts (.fieldLink RX8 168 "StampDater$History" "size" "I") (List.mem_of_getElem? (i := 14) rfl)
  have i_X2 : ∀ w ∈ u_ws RX2 TX2 2, w ∈ wsX8_count := by decide +kernel
  have f_19 := hts (.fieldLink RX8 33 "StampDater" "text" "LStampDater$Text;") (List.mem_of_getElem? (i := 15) rfl)
  have f_20 := hts (.fieldLink RX8 136 "StampDater$Text" "length" "I") (List.mem_of_getElem? (i := 16) rfl)
  have i_X7 : ∀ w ∈ u_ws RX7 TX7 8, w ∈ wsX8_count := by decide +kernel
  have f_22 := hts (.fieldLink RX8 128 "StampDater$Stamp" "settings" "[I") (List.mem_of_getElem? (i := 17) rfl)
  have hfr : DFr x μ μ := DFr.rf
  have hD9 := hD
  obtain ⟨hX, ⟨π, fp, sp, rd, hZ, hC, hT, hch⟩, ⟨ρ, πs, fps, sps, rds, hL, hLs⟩, ⟨πk, fpk, spk, rdk, hY, hCk, hTk, hchk⟩, ⟨to, td, tk, tn, tt, ta, hTX⟩, ⟨πr, τr, fpr, spr, hI2, hOk2⟩, hsz, hkt, hOC, hrb, hlast⟩ := hD9
  have h3 := hT.2.1
  have h5 := hT.2.2.1
  have hS0 := hT.1
  have h4 := hS0.2.2.2.1
  refine lv_iload_n hx hb dX8_count_0 rfl (lv_at hl 1 rfl) ?_
  by_cases k1_0 : wa = 0
  · skip
    refine j_table hx hb (tgt := 80) (0) k1_0 dX8_count_1 ?_
    refine lv_aload_n hx hb dX8_count_80 rfl (lv_at hl 0 rfl) ?_
    refine m_get (C := RX8) (T := TX8) (N := 6) (ci := 7) hx hb hts i_X8 hown hK hH hX rfl 0 (by decide) f_0 rfl dX8_count_81 ?_
    refine m_get (C := RX6) (T := TX6) (N := 8) (ci := 5) hx hb hts i_X6 hown hK hH hZ.1 rfl 2 (by decide) f_2 rfl dX8_count_84 ?_
    subst hQ
    refine m_iret hx hb hr hlocks hH hS dX8_count_87 ?_ (by omega)
    refine ⟨?_, rfl, rfl⟩
    unfold a_count
    rw [if_pos (by omega)]
  by_cases k1_1 : wa = 1
  · skip
    refine j_table hx hb (tgt := 88) (1) k1_1 dX8_count_1 ?_
    refine lv_aload_n hx hb dX8_count_88 rfl (lv_at hl 0 rfl) ?_
    refine m_get (C := RX8) (T := TX8) (N := 6) (ci := 7) hx hb hts i_X8 hown hK hH hX rfl 0 (by decide) f_0 rfl dX8_count_89 ?_
    refine m_get (C := RX6) (T := TX6) (N := 8) (ci := 5) hx hb hts i_X6 hown hK hH hZ.1 rfl 0 (by decide) f_4 rfl dX8_count_92 ?_
    refine m_get (C := RX5) (T := TX5) (N := 7) (ci := 4) hx hb hts i_X5 hown hK hH hZ.2.1.1 rfl 2 (by decide) f_5 rfl dX8_count_95 ?_
    subst hQ
    refine m_iret hx hb hr hlocks hH hS dX8_count_98 ?_ (by omega)
    refine ⟨?_, rfl, rfl⟩
    unfold a_count
    rw [if_neg (by omega), if_pos (by omega)]
  by_cases k1_2 : wa = 2
  · skip
    refine j_table hx hb (tgt := 99) (2) k1_2 dX8_count_1 ?_
    refine lv_aload_n hx hb dX8_count_99 rfl (lv_at hl 0 rfl) ?_
    refine m_get (C := RX8) (T := TX8) (N := 6) (ci := 7) hx hb hts i_X8 hown hK hH hX rfl 0 (by decide) f_0 rfl dX8_count_100 ?_
    refine m_get (C := RX6) (T := TX6) (N := 8) (ci := 5) hx hb hts i_X6 hown hK hH hZ.1 rfl 3 (by decide) f_7 rfl dX8_count_103 ?_
    subst hQ
    refine m_iret hx hb hr hlocks hH hS dX8_count_106 ?_ (by omega)
    refine ⟨?_, rfl, rfl⟩
    unfold a_count
    rw [if_neg (by omega), if_neg (by omega), if_pos (by omega)]
  by_cases k1_3 : wa = 3
  · skip
    refine j_table hx hb (tgt := 107) (3) k1_3 dX8_count_1 ?_
    refine lv_aload_n hx hb dX8_count_107 rfl (lv_at hl 0 rfl) ?_
    refine m_get (C := RX8) (T := TX8) (N := 6) (ci := 7) hx hb hts i_X8 hown hK hH hX rfl 0 (by decide) f_0 rfl dX8_count_108 ?_
    refine m_get (C := RX6) (T := TX6) (N := 8) (ci := 5) hx hb hts i_X6 hown hK hH hZ.1 rfl 4 (by decide) f_8 rfl dX8_count_111 ?_
    rw [← wr32_iv (((aD u0).1) 6)]
    have hwz := wr32_rng (((aD u0).1) 6)
    subst hQ
    refine m_iret hx hb hr hlocks hH hS dX8_count_114 ?_ (by omega)
    refine ⟨?_, rfl, rfl⟩
    unfold a_count
    rw [if_neg (by omega), if_neg (by omega), if_neg (by omega), if_pos (by omega)]
  by_cases k1_4 : wa = 4
  · skip
    refine j_table hx hb (tgt := 115) (4) k1_4 dX8_count_1 ?_
    refine lv_aload_n hx hb dX8_count_115 rfl (lv_at hl 0 rfl) ?_
    refine m_get (C := RX8) (T := TX8) (N := 6) (ci := 7) hx hb hts i_X8 hown hK hH hX rfl 0 (by decide) f_0 rfl dX8_count_116 ?_
    refine m_get (C := RX6) (T := TX6) (N := 8) (ci := 5) hx hb hts i_X6 hown hK hH hZ.1 rfl 5 (by decide) f_9 rfl dX8_count_119 ?_
    rw [← wr32_iv (((aD u0).1) 7)]
    have hwz := wr32_rng (((aD u0).1) 7)
    subst hQ
    refine m_iret hx hb hr hlocks hH hS dX8_count_122 ?_ (by omega)
    refine ⟨?_, rfl, rfl⟩
    unfold a_count
    rw [if_neg (by omega), if_neg (by omega), if_neg (by omega), if_neg (by omega), if_pos (by omega)]
  by_cases k1_5 : wa = 5
  · skip
    refine j_table hx hb (tgt := 123) (5) k1_5 dX8_count_1 ?_
    refine lv_aload_n hx hb dX8_count_123 rfl (lv_at hl 0 rfl) ?_
    refine m_get (C := RX8) (T := TX8) (N := 6) (ci := 7) hx hb hts i_X8 hown hK hH hX rfl 0 (by decide) f_0 rfl dX8_count_124 ?_
    refine m_get (C := RX6) (T := TX6) (N := 8) (ci := 5) hx hb hts i_X6 hown hK hH hZ.1 rfl 6 (by decide) f_10 rfl dX8_count_127 ?_
    rw [← wr32_iv (((aD u0).1) 8)]
    have hwz := wr32_rng (((aD u0).1) 8)
    subst hQ
    refine m_iret hx hb hr hlocks hH hS dX8_count_130 ?_ (by omega)
    refine ⟨?_, rfl, rfl⟩
    unfold a_count
    rw [if_neg (by omega), if_neg (by omega), if_neg (by omega), if_neg (by omega), if_neg (by omega), if_pos (by omega)]
  by_cases k1_6 : wa = 6
  · skip
    refine j_table hx hb (tgt := 131) (6) k1_6 dX8_count_1 ?_
    refine lv_aload_n hx hb dX8_count_131 rfl (lv_at hl 0 rfl) ?_
    refine m_get (C := RX8) (T := TX8) (N := 6) (ci := 7) hx hb hts i_X8 hown hK hH hX rfl 0 (by decide) f_0 rfl dX8_count_132 ?_
    refine m_get (C := RX6) (T := TX6) (N := 8) (ci := 5) hx hb hts i_X6 hown hK hH hZ.1 rfl 0 (by decide) f_4 rfl dX8_count_135 ?_
    refine m_get (C := RX5) (T := TX5) (N := 7) (ci := 4) hx hb hts i_X5 hown hK hH hZ.2.1.1 rfl 3 (by decide) f_11 rfl dX8_count_138 ?_
    rw [← wr32_iv (((aD u0).1) 9)]
    have hwz := wr32_rng (((aD u0).1) 9)
    subst hQ
    refine m_iret hx hb hr hlocks hH hS dX8_count_141 ?_ (by omega)
    refine ⟨?_, rfl, rfl⟩
    unfold a_count
    rw [if_neg (by omega), if_neg (by omega), if_neg (by omega), if_neg (by omega), if_neg (by omega), if_neg (by omega), if_pos (by omega)]
  by_cases k1_7 : wa = 7
  · skip
    refine j_table hx hb (tgt := 142) (7) k1_7 dX8_count_1 ?_
    refine lv_aload_n hx hb dX8_count_142 rfl (lv_at hl 0 rfl) ?_
    refine m_get (C := RX8) (T := TX8) (N := 6) (ci := 7) hx hb hts i_X8 hown hK hH hX rfl 0 (by decide) f_0 rfl dX8_count_143 ?_
    refine m_get (C := RX6) (T := TX6) (N := 8) (ci := 5) hx hb hts i_X6 hown hK hH hZ.1 rfl 0 (by decide) f_4 rfl dX8_count_146 ?_
    refine m_get (C := RX5) (T := TX5) (N := 7) (ci := 4) hx hb hts i_X5 hown hK hH hZ.2.1.1 rfl 4 (by decide) f_12 rfl dX8_count_149 ?_
    rw [← wr32_iv (((aD u0).1) 10)]
    have hwz := wr32_rng (((aD u0).1) 10)
    subst hQ
    refine m_iret hx hb hr hlocks hH hS dX8_count_152 ?_ (by omega)
    refine ⟨?_, rfl, rfl⟩
    unfold a_count
    rw [if_neg (by omega), if_neg (by omega), if_neg (by omega), if_neg (by omega), if_neg (by omega), if_neg (by omega), if_neg (by omega), if_pos (by omega)]
  by_cases k1_8 : wa = 8
  · skip
    refine j_table hx hb (tgt := 153) (8) k1_8 dX8_count_1 ?_
    have hsh := (shw_rng hS0).2.2.2.2.2.2
    refine lv_aload_n hx hb dX8_count_153 rfl (lv_at hl 0 rfl) ?_
    refine m_get (C := RX8) (T := TX8) (N := 6) (ci := 7) hx hb hts i_X8 hown hK hH hX rfl 0 (by decide) f_0 rfl dX8_count_154 ?_
    refine m_get (C := RX6) (T := TX6) (N := 8) (ci := 5) hx hb hts i_X6 hown hK hH hZ.1 rfl 0 (by decide) f_4 rfl dX8_count_157 ?_
    refine m_callVi (As := []) (rest := []) ⟨hx, hb, hml, hown, hts⟩ hK hH hS (c_X5_shownDigits l G μ n (x + 1 + 1) π ((aD u0).1) fp sp hZ.2.1 hT.1) (cwV 0 hts gX8_count_X5_shownDigits rfl rfl rfl (by decide +kernel) ⟨(Nat.le_of_ble_eq_true rfl), (Nat.le_of_ble_eq_true rfl)⟩) hZ.2.1.1 rfl rfl rfl rfl hl.1 (Nat.le_of_ble_eq_true rfl) dX8_count_160 ⟨Nat.zero_le _, Nat.zero_le _⟩ (fun z5 μ2 n3 H locs hz5 hp4 hH hS => ?_)
    obtain ⟨hz2, hm2, hn2⟩ := hp4; rw [hz2]; rw [hm2, hn2] at hH; clear hz2 hm2 hn2
    refine lv_aload_n hx hb dX8_count_163 rfl (lv_at hl 0 rfl) ?_
    refine m_get (C := RX8) (T := TX8) (N := 6) (ci := 7) hx hb hts i_X8 hown hK hH hX rfl 0 (by decide) f_0 rfl dX8_count_164 ?_
    refine m_get (C := RX6) (T := TX6) (N := 8) (ci := 5) hx hb hts i_X6 hown hK hH hZ.1 rfl 2 (by decide) f_2 rfl dX8_count_167 ?_
    have hdr := dig_rng (day := (((aD u0).1) 3)) (by omega)
    refine m_callSi (As := [.int (iv (((aD u0).1) 3))]) (rest := [.int (iv (shw ((aD u0).1) 6))]) ⟨hx, hb, hml, hown, hts⟩ hK hH hS (c_X1_digitsOf l G μ n (((aD u0).1) 3) (by omega)) (va_cwS 1 hts gX8_count_X1_digitsOf rfl rfl rfl (by decide +kernel) ⟨(Nat.le_of_ble_eq_true rfl), (Nat.le_of_ble_eq_true rfl)⟩) rfl rfl hl.1 (Nat.le_of_ble_eq_true rfl) dX8_count_170 ⟨Nat.zero_le _, Nat.zero_le _⟩ (fun z9 μ6 n7 H locs hz9 hp8 hH hS => ?_)
    obtain ⟨hz2, hm2, hn2⟩ := hp8; rw [hz2]; rw [hm2, hn2] at hH; clear hz2 hm2 hn2
    refine j_icmp_ne (tgt := 180) hx hb dX8_count_173 (by decide) (fun c10 => ?_) (fun c10 => ?_) (by omega) (by omega)
    · skip
      refine j_const hx hb dX8_count_180 ?_
      subst hQ
      refine m_iret hx hb hr hlocks hH hS dX8_count_181 ?_ (by omega)
      refine ⟨?_, rfl, rfl⟩
      unfold a_count
      rw [if_neg (by omega), if_neg (by omega), if_neg (by omega), if_neg (by omega), if_neg (by omega), if_neg (by omega), if_neg (by omega), if_neg (by omega), if_pos (by omega)]
      split <;> omega
    · skip
      refine j_const hx hb dX8_count_176 ?_
      refine lv_goto (tgt := 181) hx hb dX8_count_177 (by decide) ?_
      subst hQ
      refine m_iret hx hb hr hlocks hH hS dX8_count_181 ?_ (by omega)
      refine ⟨?_, rfl, rfl⟩
      unfold a_count
      rw [if_neg (by omega), if_neg (by omega), if_neg (by omega), if_neg (by omega), if_neg (by omega), if_neg (by omega), if_neg (by omega), if_neg (by omega), if_pos (by omega)]
      split <;> omega
  by_cases k1_9 : wa = 9
  · skip
    refine j_table hx hb (tgt := 182) (9) k1_9 dX8_count_1 ?_
    have hsh := (shw_rng hS0).2.2.2.2.2.2
    have hdd := dday_rng hsh
    refine lv_aload_n hx hb dX8_count_182 rfl (lv_at hl 0 rfl) ?_
    refine m_get (C := RX8) (T := TX8) (N := 6) (ci := 7) hx hb hts i_X8 hown hK hH hX rfl 0 (by decide) f_0 rfl dX8_count_183 ?_
    refine m_get (C := RX6) (T := TX6) (N := 8) (ci := 5) hx hb hts i_X6 hown hK hH hZ.1 rfl 0 (by decide) f_4 rfl dX8_count_186 ?_
    refine m_callVi (As := []) (rest := []) ⟨hx, hb, hml, hown, hts⟩ hK hH hS (c_X5_shownDigits l G μ n (x + 1 + 1) π ((aD u0).1) fp sp hZ.2.1 hT.1) (cwV 0 hts gX8_count_X5_shownDigits rfl rfl rfl (by decide +kernel) ⟨(Nat.le_of_ble_eq_true rfl), (Nat.le_of_ble_eq_true rfl)⟩) hZ.2.1.1 rfl rfl rfl rfl hl.1 (Nat.le_of_ble_eq_true rfl) dX8_count_189 ⟨Nat.zero_le _, Nat.zero_le _⟩ (fun z14 μ11 n12 H locs hz14 hp13 hH hS => ?_)
    obtain ⟨hz2, hm2, hn2⟩ := hp13; rw [hz2]; rw [hm2, hn2] at hH; clear hz2 hm2 hn2
    refine m_callSi (As := [.int (iv (shw ((aD u0).1) 6))]) (rest := []) ⟨hx, hb, hml, hown, hts⟩ hK hH hS (c_X1_dayOf l G μ n (shw ((aD u0).1) 6) (by omega)) (va_cwS 1 hts gX8_count_X1_dayOf rfl rfl rfl (by decide +kernel) ⟨(Nat.le_of_ble_eq_true rfl), (Nat.le_of_ble_eq_true rfl)⟩) rfl rfl hl.1 (Nat.le_of_ble_eq_true rfl) dX8_count_192 ⟨Nat.zero_le _, Nat.zero_le _⟩ (fun z18 μ15 n16 H locs hz18 hp17 hH hS => ?_)
    obtain ⟨hz2, hm2, hn2⟩ := hp17; rw [hz2]; rw [hm2, hn2] at hH; clear hz2 hm2 hn2
    subst hQ
    refine m_iret hx hb hr hlocks hH hS dX8_count_195 ?_ (by omega)
    refine ⟨?_, rfl, rfl⟩
    unfold a_count
    rw [if_neg (by omega), if_neg (by omega), if_neg (by omega), if_neg (by omega), if_neg (by omega), if_neg (by omega), if_neg (by omega), if_neg (by omega), if_neg (by omega), if_pos (by omega)]
  by_cases k1_10 : wa = 10
  · skip
    refine j_table hx hb (tgt := 196) (10) k1_10 dX8_count_1 ?_
    refine lv_aload_n hx hb dX8_count_196 rfl (lv_at hl 0 rfl) ?_
    refine m_get (C := RX8) (T := TX8) (N := 6) (ci := 7) hx hb hts i_X8 hown hK hH hX rfl 0 (by decide) f_0 rfl dX8_count_197 ?_
    refine m_get (C := RX6) (T := TX6) (N := 8) (ci := 5) hx hb hts i_X6 hown hK hH hZ.1 rfl 7 (by decide) f_13 rfl dX8_count_200 ?_
    refine j_ifnonnullq (tgt := 210) hx hb dX8_count_203 (by decide) (fun hna19 => ?_) (fun a19 hsa19 => ?_)
    · skip
      subst hna19
      have hch0 : (aD u0).2 = [] := by
        revert hC
        cases (aD u0).2 with
        | nil => intro _; rfl
        | cons q t => intro h; exact h.elim
      refine j_const hx hb dX8_count_206 ?_
      refine lv_goto (tgt := 220) hx hb dX8_count_207 (by decide) ?_
      subst hQ
      refine m_iret hx hb hr hlocks hH hS dX8_count_220 ?_ (by omega)
      refine ⟨?_, rfl, rfl⟩
      unfold a_count
      rw [hch0]
      rw [if_neg (by omega), if_neg (by omega), if_neg (by omega), if_neg (by omega), if_neg (by omega), if_neg (by omega), if_neg (by omega), if_neg (by omega), if_neg (by omega), if_neg (by omega), if_pos (by omega)]
      decide
    · skip
      subst hsa19
      obtain ⟨d9, n9, t9, e9, hch9, hA9⟩ : ∃ (d9 n9 : Int) (t9 : List (Int × Int)) (e9 : Option Nat), (aD u0).2 = (d9, n9) :: t9 ∧ μ a19 = some (.inr (3, [.int (iv d9), .int (iv n9), .int (iv ((t9.length : Int) + 1)), va_rf e9])) := by
        revert hC
        cases hq9 : (aD u0).2 with
        | nil => intro h; exact h.elim
        | cons q t =>
          obtain ⟨d, n⟩ := q
          intro h
          obtain ⟨e, h1, h2, h3⟩ := h
          exact ⟨d, n, t, e, rfl, h2⟩
      refine lv_aload_n hx hb dX8_count_210 rfl (lv_at hl 0 rfl) ?_
      refine m_get (C := RX8) (T := TX8) (N := 6) (ci := 7) hx hb hts i_X8 hown hK hH hX rfl 0 (by decide) f_0 rfl dX8_count_211 ?_
      refine m_get (C := RX6) (T := TX6) (N := 8) (ci := 5) hx hb hts i_X6 hown hK hH hZ.1 rfl 7 (by decide) f_13 rfl dX8_count_214 ?_
      refine m_get (C := RX4) (T := TX4) (N := 4) (ci := 3) hx hb hts i_X4 hown hK hH hA9 rfl 2 (by decide) f_14 rfl dX8_count_217 ?_
      rw [← wr32_iv ((t9.length : Int) + 1)]
      have hwz := wr32_rng ((t9.length : Int) + 1)
      subst hQ
      refine m_iret hx hb hr hlocks hH hS dX8_count_220 ?_ (by omega)
      refine ⟨?_, rfl, rfl⟩
      unfold a_count
      rw [hch9]
      rw [if_neg (by omega), if_neg (by omega), if_neg (by omega), if_neg (by omega), if_neg (by omega), if_neg (by omega), if_neg (by omega), if_neg (by omega), if_neg (by omega), if_neg (by omega), if_pos (by omega)]
      rfl
  by_cases k1_11 : wa = 11
  · skip
    refine j_table hx hb (tgt := 221) (11) k1_11 dX8_count_1 ?_
    refine lv_aload_n hx hb dX8_count_221 rfl (lv_at hl 0 rfl) ?_
    refine m_get (C := RX8) (T := TX8) (N := 6) (ci := 7) hx hb hts i_X8 hown hK hH hX rfl 1 (by decide) f_16 rfl dX8_count_222 ?_
    refine m_get (C := RX2) (T := TX2) (N := 2) (ci := 1) hx hb hts i_X2 hown hK hH hL.1 rfl 1 (by decide) f_17 rfl dX8_count_225 ?_
    subst hQ
    refine m_iret hx hb hr hlocks hH hS dX8_count_228 ?_ (by omega)
    refine ⟨?_, rfl, rfl⟩
    unfold a_count
    rw [if_neg (by omega), if_neg (by omega), if_neg (by omega), if_neg (by omega), if_neg (by omega), if_neg (by omega), if_neg (by omega), if_neg (by omega), if_neg (by omega), if_neg (by omega), if_neg (by omega), if_pos (by omega)]
  by_cases k1_12 : wa = 12
  · skip
    refine j_table hx hb (tgt := 229) (12) k1_12 dX8_count_1 ?_
    have hl0 := hOC.1
    refine lv_aload_n hx hb dX8_count_229 rfl (lv_at hl 0 rfl) ?_
    refine m_get (C := RX8) (T := TX8) (N := 6) (ci := 7) hx hb hts i_X8 hown hK hH hX rfl 4 (by decide) f_19 rfl dX8_count_230 ?_
    refine m_get (C := RX7) (T := TX7) (N := 8) (ci := 6) hx hb hts i_X7 hown hK hH hTX.1 rfl 1 (by decide) f_20 rfl dX8_count_233 ?_
    subst hQ
    refine m_iret hx hb hr hlocks hH hS dX8_count_236 ?_ (by omega)
    refine ⟨?_, rfl, rfl⟩
    unfold a_count
    rw [if_neg (by omega), if_neg (by omega), if_neg (by omega), if_neg (by omega), if_neg (by omega), if_neg (by omega), if_neg (by omega), if_neg (by omega), if_neg (by omega), if_neg (by omega), if_neg (by omega), if_neg (by omega), if_pos (by omega)]
  by_cases k1_13 : wa = 13
  · skip
    refine j_table hx hb (tgt := 237) (13) k1_13 dX8_count_1 ?_
    refine lv_aload_n hx hb dX8_count_237 rfl (lv_at hl 0 rfl) ?_
    refine m_get (C := RX8) (T := TX8) (N := 6) (ci := 7) hx hb hts i_X8 hown hK hH hX rfl 0 (by decide) f_0 rfl dX8_count_238 ?_
    refine m_get (C := RX6) (T := TX6) (N := 8) (ci := 5) hx hb hts i_X6 hown hK hH hZ.1 rfl 0 (by decide) f_4 rfl dX8_count_241 ?_
    refine m_get (C := RX5) (T := TX5) (N := 7) (ci := 4) hx hb hts i_X5 hown hK hH hZ.2.1.1 rfl 1 (by decide) f_22 rfl dX8_count_244 ?_
    refine lv_iload_n hx hb dX8_count_247 rfl (lv_at hl 1 rfl) ?_
    refine j_bipush hx hb dX8_count_248 ?_ (by decide)
    refine j_isub hx hb dX8_count_250 ?_
    have hrw : row3 (aD u0).1 (wa - 13).toNat = (aD u0).1 (wa - 13).toNat := if_pos (by omega)
    refine m_iald (nA := 3) (f := (row3 ((aD u0).1))) hx hb hK hH hZ.2.1.2.2.1 dX8_count_251 ?_ (by omega) (by omega)
    have hw3 : wa = 13 ∨ wa = 14 ∨ wa = 15 := by omega
    have hsr : 0 ≤ row3 (aD u0).1 (wa - 13).toNat ∧ row3 (aD u0).1 (wa - 13).toNat ≤ 150 := by
      obtain ⟨b0, b1, b2, -⟩ := hS0
      rw [hrw]
      rcases hw3 with rfl | rfl | rfl
      · show 0 ≤ (aD u0).1 0 ∧ (aD u0).1 0 ≤ 150; omega
      · show 0 ≤ (aD u0).1 1 ∧ (aD u0).1 1 ≤ 150; omega
      · show 0 ≤ (aD u0).1 2 ∧ (aD u0).1 2 ≤ 150; omega
    subst hQ
    refine m_iret hx hb hr hlocks hH hS dX8_count_252 ?_ (by omega)
    refine ⟨?_, rfl, rfl⟩
    unfold a_count
    rw [hrw]
    rw [if_neg (by omega), if_neg (by omega), if_neg (by omega), if_neg (by omega), if_neg (by omega), if_neg (by omega), if_neg (by omega), if_neg (by omega), if_neg (by omega), if_neg (by omega), if_neg (by omega), if_neg (by omega), if_neg (by omega)]
    rcases hw3 with rfl | rfl | rfl <;> rfl
  by_cases k1_14 : wa = 14
  · skip
    refine j_table hx hb (tgt := 237) (14) k1_14 dX8_count_1 ?_
    refine lv_aload_n hx hb dX8_count_237 rfl (lv_at hl 0 rfl) ?_
    refine m_get (C := RX8) (T := TX8) (N := 6) (ci := 7) hx hb hts i_X8 hown hK hH hX rfl 0 (by decide) f_0 rfl dX8_count_238 ?_
    refine m_get (C := RX6) (T := TX6) (N := 8) (ci := 5) hx hb hts i_X6 hown hK hH hZ.1 rfl 0 (by decide) f_4 rfl dX8_count_241 ?_
    refine m_get (C := RX5) (T := TX5) (N := 7) (ci := 4) hx hb hts i_X5 hown hK hH hZ.2.1.1 rfl 1 (by decide) f_22 rfl dX8_count_244 ?_
    refine lv_iload_n hx hb dX8_count_247 rfl (lv_at hl 1 rfl) ?_
    refine j_bipush hx hb dX8_count_248 ?_ (by decide)
    refine j_isub hx hb dX8_count_250 ?_
    have hrw : row3 (aD u0).1 (wa - 13).toNat = (aD u0).1 (wa - 13).toNat := if_pos (by omega)
    refine m_iald (nA := 3) (f := (row3 ((aD u0).1))) hx hb hK hH hZ.2.1.2.2.1 dX8_count_251 ?_ (by omega) (by omega)
    have hw3 : wa = 13 ∨ wa = 14 ∨ wa = 15 := by omega
    have hsr : 0 ≤ row3 (aD u0).1 (wa - 13).toNat ∧ row3 (aD u0).1 (wa - 13).toNat ≤ 150 := by
      obtain ⟨b0, b1, b2, -⟩ := hS0
      rw [hrw]
      rcases hw3 with rfl | rfl | rfl
      · show 0 ≤ (aD u0).1 0 ∧ (aD u0).1 0 ≤ 150; omega
      · show 0 ≤ (aD u0).1 1 ∧ (aD u0).1 1 ≤ 150; omega
      · show 0 ≤ (aD u0).1 2 ∧ (aD u0).1 2 ≤ 150; omega
    subst hQ
    refine m_iret hx hb hr hlocks hH hS dX8_count_252 ?_ (by omega)
    refine ⟨?_, rfl, rfl⟩
    unfold a_count
    rw [hrw]
    rw [if_neg (by omega), if_neg (by omega), if_neg (by omega), if_neg (by omega), if_neg (by omega), if_neg (by omega), if_neg (by omega), if_neg (by omega), if_neg (by omega), if_neg (by omega), if_neg (by omega), if_neg (by omega), if_neg (by omega)]
    rcases hw3 with rfl | rfl | rfl <;> rfl
  by_cases k1_15 : wa = 15
  · skip
    refine j_table hx hb (tgt := 237) (15) k1_15 dX8_count_1 ?_
    refine lv_aload_n hx hb dX8_count_237 rfl (lv_at hl 0 rfl) ?_
    refine m_get (C := RX8) (T := TX8) (N := 6) (ci := 7) hx hb hts i_X8 hown hK hH hX rfl 0 (by decide) f_0 rfl dX8_count_238 ?_
    refine m_get (C := RX6) (T := TX6) (N := 8) (ci := 5) hx hb hts i_X6 hown hK hH hZ.1 rfl 0 (by decide) f_4 rfl dX8_count_241 ?_
    refine m_get (C := RX5) (T := TX5) (N := 7) (ci := 4) hx hb hts i_X5 hown hK hH hZ.2.1.1 rfl 1 (by decide) f_22 rfl dX8_count_244 ?_
    refine lv_iload_n hx hb dX8_count_247 rfl (lv_at hl 1 rfl) ?_
    refine j_bipush hx hb dX8_count_248 ?_ (by decide)
    refine j_isub hx hb dX8_count_250 ?_
    have hrw : row3 (aD u0).1 (wa - 13).toNat = (aD u0).1 (wa - 13).toNat := if_pos (by omega)
    refine m_iald (nA := 3) (f := (row3 ((aD u0).1))) hx hb hK hH hZ.2.1.2.2.1 dX8_count_251 ?_ (by omega) (by omega)
    have hw3 : wa = 13 ∨ wa = 14 ∨ wa = 15 := by omega
    have hsr : 0 ≤ row3 (aD u0).1 (wa - 13).toNat ∧ row3 (aD u0).1 (wa - 13).toNat ≤ 150 := by
      obtain ⟨b0, b1, b2, -⟩ := hS0
      rw [hrw]
      rcases hw3 with rfl | rfl | rfl
      · show 0 ≤ (aD u0).1 0 ∧ (aD u0).1 0 ≤ 150; omega
      · show 0 ≤ (aD u0).1 1 ∧ (aD u0).1 1 ≤ 150; omega
      · show 0 ≤ (aD u0).1 2 ∧ (aD u0).1 2 ≤ 150; omega
    subst hQ
    refine m_iret hx hb hr hlocks hH hS dX8_count_252 ?_ (by omega)
    refine ⟨?_, rfl, rfl⟩
    unfold a_count
    rw [hrw]
    rw [if_neg (by omega), if_neg (by omega), if_neg (by omega), if_neg (by omega), if_neg (by omega), if_neg (by omega), if_neg (by omega), if_neg (by omega), if_neg (by omega), if_neg (by omega), if_neg (by omega), if_neg (by omega), if_neg (by omega)]
    rcases hw3 with rfl | rfl | rfl <;> rfl
  refine j_tableO (tgt := 253) hx hb dX8_count_1 (by omega) ?_ (by decide) (by omega)
  refine j_bipush hx hb dX8_count_253 ?_ (by decide)
  subst hQ
  refine m_iret hx hb hr hlocks hH hS dX8_count_255 ?_ (by omega)
  refine ⟨?_, rfl, rfl⟩
  unfold a_count
  rw [if_neg (by omega), if_neg (by omega), if_neg (by omega), if_neg (by omega), if_neg (by omega), if_neg (by omega), if_neg (by omega), if_neg (by omega), if_neg (by omega), if_neg (by omega), if_neg (by omega), if_neg (by omega), if_neg (by omega), if_neg (by omega), if_neg (by omega), if_neg (by omega)]
