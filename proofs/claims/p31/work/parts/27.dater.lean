abbrev rm_c_X8_isStrength : Room := { frames := 1, cells := 0, slots := 0, locals := 22 }
set_option maxHeartbeats 4000000 in
set_option maxRecDepth 100000 in
theorem c_X8_isStrength (l : Launch) (G : wG) (μ : hM) (n : Nat) (v : Int) (hv1 : -2147483648 ≤ v ∧ v ≤ 2147483647) : Met l yX8_isStrength wsX8_isStrength rm_c_X8_isStrength (mPc G μ n [.int (iv v)]) (mQi G (fun z μ1 n1 => z = (if 1 ≤ v ∧ v ≤ 9 then 1 else 0) ∧ μ1 = μ ∧ n1 = n)) 0 0 (gA G) := by
  refine Met.ofW (cc := cX8_isStrength) (maxL := 1) (ret := (some .boolean)) (by decide) rfl ?_
  intro p e s m args below meth c s₁ B hml hv
  obtain ⟨hav, hK, hH⟩ := hv
  have hx := B.exec
  have hb := B.bytes
  have hr := B.returns
  have hts := atoms_spec (ws := wsX8_isStrength) B.pre
  have hown : s.vm.findClass RX8 = some m.cls := findClass_of_methodNamed B.named
  have hlocks := B.notSynchronized
  have hS : va_S (gA G) s.heap s.heap [] := va_S.rf
  have hl := lv_entry ([.int (iv v)]) (n := 1) (Nat.le_of_ble_eq_true rfl)
  have hfr : entryFrame m args 1 = entryFrame m ([.int (iv v)] : List Value).toArray 1 := by rw [hav]
  rw [hfr, lg_entry_eq]
  generalize (lg_sl ([.int (iv v)]) ++ List.replicate (1 - (lg_sl ([.int (iv v)])).length) Slot.unset).toArray = ls at hl ⊢
  have hl : lv_has ls 1 [(0, .int (iv v))] := hl
  generalize hQ : MQ below _ args s 0 0 (gA G) = Q
  show W p l e rm_c_X8_isStrength s m args below meth c s.heap [] 0 0 Q (F0 m 0 ls [])
  obtain ⟨H, hHe⟩ : ∃ H, H = s.heap := ⟨_, rfl⟩
  obtain ⟨locs, hlo⟩ : ∃ q : List Loc, q = [] := ⟨_, rfl⟩
  have hH : gP G μ n H := by rw [hHe]; exact hH
  have hS : va_S (gA G) s.heap H locs := by rw [hHe, hlo]; exact hS
  suffices hgo : W p l e rm_c_X8_isStrength s m args below meth c H locs 0 0 Q (F0 m 0 ls []) by rw [hHe, hlo] at hgo; exact hgo
  clear hHe hlo hfr hav
  refine lv_iload_n hx hb dX8_isStrength_0 rfl (lv_at hl 0 rfl) ?_
  refine j_const hx hb dX8_isStrength_1 ?_
  refine j_bipush hx hb dX8_isStrength_2 ?_ (by decide)
  refine m_callSi (As := [.int (iv v), .int (iv 1), .int (iv 9)]) (rest := []) ⟨hx, hb, hml, hown, hts⟩ hK hH hS (c_X8_isWithin l G μ n v 1 9 (by omega) (by omega) (by omega)) (va_cwS 3 hts gX8_isStrength_X8_isWithin rfl rfl rfl (by decide +kernel) ⟨(Nat.le_of_ble_eq_true rfl), (Nat.le_of_ble_eq_true rfl)⟩) rfl rfl hl.1 (Nat.le_of_ble_eq_true rfl) dX8_isStrength_4 ⟨Nat.zero_le _, Nat.zero_le _⟩ (fun z4 μ1 n2 H locs hz4 hp3 hH hS => ?_)
  obtain ⟨hz9, hm9, hn9⟩ := hp3
  rw [hm9, hn9] at hH
  have hz4c : (z4 = 1 ∧ (1 ≤ v ∧ v ≤ 9)) ∨ (z4 = 0 ∧ ¬ (1 ≤ v ∧ v ≤ 9)) := by
    by_cases q9 : 1 ≤ v ∧ v ≤ 9
    · rw [if_pos q9] at hz9; exact Or.inl ⟨hz9, q9⟩
    · rw [if_neg q9] at hz9; exact Or.inr ⟨hz9, q9⟩
  clear hz9 hm9 hn9
  subst hQ
  refine m_zret hx hb hr hlocks hH hS dX8_isStrength_7 ?_ (by omega)
  refine ⟨?_, rfl, rfl⟩
  split <;> omega

abbrev rm_c_X8_isSetting : Room := { frames := 1, cells := 0, slots := 0, locals := 22 }
set_option maxHeartbeats 4000000 in
set_option maxRecDepth 100000 in
theorem c_X8_isSetting (l : Launch) (G : wG) (μ : hM) (n : Nat) (v : Int) (hv1 : -2147483648 ≤ v ∧ v ≤ 2147483647) : Met l yX8_isSetting wsX8_isSetting rm_c_X8_isSetting (mPc G μ n [.int (iv v)]) (mQi G (fun z μ1 n1 => z = (if 0 ≤ v ∧ v ≤ 2 then 1 else 0) ∧ μ1 = μ ∧ n1 = n)) 0 0 (gA G) := by
  refine Met.ofW (cc := cX8_isSetting) (maxL := 1) (ret := (some .boolean)) (by decide) rfl ?_
  intro p e s m args below meth c s₁ B hml hv
  obtain ⟨hav, hK, hH⟩ := hv
  have hx := B.exec
  have hb := B.bytes
  have hr := B.returns
  have hts := atoms_spec (ws := wsX8_isSetting) B.pre
  have hown : s.vm.findClass RX8 = some m.cls := findClass_of_methodNamed B.named
  have hlocks := B.notSynchronized
  have hS : va_S (gA G) s.heap s.heap [] := va_S.rf
  have hl := lv_entry ([.int (iv v)]) (n := 1) (Nat.le_of_ble_eq_true rfl)
  have hfr : entryFrame m args 1 = entryFrame m ([.int (iv v)] : List Value).toArray 1 := by rw [hav]
  rw [hfr, lg_entry_eq]
  generalize (lg_sl ([.int (iv v)]) ++ List.replicate (1 - (lg_sl ([.int (iv v)])).length) Slot.unset).toArray = ls at hl ⊢
  have hl : lv_has ls 1 [(0, .int (iv v))] := hl
  generalize hQ : MQ below _ args s 0 0 (gA G) = Q
  show W p l e rm_c_X8_isSetting s m args below meth c s.heap [] 0 0 Q (F0 m 0 ls [])
  obtain ⟨H, hHe⟩ : ∃ H, H = s.heap := ⟨_, rfl⟩
  obtain ⟨locs, hlo⟩ : ∃ q : List Loc, q = [] := ⟨_, rfl⟩
  have hH : gP G μ n H := by rw [hHe]; exact hH
  have hS : va_S (gA G) s.heap H locs := by rw [hHe, hlo]; exact hS
  suffices hgo : W p l e rm_c_X8_isSetting s m args below meth c H locs 0 0 Q (F0 m 0 ls []) by rw [hHe, hlo] at hgo; exact hgo
  clear hHe hlo hfr hav
  refine lv_iload_n hx hb dX8_isSetting_0 rfl (lv_at hl 0 rfl) ?_
  refine j_const hx hb dX8_isSetting_1 ?_
  refine j_const hx hb dX8_isSetting_2 ?_
  refine m_callSi (As := [.int (iv v), .int (iv 0), .int (iv 2)]) (rest := []) ⟨hx, hb, hml, hown, hts⟩ hK hH hS (c_X8_isWithin l G μ n v 0 2 (by omega) (by omega) (by omega)) (va_cwS 3 hts gX8_isSetting_X8_isWithin rfl rfl rfl (by decide +kernel) ⟨(Nat.le_of_ble_eq_true rfl), (Nat.le_of_ble_eq_true rfl)⟩) rfl rfl hl.1 (Nat.le_of_ble_eq_true rfl) dX8_isSetting_3 ⟨Nat.zero_le _, Nat.zero_le _⟩ (fun z4 μ1 n2 H locs hz4 hp3 hH hS => ?_)
  obtain ⟨hz9, hm9, hn9⟩ := hp3
  rw [hm9, hn9] at hH
  have hz4c : (z4 = 1 ∧ (0 ≤ v ∧ v ≤ 2)) ∨ (z4 = 0 ∧ ¬ (0 ≤ v ∧ v ≤ 2)) := by
    by_cases q9 : 0 ≤ v ∧ v ≤ 2
    · rw [if_pos q9] at hz9; exact Or.inl ⟨hz9, q9⟩
    · rw [if_neg q9] at hz9; exact Or.inr ⟨hz9, q9⟩
  clear hz9 hm9 hn9
  subst hQ
  refine m_zret hx hb hr hlocks hH hS dX8_isSetting_6 ?_ (by omega)
  refine ⟨?_, rfl, rfl⟩
  split <;> omega

abbrev rm_c_X8_leastSetting : Room := { frames := 0, cells := 0, slots := 0, locals := 0 }
set_option maxHeartbeats 4000000 in
set_option maxRecDepth 100000 in
theorem c_X8_leastSetting (l : Launch) (G : wG) (μ : hM) (n : Nat) (v : Int) (hv1 : 0 ≤ v ∧ v ≤ 2) : Met l yX8_leastSetting wsX8_leastSetting rm_c_X8_leastSetting (mPc G μ n [.int (iv v)]) (mQi G (fun z μ1 n1 => z = loSet v ∧ μ1 = μ ∧ n1 = n)) 0 0 (gA G) := by
  refine Met.ofW (cc := cX8_leastSetting) (maxL := 1) (ret := (some .int)) (by decide) rfl ?_
  intro p e s m args below meth c s₁ B hml hv
  obtain ⟨hav, hK, hH⟩ := hv
  have hx := B.exec
  have hb := B.bytes
  have hr := B.returns
  have hts := atoms_spec (ws := wsX8_leastSetting) B.pre
  have hown : s.vm.findClass RX8 = some m.cls := findClass_of_methodNamed B.named
  have hlocks := B.notSynchronized
  have hS : va_S (gA G) s.heap s.heap [] := va_S.rf
  have hl := lv_entry ([.int (iv v)]) (n := 1) (Nat.le_of_ble_eq_true rfl)
  have hfr : entryFrame m args 1 = entryFrame m ([.int (iv v)] : List Value).toArray 1 := by rw [hav]
  rw [hfr, lg_entry_eq]
  generalize (lg_sl ([.int (iv v)]) ++ List.replicate (1 - (lg_sl ([.int (iv v)])).length) Slot.unset).toArray = ls at hl ⊢
  have hl : lv_has ls 1 [(0, .int (iv v))] := hl
  generalize hQ : MQ below _ args s 0 0 (gA G) = Q
  show W p l e rm_c_X8_leastSetting s m args below meth c s.heap [] 0 0 Q (F0 m 0 ls [])
  obtain ⟨H, hHe⟩ : ∃ H, H = s.heap := ⟨_, rfl⟩
  obtain ⟨locs, hlo⟩ : ∃ q : List Loc, q = [] := ⟨_, rfl⟩
  have hH : gP G μ n H := by rw [hHe]; exact hH
  have hS : va_S (gA G) s.heap H locs := by rw [hHe, hlo]; exact hS
  suffices hgo : W p l e rm_c_X8_leastSetting s m args below meth c H locs 0 0 Q (F0 m 0 ls []) by rw [hHe, hlo] at hgo; exact hgo
  clear hHe hlo hfr hav
  refine lv_iload_n hx hb dX8_leastSetting_0 rfl (lv_at hl 0 rfl) ?_
  refine j_if_ne (tgt := 9) hx hb dX8_leastSetting_1 (by decide) (fun c1 => ?_) (fun c1 => ?_) (by omega)
  · skip
    refine lv_iload_n hx hb dX8_leastSetting_9 rfl (lv_at hl 0 rfl) ?_
    refine j_const hx hb dX8_leastSetting_10 ?_
    refine j_icmp_ne (tgt := 19) hx hb dX8_leastSetting_11 (by decide) (fun c2 => ?_) (fun c2 => ?_) (by omega) (by omega)
    · skip
      refine j_const hx hb dX8_leastSetting_19 ?_
      subst hQ
      refine m_iret hx hb hr hlocks hH hS dX8_leastSetting_20 ?_ (by omega)
      refine ⟨?_, rfl, rfl⟩
      unfold loSet
      (repeat' split) <;> omega
    · skip
      refine j_bipush hx hb dX8_leastSetting_14 ?_ (by decide)
      refine lv_goto (tgt := 20) hx hb dX8_leastSetting_16 (by decide) ?_
      subst hQ
      refine m_iret hx hb hr hlocks hH hS dX8_leastSetting_20 ?_ (by omega)
      refine ⟨?_, rfl, rfl⟩
      unfold loSet
      (repeat' split) <;> omega
  · skip
    refine j_bipush hx hb dX8_leastSetting_4 ?_ (by decide)
    refine lv_goto (tgt := 20) hx hb dX8_leastSetting_6 (by decide) ?_
    subst hQ
    refine m_iret hx hb hr hlocks hH hS dX8_leastSetting_20 ?_ (by omega)
    refine ⟨?_, rfl, rfl⟩
    unfold loSet
    (repeat' split) <;> omega

abbrev rm_c_X8_mostSetting : Room := { frames := 0, cells := 0, slots := 0, locals := 0 }
set_option maxHeartbeats 4000000 in
set_option maxRecDepth 100000 in
theorem c_X8_mostSetting (l : Launch) (G : wG) (μ : hM) (n : Nat) (v : Int) (hv1 : 0 ≤ v ∧ v ≤ 2) : Met l yX8_mostSetting wsX8_mostSetting rm_c_X8_mostSetting (mPc G μ n [.int (iv v)]) (mQi G (fun z μ1 n1 => z = hiSet v ∧ μ1 = μ ∧ n1 = n)) 0 0 (gA G) := by
  refine Met.ofW (cc := cX8_mostSetting) (maxL := 1) (ret := (some .int)) (by decide) rfl ?_
  intro p e s m args below meth c s₁ B hml hv
  obtain ⟨hav, hK, hH⟩ := hv
  have hx := B.exec
  have hb := B.bytes
  have hr := B.returns
  have hts := atoms_spec (ws := wsX8_mostSetting) B.pre
  have hown : s.vm.findClass RX8 = some m.cls := findClass_of_methodNamed B.named
  have hlocks := B.notSynchronized
  have hS : va_S (gA G) s.heap s.heap [] := va_S.rf
  have hl := lv_entry ([.int (iv v)]) (n := 1) (Nat.le_of_ble_eq_true rfl)
  have hfr : entryFrame m args 1 = entryFrame m ([.int (iv v)] : List Value).toArray 1 := by rw [hav]
  rw [hfr, lg_entry_eq]
  generalize (lg_sl ([.int (iv v)]) ++ List.replicate (1 - (lg_sl ([.int (iv v)])).length) Slot.unset).toArray = ls at hl ⊢
  have hl : lv_has ls 1 [(0, .int (iv v))] := hl
  generalize hQ : MQ below _ args s 0 0 (gA G) = Q
  show W p l e rm_c_X8_mostSetting s m args below meth c s.heap [] 0 0 Q (F0 m 0 ls [])
  obtain ⟨H, hHe⟩ : ∃ H, H = s.heap := ⟨_, rfl⟩
  obtain ⟨locs, hlo⟩ : ∃ q : List Loc, q = [] := ⟨_, rfl⟩
  have hH : gP G μ n H := by rw [hHe]; exact hH
  have hS : va_S (gA G) s.heap H locs := by rw [hHe, hlo]; exact hS
  suffices hgo : W p l e rm_c_X8_mostSetting s m args below meth c H locs 0 0 Q (F0 m 0 ls []) by rw [hHe, hlo] at hgo; exact hgo
  clear hHe hlo hfr hav
  refine lv_iload_n hx hb dX8_mostSetting_0 rfl (lv_at hl 0 rfl) ?_
  refine j_if_ne (tgt := 9) hx hb dX8_mostSetting_1 (by decide) (fun c1 => ?_) (fun c1 => ?_) (by omega)
  · skip
    refine lv_iload_n hx hb dX8_mostSetting_9 rfl (lv_at hl 0 rfl) ?_
    refine j_const hx hb dX8_mostSetting_10 ?_
    refine j_icmp_ne (tgt := 20) hx hb dX8_mostSetting_11 (by decide) (fun c2 => ?_) (fun c2 => ?_) (by omega) (by omega)
    · skip
      refine j_bipush hx hb dX8_mostSetting_20 ?_ (by decide)
      subst hQ
      refine m_iret hx hb hr hlocks hH hS dX8_mostSetting_22 ?_ (by omega)
      refine ⟨?_, rfl, rfl⟩
      unfold hiSet
      (repeat' split) <;> omega
    · skip
      refine j_sipush hx hb dX8_mostSetting_14 ?_ (by decide)
      refine lv_goto (tgt := 22) hx hb dX8_mostSetting_17 (by decide) ?_
      subst hQ
      refine m_iret hx hb hr hlocks hH hS dX8_mostSetting_22 ?_ (by omega)
      refine ⟨?_, rfl, rfl⟩
      unfold hiSet
      (repeat' split) <;> omega
  · skip
    refine j_bipush hx hb dX8_mostSetting_4 ?_ (by decide)
    refine lv_goto (tgt := 22) hx hb dX8_mostSetting_6 (by decide) ?_
    subst hQ
    refine m_iret hx hb hr hlocks hH hS dX8_mostSetting_22 ?_ (by omega)
    refine ⟨?_, rfl, rfl⟩
    unfold hiSet
    (repeat' split) <;> omega

abbrev rm_c_X8_pass : Room := { frames := 5, cells := 0, slots := 0, locals := 113 }
set_option maxHeartbeats 4000000 in
set_option maxRecDepth 100000 in
theorem c_X8_pass (l : Launch) (G : wG) (μ : hM) (n : Nat) (x rb : Nat) (u0 : aS) (k : Int) (hD : IsD G μ x rb u0) (hk : -2147483648 ≤ k ∧ k ≤ 2147483647) : Met l yX8_pass wsX8_pass rm_c_X8_pass (mPc G μ n [.ref x, .int (iv k)]) (mQi G (fun z μ1 n1 => z = (a_pass u0 k).2 ∧ IsD G μ1 x rb (a_pass u0 k).1 ∧ DFr x μ μ1)) 0 0 (gA G) := by
  refine Met.ofW (cc := cX8_pass) (maxL := 2) (ret := (some .int)) (by decide) rfl ?_
  intro p e s m args below meth c s₁ B hml hv
  obtain ⟨hav, hK, hH⟩ := hv
  have hx := B.exec
  have hb := B.bytes
  have hr := B.returns
  have hts := atoms_spec (ws := wsX8_pass) B.pre
  have hown : s.vm.findClass RX8 = some m.cls := findClass_of_methodNamed B.named
  have hlocks := B.notSynchronized
  have hS : va_S (gA G) s.heap s.heap [] := va_S.rf
  have hl := lv_entry ([.ref x, .int (iv k)]) (n := 2) (Nat.le_of_ble_eq_true rfl)
  have hfr : entryFrame m args 2 = entryFrame m ([.ref x, .int (iv k)] : List Value).toArray 2 := by rw [hav]
  rw [hfr, lg_entry_eq]
  generalize (lg_sl ([.ref x, .int (iv k)]) ++ List.replicate (2 - (lg_sl ([.ref x, .int (iv k)])).length) Slot.unset).toArray = ls at hl ⊢
  have hl : lv_has ls 2 [(0, .ref x), (1, .int (iv k))] := hl
  generalize hQ : MQ below _ args s 0 0 (gA G) = Q
  show W p l e rm_c_X8_pass s m args below meth c s.heap [] 0 0 Q (F0 m 0 ls [])
  obtain ⟨H, hHe⟩ : ∃ H, H = s.heap := ⟨_, rfl⟩
  obtain ⟨locs, hlo⟩ : ∃ q : List Loc, q = [] := ⟨_, rfl⟩
  have hH : gP G μ n H := by rw [hHe]; exact hH
  have hS : va_S (gA G) s.heap H locs := by rw [hHe, hlo]; exact hS
  suffices hgo : W p l e rm_c_X8_pass s m args below meth c H locs 0 0 Q (F0 m 0 ls []) by rw [hHe, hlo] at hgo; exact hgo
  clear hHe hlo hfr hav
  have f_0 := hts (.fieldLink RX8 10 "StampDater" "state" "LStampDater$State;") (List.mem_of_getElem? (i := 1) rfl)
  have i_X8 : ∀ w ∈ u_ws RX8 TX8 6, w ∈ wsX8_pass := by decide +kernel
  have f_2 := hts (.fieldLink RX8 48 "StampDater$State" "today" "I") (List.mem_of_getElem? (i := 2) rfl)
  have i_X6 : ∀ w ∈ u_ws RX6 TX6 8, w ∈ wsX8_pass := by decide +kernel
  have f_4 := hts (.constant RX8 52 (36524)) (List.mem_of_getElem? (i := 3) rfl)
  have f_5 := hts (.fieldLink RX8 19 "StampDater" "history" "LStampDater$History;") (List.mem_of_getElem? (i := 4) rfl)
  have hfr : DFr x μ μ := DFr.rf
  have hD9 := hD
  obtain ⟨hX, ⟨π, fp, sp, rd, hZ, hC, hT, hch⟩, ⟨ρ, πs, fps, sps, rds, hL, hLs⟩, ⟨πk, fpk, spk, rdk, hY, hCk, hTk, hchk⟩, ⟨to, td, tk, tn, tt, ta, hTX⟩, ⟨πr, τr, fpr, spr, hI2, hOk2⟩, hsz, hkt, hOC, hrb, hlast⟩ := hD9
  have h3 := hT.2.1
  have h5 := hT.2.2.1
  have hS0 := hT.1
  have h4 := hS0.2.2.2.1
  refine lv_iload_n hx hb dX8_pass_0 rfl (lv_at hl 1 rfl) ?_
  refine j_const hx hb dX8_pass_1 ?_
  refine j_sipush hx hb dX8_pass_2 ?_ (by decide)
  refine m_callSi (As := [.int (iv k), .int (iv 1), .int (iv 999)]) (rest := []) ⟨hx, hb, hml, hown, hts⟩ hK hH hS (c_X8_isWithin l G μ n k 1 999 (by omega) (by omega) (by omega)) (va_cwS 3 hts gX8_pass_X8_isWithin rfl rfl rfl (by decide +kernel) ⟨(Nat.le_of_ble_eq_true rfl), (Nat.le_of_ble_eq_true rfl)⟩) rfl rfl hl.1 (Nat.le_of_ble_eq_true rfl) dX8_pass_5 ⟨Nat.zero_le _, Nat.zero_le _⟩ (fun z4 μ1 n2 H locs hz4 hp3 hH hS => ?_)
  obtain ⟨hz9, hm9, hn9⟩ := hp3
  rw [hm9, hn9] at hH
  have hz4c : (z4 = 1 ∧ (1 ≤ k ∧ k ≤ 999)) ∨ (z4 = 0 ∧ ¬ (1 ≤ k ∧ k ≤ 999)) := by
    by_cases q9 : 1 ≤ k ∧ k ≤ 999
    · rw [if_pos q9] at hz9; exact Or.inl ⟨hz9, q9⟩
    · rw [if_neg q9] at hz9; exact Or.inr ⟨hz9, q9⟩
  clear hz9 hm9 hn9
  refine j_if_ne (tgt := 14) hx hb dX8_pass_8 (by decide) (fun c5 => ?_) (fun c5 => ?_) (by omega)
  · skip
    refine lv_aload_n hx hb dX8_pass_14 rfl (lv_at hl 0 rfl) ?_
    refine m_get (C := RX8) (T := TX8) (N := 6) (ci := 7) hx hb hts i_X8 hown hK hH hX rfl 0 (by decide) f_0 rfl dX8_pass_15 ?_
    refine m_get (C := RX6) (T := TX6) (N := 8) (ci := 5) hx hb hts i_X6 hown hK hH hZ.1 rfl 2 (by decide) f_2 rfl dX8_pass_18 ?_
    refine lv_iload_n hx hb dX8_pass_21 rfl (lv_at hl 1 rfl) ?_
    refine j_iadd hx hb dX8_pass_22 ?_
    refine j_ldc hx hb (36524) hown f_4 dX8_pass_23 ?_ (by decide)
    refine j_icmp_le (tgt := 31) hx hb dX8_pass_25 (by decide) (fun c6 => ?_) (fun c6 => ?_) (by omega) (by omega)
    · skip
      refine lv_aload_n hx hb dX8_pass_31 rfl (lv_at hl 0 rfl) ?_
      refine m_get (C := RX8) (T := TX8) (N := 6) (ci := 7) hx hb hts i_X8 hown hK hH hX rfl 1 (by decide) f_5 rfl dX8_pass_32 ?_
      refine lv_aload_n hx hb dX8_pass_35 rfl (lv_at hl 0 rfl) ?_
      refine m_get (C := RX8) (T := TX8) (N := 6) (ci := 7) hx hb hts i_X8 hown hK hH hX rfl 0 (by decide) f_0 rfl dX8_pass_36 ?_
      refine m_callVv (As := [.ref (x + 1)]) (rest := []) ⟨hx, hb, hml, hown, hts⟩ hK hH hS (c_X2_remember l G μ n (x + 30) ρ (aN u0) πs (fun r => (aH u0 r).1) fps sps rds (x + 1) π ((aD u0).1) fp sp rd hL hsz hZ hT (by omega)) (cwV 1 hts gX8_pass_X2_remember rfl rfl rfl (by decide +kernel) ⟨(Nat.le_of_ble_eq_true rfl), (Nat.le_of_ble_eq_true rfl)⟩) hL.1 rfl rfl rfl rfl hl.1 (Nat.le_of_ble_eq_true rfl) dX8_pass_39 ⟨Nat.zero_le _, Nat.zero_le _⟩ (fun μ7 n8 H locs hp9 hH hS => ?_)
      obtain ⟨ρ1, πs1, fps1, sps1, hL1, hfr1⟩ := hp9
      obtain ⟨hD, hfr2⟩ : IsD G μ7 x rb (aAct u0 (aD u0)) ∧ DFr x _ μ7 := hD.rem hC hLs hL1 (fun q hq => hfr1 q (by omega))
      have hfr := hfr.tr hfr2
      clear hfr2
      clear hX hZ hC hT hch hL hLs hY hCk hTk hchk hTX hI2 hOk2 hsz hkt hOC hrb hlast
      have hD9 := hD
      obtain ⟨hX, ⟨π, fp, sp, rd, hZ, hC, hT, hch⟩, ⟨ρ, πs, fps, sps, rds, hL, hLs⟩, ⟨πk, fpk, spk, rdk, hY, hCk, hTk, hchk⟩, ⟨to, td, tk, tn, tt, ta, hTX⟩, ⟨πr, τr, fpr, spr, hI2, hOk2⟩, hsz, hkt, hOC, hrb, hlast⟩ := hD9
      have e3 : (aD (aAct u0 (aD u0))).1 3 = (aD u0).1 3 := rfl
      refine lv_aload_n hx hb dX8_pass_42 rfl (lv_at hl 0 rfl) ?_
      refine m_get (C := RX8) (T := TX8) (N := 6) (ci := 7) hx hb hts i_X8 hown hK hH hX rfl 0 (by decide) f_0 rfl dX8_pass_43 ?_
      refine lv_dup hx hb dX8_pass_46 rfl ?_
      refine m_get (C := RX6) (T := TX6) (N := 8) (ci := 5) hx hb hts i_X6 hown hK hH hZ.1 rfl 2 (by decide) f_2 rfl dX8_pass_47 ?_
      refine lv_iload_n hx hb dX8_pass_50 rfl (lv_at hl 1 rfl) ?_
      refine j_iadd hx hb dX8_pass_51 ?_
      refine m_put (C := RX6) (T := TX6) (N := 8) (ci := 5) hx hb hts i_X6 tyX6 tyX6_ok nmX6 hown hK hH hS hZ.1 rfl 2 (by decide) f_2 rfl rfl rfl (Nat.le_of_ble_eq_true rfl) dX8_pass_52 (fun H locs hH hS => ?_)
      obtain ⟨hD, hfr2⟩ : IsD G (hu μ7 (x + 1) (.inr (5, [.ref (x + 1 + 1), .ref (x + 1 + 16), .int (iv ((((aD (aAct u0 (aD u0))).1) 3) + k)), .int (iv (((aD (aAct u0 (aD u0))).1) 5)), .int (iv (((aD (aAct u0 (aD u0))).1) 6)), .int (iv (((aD (aAct u0 (aD u0))).1) 7)), .int (iv (((aD (aAct u0 (aD u0))).1) 8)), va_rf rd]))) x rb ((fu ((aD (aAct u0 (aD u0))).1) 3 ((((aD (aAct u0 (aD u0))).1) 3) + k), (aD (aAct u0 (aD u0))).2), (aAct u0 (aD u0)).2) ∧ DFr x _ (hu μ7 (x + 1) (.inr (5, [.ref (x + 1 + 1), .ref (x + 1 + 16), .int (iv ((((aD (aAct u0 (aD u0))).1) 3) + k)), .int (iv (((aD (aAct u0 (aD u0))).1) 5)), .int (iv (((aD (aAct u0 (aD u0))).1) 6)), .int (iv (((aD (aAct u0 (aD u0))).1) 7)), .int (iv (((aD (aAct u0 (aD u0))).1) 8)), va_rf rd]))) := hD.ptd hZ hC (v := ((((aD (aAct u0 (aD u0))).1) 3) + k)) (by omega)
      have hfr := hfr.tr hfr2
      clear hfr2
      have hH : gP G (hu μ7 (x + 1) (.inr (5, [.ref (x + 1 + 1), .ref (x + 1 + 16), .int (iv ((((aD (aAct u0 (aD u0))).1) 3) + k)), .int (iv (((aD (aAct u0 (aD u0))).1) 5)), .int (iv (((aD (aAct u0 (aD u0))).1) 6)), .int (iv (((aD (aAct u0 (aD u0))).1) 7)), .int (iv (((aD (aAct u0 (aD u0))).1) 8)), va_rf rd]))) n8 H := hH
      obtain ⟨ν10, hν10⟩ : ∃ ν : hM, ν = (hu μ7 (x + 1) (.inr (5, [.ref (x + 1 + 1), .ref (x + 1 + 16), .int (iv ((((aD (aAct u0 (aD u0))).1) 3) + k)), .int (iv (((aD (aAct u0 (aD u0))).1) 5)), .int (iv (((aD (aAct u0 (aD u0))).1) 6)), .int (iv (((aD (aAct u0 (aD u0))).1) 7)), .int (iv (((aD (aAct u0 (aD u0))).1) 8)), va_rf rd]))) := ⟨_, rfl⟩
      rw [← hν10] at hD hfr hH
      clear hν10
      clear hX hZ hC hT hch hL hLs hY hCk hTk hchk hTX hI2 hOk2 hsz hkt hOC hrb hlast
      have hD9 := hD
      obtain ⟨hX, ⟨π, fp, sp, rd, hZ, hC, hT, hch⟩, ⟨ρ, πs, fps, sps, rds, hL, hLs⟩, ⟨πk, fpk, spk, rdk, hY, hCk, hTk, hchk⟩, ⟨to, td, tk, tn, tt, ta, hTX⟩, ⟨πr, τr, fpr, spr, hI2, hOk2⟩, hsz, hkt, hOC, hrb, hlast⟩ := hD9
      have hH : gP G ν10 n8 H := hH
      refine lv_aload_n hx hb dX8_pass_55 rfl (lv_at hl 0 rfl) ?_
      refine m_get (C := RX8) (T := TX8) (N := 6) (ci := 7) hx hb hts i_X8 hown hK hH hX rfl 0 (by decide) f_0 rfl dX8_pass_56 ?_
      refine m_get (C := RX6) (T := TX6) (N := 8) (ci := 5) hx hb hts i_X6 hown hK hH hZ.1 rfl 2 (by decide) f_2 rfl dX8_pass_59 ?_
      refine j_norm (y := ((aD u0).1 3 + k)) rfl ?_
      subst hQ
      refine m_iret hx hb hr hlocks hH hS dX8_pass_62 ?_ (by omega)
      unfold a_pass
      rw [if_pos (by omega), if_pos (by omega)]
      exact ⟨rfl, hD, hfr⟩
    · skip
      refine j_bipush hx hb dX8_pass_28 ?_ (by decide)
      subst hQ
      refine m_iret hx hb hr hlocks hH hS dX8_pass_30 ?_ (by omega)
      unfold a_pass
      rw [if_pos (by omega), if_neg (by omega)]
      exact ⟨rfl, hD, hfr⟩
  · skip
    refine j_bipush hx hb dX8_pass_11 ?_ (by decide)
    subst hQ
    refine m_iret hx hb hr hlocks hH hS dX8_pass_13 ?_ (by omega)
    unfold a_pass
    rw [if_neg (by omega)]
    exact ⟨rfl, hD, hfr⟩

abbrev rm_c_X8_adjust : Room := { frames := 5, cells := 0, slots := 0, locals := 113 }
set_option maxHeartbeats 4000000 in
set_option maxRecDepth 100000 in
theorem c_X8_adjust (l : Launch) (G : wG) (μ : hM) (n : Nat) (x rb : Nat) (u0 : aS) (k : Int) (hD : IsD G μ x rb u0) (hk1 : -2147483648 ≤ k ∧ k ≤ 2147483647) : Met l yX8_adjust wsX8_adjust rm_c_X8_adjust (mPc G μ n [.ref x, .int (iv k)]) (mQi G (fun z μ1 n1 => z = (a_adjust u0 k).2 ∧ IsD G μ1 x rb (a_adjust u0 k).1 ∧ DFr x μ μ1)) 0 0 (gA G) := by
  refine Met.ofW (cc := cX8_adjust) (maxL := 2) (ret := (some .int)) (by decide) rfl ?_
  intro p e s m args below meth c s₁ B hml hv
  obtain ⟨hav, hK, hH⟩ := hv
  have hx := B.exec
  have hb := B.bytes
  have hr := B.returns
  have hts := atoms_spec (ws := wsX8_adjust) B.pre
  have hown : s.vm.findClass RX8 = some m.cls := findClass_of_methodNamed B.named
  have hlocks := B.notSynchronized
  have hS : va_S (gA G) s.heap s.heap [] := va_S.rf
  have hl := lv_entry ([.ref x, .int (iv k)]) (n := 2) (Nat.le_of_ble_eq_true rfl)
  have hfr : entryFrame m args 2 = entryFrame m ([.ref x, .int (iv k)] : List Value).toArray 2 := by rw [hav]
  rw [hfr, lg_entry_eq]
  generalize (lg_sl ([.ref x, .int (iv k)]) ++ List.replicate (2 - (lg_sl ([.ref x, .int (iv k)])).length) Slot.unset).toArray = ls at hl ⊢
  have hl : lv_has ls 2 [(0, .ref x), (1, .int (iv k))] := hl
  generalize hQ : MQ below _ args s 0 0 (gA G) = Q
  show W p l e rm_c_X8_adjust s m args below meth c s.heap [] 0 0 Q (F0 m 0 ls [])
  obtain ⟨H, hHe⟩ : ∃ H, H = s.heap := ⟨_, rfl⟩
  obtain ⟨locs, hlo⟩ : ∃ q : List Loc, q = [] := ⟨_, rfl⟩
  have hH : gP G μ n H := by rw [hHe]; exact hH
  have hS : va_S (gA G) s.heap H locs := by rw [hHe, hlo]; exact hS
  suffices hgo : W p l e rm_c_X8_adjust s m args below meth c H locs 0 0 Q (F0 m 0 ls []) by rw [hHe, hlo] at hgo; exact hgo
  clear hHe hlo hfr hav
  have f_0 := hts (.fieldLink RX8 19 "StampDater" "history" "LStampDater$History;") (List.mem_of_getElem? (i := 1) rfl)
  have i_X8 : ∀ w ∈ u_ws RX8 TX8 6, w ∈ wsX8_adjust := by decide +kernel
  have f_2 := hts (.fieldLink RX8 10 "StampDater" "state" "LStampDater$State;") (List.mem_of_getElem? (i := 2) rfl)
  have f_3 := hts (.fieldLink RX8 63 "StampDater$State" "stamp" "LStampDater$Stamp;") (List.mem_of_getElem? (i := 3) rfl)
  have i_X6 : ∀ w ∈ u_ws RX6 TX6 8, w ∈ wsX8_adjust := by decide +kernel
  have hfr : DFr x μ μ := DFr.rf
  have hD9 := hD
  obtain ⟨hX, ⟨π, fp, sp, rd, hZ, hC, hT, hch⟩, ⟨ρ, πs, fps, sps, rds, hL, hLs⟩, ⟨πk, fpk, spk, rdk, hY, hCk, hTk, hchk⟩, ⟨to, td, tk, tn, tt, ta, hTX⟩, ⟨πr, τr, fpr, spr, hI2, hOk2⟩, hsz, hkt, hOC, hrb, hlast⟩ := hD9
  have h3 := hT.2.1
  have h5 := hT.2.2.1
  have hS0 := hT.1
  have h4 := hS0.2.2.2.1
  refine lv_iload_n hx hb dX8_adjust_0 rfl (lv_at hl 1 rfl) ?_
  refine m_callSi (As := [.int (iv k)]) (rest := []) ⟨hx, hb, hml, hown, hts⟩ hK hH hS (c_X1_isDay l G μ n k (by omega)) (va_cwS 1 hts gX8_adjust_X1_isDay rfl rfl rfl (by decide +kernel) ⟨(Nat.le_of_ble_eq_true rfl), (Nat.le_of_ble_eq_true rfl)⟩) rfl rfl hl.1 (Nat.le_of_ble_eq_true rfl) dX8_adjust_1 ⟨Nat.zero_le _, Nat.zero_le _⟩ (fun z4 μ1 n2 H locs hz4 hp3 hH hS => ?_)
  obtain ⟨hz9, hm9, hn9⟩ := hp3
  rw [hm9, hn9] at hH
  have hz4c : (z4 = 1 ∧ (0 ≤ k ∧ k ≤ 36524)) ∨ (z4 = 0 ∧ ¬ (0 ≤ k ∧ k ≤ 36524)) := by
    by_cases q9 : 0 ≤ k ∧ k ≤ 36524
    · rw [if_pos q9] at hz9; exact Or.inl ⟨hz9, q9⟩
    · rw [if_neg q9] at hz9; exact Or.inr ⟨hz9, q9⟩
  clear hz9 hm9 hn9
  refine j_if_ne (tgt := 9) hx hb dX8_adjust_4 (by decide) (fun c5 => ?_) (fun c5 => ?_) (by omega)
  · skip
    refine lv_aload_n hx hb dX8_adjust_9 rfl (lv_at hl 0 rfl) ?_
    refine m_get (C := RX8) (T := TX8) (N := 6) (ci := 7) hx hb hts i_X8 hown hK hH hX rfl 1 (by decide) f_0 rfl dX8_adjust_10 ?_
    refine lv_aload_n hx hb dX8_adjust_13 rfl (lv_at hl 0 rfl) ?_
    refine m_get (C := RX8) (T := TX8) (N := 6) (ci := 7) hx hb hts i_X8 hown hK hH hX rfl 0 (by decide) f_2 rfl dX8_adjust_14 ?_
    refine m_callVv (As := [.ref (x + 1)]) (rest := []) ⟨hx, hb, hml, hown, hts⟩ hK hH hS (c_X2_remember l G μ n (x + 30) ρ (aN u0) πs (fun r => (aH u0 r).1) fps sps rds (x + 1) π ((aD u0).1) fp sp rd hL hsz hZ hT (by omega)) (cwV 1 hts gX8_adjust_X2_remember rfl rfl rfl (by decide +kernel) ⟨(Nat.le_of_ble_eq_true rfl), (Nat.le_of_ble_eq_true rfl)⟩) hL.1 rfl rfl rfl rfl hl.1 (Nat.le_of_ble_eq_true rfl) dX8_adjust_17 ⟨Nat.zero_le _, Nat.zero_le _⟩ (fun μ6 n7 H locs hp8 hH hS => ?_)
    obtain ⟨ρ1, πs1, fps1, sps1, hL1, hfr1⟩ := hp8
    obtain ⟨hD, hfr2⟩ : IsD G μ6 x rb (aAct u0 (aD u0)) ∧ DFr x _ μ6 := hD.rem hC hLs hL1 (fun q hq => hfr1 q (by omega))
    have hfr := hfr.tr hfr2
    clear hfr2
    clear hX hZ hC hT hch hL hLs hY hCk hTk hchk hTX hI2 hOk2 hsz hkt hOC hrb hlast
    have hD9 := hD
    obtain ⟨hX, ⟨π, fp, sp, rd, hZ, hC, hT, hch⟩, ⟨ρ, πs, fps, sps, rds, hL, hLs⟩, ⟨πk, fpk, spk, rdk, hY, hCk, hTk, hchk⟩, ⟨to, td, tk, tn, tt, ta, hTX⟩, ⟨πr, τr, fpr, spr, hI2, hOk2⟩, hsz, hkt, hOC, hrb, hlast⟩ := hD9
    refine lv_aload_n hx hb dX8_adjust_20 rfl (lv_at hl 0 rfl) ?_
    refine m_get (C := RX8) (T := TX8) (N := 6) (ci := 7) hx hb hts i_X8 hown hK hH hX rfl 0 (by decide) f_2 rfl dX8_adjust_21 ?_
    refine m_get (C := RX6) (T := TX6) (N := 8) (ci := 5) hx hb hts i_X6 hown hK hH hZ.1 rfl 0 (by decide) f_3 rfl dX8_adjust_24 ?_
    refine lv_iload_n hx hb dX8_adjust_27 rfl (lv_at hl 1 rfl) ?_
    have hdr := dig_rng (day := k) (by omega)
    refine m_callSi (As := [.int (iv k)]) (rest := [.ref (x + 1 + 1)]) ⟨hx, hb, hml, hown, hts⟩ hK hH hS (c_X1_digitsOf l G μ6 n7 k (by omega)) (va_cwS 1 hts gX8_adjust_X1_digitsOf rfl rfl rfl (by decide +kernel) ⟨(Nat.le_of_ble_eq_true rfl), (Nat.le_of_ble_eq_true rfl)⟩) rfl rfl hl.1 (Nat.le_of_ble_eq_true rfl) dX8_adjust_28 ⟨Nat.zero_le _, Nat.zero_le _⟩ (fun z12 μ9 n10 H locs hz12 hp11 hH hS => ?_)
    obtain ⟨hz2, hm2, hn2⟩ := hp11; rw [hz2]; rw [hm2, hn2] at hH; clear hz2 hm2 hn2
    refine m_callVi (As := [.int (iv (dig k))]) (rest := []) ⟨hx, hb, hml, hown, hts⟩ hK hH hS (c_X5_showDigits l G μ6 n7 (x + 1 + 1) π ((aD (aAct u0 (aD u0))).1) fp sp (dig k) hZ.2.1 hT.1 (by omega)) (cwV 1 hts gX8_adjust_X5_showDigits rfl rfl rfl (by decide +kernel) ⟨(Nat.le_of_ble_eq_true rfl), (Nat.le_of_ble_eq_true rfl)⟩) hZ.2.1.1 rfl rfl rfl rfl hl.1 (Nat.le_of_ble_eq_true rfl) dX8_adjust_31 ⟨Nat.zero_le _, Nat.zero_le _⟩ (fun z16 μ13 n14 H locs hz16 hp15 hH hS => ?_)
    obtain ⟨hzr, hs1, hfr1⟩ := hp15
    obtain ⟨hD, hfr2⟩ : IsD G μ13 x rb ((adj ((aD (aAct u0 (aD u0))).1) (dig k), (aD (aAct u0 (aD u0))).2), (aAct u0 (aD u0)).2) ∧ DFr x _ μ13 := hD.pst hZ hC hs1 hfr1 (okS_adj hT.1 _ 0 6) (fun j hj => adj_st hj)
    have hfr := hfr.tr hfr2
    clear hfr2
    clear hX hZ hC hT hch hL hLs hY hCk hTk hchk hTX hI2 hOk2 hsz hkt hOC hrb hlast
    have hD9 := hD
    obtain ⟨hX, ⟨π, fp, sp, rd, hZ, hC, hT, hch⟩, ⟨ρ, πs, fps, sps, rds, hL, hLs⟩, ⟨πk, fpk, spk, rdk, hY, hCk, hTk, hchk⟩, ⟨to, td, tk, tn, tt, ta, hTX⟩, ⟨πr, τr, fpr, spr, hI2, hOk2⟩, hsz, hkt, hOC, hrb, hlast⟩ := hD9
    subst hQ
    refine m_iret hx hb hr hlocks hH hS dX8_adjust_34 ?_ (by omega)
    unfold a_adjust
    rw [if_pos (by omega)]
    exact ⟨hzr, hD, hfr⟩
  · skip
    refine j_const hx hb dX8_adjust_7 ?_
    subst hQ
    refine m_iret hx hb hr hlocks hH hS dX8_adjust_8 ?_ (by omega)
    unfold a_adjust
    rw [if_neg (by omega)]
    exact ⟨rfl, hD, hfr⟩

abbrev rm_c_X8_turn : Room := { frames := 5, cells := 0, slots := 0, locals := 113 }
set_option maxHeartbeats 4000000 in
set_option maxRecDepth 100000 in
theorem c_X8_turn (l : Launch) (G : wG) (μ : hM) (n : Nat) (x rb : Nat) (u0 : aS) (pa k : Int) (hD : IsD G μ x rb u0) (hpa1 : -2147483648 ≤ pa ∧ pa ≤ 2147483647) (hk1 : -2147483648 ≤ k ∧ k ≤ 2147483647) : Met l yX8_turn wsX8_turn rm_c_X8_turn (mPc G μ n [.ref x, .int (iv pa), .int (iv k)]) (mQi G (fun z μ1 n1 => z = (a_turn u0 pa k).2 ∧ IsD G μ1 x rb (a_turn u0 pa k).1 ∧ DFr x μ μ1)) 0 0 (gA G) := by
  refine Met.ofW (cc := cX8_turn) (maxL := 3) (ret := (some .int)) (by decide) rfl ?_
  intro p e s m args below meth c s₁ B hml hv
  obtain ⟨hav, hK, hH⟩ := hv
  have hx := B.exec
  have hb := B.bytes
  have hr := B.returns
  have hts := atoms_spec (ws := wsX8_turn) B.pre
  have hown : s.vm.findClass RX8 = some m.cls := findClass_of_methodNamed B.named
  have hlocks := B.notSynchronized
  have hS : va_S (gA G) s.heap s.heap [] := va_S.rf
  have hl := lv_entry ([.ref x, .int (iv pa), .int (iv k)]) (n := 3) (Nat.le_of_ble_eq_true rfl)
  have hfr : entryFrame m args 3 = entryFrame m ([.ref x, .int (iv pa), .int (iv k)] : List Value).toArray 3 := by rw [hav]
  rw [hfr, lg_entry_eq]
  generalize (lg_sl ([.ref x, .int (iv pa), .int (iv k)]) ++ List.replicate (3 - (lg_sl ([.ref x, .int (iv pa), .int (iv k)])).length) Slot.unset).toArray = ls at hl ⊢
  have hl : lv_has ls 3 [(0, .ref x), (1, .int (iv pa)), (2, .int (iv k))] := hl
  generalize hQ : MQ below _ args s 0 0 (gA G) = Q
  show W p l e rm_c_X8_turn s m args below meth c s.heap [] 0 0 Q (F0 m 0 ls [])
  obtain ⟨H, hHe⟩ : ∃ H, H = s.heap := ⟨_, rfl⟩
  obtain ⟨locs, hlo⟩ : ∃ q : List Loc, q = [] := ⟨_, rfl⟩
  have hH : gP G μ n H := by rw [hHe]; exact hH
  have hS : va_S (gA G) s.heap H locs := by rw [hHe, hlo]; exact hS
  suffices hgo : W p l e rm_c_X8_turn s m args below meth c H locs 0 0 Q (F0 m 0 ls []) by rw [hHe, hlo] at hgo; exact hgo
  clear hHe hlo hfr hav
  have f_0 := hts (.fieldLink RX8 19 "StampDater" "history" "LStampDater$History;") (List.mem_of_getElem? (i := 1) rfl)
  have i_X8 : ∀ w ∈ u_ws RX8 TX8 6, w ∈ wsX8_turn := by decide +kernel
  have f_2 := hts (.fieldLink RX8 10 "StampDater" "state" "LStampDater$State;") (List.mem_of_getElem? (i := 2) rfl)
  have f_3 := hts (.fieldLink RX8 63 "StampDater$State" "stamp" "LStampDater$Stamp;") (List.mem_of_getElem? (i := 3) rfl)
  have i_X6 : ∀ w ∈ u_ws RX6 TX6 8, w ∈ wsX8_turn := by decide +kernel
  have f_5 := hts (.fieldLink RX8 80 "StampDater$Stamp" "bands" "[LStampDater$Band;") (List.mem_of_getElem? (i := 4) rfl)
  have i_X5 : ∀ w ∈ u_ws RX5 TX5 7, w ∈ wsX8_turn := by decide +kernel
  have f_7 := hts (.fieldLink RX8 84 "StampDater$Band" "shown" "I") (List.mem_of_getElem? (i := 5) rfl)
  have i_X0 : ∀ w ∈ u_ws RX0 TX0 4, w ∈ wsX8_turn := by decide +kernel
  have hfr : DFr x μ μ := DFr.rf
  have hD9 := hD
  obtain ⟨hX, ⟨π, fp, sp, rd, hZ, hC, hT, hch⟩, ⟨ρ, πs, fps, sps, rds, hL, hLs⟩, ⟨πk, fpk, spk, rdk, hY, hCk, hTk, hchk⟩, ⟨to, td, tk, tn, tt, ta, hTX⟩, ⟨πr, τr, fpr, spr, hI2, hOk2⟩, hsz, hkt, hOC, hrb, hlast⟩ := hD9
  have h3 := hT.2.1
  have h5 := hT.2.2.1
  have hS0 := hT.1
  have h4 := hS0.2.2.2.1
  refine lv_iload_n hx hb dX8_turn_0 rfl (lv_at hl 1 rfl) ?_
  refine m_callSi (As := [.int (iv pa)]) (rest := []) ⟨hx, hb, hml, hown, hts⟩ hK hH hS (c_X8_isPlace l G μ n pa (by omega)) (va_cwS 1 hts gX8_turn_X8_isPlace rfl rfl rfl (by decide +kernel) ⟨(Nat.le_of_ble_eq_true rfl), (Nat.le_of_ble_eq_true rfl)⟩) rfl rfl hl.1 (Nat.le_of_ble_eq_true rfl) dX8_turn_1 ⟨Nat.zero_le _, Nat.zero_le _⟩ (fun z4 μ1 n2 H locs hz4 hp3 hH hS => ?_)
  obtain ⟨hz9, hm9, hn9⟩ := hp3
  rw [hm9, hn9] at hH
  have hz4c : (z4 = 1 ∧ (0 ≤ pa ∧ pa ≤ 5)) ∨ (z4 = 0 ∧ ¬ (0 ≤ pa ∧ pa ≤ 5)) := by
    by_cases q9 : 0 ≤ pa ∧ pa ≤ 5
    · rw [if_pos q9] at hz9; exact Or.inl ⟨hz9, q9⟩
    · rw [if_neg q9] at hz9; exact Or.inr ⟨hz9, q9⟩
  clear hz9 hm9 hn9
  refine j_if_ne (tgt := 9) hx hb dX8_turn_4 (by decide) (fun c5 => ?_) (fun c5 => ?_) (by omega)
  · skip
    refine lv_iload_n hx hb dX8_turn_9 rfl (lv_at hl 2 rfl) ?_
    refine j_if_eq (tgt := 24) hx hb dX8_turn_10 (by decide) (fun c6 => ?_) (fun c6 => ?_) (by omega)
    · skip
      refine j_bipush hx hb dX8_turn_24 ?_ (by decide)
      subst hQ
      refine m_iret hx hb hr hlocks hH hS dX8_turn_26 ?_ (by omega)
      unfold a_turn
      rw [if_pos (by omega), if_neg (by omega)]
      exact ⟨rfl, hD, hfr⟩
    · skip
      refine lv_iload_n hx hb dX8_turn_13 rfl (lv_at hl 2 rfl) ?_
      refine j_bipush hx hb dX8_turn_14 ?_ (by decide)
      refine j_bipush hx hb dX8_turn_16 ?_ (by decide)
      refine m_callSi (As := [.int (iv k), .int (iv (-9)), .int (iv 9)]) (rest := []) ⟨hx, hb, hml, hown, hts⟩ hK hH hS (c_X8_isWithin l G μ n k (-9) 9 (by omega) (by omega) (by omega)) (va_cwS 3 hts gX8_turn_X8_isWithin rfl rfl rfl (by decide +kernel) ⟨(Nat.le_of_ble_eq_true rfl), (Nat.le_of_ble_eq_true rfl)⟩) rfl rfl hl.1 (Nat.le_of_ble_eq_true rfl) dX8_turn_18 ⟨Nat.zero_le _, Nat.zero_le _⟩ (fun z10 μ7 n8 H locs hz10 hp9 hH hS => ?_)
      obtain ⟨hz9, hm9, hn9⟩ := hp9
      rw [hm9, hn9] at hH
      have hz10c : (z10 = 1 ∧ ((-9) ≤ k ∧ k ≤ 9)) ∨ (z10 = 0 ∧ ¬ ((-9) ≤ k ∧ k ≤ 9)) := by
        by_cases q9 : (-9) ≤ k ∧ k ≤ 9
        · rw [if_pos q9] at hz9; exact Or.inl ⟨hz9, q9⟩
        · rw [if_neg q9] at hz9; exact Or.inr ⟨hz9, q9⟩
      clear hz9 hm9 hn9
      refine j_if_ne (tgt := 27) hx hb dX8_turn_21 (by decide) (fun c11 => ?_) (fun c11 => ?_) (by omega)
      · skip
        obtain ⟨pn, hpn⟩ : ∃ pn : Nat, pn = pa.toNat := ⟨_, rfl⟩
        have hpe : pa = (pn : Int) := by omega
        clear hpn
        subst hpe
        have hpn : pn < 6 := by omega
        refine lv_aload_n hx hb dX8_turn_27 rfl (lv_at hl 0 rfl) ?_
        refine m_get (C := RX8) (T := TX8) (N := 6) (ci := 7) hx hb hts i_X8 hown hK hH hX rfl 1 (by decide) f_0 rfl dX8_turn_28 ?_
        refine lv_aload_n hx hb dX8_turn_31 rfl (lv_at hl 0 rfl) ?_
        refine m_get (C := RX8) (T := TX8) (N := 6) (ci := 7) hx hb hts i_X8 hown hK hH hX rfl 0 (by decide) f_2 rfl dX8_turn_32 ?_
        refine m_callVv (As := [.ref (x + 1)]) (rest := []) ⟨hx, hb, hml, hown, hts⟩ hK hH hS (c_X2_remember l G μ n (x + 30) ρ (aN u0) πs (fun r => (aH u0 r).1) fps sps rds (x + 1) π ((aD u0).1) fp sp rd hL hsz hZ hT (by omega)) (cwV 1 hts gX8_turn_X2_remember rfl rfl rfl (by decide +kernel) ⟨(Nat.le_of_ble_eq_true rfl), (Nat.le_of_ble_eq_true rfl)⟩) hL.1 rfl rfl rfl rfl hl.1 (Nat.le_of_ble_eq_true rfl) dX8_turn_35 ⟨Nat.zero_le _, Nat.zero_le _⟩ (fun μ12 n13 H locs hp14 hH hS => ?_)
        obtain ⟨ρ1, πs1, fps1, sps1, hL1, hfr1⟩ := hp14
        obtain ⟨hD, hfr2⟩ : IsD G μ12 x rb (aAct u0 (aD u0)) ∧ DFr x _ μ12 := hD.rem hC hLs hL1 (fun q hq => hfr1 q (by omega))
        have hfr := hfr.tr hfr2
        clear hfr2
        clear hX hZ hC hT hch hL hLs hY hCk hTk hchk hTX hI2 hOk2 hsz hkt hOC hrb hlast
        have hD9 := hD
        obtain ⟨hX, ⟨π, fp, sp, rd, hZ, hC, hT, hch⟩, ⟨ρ, πs, fps, sps, rds, hL, hLs⟩, ⟨πk, fpk, spk, rdk, hY, hCk, hTk, hchk⟩, ⟨to, td, tk, tn, tt, ta, hTX⟩, ⟨πr, τr, fpr, spr, hI2, hOk2⟩, hsz, hkt, hOC, hrb, hlast⟩ := hD9
        refine lv_aload_n hx hb dX8_turn_38 rfl (lv_at hl 0 rfl) ?_
        refine m_get (C := RX8) (T := TX8) (N := 6) (ci := 7) hx hb hts i_X8 hown hK hH hX rfl 0 (by decide) f_2 rfl dX8_turn_39 ?_
        refine m_get (C := RX6) (T := TX6) (N := 8) (ci := 5) hx hb hts i_X6 hown hK hH hZ.1 rfl 0 (by decide) f_3 rfl dX8_turn_42 ?_
        refine lv_iload_n hx hb dX8_turn_45 rfl (lv_at hl 1 rfl) ?_
        refine lv_iload_n hx hb dX8_turn_46 rfl (lv_at hl 2 rfl) ?_
        refine m_callVv (As := [.int (iv (pn : Int)), .int (iv k)]) (rest := []) ⟨hx, hb, hml, hown, hts⟩ hK hH hS (c_X5_turnBand l G μ12 n13 (x + 1 + 1) π ((aD (aAct u0 (aD u0))).1) fp sp pn k hZ.2.1 hT.1 (by omega) (by omega)) (cwV 2 hts gX8_turn_X5_turnBand rfl rfl rfl (by decide +kernel) ⟨(Nat.le_of_ble_eq_true rfl), (Nat.le_of_ble_eq_true rfl)⟩) hZ.2.1.1 rfl rfl rfl rfl hl.1 (Nat.le_of_ble_eq_true rfl) dX8_turn_47 ⟨Nat.zero_le _, Nat.zero_le _⟩ (fun μ15 n16 H locs hp17 hH hS => ?_)
        obtain ⟨hs1, hfr1⟩ := hp17
        obtain ⟨hD, hfr2⟩ : IsD G μ15 x rb ((trn ((aD (aAct u0 (aD u0))).1) pn k, (aD (aAct u0 (aD u0))).2), (aAct u0 (aD u0)).2) ∧ DFr x _ μ15 := hD.pst hZ hC hs1 hfr1 (okS_trn hT.1 hpn k (by omega)) (fun j hj => trn_ot hpn (by omega) (by omega))
        have hfr := hfr.tr hfr2
        clear hfr2
        clear hX hZ hC hT hch hL hLs hY hCk hTk hchk hTX hI2 hOk2 hsz hkt hOC hrb hlast
        have hD9 := hD
        obtain ⟨hX, ⟨π, fp, sp, rd, hZ, hC, hT, hch⟩, ⟨ρ, πs, fps, sps, rds, hL, hLs⟩, ⟨πk, fpk, spk, rdk, hY, hCk, hTk, hchk⟩, ⟨to, td, tk, tn, tt, ta, hTX⟩, ⟨πr, τr, fpr, spr, hI2, hOk2⟩, hsz, hkt, hOC, hrb, hlast⟩ := hD9
        refine lv_aload_n hx hb dX8_turn_50 rfl (lv_at hl 0 rfl) ?_
        refine m_get (C := RX8) (T := TX8) (N := 6) (ci := 7) hx hb hts i_X8 hown hK hH hX rfl 0 (by decide) f_2 rfl dX8_turn_51 ?_
        refine m_get (C := RX6) (T := TX6) (N := 8) (ci := 5) hx hb hts i_X6 hown hK hH hZ.1 rfl 0 (by decide) f_3 rfl dX8_turn_54 ?_
        refine m_get (C := RX5) (T := TX5) (N := 7) (ci := 4) hx hb hts i_X5 hown hK hH hZ.2.1.1 rfl 0 (by decide) f_5 rfl dX8_turn_57 ?_
        refine lv_iload_n hx hb dX8_turn_60 rfl (lv_at hl 1 rfl) ?_
        refine m_aald (b := ((x + 1 + 1) + 2 + 2 * π pn)) hx hb hK hH 2 hZ.2.1.2.1 rfl rfl dX8_turn_61 ?_ (by omega) (by omega)
        refine m_get (C := RX0) (T := TX0) (N := 4) (ci := 0) hx hb hts i_X0 hown hK hH (hZ.2.1.2.2.2.1 pn (by omega)) rfl 1 (by decide) f_7 rfl dX8_turn_62 ?_
        refine j_norm (y := ((aD u0).1 (86 + 13 * pn) + k) % 10) (trn_at.trans (if_pos rfl)) ?_
        subst hQ
        refine m_iret hx hb hr hlocks hH hS dX8_turn_65 ?_ (by omega)
        unfold a_turn
        rw [if_pos (by omega), if_pos (by omega)]
        exact ⟨rfl, hD, hfr⟩
      · skip
        refine j_bipush hx hb dX8_turn_24 ?_ (by decide)
        subst hQ
        refine m_iret hx hb hr hlocks hH hS dX8_turn_26 ?_ (by omega)
        unfold a_turn
        rw [if_pos (by omega), if_neg (by omega)]
        exact ⟨rfl, hD, hfr⟩
  · skip
    refine j_const hx hb dX8_turn_7 ?_
    subst hQ
    refine m_iret hx hb hr hlocks hH hS dX8_turn_8 ?_ (by omega)
    unfold a_turn
    rw [if_neg (by omega)]
    exact ⟨rfl, hD, hfr⟩

abbrev rm_c_X8_press : Room := { frames := 5, cells := 1, slots := 4, locals := 117 }
set_option maxHeartbeats 4000000 in
set_option maxRecDepth 100000 in
theorem c_X8_press (l : Launch) (G : wG) (μ : hM) (n : Nat) (x rb : Nat) (u0 : aS) (k t : Int) (hD : IsD G μ x rb u0) (hk1 : -2147483648 ≤ k ∧ k ≤ 2147483647) (ht1 : -2147483648 ≤ t ∧ t ≤ 2147483647) (hB5 : (aD u0).1 5 + 99 ≤ 2000000000) : Met l yX8_press wsX8_press rm_c_X8_press (mPc G μ n [.ref x, .int (iv k), .int (iv t)]) (mQi G (fun z μ1 n1 => z = (a_press u0 k t).2 ∧ IsD G μ1 x rb (a_press u0 k t).1 ∧ DFr x μ μ1)) 1 4 (gA G) := by
  refine Met.ofW (cc := cX8_press) (maxL := 3) (ret := (some .int)) (by decide) rfl ?_
  intro p e s m args below meth c s₁ B hml hv
  obtain ⟨hav, hK, hH⟩ := hv
  have hx := B.exec
  have hb := B.bytes
  have hr := B.returns
  have hts := atoms_spec (ws := wsX8_press) B.pre
  have hown : s.vm.findClass RX8 = some m.cls := findClass_of_methodNamed B.named
  have hlocks := B.notSynchronized
  have hS : va_S (gA G) s.heap s.heap [] := va_S.rf
  have hl := lv_entry ([.ref x, .int (iv k), .int (iv t)]) (n := 3) (Nat.le_of_ble_eq_true rfl)
  have hfr : entryFrame m args 3 = entryFrame m ([.ref x, .int (iv k), .int (iv t)] : List Value).toArray 3 := by rw [hav]
  rw [hfr, lg_entry_eq]
  generalize (lg_sl ([.ref x, .int (iv k), .int (iv t)]) ++ List.replicate (3 - (lg_sl ([.ref x, .int (iv k), .int (iv t)])).length) Slot.unset).toArray = ls at hl ⊢
  have hl : lv_has ls 3 [(0, .ref x), (1, .int (iv k)), (2, .int (iv t))] := hl
  generalize hQ : MQ below _ args s 1 4 (gA G) = Q
  show W p l e rm_c_X8_press s m args below meth c s.heap [] 0 0 Q (F0 m 0 ls [])
  obtain ⟨H, hHe⟩ : ∃ H, H = s.heap := ⟨_, rfl⟩
  obtain ⟨locs, hlo⟩ : ∃ q : List Loc, q = [] := ⟨_, rfl⟩
  have hH : gP G μ n H := by rw [hHe]; exact hH
  have hS : va_S (gA G) s.heap H locs := by rw [hHe, hlo]; exact hS
  suffices hgo : W p l e rm_c_X8_press s m args below meth c H locs 0 0 Q (F0 m 0 ls []) by rw [hHe, hlo] at hgo; exact hgo
  clear hHe hlo hfr hav
  have f_0 := hts (.fieldLink RX8 19 "StampDater" "history" "LStampDater$History;") (List.mem_of_getElem? (i := 1) rfl)
  have i_X8 : ∀ w ∈ u_ws RX8 TX8 6, w ∈ wsX8_press := by decide +kernel
  have f_2 := hts (.fieldLink RX8 10 "StampDater" "state" "LStampDater$State;") (List.mem_of_getElem? (i := 2) rfl)
  have hfr : DFr x μ μ := DFr.rf
  have hD9 := hD
  obtain ⟨hX, ⟨π, fp, sp, rd, hZ, hC, hT, hch⟩, ⟨ρ, πs, fps, sps, rds, hL, hLs⟩, ⟨πk, fpk, spk, rdk, hY, hCk, hTk, hchk⟩, ⟨to, td, tk, tn, tt, ta, hTX⟩, ⟨πr, τr, fpr, spr, hI2, hOk2⟩, hsz, hkt, hOC, hrb, hlast⟩ := hD9
  have h3 := hT.2.1
  have h5 := hT.2.2.1
  have hS0 := hT.1
  have h4 := hS0.2.2.2.1
  refine lv_iload_n hx hb dX8_press_0 rfl (lv_at hl 1 rfl) ?_
  refine m_callSi (As := [.int (iv k)]) (rest := []) ⟨hx, hb, hml, hown, hts⟩ hK hH hS (c_X8_isStrength l G μ n k (by omega)) (va_cwS 1 hts gX8_press_X8_isStrength rfl rfl rfl (by decide +kernel) ⟨(Nat.le_of_ble_eq_true rfl), (Nat.le_of_ble_eq_true rfl)⟩) rfl rfl hl.1 (Nat.le_of_ble_eq_true rfl) dX8_press_1 ⟨Nat.zero_le _, Nat.zero_le _⟩ (fun z4 μ1 n2 H locs hz4 hp3 hH hS => ?_)
  obtain ⟨hz9, hm9, hn9⟩ := hp3
  rw [hm9, hn9] at hH
  have hz4c : (z4 = 1 ∧ (1 ≤ k ∧ k ≤ 9)) ∨ (z4 = 0 ∧ ¬ (1 ≤ k ∧ k ≤ 9)) := by
    by_cases q9 : 1 ≤ k ∧ k ≤ 9
    · rw [if_pos q9] at hz9; exact Or.inl ⟨hz9, q9⟩
    · rw [if_neg q9] at hz9; exact Or.inr ⟨hz9, q9⟩
  clear hz9 hm9 hn9
  refine j_if_eq (tgt := 17) hx hb dX8_press_4 (by decide) (fun c5 => ?_) (fun c5 => ?_) (by omega)
  · skip
    refine j_bipush hx hb dX8_press_17 ?_ (by decide)
    refine W.widen (k := 1) (n := 4) (by omega) (by omega) ?_
    subst hQ
    refine m_iret hx hb hr hlocks hH hS dX8_press_19 ?_ (by omega)
    unfold a_press
    rw [if_neg (by omega)]
    exact ⟨rfl, hD, hfr⟩
  · skip
    refine lv_iload_n hx hb dX8_press_7 rfl (lv_at hl 2 rfl) ?_
    refine j_const hx hb dX8_press_8 ?_
    refine j_bipush hx hb dX8_press_9 ?_ (by decide)
    refine m_callSi (As := [.int (iv t), .int (iv 1), .int (iv 99)]) (rest := []) ⟨hx, hb, hml, hown, hts⟩ hK hH hS (c_X8_isWithin l G μ n t 1 99 (by omega) (by omega) (by omega)) (va_cwS 3 hts gX8_press_X8_isWithin rfl rfl rfl (by decide +kernel) ⟨(Nat.le_of_ble_eq_true rfl), (Nat.le_of_ble_eq_true rfl)⟩) rfl rfl hl.1 (Nat.le_of_ble_eq_true rfl) dX8_press_11 ⟨Nat.zero_le _, Nat.zero_le _⟩ (fun z9 μ6 n7 H locs hz9 hp8 hH hS => ?_)
    obtain ⟨hz9, hm9, hn9⟩ := hp8
    rw [hm9, hn9] at hH
    have hz9c : (z9 = 1 ∧ (1 ≤ t ∧ t ≤ 99)) ∨ (z9 = 0 ∧ ¬ (1 ≤ t ∧ t ≤ 99)) := by
      by_cases q9 : 1 ≤ t ∧ t ≤ 99
      · rw [if_pos q9] at hz9; exact Or.inl ⟨hz9, q9⟩
      · rw [if_neg q9] at hz9; exact Or.inr ⟨hz9, q9⟩
    clear hz9 hm9 hn9
    refine j_if_ne (tgt := 20) hx hb dX8_press_14 (by decide) (fun c10 => ?_) (fun c10 => ?_) (by omega)
    · skip
      refine lv_aload_n hx hb dX8_press_20 rfl (lv_at hl 0 rfl) ?_
      refine m_get (C := RX8) (T := TX8) (N := 6) (ci := 7) hx hb hts i_X8 hown hK hH hX rfl 1 (by decide) f_0 rfl dX8_press_21 ?_
      refine lv_aload_n hx hb dX8_press_24 rfl (lv_at hl 0 rfl) ?_
      refine m_get (C := RX8) (T := TX8) (N := 6) (ci := 7) hx hb hts i_X8 hown hK hH hX rfl 0 (by decide) f_2 rfl dX8_press_25 ?_
      refine m_callVv (As := [.ref (x + 1)]) (rest := []) ⟨hx, hb, hml, hown, hts⟩ hK hH hS (c_X2_remember l G μ n (x + 30) ρ (aN u0) πs (fun r => (aH u0 r).1) fps sps rds (x + 1) π ((aD u0).1) fp sp rd hL hsz hZ hT (by omega)) (cwV 1 hts gX8_press_X2_remember rfl rfl rfl (by decide +kernel) ⟨(Nat.le_of_ble_eq_true rfl), (Nat.le_of_ble_eq_true rfl)⟩) hL.1 rfl rfl rfl rfl hl.1 (Nat.le_of_ble_eq_true rfl) dX8_press_28 ⟨Nat.zero_le _, Nat.zero_le _⟩ (fun μ11 n12 H locs hp13 hH hS => ?_)
      obtain ⟨ρ1, πs1, fps1, sps1, hL1, hfr1⟩ := hp13
      obtain ⟨hD, hfr2⟩ : IsD G μ11 x rb (aAct u0 (aD u0)) ∧ DFr x _ μ11 := hD.rem hC hLs hL1 (fun q hq => hfr1 q (by omega))
      have hfr := hfr.tr hfr2
      clear hfr2
      clear hX hZ hC hT hch hL hLs hY hCk hTk hchk hTX hI2 hOk2 hsz hkt hOC hrb hlast
      have hD9 := hD
      obtain ⟨hX, ⟨π, fp, sp, rd, hZ, hC, hT, hch⟩, ⟨ρ, πs, fps, sps, rds, hL, hLs⟩, ⟨πk, fpk, spk, rdk, hY, hCk, hTk, hchk⟩, ⟨to, td, tk, tn, tt, ta, hTX⟩, ⟨πr, τr, fpr, spr, hI2, hOk2⟩, hsz, hkt, hOC, hrb, hlast⟩ := hD9
      refine lv_aload_n hx hb dX8_press_31 rfl (lv_at hl 0 rfl) ?_
      refine m_get (C := RX8) (T := TX8) (N := 6) (ci := 7) hx hb hts i_X8 hown hK hH hX rfl 0 (by decide) f_2 rfl dX8_press_32 ?_
      refine lv_iload_n hx hb dX8_press_35 rfl (lv_at hl 1 rfl) ?_
      refine lv_iload_n hx hb dX8_press_36 rfl (lv_at hl 2 rfl) ?_
      have hB6 : ((aD (aAct u0 (aD u0))).1) 5 + t ≤ 2000000000 ∧ 0 ≤ ((aD (aAct u0 (aD u0))).1) 3 ∧ ((aD (aAct u0 (aD u0))).1) 3 ≤ 36524 := ⟨by show (aD u0).1 5 + _ ≤ _; omega, hT.2.1⟩
      refine m_callVi (As := [.int (iv k), .int (iv t)]) (rest := []) ⟨hx, hb, hml, hown, hts⟩ hK hH hS (c_X6_printTimes l G μ11 n12 (x + 1) π ((aD (aAct u0 (aD u0))).1) fp sp rd rb (aD (aAct u0 (aD u0))).2 k t hZ hT hC hch (by omega) (by omega) (by omega) (by omega) hlast) (cwV 2 hts gX8_press_X6_printTimes rfl rfl rfl (by decide +kernel) ⟨(Nat.le_of_ble_eq_true rfl), (Nat.le_of_ble_eq_true rfl)⟩) hZ.1 rfl rfl rfl rfl hl.1 (Nat.le_of_ble_eq_true rfl) dX8_press_37 ⟨(Nat.le_of_ble_eq_true rfl), (Nat.le_of_ble_eq_true rfl)⟩ (fun z17 μ14 n15 H locs hz17 hp16 hH hS => ?_)
      obtain ⟨hzr, f1, s1, rd2, hZ1, hC1, hfr1⟩ := hp16
      obtain ⟨hD, hfr2⟩ : IsD G μ14 x rb ((nPr ((aD (aAct u0 (aD u0))).1) k t.toNat, chAdd (aD (aAct u0 (aD u0))).2 (((aD (aAct u0 (aD u0))).1) 3) (nRt ((aD (aAct u0 (aD u0))).1) k t.toNat)), (aAct u0 (aD u0)).2) ∧ DFr x _ μ14 := hD.pS ⟨π, f1, s1, rd2, hZ1, hC1, okT_n hT (by omega) _ (by omega), chAdd_rng hch (by omega)⟩ (fun q e a b => hfr1 q e (by omega) b)
      have hfr := hfr.tr hfr2
      clear hfr2
      clear hX hZ hC hT hch hL hLs hY hCk hTk hchk hTX hI2 hOk2 hsz hkt hOC hrb hlast
      have hD9 := hD
      obtain ⟨hX, ⟨π, fp, sp, rd, hZ, hC, hT, hch⟩, ⟨ρ, πs, fps, sps, rds, hL, hLs⟩, ⟨πk, fpk, spk, rdk, hY, hCk, hTk, hchk⟩, ⟨to, td, tk, tn, tt, ta, hTX⟩, ⟨πr, τr, fpr, spr, hI2, hOk2⟩, hsz, hkt, hOC, hrb, hlast⟩ := hD9
      subst hQ
      refine m_iret hx hb hr hlocks hH hS dX8_press_40 ?_ (by omega)
      unfold a_press
      rw [if_pos (by omega)]
      exact ⟨hzr, hD, hfr⟩
    · skip
      refine j_bipush hx hb dX8_press_17 ?_ (by decide)
      refine W.widen (k := 1) (n := 4) (by omega) (by omega) ?_
      subst hQ
      refine m_iret hx hb hr hlocks hH hS dX8_press_19 ?_ (by omega)
      unfold a_press
      rw [if_neg (by omega)]
      exact ⟨rfl, hD, hfr⟩

abbrev rm_c_X8_fill : Room := { frames := 5, cells := 0, slots := 0, locals := 113 }
set_option maxHeartbeats 4000000 in
set_option maxRecDepth 100000 in
theorem c_X8_fill (l : Launch) (G : wG) (μ : hM) (n : Nat) (x rb : Nat) (u0 : aS) (k : Int) (hD : IsD G μ x rb u0) (hk1 : -2147483648 ≤ k ∧ k ≤ 2147483647) : Met l yX8_fill wsX8_fill rm_c_X8_fill (mPc G μ n [.ref x, .int (iv k)]) (mQi G (fun z μ1 n1 => z = (a_fill u0 k).2 ∧ IsD G μ1 x rb (a_fill u0 k).1 ∧ DFr x μ μ1)) 0 0 (gA G) := by
  refine Met.ofW (cc := cX8_fill) (maxL := 2) (ret := (some .int)) (by decide) rfl ?_
  intro p e s m args below meth c s₁ B hml hv
  obtain ⟨hav, hK, hH⟩ := hv
  have hx := B.exec
  have hb := B.bytes
  have hr := B.returns
  have hts := atoms_spec (ws := wsX8_fill) B.pre
  have hown : s.vm.findClass RX8 = some m.cls := findClass_of_methodNamed B.named
  have hlocks := B.notSynchronized
  have hS : va_S (gA G) s.heap s.heap [] := va_S.rf
  have hl := lv_entry ([.ref x, .int (iv k)]) (n := 2) (Nat.le_of_ble_eq_true rfl)
  have hfr : entryFrame m args 2 = entryFrame m ([.ref x, .int (iv k)] : List Value).toArray 2 := by rw [hav]
  rw [hfr, lg_entry_eq]
  generalize (lg_sl ([.ref x, .int (iv k)]) ++ List.replicate (2 - (lg_sl ([.ref x, .int (iv k)])).length) Slot.unset).toArray = ls at hl ⊢
  have hl : lv_has ls 2 [(0, .ref x), (1, .int (iv k))] := hl
  generalize hQ : MQ below _ args s 0 0 (gA G) = Q
  show W p l e rm_c_X8_fill s m args below meth c s.heap [] 0 0 Q (F0 m 0 ls [])
  obtain ⟨H, hHe⟩ : ∃ H, H = s.heap := ⟨_, rfl⟩
  obtain ⟨locs, hlo⟩ : ∃ q : List Loc, q = [] := ⟨_, rfl⟩
  have hH : gP G μ n H := by rw [hHe]; exact hH
  have hS : va_S (gA G) s.heap H locs := by rw [hHe, hlo]; exact hS
  suffices hgo : W p l e rm_c_X8_fill s m args below meth c H locs 0 0 Q (F0 m 0 ls []) by rw [hHe, hlo] at hgo; exact hgo
  clear hHe hlo hfr hav
  have f_0 := hts (.fieldLink RX8 10 "StampDater" "state" "LStampDater$State;") (List.mem_of_getElem? (i := 1) rfl)
  have i_X8 : ∀ w ∈ u_ws RX8 TX8 6, w ∈ wsX8_fill := by decide +kernel
  have f_2 := hts (.fieldLink RX8 63 "StampDater$State" "stamp" "LStampDater$Stamp;") (List.mem_of_getElem? (i := 2) rfl)
  have i_X6 : ∀ w ∈ u_ws RX6 TX6 8, w ∈ wsX8_fill := by decide +kernel
  have f_4 := hts (.fieldLink RX8 96 "StampDater$Stamp" "ink" "I") (List.mem_of_getElem? (i := 3) rfl)
  have i_X5 : ∀ w ∈ u_ws RX5 TX5 7, w ∈ wsX8_fill := by decide +kernel
  have f_6 := hts (.fieldLink RX8 19 "StampDater" "history" "LStampDater$History;") (List.mem_of_getElem? (i := 4) rfl)
  have hfr : DFr x μ μ := DFr.rf
  have hD9 := hD
  obtain ⟨hX, ⟨π, fp, sp, rd, hZ, hC, hT, hch⟩, ⟨ρ, πs, fps, sps, rds, hL, hLs⟩, ⟨πk, fpk, spk, rdk, hY, hCk, hTk, hchk⟩, ⟨to, td, tk, tn, tt, ta, hTX⟩, ⟨πr, τr, fpr, spr, hI2, hOk2⟩, hsz, hkt, hOC, hrb, hlast⟩ := hD9
  have h3 := hT.2.1
  have h5 := hT.2.2.1
  have hS0 := hT.1
  have h4 := hS0.2.2.2.1
  refine lv_iload_n hx hb dX8_fill_0 rfl (lv_at hl 1 rfl) ?_
  refine j_const hx hb dX8_fill_1 ?_
  refine j_sipush hx hb dX8_fill_2 ?_ (by decide)
  refine m_callSi (As := [.int (iv k), .int (iv 1), .int (iv 200)]) (rest := []) ⟨hx, hb, hml, hown, hts⟩ hK hH hS (c_X8_isWithin l G μ n k 1 200 (by omega) (by omega) (by omega)) (va_cwS 3 hts gX8_fill_X8_isWithin rfl rfl rfl (by decide +kernel) ⟨(Nat.le_of_ble_eq_true rfl), (Nat.le_of_ble_eq_true rfl)⟩) rfl rfl hl.1 (Nat.le_of_ble_eq_true rfl) dX8_fill_5 ⟨Nat.zero_le _, Nat.zero_le _⟩ (fun z4 μ1 n2 H locs hz4 hp3 hH hS => ?_)
  obtain ⟨hz9, hm9, hn9⟩ := hp3
  rw [hm9, hn9] at hH
  have hz4c : (z4 = 1 ∧ (1 ≤ k ∧ k ≤ 200)) ∨ (z4 = 0 ∧ ¬ (1 ≤ k ∧ k ≤ 200)) := by
    by_cases q9 : 1 ≤ k ∧ k ≤ 200
    · rw [if_pos q9] at hz9; exact Or.inl ⟨hz9, q9⟩
    · rw [if_neg q9] at hz9; exact Or.inr ⟨hz9, q9⟩
  clear hz9 hm9 hn9
  refine j_if_ne (tgt := 14) hx hb dX8_fill_8 (by decide) (fun c5 => ?_) (fun c5 => ?_) (by omega)
  · skip
    refine lv_aload_n hx hb dX8_fill_14 rfl (lv_at hl 0 rfl) ?_
    refine m_get (C := RX8) (T := TX8) (N := 6) (ci := 7) hx hb hts i_X8 hown hK hH hX rfl 0 (by decide) f_0 rfl dX8_fill_15 ?_
    refine m_get (C := RX6) (T := TX6) (N := 8) (ci := 5) hx hb hts i_X6 hown hK hH hZ.1 rfl 0 (by decide) f_2 rfl dX8_fill_18 ?_
    refine m_get (C := RX5) (T := TX5) (N := 7) (ci := 4) hx hb hts i_X5 hown hK hH hZ.2.1.1 rfl 2 (by decide) f_4 rfl dX8_fill_21 ?_
    refine j_sipush hx hb dX8_fill_24 ?_ (by decide)
    refine j_icmp_lt (tgt := 33) hx hb dX8_fill_27 (by decide) (fun c6 => ?_) (fun c6 => ?_) (by omega) (by omega)
    · skip
      refine lv_aload_n hx hb dX8_fill_33 rfl (lv_at hl 0 rfl) ?_
      refine m_get (C := RX8) (T := TX8) (N := 6) (ci := 7) hx hb hts i_X8 hown hK hH hX rfl 1 (by decide) f_6 rfl dX8_fill_34 ?_
      refine lv_aload_n hx hb dX8_fill_37 rfl (lv_at hl 0 rfl) ?_
      refine m_get (C := RX8) (T := TX8) (N := 6) (ci := 7) hx hb hts i_X8 hown hK hH hX rfl 0 (by decide) f_0 rfl dX8_fill_38 ?_
      refine m_callVv (As := [.ref (x + 1)]) (rest := []) ⟨hx, hb, hml, hown, hts⟩ hK hH hS (c_X2_remember l G μ n (x + 30) ρ (aN u0) πs (fun r => (aH u0 r).1) fps sps rds (x + 1) π ((aD u0).1) fp sp rd hL hsz hZ hT (by omega)) (cwV 1 hts gX8_fill_X2_remember rfl rfl rfl (by decide +kernel) ⟨(Nat.le_of_ble_eq_true rfl), (Nat.le_of_ble_eq_true rfl)⟩) hL.1 rfl rfl rfl rfl hl.1 (Nat.le_of_ble_eq_true rfl) dX8_fill_41 ⟨Nat.zero_le _, Nat.zero_le _⟩ (fun μ7 n8 H locs hp9 hH hS => ?_)
      obtain ⟨ρ1, πs1, fps1, sps1, hL1, hfr1⟩ := hp9
      obtain ⟨hD, hfr2⟩ : IsD G μ7 x rb (aAct u0 (aD u0)) ∧ DFr x _ μ7 := hD.rem hC hLs hL1 (fun q hq => hfr1 q (by omega))
      have hfr := hfr.tr hfr2
      clear hfr2
      clear hX hZ hC hT hch hL hLs hY hCk hTk hchk hTX hI2 hOk2 hsz hkt hOC hrb hlast
      have hD9 := hD
      obtain ⟨hX, ⟨π, fp, sp, rd, hZ, hC, hT, hch⟩, ⟨ρ, πs, fps, sps, rds, hL, hLs⟩, ⟨πk, fpk, spk, rdk, hY, hCk, hTk, hchk⟩, ⟨to, td, tk, tn, tt, ta, hTX⟩, ⟨πr, τr, fpr, spr, hI2, hOk2⟩, hsz, hkt, hOC, hrb, hlast⟩ := hD9
      refine lv_aload_n hx hb dX8_fill_44 rfl (lv_at hl 0 rfl) ?_
      refine m_get (C := RX8) (T := TX8) (N := 6) (ci := 7) hx hb hts i_X8 hown hK hH hX rfl 0 (by decide) f_0 rfl dX8_fill_45 ?_
      refine m_get (C := RX6) (T := TX6) (N := 8) (ci := 5) hx hb hts i_X6 hown hK hH hZ.1 rfl 0 (by decide) f_2 rfl dX8_fill_48 ?_
      refine lv_iload_n hx hb dX8_fill_51 rfl (lv_at hl 1 rfl) ?_
      refine m_callVv (As := [.int (iv k)]) (rest := []) ⟨hx, hb, hml, hown, hts⟩ hK hH hS (c_X5_addInk l G μ7 n8 (x + 1 + 1) π ((aD (aAct u0 (aD u0))).1) fp sp k hZ.2.1 hT.1 (by omega)) (cwV 1 hts gX8_fill_X5_addInk rfl rfl rfl (by decide +kernel) ⟨(Nat.le_of_ble_eq_true rfl), (Nat.le_of_ble_eq_true rfl)⟩) hZ.2.1.1 rfl rfl rfl rfl hl.1 (Nat.le_of_ble_eq_true rfl) dX8_fill_52 ⟨Nat.zero_le _, Nat.zero_le _⟩ (fun μ10 n11 H locs hp12 hH hS => ?_)
      obtain ⟨hs1, hfr1⟩ := hp12
      obtain ⟨hD, hfr2⟩ : IsD G μ10 x rb ((fu ((aD (aAct u0 (aD u0))).1) 4 (min 200 (((aD (aAct u0 (aD u0))).1) 4 + k)), (aD (aAct u0 (aD u0))).2), (aAct u0 (aD u0)).2) ∧ DFr x _ μ10 := hD.pst hZ hC hs1 hfr1 (okS_4 hT.1 (by have := hT.1.2.2.2.1; omega)) (fun j hj => fu_n (by omega))
      have hfr := hfr.tr hfr2
      clear hfr2
      clear hX hZ hC hT hch hL hLs hY hCk hTk hchk hTX hI2 hOk2 hsz hkt hOC hrb hlast
      have hD9 := hD
      obtain ⟨hX, ⟨π, fp, sp, rd, hZ, hC, hT, hch⟩, ⟨ρ, πs, fps, sps, rds, hL, hLs⟩, ⟨πk, fpk, spk, rdk, hY, hCk, hTk, hchk⟩, ⟨to, td, tk, tn, tt, ta, hTX⟩, ⟨πr, τr, fpr, spr, hI2, hOk2⟩, hsz, hkt, hOC, hrb, hlast⟩ := hD9
      refine lv_aload_n hx hb dX8_fill_55 rfl (lv_at hl 0 rfl) ?_
      refine m_get (C := RX8) (T := TX8) (N := 6) (ci := 7) hx hb hts i_X8 hown hK hH hX rfl 0 (by decide) f_0 rfl dX8_fill_56 ?_
      refine m_get (C := RX6) (T := TX6) (N := 8) (ci := 5) hx hb hts i_X6 hown hK hH hZ.1 rfl 0 (by decide) f_2 rfl dX8_fill_59 ?_
      refine m_get (C := RX5) (T := TX5) (N := 7) (ci := 4) hx hb hts i_X5 hown hK hH hZ.2.1.1 rfl 2 (by decide) f_4 rfl dX8_fill_62 ?_
      refine j_norm (y := (min 200 ((aD u0).1 4 + k))) rfl ?_
      subst hQ
      refine m_iret hx hb hr hlocks hH hS dX8_fill_65 ?_ (by omega)
      unfold a_fill
      rw [if_pos (by omega), if_neg (by omega)]
      exact ⟨rfl, hD, hfr⟩
    · skip
      refine j_bipush hx hb dX8_fill_30 ?_ (by decide)
      subst hQ
      refine m_iret hx hb hr hlocks hH hS dX8_fill_32 ?_ (by omega)
      unfold a_fill
      rw [if_pos (by omega), if_pos (by omega)]
      exact ⟨rfl, hD, hfr⟩
  · skip
    refine j_bipush hx hb dX8_fill_11 ?_ (by decide)
    subst hQ
    refine m_iret hx hb hr hlocks hH hS dX8_fill_13 ?_ (by omega)
    unfold a_fill
    rw [if_neg (by omega)]
    exact ⟨rfl, hD, hfr⟩

abbrev rm_c_X8_exchange : Room := { frames := 5, cells := 0, slots := 0, locals := 113 }
set_option maxHeartbeats 4000000 in
set_option maxRecDepth 100000 in
theorem c_X8_exchange (l : Launch) (G : wG) (μ : hM) (n : Nat) (x rb : Nat) (u0 : aS) (pa qa : Int) (hD : IsD G μ x rb u0) (hpa1 : -2147483648 ≤ pa ∧ pa ≤ 2147483647) (hqa1 : -2147483648 ≤ qa ∧ qa ≤ 2147483647) : Met l yX8_exchange wsX8_exchange rm_c_X8_exchange (mPc G μ n [.ref x, .int (iv pa), .int (iv qa)]) (mQi G (fun z μ1 n1 => z = (a_exchange u0 pa qa).2 ∧ IsD G μ1 x rb (a_exchange u0 pa qa).1 ∧ DFr x μ μ1)) 0 0 (gA G) := by
  refine Met.ofW (cc := cX8_exchange) (maxL := 3) (ret := (some .int)) (by decide) rfl ?_
  intro p e s m args below meth c s₁ B hml hv
  obtain ⟨hav, hK, hH⟩ := hv
  have hx := B.exec
  have hb := B.bytes
  have hr := B.returns
  have hts := atoms_spec (ws := wsX8_exchange) B.pre
  have hown : s.vm.findClass RX8 = some m.cls := findClass_of_methodNamed B.named
  have hlocks := B.notSynchronized
  have hS : va_S (gA G) s.heap s.heap [] := va_S.rf
  have hl := lv_entry ([.ref x, .int (iv pa), .int (iv qa)]) (n := 3) (Nat.le_of_ble_eq_true rfl)
  have hfr : entryFrame m args 3 = entryFrame m ([.ref x, .int (iv pa), .int (iv qa)] : List Value).toArray 3 := by rw [hav]
  rw [hfr, lg_entry_eq]
  generalize (lg_sl ([.ref x, .int (iv pa), .int (iv qa)]) ++ List.replicate (3 - (lg_sl ([.ref x, .int (iv pa), .int (iv qa)])).length) Slot.unset).toArray = ls at hl ⊢
  have hl : lv_has ls 3 [(0, .ref x), (1, .int (iv pa)), (2, .int (iv qa))] := hl
  generalize hQ : MQ below _ args s 0 0 (gA G) = Q
  show W p l e rm_c_X8_exchange s m args below meth c s.heap [] 0 0 Q (F0 m 0 ls [])
  obtain ⟨H, hHe⟩ : ∃ H, H = s.heap := ⟨_, rfl⟩
  obtain ⟨locs, hlo⟩ : ∃ q : List Loc, q = [] := ⟨_, rfl⟩
  have hH : gP G μ n H := by rw [hHe]; exact hH
  have hS : va_S (gA G) s.heap H locs := by rw [hHe, hlo]; exact hS
  suffices hgo : W p l e rm_c_X8_exchange s m args below meth c H locs 0 0 Q (F0 m 0 ls []) by rw [hHe, hlo] at hgo; exact hgo
  clear hHe hlo hfr hav
  have f_0 := hts (.fieldLink RX8 19 "StampDater" "history" "LStampDater$History;") (List.mem_of_getElem? (i := 1) rfl)
  have i_X8 : ∀ w ∈ u_ws RX8 TX8 6, w ∈ wsX8_exchange := by decide +kernel
  have f_2 := hts (.fieldLink RX8 10 "StampDater" "state" "LStampDater$State;") (List.mem_of_getElem? (i := 2) rfl)
  have f_3 := hts (.fieldLink RX8 63 "StampDater$State" "stamp" "LStampDater$Stamp;") (List.mem_of_getElem? (i := 3) rfl)
  have i_X6 : ∀ w ∈ u_ws RX6 TX6 8, w ∈ wsX8_exchange := by decide +kernel
  have f_5 := hts (.fieldLink RX8 80 "StampDater$Stamp" "bands" "[LStampDater$Band;") (List.mem_of_getElem? (i := 4) rfl)
  have i_X5 : ∀ w ∈ u_ws RX5 TX5 7, w ∈ wsX8_exchange := by decide +kernel
  have f_7 := hts (.fieldLink RX8 106 "StampDater$Band" "number" "I") (List.mem_of_getElem? (i := 5) rfl)
  have i_X0 : ∀ w ∈ u_ws RX0 TX0 4, w ∈ wsX8_exchange := by decide +kernel
  have hfr : DFr x μ μ := DFr.rf
  have hD9 := hD
  obtain ⟨hX, ⟨π, fp, sp, rd, hZ, hC, hT, hch⟩, ⟨ρ, πs, fps, sps, rds, hL, hLs⟩, ⟨πk, fpk, spk, rdk, hY, hCk, hTk, hchk⟩, ⟨to, td, tk, tn, tt, ta, hTX⟩, ⟨πr, τr, fpr, spr, hI2, hOk2⟩, hsz, hkt, hOC, hrb, hlast⟩ := hD9
  have h3 := hT.2.1
  have h5 := hT.2.2.1
  have hS0 := hT.1
  have h4 := hS0.2.2.2.1
  refine lv_iload_n hx hb dX8_exchange_0 rfl (lv_at hl 1 rfl) ?_
  refine m_callSi (As := [.int (iv pa)]) (rest := []) ⟨hx, hb, hml, hown, hts⟩ hK hH hS (c_X8_isPlace l G μ n pa (by omega)) (va_cwS 1 hts gX8_exchange_X8_isPlace rfl rfl rfl (by decide +kernel) ⟨(Nat.le_of_ble_eq_true rfl), (Nat.le_of_ble_eq_true rfl)⟩) rfl rfl hl.1 (Nat.le_of_ble_eq_true rfl) dX8_exchange_1 ⟨Nat.zero_le _, Nat.zero_le _⟩ (fun z4 μ1 n2 H locs hz4 hp3 hH hS => ?_)
  obtain ⟨hz9, hm9, hn9⟩ := hp3
  rw [hm9, hn9] at hH
  have hz4c : (z4 = 1 ∧ (0 ≤ pa ∧ pa ≤ 5)) ∨ (z4 = 0 ∧ ¬ (0 ≤ pa ∧ pa ≤ 5)) := by
    by_cases q9 : 0 ≤ pa ∧ pa ≤ 5
    · rw [if_pos q9] at hz9; exact Or.inl ⟨hz9, q9⟩
    · rw [if_neg q9] at hz9; exact Or.inr ⟨hz9, q9⟩
  clear hz9 hm9 hn9
  refine j_if_eq (tgt := 14) hx hb dX8_exchange_4 (by decide) (fun c5 => ?_) (fun c5 => ?_) (by omega)
  · skip
    refine j_const hx hb dX8_exchange_14 ?_
    subst hQ
    refine m_iret hx hb hr hlocks hH hS dX8_exchange_15 ?_ (by omega)
    unfold a_exchange
    rw [if_neg (by omega)]
    exact ⟨rfl, hD, hfr⟩
  · skip
    refine lv_iload_n hx hb dX8_exchange_7 rfl (lv_at hl 2 rfl) ?_
    refine m_callSi (As := [.int (iv qa)]) (rest := []) ⟨hx, hb, hml, hown, hts⟩ hK hH hS (c_X8_isPlace l G μ n qa (by omega)) (va_cwS 1 hts gX8_exchange_X8_isPlace rfl rfl rfl (by decide +kernel) ⟨(Nat.le_of_ble_eq_true rfl), (Nat.le_of_ble_eq_true rfl)⟩) rfl rfl hl.1 (Nat.le_of_ble_eq_true rfl) dX8_exchange_8 ⟨Nat.zero_le _, Nat.zero_le _⟩ (fun z9 μ6 n7 H locs hz9 hp8 hH hS => ?_)
    obtain ⟨hz9, hm9, hn9⟩ := hp8
    rw [hm9, hn9] at hH
    have hz9c : (z9 = 1 ∧ (0 ≤ qa ∧ qa ≤ 5)) ∨ (z9 = 0 ∧ ¬ (0 ≤ qa ∧ qa ≤ 5)) := by
      by_cases q9 : 0 ≤ qa ∧ qa ≤ 5
      · rw [if_pos q9] at hz9; exact Or.inl ⟨hz9, q9⟩
      · rw [if_neg q9] at hz9; exact Or.inr ⟨hz9, q9⟩
    clear hz9 hm9 hn9
    refine j_if_ne (tgt := 16) hx hb dX8_exchange_11 (by decide) (fun c10 => ?_) (fun c10 => ?_) (by omega)
    · skip
      refine lv_iload_n hx hb dX8_exchange_16 rfl (lv_at hl 1 rfl) ?_
      refine lv_iload_n hx hb dX8_exchange_17 rfl (lv_at hl 2 rfl) ?_
      refine j_icmp_ne (tgt := 24) hx hb dX8_exchange_18 (by decide) (fun c11 => ?_) (fun c11 => ?_) (by omega) (by omega)
      · skip
        obtain ⟨pn, hpn⟩ : ∃ pn : Nat, pn = pa.toNat := ⟨_, rfl⟩
        have hpe : pa = (pn : Int) := by omega
        clear hpn
        subst hpe
        have hpn : pn < 6 := by omega
        obtain ⟨qn, hpn⟩ : ∃ qn : Nat, qn = qa.toNat := ⟨_, rfl⟩
        have hpe : qa = (qn : Int) := by omega
        clear hpn
        subst hpe
        have hqn : qn < 6 := by omega
        refine lv_aload_n hx hb dX8_exchange_24 rfl (lv_at hl 0 rfl) ?_
        refine m_get (C := RX8) (T := TX8) (N := 6) (ci := 7) hx hb hts i_X8 hown hK hH hX rfl 1 (by decide) f_0 rfl dX8_exchange_25 ?_
        refine lv_aload_n hx hb dX8_exchange_28 rfl (lv_at hl 0 rfl) ?_
        refine m_get (C := RX8) (T := TX8) (N := 6) (ci := 7) hx hb hts i_X8 hown hK hH hX rfl 0 (by decide) f_2 rfl dX8_exchange_29 ?_
        refine m_callVv (As := [.ref (x + 1)]) (rest := []) ⟨hx, hb, hml, hown, hts⟩ hK hH hS (c_X2_remember l G μ n (x + 30) ρ (aN u0) πs (fun r => (aH u0 r).1) fps sps rds (x + 1) π ((aD u0).1) fp sp rd hL hsz hZ hT (by omega)) (cwV 1 hts gX8_exchange_X2_remember rfl rfl rfl (by decide +kernel) ⟨(Nat.le_of_ble_eq_true rfl), (Nat.le_of_ble_eq_true rfl)⟩) hL.1 rfl rfl rfl rfl hl.1 (Nat.le_of_ble_eq_true rfl) dX8_exchange_32 ⟨Nat.zero_le _, Nat.zero_le _⟩ (fun μ12 n13 H locs hp14 hH hS => ?_)
        obtain ⟨ρ1, πs1, fps1, sps1, hL1, hfr1⟩ := hp14
        obtain ⟨hD, hfr2⟩ : IsD G μ12 x rb (aAct u0 (aD u0)) ∧ DFr x _ μ12 := hD.rem hC hLs hL1 (fun q hq => hfr1 q (by omega))
        have hfr := hfr.tr hfr2
        clear hfr2
        clear hX hZ hC hT hch hL hLs hY hCk hTk hchk hTX hI2 hOk2 hsz hkt hOC hrb hlast
        have hD9 := hD
        obtain ⟨hX, ⟨π, fp, sp, rd, hZ, hC, hT, hch⟩, ⟨ρ, πs, fps, sps, rds, hL, hLs⟩, ⟨πk, fpk, spk, rdk, hY, hCk, hTk, hchk⟩, ⟨to, td, tk, tn, tt, ta, hTX⟩, ⟨πr, τr, fpr, spr, hI2, hOk2⟩, hsz, hkt, hOC, hrb, hlast⟩ := hD9
        refine lv_aload_n hx hb dX8_exchange_35 rfl (lv_at hl 0 rfl) ?_
        refine m_get (C := RX8) (T := TX8) (N := 6) (ci := 7) hx hb hts i_X8 hown hK hH hX rfl 0 (by decide) f_2 rfl dX8_exchange_36 ?_
        refine m_get (C := RX6) (T := TX6) (N := 8) (ci := 5) hx hb hts i_X6 hown hK hH hZ.1 rfl 0 (by decide) f_3 rfl dX8_exchange_39 ?_
        refine lv_iload_n hx hb dX8_exchange_42 rfl (lv_at hl 1 rfl) ?_
        refine lv_iload_n hx hb dX8_exchange_43 rfl (lv_at hl 2 rfl) ?_
        refine m_callVv (As := [.int (iv (pn : Int)), .int (iv (qn : Int))]) (rest := []) ⟨hx, hb, hml, hown, hts⟩ hK hH hS (c_X5_swapBands l G μ12 n13 (x + 1 + 1) π ((aD (aAct u0 (aD u0))).1) fp sp pn qn hZ.2.1 hT.1 (by omega) (by omega)) (cwV 2 hts gX8_exchange_X5_swapBands rfl rfl rfl (by decide +kernel) ⟨(Nat.le_of_ble_eq_true rfl), (Nat.le_of_ble_eq_true rfl)⟩) hZ.2.1.1 rfl rfl rfl rfl hl.1 (Nat.le_of_ble_eq_true rfl) dX8_exchange_44 ⟨Nat.zero_le _, Nat.zero_le _⟩ (fun μ15 n16 H locs hp17 hH hS => ?_)
        obtain ⟨hs1, hfr1⟩ := hp17
        obtain ⟨hD, hfr2⟩ : IsD G μ15 x rb ((swpS ((aD (aAct u0 (aD u0))).1) pn qn, (aD (aAct u0 (aD u0))).2), (aAct u0 (aD u0)).2) ∧ DFr x _ μ15 := hD.pst hZ hC hs1 hfr1 (okS_swp hT.1 hpn hqn) (fun j hj => swpS_ot (by omega))
        have hfr := hfr.tr hfr2
        clear hfr2
        clear hX hZ hC hT hch hL hLs hY hCk hTk hchk hTX hI2 hOk2 hsz hkt hOC hrb hlast
        have hD9 := hD
        obtain ⟨hX, ⟨π, fp, sp, rd, hZ, hC, hT, hch⟩, ⟨ρ, πs, fps, sps, rds, hL, hLs⟩, ⟨πk, fpk, spk, rdk, hY, hCk, hTk, hchk⟩, ⟨to, td, tk, tn, tt, ta, hTX⟩, ⟨πr, τr, fpr, spr, hI2, hOk2⟩, hsz, hkt, hOC, hrb, hlast⟩ := hD9
        refine lv_aload_n hx hb dX8_exchange_47 rfl (lv_at hl 0 rfl) ?_
        refine m_get (C := RX8) (T := TX8) (N := 6) (ci := 7) hx hb hts i_X8 hown hK hH hX rfl 0 (by decide) f_2 rfl dX8_exchange_48 ?_
        refine m_get (C := RX6) (T := TX6) (N := 8) (ci := 5) hx hb hts i_X6 hown hK hH hZ.1 rfl 0 (by decide) f_3 rfl dX8_exchange_51 ?_
        refine m_get (C := RX5) (T := TX5) (N := 7) (ci := 4) hx hb hts i_X5 hown hK hH hZ.2.1.1 rfl 0 (by decide) f_5 rfl dX8_exchange_54 ?_
        refine lv_iload_n hx hb dX8_exchange_57 rfl (lv_at hl 1 rfl) ?_
        refine m_aald (b := ((x + 1 + 1) + 2 + 2 * π pn)) hx hb hK hH 2 hZ.2.1.2.1 rfl rfl dX8_exchange_58 ?_ (by omega) (by omega)
        refine m_get (C := RX0) (T := TX0) (N := 4) (ci := 0) hx hb hts i_X0 hown hK hH (hZ.2.1.2.2.2.1 pn (by omega)) rfl 0 (by decide) f_7 rfl dX8_exchange_59 ?_
        have hsw : swpS (aD u0).1 pn qn (85 + 13 * pn) = (aD u0).1 (85 + 13 * qn) := by
          have h9 := swpS_at (σ := (aD u0).1) (a := pn) (b := qn) (r := 0) hpn (by omega)
          have h8 : tpl pn qn pn = qn := by unfold tpl; split; (first | omega | assumption); rw [if_pos rfl]
          rw [h8] at h9
          exact h9
        have hsr := (hS0.2.2.2.2 qn hqn).1
        refine j_norm (y := (aD u0).1 (85 + 13 * qn)) hsw ?_
        subst hQ
        refine m_iret hx hb hr hlocks hH hS dX8_exchange_62 ?_ (by omega)
        unfold a_exchange
        rw [if_pos (by omega), if_neg (by omega)]
        exact ⟨rfl, hD, hfr⟩
      · skip
        refine j_bipush hx hb dX8_exchange_21 ?_ (by decide)
        subst hQ
        refine m_iret hx hb hr hlocks hH hS dX8_exchange_23 ?_ (by omega)
        unfold a_exchange
        rw [if_pos (by omega), if_pos (by omega)]
        exact ⟨rfl, hD, hfr⟩
    · skip
      refine j_const hx hb dX8_exchange_14 ?_
      subst hQ
      refine m_iret hx hb hr hlocks hH hS dX8_exchange_15 ?_ (by omega)
      unfold a_exchange
      rw [if_neg (by omega)]
      exact ⟨rfl, hD, hfr⟩

abbrev rm_c_X8_tighten : Room := { frames := 5, cells := 0, slots := 0, locals := 113 }
set_option maxHeartbeats 4000000 in
set_option maxRecDepth 100000 in
theorem c_X8_tighten (l : Launch) (G : wG) (μ : hM) (n : Nat) (x rb : Nat) (u0 : aS) (pa : Int) (hD : IsD G μ x rb u0) (hpa1 : -2147483648 ≤ pa ∧ pa ≤ 2147483647) : Met l yX8_tighten wsX8_tighten rm_c_X8_tighten (mPc G μ n [.ref x, .int (iv pa)]) (mQi G (fun z μ1 n1 => z = (a_tighten u0 pa).2 ∧ IsD G μ1 x rb (a_tighten u0 pa).1 ∧ DFr x μ μ1)) 0 0 (gA G) := by
  refine Met.ofW (cc := cX8_tighten) (maxL := 3) (ret := (some .int)) (by decide) rfl ?_
  intro p e s m args below meth c s₁ B hml hv
  obtain ⟨hav, hK, hH⟩ := hv
  have hx := B.exec
  have hb := B.bytes
  have hr := B.returns
  have hts := atoms_spec (ws := wsX8_tighten) B.pre
  have hown : s.vm.findClass RX8 = some m.cls := findClass_of_methodNamed B.named
  have hlocks := B.notSynchronized
  have hS : va_S (gA G) s.heap s.heap [] := va_S.rf
  have hl := lv_entry ([.ref x, .int (iv pa)]) (n := 3) (Nat.le_of_ble_eq_true rfl)
  have hfr : entryFrame m args 3 = entryFrame m ([.ref x, .int (iv pa)] : List Value).toArray 3 := by rw [hav]
  rw [hfr, lg_entry_eq]
  generalize (lg_sl ([.ref x, .int (iv pa)]) ++ List.replicate (3 - (lg_sl ([.ref x, .int (iv pa)])).length) Slot.unset).toArray = ls at hl ⊢
  have hl : lv_has ls 3 [(0, .ref x), (1, .int (iv pa))] := hl
  generalize hQ : MQ below _ args s 0 0 (gA G) = Q
  show W p l e rm_c_X8_tighten s m args below meth c s.heap [] 0 0 Q (F0 m 0 ls [])
  obtain ⟨H, hHe⟩ : ∃ H, H = s.heap := ⟨_, rfl⟩
  obtain ⟨locs, hlo⟩ : ∃ q : List Loc, q = [] := ⟨_, rfl⟩
  have hH : gP G μ n H := by rw [hHe]; exact hH
  have hS : va_S (gA G) s.heap H locs := by rw [hHe, hlo]; exact hS
  suffices hgo : W p l e rm_c_X8_tighten s m args below meth c H locs 0 0 Q (F0 m 0 ls []) by rw [hHe, hlo] at hgo; exact hgo
  clear hHe hlo hfr hav
  have f_0 := hts (.fieldLink RX8 10 "StampDater" "state" "LStampDater$State;") (List.mem_of_getElem? (i := 1) rfl)
  have i_X8 : ∀ w ∈ u_ws RX8 TX8 6, w ∈ wsX8_tighten := by decide +kernel
  have f_2 := hts (.fieldLink RX8 63 "StampDater$State" "stamp" "LStampDater$Stamp;") (List.mem_of_getElem? (i := 2) rfl)
  have i_X6 : ∀ w ∈ u_ws RX6 TX6 8, w ∈ wsX8_tighten := by decide +kernel
  have f_4 := hts (.fieldLink RX8 80 "StampDater$Stamp" "bands" "[LStampDater$Band;") (List.mem_of_getElem? (i := 3) rfl)
  have i_X5 : ∀ w ∈ u_ws RX5 TX5 7, w ∈ wsX8_tighten := by decide +kernel
  have f_6 := hts (.fieldLink RX8 109 "StampDater$Band" "slack" "I") (List.mem_of_getElem? (i := 4) rfl)
  have i_X0 : ∀ w ∈ u_ws RX0 TX0 4, w ∈ wsX8_tighten := by decide +kernel
  have f_8 := hts (.fieldLink RX8 19 "StampDater" "history" "LStampDater$History;") (List.mem_of_getElem? (i := 5) rfl)
  have hfr : DFr x μ μ := DFr.rf
  have hD9 := hD
  obtain ⟨hX, ⟨π, fp, sp, rd, hZ, hC, hT, hch⟩, ⟨ρ, πs, fps, sps, rds, hL, hLs⟩, ⟨πk, fpk, spk, rdk, hY, hCk, hTk, hchk⟩, ⟨to, td, tk, tn, tt, ta, hTX⟩, ⟨πr, τr, fpr, spr, hI2, hOk2⟩, hsz, hkt, hOC, hrb, hlast⟩ := hD9
  have h3 := hT.2.1
  have h5 := hT.2.2.1
  have hS0 := hT.1
  have h4 := hS0.2.2.2.1
  refine lv_iload_n hx hb dX8_tighten_0 rfl (lv_at hl 1 rfl) ?_
  refine m_callSi (As := [.int (iv pa)]) (rest := []) ⟨hx, hb, hml, hown, hts⟩ hK hH hS (c_X8_isPlace l G μ n pa (by omega)) (va_cwS 1 hts gX8_tighten_X8_isPlace rfl rfl rfl (by decide +kernel) ⟨(Nat.le_of_ble_eq_true rfl), (Nat.le_of_ble_eq_true rfl)⟩) rfl rfl hl.1 (Nat.le_of_ble_eq_true rfl) dX8_tighten_1 ⟨Nat.zero_le _, Nat.zero_le _⟩ (fun z4 μ1 n2 H locs hz4 hp3 hH hS => ?_)
  obtain ⟨hz9, hm9, hn9⟩ := hp3
  rw [hm9, hn9] at hH
  have hz4c : (z4 = 1 ∧ (0 ≤ pa ∧ pa ≤ 5)) ∨ (z4 = 0 ∧ ¬ (0 ≤ pa ∧ pa ≤ 5)) := by
    by_cases q9 : 0 ≤ pa ∧ pa ≤ 5
    · rw [if_pos q9] at hz9; exact Or.inl ⟨hz9, q9⟩
    · rw [if_neg q9] at hz9; exact Or.inr ⟨hz9, q9⟩
  clear hz9 hm9 hn9
  refine j_if_ne (tgt := 9) hx hb dX8_tighten_4 (by decide) (fun c5 => ?_) (fun c5 => ?_) (by omega)
  · skip
    obtain ⟨pn, hpn⟩ : ∃ pn : Nat, pn = pa.toNat := ⟨_, rfl⟩
    have hpe : pa = (pn : Int) := by omega
    clear hpn
    subst hpe
    have hpn : pn < 6 := by omega
    have hsr := (hS0.2.2.2.2 pn hpn).2.2.1
    refine lv_aload_n hx hb dX8_tighten_9 rfl (lv_at hl 0 rfl) ?_
    refine m_get (C := RX8) (T := TX8) (N := 6) (ci := 7) hx hb hts i_X8 hown hK hH hX rfl 0 (by decide) f_0 rfl dX8_tighten_10 ?_
    refine m_get (C := RX6) (T := TX6) (N := 8) (ci := 5) hx hb hts i_X6 hown hK hH hZ.1 rfl 0 (by decide) f_2 rfl dX8_tighten_13 ?_
    refine m_get (C := RX5) (T := TX5) (N := 7) (ci := 4) hx hb hts i_X5 hown hK hH hZ.2.1.1 rfl 0 (by decide) f_4 rfl dX8_tighten_16 ?_
    refine lv_iload_n hx hb dX8_tighten_19 rfl (lv_at hl 1 rfl) ?_
    refine m_aald (b := ((x + 1 + 1) + 2 + 2 * π pn)) hx hb hK hH 2 hZ.2.1.2.1 rfl rfl dX8_tighten_20 ?_ (by omega) (by omega)
    refine m_get (C := RX0) (T := TX0) (N := 4) (ci := 0) hx hb hts i_X0 hown hK hH (hZ.2.1.2.2.2.1 pn (by omega)) rfl 2 (by decide) f_6 rfl dX8_tighten_21 ?_
    refine lv_istore_n (lv' := [(2, .int (iv (((aD u0).1) (87 + 13 * pn)))), (0, .ref x), (1, .int (iv (pn : Int)))]) hx hb dX8_tighten_24 rfl hl (by decide) rfl (fun ls hl => ?_)
    refine lv_iload_n hx hb dX8_tighten_25 rfl (lv_at hl 0 rfl) ?_
    refine j_if_ne (tgt := 32) hx hb dX8_tighten_26 (by decide) (fun c6 => ?_) (fun c6 => ?_) (by omega)
    · skip
      refine lv_aload_n hx hb dX8_tighten_32 rfl (lv_at hl 1 rfl) ?_
      refine m_get (C := RX8) (T := TX8) (N := 6) (ci := 7) hx hb hts i_X8 hown hK hH hX rfl 1 (by decide) f_8 rfl dX8_tighten_33 ?_
      refine lv_aload_n hx hb dX8_tighten_36 rfl (lv_at hl 1 rfl) ?_
      refine m_get (C := RX8) (T := TX8) (N := 6) (ci := 7) hx hb hts i_X8 hown hK hH hX rfl 0 (by decide) f_0 rfl dX8_tighten_37 ?_
      refine m_callVv (As := [.ref (x + 1)]) (rest := []) ⟨hx, hb, hml, hown, hts⟩ hK hH hS (c_X2_remember l G μ n (x + 30) ρ (aN u0) πs (fun r => (aH u0 r).1) fps sps rds (x + 1) π ((aD u0).1) fp sp rd hL hsz hZ hT (by omega)) (cwV 1 hts gX8_tighten_X2_remember rfl rfl rfl (by decide +kernel) ⟨(Nat.le_of_ble_eq_true rfl), (Nat.le_of_ble_eq_true rfl)⟩) hL.1 rfl rfl rfl rfl hl.1 (Nat.le_of_ble_eq_true rfl) dX8_tighten_40 ⟨Nat.zero_le _, Nat.zero_le _⟩ (fun μ7 n8 H locs hp9 hH hS => ?_)
      obtain ⟨ρ1, πs1, fps1, sps1, hL1, hfr1⟩ := hp9
      obtain ⟨hD, hfr2⟩ : IsD G μ7 x rb (aAct u0 (aD u0)) ∧ DFr x _ μ7 := hD.rem hC hLs hL1 (fun q hq => hfr1 q (by omega))
      have hfr := hfr.tr hfr2
      clear hfr2
      clear hX hZ hC hT hch hL hLs hY hCk hTk hchk hTX hI2 hOk2 hsz hkt hOC hrb hlast
      have hD9 := hD
      obtain ⟨hX, ⟨π, fp, sp, rd, hZ, hC, hT, hch⟩, ⟨ρ, πs, fps, sps, rds, hL, hLs⟩, ⟨πk, fpk, spk, rdk, hY, hCk, hTk, hchk⟩, ⟨to, td, tk, tn, tt, ta, hTX⟩, ⟨πr, τr, fpr, spr, hI2, hOk2⟩, hsz, hkt, hOC, hrb, hlast⟩ := hD9
      refine lv_aload_n hx hb dX8_tighten_43 rfl (lv_at hl 1 rfl) ?_
      refine m_get (C := RX8) (T := TX8) (N := 6) (ci := 7) hx hb hts i_X8 hown hK hH hX rfl 0 (by decide) f_0 rfl dX8_tighten_44 ?_
      refine m_get (C := RX6) (T := TX6) (N := 8) (ci := 5) hx hb hts i_X6 hown hK hH hZ.1 rfl 0 (by decide) f_2 rfl dX8_tighten_47 ?_
      refine m_get (C := RX5) (T := TX5) (N := 7) (ci := 4) hx hb hts i_X5 hown hK hH hZ.2.1.1 rfl 0 (by decide) f_4 rfl dX8_tighten_50 ?_
      refine lv_iload_n hx hb dX8_tighten_53 rfl (lv_at hl 2 rfl) ?_
      refine m_aald (b := ((x + 1 + 1) + 2 + 2 * π pn)) hx hb hK hH 2 hZ.2.1.2.1 rfl rfl dX8_tighten_54 ?_ (by omega) (by omega)
      refine j_const hx hb dX8_tighten_55 ?_
      refine m_put (C := RX0) (T := TX0) (N := 4) (ci := 0) hx hb hts i_X0 tyX0 tyX0_ok nmX0 hown hK hH hS (hZ.2.1.2.2.2.1 pn (by omega)) rfl 2 (by decide) f_6 rfl rfl rfl (Nat.le_of_ble_eq_true rfl) dX8_tighten_56 (fun H locs hH hS => ?_)
      have hs1 : IsSt G (hu μ7 ((x + 1 + 1) + 2 + 2 * π pn) (.inr (0, [.int (iv (((aD (aAct u0 (aD u0))).1) (85 + 13 * pn))), .int (iv (((aD (aAct u0 (aD u0))).1) (86 + 13 * pn))), .int (iv 0), .ref ((x + 1 + 1) + 3 + 2 * π pn)]))) (x + 1 + 1) π (fu ((aD (aAct u0 (aD u0))).1) (87 + 13 * pn) 0) fp sp := by rw [← bset_sl]; exact hZ.2.1.bs hpn _ _ _
      have hpp := hZ.2.1.2.2.2.2.2.1 pn hpn
      have hfr1 : ∀ q, (q < x + 1 + 1 ∨ x + 1 + 1 + 15 ≤ q) → (hu μ7 ((x + 1 + 1) + 2 + 2 * π pn) (.inr (0, [.int (iv (((aD (aAct u0 (aD u0))).1) (85 + 13 * pn))), .int (iv (((aD (aAct u0 (aD u0))).1) (86 + 13 * pn))), .int (iv 0), .ref ((x + 1 + 1) + 3 + 2 * π pn)]))) q = μ7 q := fun q hq => hu_n (by omega)
      obtain ⟨hD, hfr2⟩ : IsD G (hu μ7 ((x + 1 + 1) + 2 + 2 * π pn) (.inr (0, [.int (iv (((aD (aAct u0 (aD u0))).1) (85 + 13 * pn))), .int (iv (((aD (aAct u0 (aD u0))).1) (86 + 13 * pn))), .int (iv 0), .ref ((x + 1 + 1) + 3 + 2 * π pn)]))) x rb ((fu ((aD (aAct u0 (aD u0))).1) (87 + 13 * pn) 0, (aD (aAct u0 (aD u0))).2), (aAct u0 (aD u0)).2) ∧ DFr x _ (hu μ7 ((x + 1 + 1) + 2 + 2 * π pn) (.inr (0, [.int (iv (((aD (aAct u0 (aD u0))).1) (85 + 13 * pn))), .int (iv (((aD (aAct u0 (aD u0))).1) (86 + 13 * pn))), .int (iv 0), .ref ((x + 1 + 1) + 3 + 2 * π pn)]))) := hD.pst hZ hC hs1 hfr1 (okS_87 hT.1 hpn) (fun j hj => fu_n (by omega))
      have hfr := hfr.tr hfr2
      clear hfr2
      have hH : gP G (hu μ7 ((x + 1 + 1) + 2 + 2 * π pn) (.inr (0, [.int (iv (((aD (aAct u0 (aD u0))).1) (85 + 13 * pn))), .int (iv (((aD (aAct u0 (aD u0))).1) (86 + 13 * pn))), .int (iv 0), .ref ((x + 1 + 1) + 3 + 2 * π pn)]))) n8 H := hH
      obtain ⟨ν10, hν10⟩ : ∃ ν : hM, ν = (hu μ7 ((x + 1 + 1) + 2 + 2 * π pn) (.inr (0, [.int (iv (((aD (aAct u0 (aD u0))).1) (85 + 13 * pn))), .int (iv (((aD (aAct u0 (aD u0))).1) (86 + 13 * pn))), .int (iv 0), .ref ((x + 1 + 1) + 3 + 2 * π pn)]))) := ⟨_, rfl⟩
      rw [← hν10] at hD hfr hH
      clear hν10
      clear hX hZ hC hT hch hL hLs hY hCk hTk hchk hTX hI2 hOk2 hsz hkt hOC hrb hlast
      have hD9 := hD
      obtain ⟨hX, ⟨π, fp, sp, rd, hZ, hC, hT, hch⟩, ⟨ρ, πs, fps, sps, rds, hL, hLs⟩, ⟨πk, fpk, spk, rdk, hY, hCk, hTk, hchk⟩, ⟨to, td, tk, tn, tt, ta, hTX⟩, ⟨πr, τr, fpr, spr, hI2, hOk2⟩, hsz, hkt, hOC, hrb, hlast⟩ := hD9
      have hH : gP G ν10 n8 H := hH
      refine lv_iload_n hx hb dX8_tighten_59 rfl (lv_at hl 0 rfl) ?_
      subst hQ
      refine m_iret hx hb hr hlocks hH hS dX8_tighten_60 ?_ (by omega)
      unfold a_tighten
      rw [show ((pn : Nat) : Int).toNat = pn from rfl]
      rw [if_pos (by omega), if_neg (by omega)]
      exact ⟨rfl, hD, hfr⟩
    · skip
      refine j_bipush hx hb dX8_tighten_29 ?_ (by decide)
      subst hQ
      refine m_iret hx hb hr hlocks hH hS dX8_tighten_31 ?_ (by omega)
      unfold a_tighten
      rw [show ((pn : Nat) : Int).toNat = pn from rfl]
      rw [if_pos (by omega), if_pos (by omega)]
      exact ⟨rfl, hD, hfr⟩
  · skip
    refine j_const hx hb dX8_tighten_7 ?_
    subst hQ
    refine m_iret hx hb hr hlocks hH hS dX8_tighten_8 ?_ (by omega)
    unfold a_tighten
    rw [if_neg (by omega)]
    exact ⟨rfl, hD, hfr⟩

abbrev rm_c_X8_replace : Room := { frames := 5, cells := 0, slots := 0, locals := 113 }
set_option maxHeartbeats 4000000 in
set_option maxRecDepth 100000 in
theorem c_X8_replace (l : Launch) (G : wG) (μ : hM) (n : Nat) (x rb : Nat) (u0 : aS) (pa : Int) (hD : IsD G μ x rb u0) (hpa1 : -2147483648 ≤ pa ∧ pa ≤ 2147483647) : Met l yX8_replace wsX8_replace rm_c_X8_replace (mPc G μ n [.ref x, .int (iv pa)]) (mQi G (fun z μ1 n1 => z = (a_replace u0 pa).2 ∧ IsD G μ1 x rb (a_replace u0 pa).1 ∧ DFr x μ μ1)) 0 0 (gA G) := by
  refine Met.ofW (cc := cX8_replace) (maxL := 4) (ret := (some .int)) (by decide) rfl ?_
  intro p e s m args below meth c s₁ B hml hv
  obtain ⟨hav, hK, hH⟩ := hv
  have hx := B.exec
  have hb := B.bytes
  have hr := B.returns
  have hts := atoms_spec (ws := wsX8_replace) B.pre
  have hown : s.vm.findClass RX8 = some m.cls := findClass_of_methodNamed B.named
  have hlocks := B.notSynchronized
  have hS : va_S (gA G) s.heap s.heap [] := va_S.rf
  have hl := lv_entry ([.ref x, .int (iv pa)]) (n := 4) (Nat.le_of_ble_eq_true rfl)
  have hfr : entryFrame m args 4 = entryFrame m ([.ref x, .int (iv pa)] : List Value).toArray 4 := by rw [hav]
  rw [hfr, lg_entry_eq]
  generalize (lg_sl ([.ref x, .int (iv pa)]) ++ List.replicate (4 - (lg_sl ([.ref x, .int (iv pa)])).length) Slot.unset).toArray = ls at hl ⊢
  have hl : lv_has ls 4 [(0, .ref x), (1, .int (iv pa))] := hl
  generalize hQ : MQ below _ args s 0 0 (gA G) = Q
  show W p l e rm_c_X8_replace s m args below meth c s.heap [] 0 0 Q (F0 m 0 ls [])
  obtain ⟨H, hHe⟩ : ∃ H, H = s.heap := ⟨_, rfl⟩
  obtain ⟨locs, hlo⟩ : ∃ q : List Loc, q = [] := ⟨_, rfl⟩
  have hH : gP G μ n H := by rw [hHe]; exact hH
  have hS : va_S (gA G) s.heap H locs := by rw [hHe, hlo]; exact hS
  suffices hgo : W p l e rm_c_X8_replace s m args below meth c H locs 0 0 Q (F0 m 0 ls []) by rw [hHe, hlo] at hgo; exact hgo
  clear hHe hlo hfr hav
  have f_0 := hts (.fieldLink RX8 19 "StampDater" "history" "LStampDater$History;") (List.mem_of_getElem? (i := 1) rfl)
  have i_X8 : ∀ w ∈ u_ws RX8 TX8 6, w ∈ wsX8_replace := by decide +kernel
  have f_2 := hts (.fieldLink RX8 10 "StampDater" "state" "LStampDater$State;") (List.mem_of_getElem? (i := 2) rfl)
  have f_3 := hts (.fieldLink RX8 63 "StampDater$State" "stamp" "LStampDater$Stamp;") (List.mem_of_getElem? (i := 3) rfl)
  have i_X6 : ∀ w ∈ u_ws RX6 TX6 8, w ∈ wsX8_replace := by decide +kernel
  have f_5 := hts (.fieldLink RX8 80 "StampDater$Stamp" "bands" "[LStampDater$Band;") (List.mem_of_getElem? (i := 4) rfl)
  have i_X5 : ∀ w ∈ u_ws RX5 TX5 7, w ∈ wsX8_replace := by decide +kernel
  have hfr : DFr x μ μ := DFr.rf
  have hD9 := hD
  obtain ⟨hX, ⟨π, fp, sp, rd, hZ, hC, hT, hch⟩, ⟨ρ, πs, fps, sps, rds, hL, hLs⟩, ⟨πk, fpk, spk, rdk, hY, hCk, hTk, hchk⟩, ⟨to, td, tk, tn, tt, ta, hTX⟩, ⟨πr, τr, fpr, spr, hI2, hOk2⟩, hsz, hkt, hOC, hrb, hlast⟩ := hD9
  have h3 := hT.2.1
  have h5 := hT.2.2.1
  have hS0 := hT.1
  have h4 := hS0.2.2.2.1
  refine lv_iload_n hx hb dX8_replace_0 rfl (lv_at hl 1 rfl) ?_
  refine m_callSi (As := [.int (iv pa)]) (rest := []) ⟨hx, hb, hml, hown, hts⟩ hK hH hS (c_X8_isPlace l G μ n pa (by omega)) (va_cwS 1 hts gX8_replace_X8_isPlace rfl rfl rfl (by decide +kernel) ⟨(Nat.le_of_ble_eq_true rfl), (Nat.le_of_ble_eq_true rfl)⟩) rfl rfl hl.1 (Nat.le_of_ble_eq_true rfl) dX8_replace_1 ⟨Nat.zero_le _, Nat.zero_le _⟩ (fun z4 μ1 n2 H locs hz4 hp3 hH hS => ?_)
  obtain ⟨hz9, hm9, hn9⟩ := hp3
  rw [hm9, hn9] at hH
  have hz4c : (z4 = 1 ∧ (0 ≤ pa ∧ pa ≤ 5)) ∨ (z4 = 0 ∧ ¬ (0 ≤ pa ∧ pa ≤ 5)) := by
    by_cases q9 : 0 ≤ pa ∧ pa ≤ 5
    · rw [if_pos q9] at hz9; exact Or.inl ⟨hz9, q9⟩
    · rw [if_neg q9] at hz9; exact Or.inr ⟨hz9, q9⟩
  clear hz9 hm9 hn9
  refine j_if_ne (tgt := 9) hx hb dX8_replace_4 (by decide) (fun c5 => ?_) (fun c5 => ?_) (by omega)
  · skip
    obtain ⟨pn, hpn⟩ : ∃ pn : Nat, pn = pa.toNat := ⟨_, rfl⟩
    have hpe : pa = (pn : Int) := by omega
    clear hpn
    subst hpe
    have hpn : pn < 6 := by omega
    refine lv_aload_n hx hb dX8_replace_9 rfl (lv_at hl 0 rfl) ?_
    refine m_get (C := RX8) (T := TX8) (N := 6) (ci := 7) hx hb hts i_X8 hown hK hH hX rfl 1 (by decide) f_0 rfl dX8_replace_10 ?_
    refine lv_aload_n hx hb dX8_replace_13 rfl (lv_at hl 0 rfl) ?_
    refine m_get (C := RX8) (T := TX8) (N := 6) (ci := 7) hx hb hts i_X8 hown hK hH hX rfl 0 (by decide) f_2 rfl dX8_replace_14 ?_
    refine m_callVv (As := [.ref (x + 1)]) (rest := []) ⟨hx, hb, hml, hown, hts⟩ hK hH hS (c_X2_remember l G μ n (x + 30) ρ (aN u0) πs (fun r => (aH u0 r).1) fps sps rds (x + 1) π ((aD u0).1) fp sp rd hL hsz hZ hT (by omega)) (cwV 1 hts gX8_replace_X2_remember rfl rfl rfl (by decide +kernel) ⟨(Nat.le_of_ble_eq_true rfl), (Nat.le_of_ble_eq_true rfl)⟩) hL.1 rfl rfl rfl rfl hl.1 (Nat.le_of_ble_eq_true rfl) dX8_replace_17 ⟨Nat.zero_le _, Nat.zero_le _⟩ (fun μ6 n7 H locs hp8 hH hS => ?_)
    obtain ⟨ρ1, πs1, fps1, sps1, hL1, hfr1⟩ := hp8
    obtain ⟨hD, hfr2⟩ : IsD G μ6 x rb (aAct u0 (aD u0)) ∧ DFr x _ μ6 := hD.rem hC hLs hL1 (fun q hq => hfr1 q (by omega))
    have hfr := hfr.tr hfr2
    clear hfr2
    clear hX hZ hC hT hch hL hLs hY hCk hTk hchk hTX hI2 hOk2 hsz hkt hOC hrb hlast
    have hD9 := hD
    obtain ⟨hX, ⟨π, fp, sp, rd, hZ, hC, hT, hch⟩, ⟨ρ, πs, fps, sps, rds, hL, hLs⟩, ⟨πk, fpk, spk, rdk, hY, hCk, hTk, hchk⟩, ⟨to, td, tk, tn, tt, ta, hTX⟩, ⟨πr, τr, fpr, spr, hI2, hOk2⟩, hsz, hkt, hOC, hrb, hlast⟩ := hD9
    have hbr := bsum_rng (f := roww (aD u0).1 pn) 10 (OkS.w hS0 hpn)
    refine lv_aload_n hx hb dX8_replace_20 rfl (lv_at hl 0 rfl) ?_
    refine m_get (C := RX8) (T := TX8) (N := 6) (ci := 7) hx hb hts i_X8 hown hK hH hX rfl 0 (by decide) f_2 rfl dX8_replace_21 ?_
    refine m_get (C := RX6) (T := TX6) (N := 8) (ci := 5) hx hb hts i_X6 hown hK hH hZ.1 rfl 0 (by decide) f_3 rfl dX8_replace_24 ?_
    refine m_get (C := RX5) (T := TX5) (N := 7) (ci := 4) hx hb hts i_X5 hown hK hH hZ.2.1.1 rfl 0 (by decide) f_5 rfl dX8_replace_27 ?_
    refine lv_iload_n hx hb dX8_replace_30 rfl (lv_at hl 1 rfl) ?_
    refine m_aald (b := ((x + 1 + 1) + 2 + 2 * π pn)) hx hb hK hH 2 hZ.2.1.2.1 rfl rfl dX8_replace_31 ?_ (by omega) (by omega)
    refine lv_astore_n (lv' := [(2, .ref ((x + 1 + 1) + 2 + 2 * π pn)), (0, .ref x), (1, .int (iv (pn : Int)))]) hx hb dX8_replace_32 rfl hl (by decide) rfl (fun ls hl => ?_)
    refine lv_aload_n hx hb dX8_replace_33 rfl (lv_at hl 0 rfl) ?_
    refine m_callVi (As := []) (rest := []) ⟨hx, hb, hml, hown, hts⟩ hK hH hS (c_X0_allWear l G μ6 n7 (x + 1 + 1 + 2 + 2 * π pn) (x + 1 + 1 + 3 + 2 * π pn) (((aD (aAct u0 (aD u0))).1) (85 + 13 * pn)) (((aD (aAct u0 (aD u0))).1) (86 + 13 * pn)) (((aD (aAct u0 (aD u0))).1) (87 + 13 * pn)) (roww ((aD (aAct u0 (aD u0))).1) pn) (hZ.2.1.2.2.2.1 pn hpn) (hZ.2.1.2.2.2.2.1 pn hpn) (OkS.w hT.1 hpn)) (cwV 0 hts gX8_replace_X0_allWear rfl rfl rfl (by decide +kernel) ⟨(Nat.le_of_ble_eq_true rfl), (Nat.le_of_ble_eq_true rfl)⟩) (hZ.2.1.2.2.2.1 pn (by omega)) rfl rfl rfl rfl hl.1 (Nat.le_of_ble_eq_true rfl) dX8_replace_34 ⟨Nat.zero_le _, Nat.zero_le _⟩ (fun z12 μ9 n10 H locs hz12 hp11 hH hS => ?_)
    obtain ⟨hz2, hm2, hn2⟩ := hp11; rw [hz2]; rw [hm2, hn2] at hH; clear hz2 hm2 hn2
    refine lv_istore_n (lv' := [(3, .int (iv (bsum (roww ((aD (aAct u0 (aD u0))).1) pn) 10))), (2, .ref ((x + 1 + 1) + 2 + 2 * π pn)), (0, .ref x), (1, .int (iv (pn : Int)))]) hx hb dX8_replace_37 rfl hl (by decide) rfl (fun ls hl => ?_)
    refine lv_aload_n hx hb dX8_replace_38 rfl (lv_at hl 1 rfl) ?_
    refine m_callVv (As := []) (rest := []) ⟨hx, hb, hml, hown, hts⟩ hK hH hS (c_X0_renew l G μ6 n7 (x + 1 + 1 + 2 + 2 * π pn) (x + 1 + 1 + 3 + 2 * π pn) (((aD (aAct u0 (aD u0))).1) (85 + 13 * pn)) (((aD (aAct u0 (aD u0))).1) (86 + 13 * pn)) (((aD (aAct u0 (aD u0))).1) (87 + 13 * pn)) (roww ((aD (aAct u0 (aD u0))).1) pn) (hZ.2.1.2.2.2.1 pn hpn) (hZ.2.1.2.2.2.2.1 pn hpn)) (cwV 0 hts gX8_replace_X0_renew rfl rfl rfl (by decide +kernel) ⟨(Nat.le_of_ble_eq_true rfl), (Nat.le_of_ble_eq_true rfl)⟩) (hZ.2.1.2.2.2.1 pn (by omega)) rfl rfl rfl rfl hl.1 (Nat.le_of_ble_eq_true rfl) dX8_replace_39 ⟨Nat.zero_le _, Nat.zero_le _⟩ (fun μ13 n14 H locs hp15 hH hS => ?_)
    obtain ⟨hb1, ⟨gz, hw1, hgz⟩, hn1, hfr1⟩ := hp15
    rw [hn1] at hH
    have hzr : ∀ j, j < 10 → roww (rnw ((aD (aAct u0 (aD u0))).1) pn) pn j = 0 := fun j hj => by rw [roww_at hj]; exact if_pos (by omega)
    have hH : gP G (hu μ13 (x + 1 + 1 + 3 + 2 * π pn) (.inl (G.2.1 0, 10, .inl (fun j => iv (roww (rnw ((aD (aAct u0 (aD u0))).1) pn) pn j))))) n7 H := hH.cgi (g := fun j => iv (roww (rnw ((aD (aAct u0 (aD u0))).1) pn) pn j)) hw1 (fun j hj => by show iv (gz j) = iv _; rw [hgz j hj, hzr j hj])
    have hpp := hZ.2.1.2.2.2.2.2.1 pn hpn
    have hfr3 : ∀ q, q ≠ x + 1 + 1 + 2 + 2 * π pn → q ≠ x + 1 + 1 + 3 + 2 * π pn → (hu μ13 (x + 1 + 1 + 3 + 2 * π pn) (.inl (G.2.1 0, 10, .inl (fun j => iv (roww (rnw ((aD (aAct u0 (aD u0))).1) pn) pn j))))) q = μ6 q := fun q h1 h2 => (hu_n h2).trans (hfr1 q h1 h2)
    have hb2 : (hu μ13 (x + 1 + 1 + 3 + 2 * π pn) (.inl (G.2.1 0, 10, .inl (fun j => iv (roww (rnw ((aD (aAct u0 (aD u0))).1) pn) pn j))))) (x + 1 + 1 + 2 + 2 * π pn) = some (.inr (0, [.int (iv (rnw ((aD (aAct u0 (aD u0))).1) pn (85 + 13 * pn))), .int (iv (rnw ((aD (aAct u0 (aD u0))).1) pn (86 + 13 * pn))), .int (iv (rnw ((aD (aAct u0 (aD u0))).1) pn (87 + 13 * pn))), .ref (x + 1 + 1 + 3 + 2 * π pn)])) := by
      have e1 : rnw ((aD (aAct u0 (aD u0))).1) pn (85 + 13 * pn) = ((aD (aAct u0 (aD u0))).1) (85 + 13 * pn) := if_neg (by omega)
      have e2 : rnw ((aD (aAct u0 (aD u0))).1) pn (86 + 13 * pn) = 0 := if_pos (by omega)
      have e3 : rnw ((aD (aAct u0 (aD u0))).1) pn (87 + 13 * pn) = 0 := if_pos (by omega)
      rw [e1, e2, e3]
      exact hu_n' (by omega) hb1
    have hs1 : IsSt G (hu μ13 (x + 1 + 1 + 3 + 2 * π pn) (.inl (G.2.1 0, 10, .inl (fun j => iv (roww (rnw ((aD (aAct u0 (aD u0))).1) pn) pn j))))) (x + 1 + 1) π (rnw ((aD (aAct u0 (aD u0))).1) pn) fp sp := hZ.2.1.bw hpn hb2 hu_s hfr3 (fun j hj => if_neg (by omega))
    obtain ⟨hD, hfr2⟩ : IsD G (hu μ13 (x + 1 + 1 + 3 + 2 * π pn) (.inl (G.2.1 0, 10, .inl (fun j => iv (roww (rnw ((aD (aAct u0 (aD u0))).1) pn) pn j))))) x rb ((rnw ((aD (aAct u0 (aD u0))).1) pn, (aD (aAct u0 (aD u0))).2), (aAct u0 (aD u0)).2) ∧ DFr x _ (hu μ13 (x + 1 + 1 + 3 + 2 * π pn) (.inl (G.2.1 0, 10, .inl (fun j => iv (roww (rnw ((aD (aAct u0 (aD u0))).1) pn) pn j))))) := hD.pst hZ hC hs1 (fun q hq => hfr3 q (by omega) (by omega)) (okS_rnw hT.1 hpn) (fun j hj => if_neg (by omega))
    have hfr := hfr.tr hfr2
    clear hfr2
    have hH : gP G (hu μ13 (x + 1 + 1 + 3 + 2 * π pn) (.inl (G.2.1 0, 10, .inl (fun j => iv (roww (rnw ((aD (aAct u0 (aD u0))).1) pn) pn j))))) n7 H := hH
    obtain ⟨ν16, hν16⟩ : ∃ ν : hM, ν = (hu μ13 (x + 1 + 1 + 3 + 2 * π pn) (.inl (G.2.1 0, 10, .inl (fun j => iv (roww (rnw ((aD (aAct u0 (aD u0))).1) pn) pn j))))) := ⟨_, rfl⟩
    rw [← hν16] at hD hfr hH
    clear hν16
    clear hX hZ hC hT hch hL hLs hY hCk hTk hchk hTX hI2 hOk2 hsz hkt hOC hrb hlast
    have hD9 := hD
    obtain ⟨hX, ⟨π, fp, sp, rd, hZ, hC, hT, hch⟩, ⟨ρ, πs, fps, sps, rds, hL, hLs⟩, ⟨πk, fpk, spk, rdk, hY, hCk, hTk, hchk⟩, ⟨to, td, tk, tn, tt, ta, hTX⟩, ⟨πr, τr, fpr, spr, hI2, hOk2⟩, hsz, hkt, hOC, hrb, hlast⟩ := hD9
    refine lv_iload_n hx hb dX8_replace_42 rfl (lv_at hl 0 rfl) ?_
    refine j_norm (y := (bsum (roww (aD u0).1 pn) 10)) rfl ?_
    subst hQ
    refine m_iret hx hb hr hlocks hH hS dX8_replace_43 ?_ (by omega)
    unfold a_replace
    rw [if_pos (by omega)]
    exact ⟨rfl, hD, hfr⟩
  · skip
    refine j_const hx hb dX8_replace_7 ?_
    subst hQ
    refine m_iret hx hb hr hlocks hH hS dX8_replace_8 ?_ (by omega)
    unfold a_replace
    rw [if_neg (by omega)]
    exact ⟨rfl, hD, hfr⟩

abbrev rm_c_X8_set : Room := { frames := 5, cells := 0, slots := 0, locals := 113 }
set_option maxHeartbeats 4000000 in
set_option maxRecDepth 100000 in
theorem c_X8_set (l : Launch) (G : wG) (μ : hM) (n : Nat) (x rb : Nat) (u0 : aS) (wa v : Int) (hD : IsD G μ x rb u0) (hwa1 : -2147483648 ≤ wa ∧ wa ≤ 2147483647) (hv1 : -2147483648 ≤ v ∧ v ≤ 2147483647) : Met l yX8_set wsX8_set rm_c_X8_set (mPc G μ n [.ref x, .int (iv wa), .int (iv v)]) (mQi G (fun z μ1 n1 => z = (a_set u0 wa v).2 ∧ IsD G μ1 x rb (a_set u0 wa v).1 ∧ DFr x μ μ1)) 0 0 (gA G) := by
  refine Met.ofW (cc := cX8_set) (maxL := 4) (ret := (some .int)) (by decide) rfl ?_
  intro p e s m args below meth c s₁ B hml hv
  obtain ⟨hav, hK, hH⟩ := hv
  have hx := B.exec
  have hb := B.bytes
  have hr := B.returns
  have hts := atoms_spec (ws := wsX8_set) B.pre
  have hown : s.vm.findClass RX8 = some m.cls := findClass_of_methodNamed B.named
  have hlocks := B.notSynchronized
  have hS : va_S (gA G) s.heap s.heap [] := va_S.rf
  have hl := lv_entry ([.ref x, .int (iv wa), .int (iv v)]) (n := 4) (Nat.le_of_ble_eq_true rfl)
  have hfr : entryFrame m args 4 = entryFrame m ([.ref x, .int (iv wa), .int (iv v)] : List Value).toArray 4 := by rw [hav]
  rw [hfr, lg_entry_eq]
  generalize (lg_sl ([.ref x, .int (iv wa), .int (iv v)]) ++ List.replicate (4 - (lg_sl ([.ref x, .int (iv wa), .int (iv v)])).length) Slot.unset).toArray = ls at hl ⊢
  have hl : lv_has ls 4 [(0, .ref x), (1, .int (iv wa)), (2, .int (iv v))] := hl
  generalize hQ : MQ below _ args s 0 0 (gA G) = Q
  show W p l e rm_c_X8_set s m args below meth c s.heap [] 0 0 Q (F0 m 0 ls [])
  obtain ⟨H, hHe⟩ : ∃ H, H = s.heap := ⟨_, rfl⟩
  obtain ⟨locs, hlo⟩ : ∃ q : List Loc, q = [] := ⟨_, rfl⟩
  have hH : gP G μ n H := by rw [hHe]; exact hH
  have hS : va_S (gA G) s.heap H locs := by rw [hHe, hlo]; exact hS
  suffices hgo : W p l e rm_c_X8_set s m args below meth c H locs 0 0 Q (F0 m 0 ls []) by rw [hHe, hlo] at hgo; exact hgo
  clear hHe hlo hfr hav
  have f_0 := hts (.fieldLink RX8 10 "StampDater" "state" "LStampDater$State;") (List.mem_of_getElem? (i := 1) rfl)
  have i_X8 : ∀ w ∈ u_ws RX8 TX8 6, w ∈ wsX8_set := by decide +kernel
  have f_2 := hts (.fieldLink RX8 63 "StampDater$State" "stamp" "LStampDater$Stamp;") (List.mem_of_getElem? (i := 2) rfl)
  have i_X6 : ∀ w ∈ u_ws RX6 TX6 8, w ∈ wsX8_set := by decide +kernel
  have f_4 := hts (.fieldLink RX8 128 "StampDater$Stamp" "settings" "[I") (List.mem_of_getElem? (i := 3) rfl)
  have i_X5 : ∀ w ∈ u_ws RX5 TX5 7, w ∈ wsX8_set := by decide +kernel
  have f_6 := hts (.fieldLink RX8 19 "StampDater" "history" "LStampDater$History;") (List.mem_of_getElem? (i := 4) rfl)
  have hfr : DFr x μ μ := DFr.rf
  have hD9 := hD
  obtain ⟨hX, ⟨π, fp, sp, rd, hZ, hC, hT, hch⟩, ⟨ρ, πs, fps, sps, rds, hL, hLs⟩, ⟨πk, fpk, spk, rdk, hY, hCk, hTk, hchk⟩, ⟨to, td, tk, tn, tt, ta, hTX⟩, ⟨πr, τr, fpr, spr, hI2, hOk2⟩, hsz, hkt, hOC, hrb, hlast⟩ := hD9
  have h3 := hT.2.1
  have h5 := hT.2.2.1
  have hS0 := hT.1
  have h4 := hS0.2.2.2.1
  refine lv_iload_n hx hb dX8_set_0 rfl (lv_at hl 1 rfl) ?_
  refine m_callSi (As := [.int (iv wa)]) (rest := []) ⟨hx, hb, hml, hown, hts⟩ hK hH hS (c_X8_isSetting l G μ n wa (by omega)) (va_cwS 1 hts gX8_set_X8_isSetting rfl rfl rfl (by decide +kernel) ⟨(Nat.le_of_ble_eq_true rfl), (Nat.le_of_ble_eq_true rfl)⟩) rfl rfl hl.1 (Nat.le_of_ble_eq_true rfl) dX8_set_1 ⟨Nat.zero_le _, Nat.zero_le _⟩ (fun z4 μ1 n2 H locs hz4 hp3 hH hS => ?_)
  obtain ⟨hz9, hm9, hn9⟩ := hp3
  rw [hm9, hn9] at hH
  have hz4c : (z4 = 1 ∧ (0 ≤ wa ∧ wa ≤ 2)) ∨ (z4 = 0 ∧ ¬ (0 ≤ wa ∧ wa ≤ 2)) := by
    by_cases q9 : 0 ≤ wa ∧ wa ≤ 2
    · rw [if_pos q9] at hz9; exact Or.inl ⟨hz9, q9⟩
    · rw [if_neg q9] at hz9; exact Or.inr ⟨hz9, q9⟩
  clear hz9 hm9 hn9
  refine j_if_eq (tgt := 22) hx hb dX8_set_4 (by decide) (fun c5 => ?_) (fun c5 => ?_) (by omega)
  · skip
    refine j_bipush hx hb dX8_set_22 ?_ (by decide)
    subst hQ
    refine m_iret hx hb hr hlocks hH hS dX8_set_24 ?_ (by omega)
    unfold a_set
    rw [if_neg (by omega)]
    exact ⟨rfl, hD, hfr⟩
  · skip
    have hls := loSet_rng wa
    refine lv_iload_n hx hb dX8_set_7 rfl (lv_at hl 2 rfl) ?_
    refine lv_iload_n hx hb dX8_set_8 rfl (lv_at hl 1 rfl) ?_
    refine m_callSi (As := [.int (iv wa)]) (rest := [.int (iv v)]) ⟨hx, hb, hml, hown, hts⟩ hK hH hS (c_X8_leastSetting l G μ n wa (by omega)) (va_cwS 1 hts gX8_set_X8_leastSetting rfl rfl rfl (by decide +kernel) ⟨(Nat.le_of_ble_eq_true rfl), (Nat.le_of_ble_eq_true rfl)⟩) rfl rfl hl.1 (Nat.le_of_ble_eq_true rfl) dX8_set_9 ⟨Nat.zero_le _, Nat.zero_le _⟩ (fun z9 μ6 n7 H locs hz9 hp8 hH hS => ?_)
    obtain ⟨hz2, hm2, hn2⟩ := hp8; rw [hz2]; rw [hm2, hn2] at hH; clear hz2 hm2 hn2
    refine lv_iload_n hx hb dX8_set_12 rfl (lv_at hl 1 rfl) ?_
    refine m_callSi (As := [.int (iv wa)]) (rest := [.int (iv (loSet wa)), .int (iv v)]) ⟨hx, hb, hml, hown, hts⟩ hK hH hS (c_X8_mostSetting l G μ n wa (by omega)) (va_cwS 1 hts gX8_set_X8_mostSetting rfl rfl rfl (by decide +kernel) ⟨(Nat.le_of_ble_eq_true rfl), (Nat.le_of_ble_eq_true rfl)⟩) rfl rfl hl.1 (Nat.le_of_ble_eq_true rfl) dX8_set_13 ⟨Nat.zero_le _, Nat.zero_le _⟩ (fun z13 μ10 n11 H locs hz13 hp12 hH hS => ?_)
    obtain ⟨hz2, hm2, hn2⟩ := hp12; rw [hz2]; rw [hm2, hn2] at hH; clear hz2 hm2 hn2
    refine m_callSi (As := [.int (iv v), .int (iv (loSet wa)), .int (iv (hiSet wa))]) (rest := []) ⟨hx, hb, hml, hown, hts⟩ hK hH hS (c_X8_isWithin l G μ n v (loSet wa) (hiSet wa) (by omega) (by omega) (by omega)) (va_cwS 3 hts gX8_set_X8_isWithin rfl rfl rfl (by decide +kernel) ⟨(Nat.le_of_ble_eq_true rfl), (Nat.le_of_ble_eq_true rfl)⟩) rfl rfl hl.1 (Nat.le_of_ble_eq_true rfl) dX8_set_16 ⟨Nat.zero_le _, Nat.zero_le _⟩ (fun z17 μ14 n15 H locs hz17 hp16 hH hS => ?_)
    obtain ⟨hz9, hm9, hn9⟩ := hp16
    rw [hm9, hn9] at hH
    have hz17c : (z17 = 1 ∧ ((loSet wa) ≤ v ∧ v ≤ (hiSet wa))) ∨ (z17 = 0 ∧ ¬ ((loSet wa) ≤ v ∧ v ≤ (hiSet wa))) := by
      by_cases q9 : (loSet wa) ≤ v ∧ v ≤ (hiSet wa)
      · rw [if_pos q9] at hz9; exact Or.inl ⟨hz9, q9⟩
      · rw [if_neg q9] at hz9; exact Or.inr ⟨hz9, q9⟩
    clear hz9 hm9 hn9
    refine j_if_ne (tgt := 25) hx hb dX8_set_19 (by decide) (fun c18 => ?_) (fun c18 => ?_) (by omega)
    · skip
      obtain ⟨wn, hpn⟩ : ∃ wn : Nat, wn = wa.toNat := ⟨_, rfl⟩
      have hpe : wa = (wn : Int) := by omega
      clear hpn
      subst hpe
      have hwn : wn < 6 := by omega
      have hw3 : wn < 3 := by omega
      have hsr : 0 ≤ (aD u0).1 wn ∧ (aD u0).1 wn ≤ 150 := by
        have hc : wn = 0 ∨ wn = 1 ∨ wn = 2 := by omega
        obtain ⟨b0, b1, b2, -⟩ := hS0
        rcases hc with rfl | rfl | rfl <;> omega
      refine lv_aload_n hx hb dX8_set_25 rfl (lv_at hl 0 rfl) ?_
      refine m_get (C := RX8) (T := TX8) (N := 6) (ci := 7) hx hb hts i_X8 hown hK hH hX rfl 0 (by decide) f_0 rfl dX8_set_26 ?_
      refine m_get (C := RX6) (T := TX6) (N := 8) (ci := 5) hx hb hts i_X6 hown hK hH hZ.1 rfl 0 (by decide) f_2 rfl dX8_set_29 ?_
      refine m_get (C := RX5) (T := TX5) (N := 7) (ci := 4) hx hb hts i_X5 hown hK hH hZ.2.1.1 rfl 1 (by decide) f_4 rfl dX8_set_32 ?_
      refine lv_iload_n hx hb dX8_set_35 rfl (lv_at hl 1 rfl) ?_
      refine m_iald (nA := 3) (f := (row3 ((aD u0).1))) hx hb hK hH hZ.2.1.2.2.1 dX8_set_36 ?_ (by omega) (by omega)
      refine j_norm (y := (aD u0).1 wn) (if_pos hw3) ?_
      refine lv_istore_n (lv' := [(3, .int (iv ((aD u0).1 wn))), (0, .ref x), (1, .int (iv (wn : Int))), (2, .int (iv v))]) hx hb dX8_set_37 rfl hl (by decide) rfl (fun ls hl => ?_)
      refine lv_iload_n hx hb dX8_set_38 rfl (lv_at hl 0 rfl) ?_
      refine lv_iload_n hx hb dX8_set_39 rfl (lv_at hl 3 rfl) ?_
      refine j_icmp_ne (tgt := 46) hx hb dX8_set_40 (by decide) (fun c19 => ?_) (fun c19 => ?_) (by omega) (by omega)
      · skip
        refine lv_aload_n hx hb dX8_set_46 rfl (lv_at hl 1 rfl) ?_
        refine m_get (C := RX8) (T := TX8) (N := 6) (ci := 7) hx hb hts i_X8 hown hK hH hX rfl 1 (by decide) f_6 rfl dX8_set_47 ?_
        refine lv_aload_n hx hb dX8_set_50 rfl (lv_at hl 1 rfl) ?_
        refine m_get (C := RX8) (T := TX8) (N := 6) (ci := 7) hx hb hts i_X8 hown hK hH hX rfl 0 (by decide) f_0 rfl dX8_set_51 ?_
        refine m_callVv (As := [.ref (x + 1)]) (rest := []) ⟨hx, hb, hml, hown, hts⟩ hK hH hS (c_X2_remember l G μ n (x + 30) ρ (aN u0) πs (fun r => (aH u0 r).1) fps sps rds (x + 1) π ((aD u0).1) fp sp rd hL hsz hZ hT (by omega)) (cwV 1 hts gX8_set_X2_remember rfl rfl rfl (by decide +kernel) ⟨(Nat.le_of_ble_eq_true rfl), (Nat.le_of_ble_eq_true rfl)⟩) hL.1 rfl rfl rfl rfl hl.1 (Nat.le_of_ble_eq_true rfl) dX8_set_54 ⟨Nat.zero_le _, Nat.zero_le _⟩ (fun μ20 n21 H locs hp22 hH hS => ?_)
        obtain ⟨ρ1, πs1, fps1, sps1, hL1, hfr1⟩ := hp22
        obtain ⟨hD, hfr2⟩ : IsD G μ20 x rb (aAct u0 (aD u0)) ∧ DFr x _ μ20 := hD.rem hC hLs hL1 (fun q hq => hfr1 q (by omega))
        have hfr := hfr.tr hfr2
        clear hfr2
        clear hX hZ hC hT hch hL hLs hY hCk hTk hchk hTX hI2 hOk2 hsz hkt hOC hrb hlast
        have hD9 := hD
        obtain ⟨hX, ⟨π, fp, sp, rd, hZ, hC, hT, hch⟩, ⟨ρ, πs, fps, sps, rds, hL, hLs⟩, ⟨πk, fpk, spk, rdk, hY, hCk, hTk, hchk⟩, ⟨to, td, tk, tn, tt, ta, hTX⟩, ⟨πr, τr, fpr, spr, hI2, hOk2⟩, hsz, hkt, hOC, hrb, hlast⟩ := hD9
        refine lv_aload_n hx hb dX8_set_57 rfl (lv_at hl 1 rfl) ?_
        refine m_get (C := RX8) (T := TX8) (N := 6) (ci := 7) hx hb hts i_X8 hown hK hH hX rfl 0 (by decide) f_0 rfl dX8_set_58 ?_
        refine m_get (C := RX6) (T := TX6) (N := 8) (ci := 5) hx hb hts i_X6 hown hK hH hZ.1 rfl 0 (by decide) f_2 rfl dX8_set_61 ?_
        refine m_get (C := RX5) (T := TX5) (N := 7) (ci := 4) hx hb hts i_X5 hown hK hH hZ.2.1.1 rfl 1 (by decide) f_4 rfl dX8_set_64 ?_
        refine lv_iload_n hx hb dX8_set_67 rfl (lv_at hl 2 rfl) ?_
        refine lv_iload_n hx hb dX8_set_68 rfl (lv_at hl 3 rfl) ?_
        refine m_iast (nA := 3) (f := (row3 ((aD (aAct u0 (aD u0))).1))) hx hb hK hH hS hZ.2.1.2.2.1 dX8_set_69 (fun H locs hH hS => ?_) (by omega) (by omega)
        have hH : gP G (hu μ20 ((x + 1 + 1) + 14) (.inl (G.2.1 0, 3, .inl (fun j => iv (row3 (fu ((aD (aAct u0 (aD u0))).1) wn v) j))))) n21 H := by rw [← row3_fu hw3]; exact hH
        have hs1 : IsSt G (hu μ20 ((x + 1 + 1) + 14) (.inl (G.2.1 0, 3, .inl (fun j => iv (row3 (fu ((aD (aAct u0 (aD u0))).1) wn v) j))))) (x + 1 + 1) π (fu ((aD (aAct u0 (aD u0))).1) wn v) fp sp := hZ.2.1.se (fu ((aD (aAct u0 (aD u0))).1) wn v) (fun j hj => fu_n (by omega))
        have hfr1 : ∀ q, (q < x + 1 + 1 ∨ x + 1 + 1 + 15 ≤ q) → (hu μ20 ((x + 1 + 1) + 14) (.inl (G.2.1 0, 3, .inl (fun j => iv (row3 (fu ((aD (aAct u0 (aD u0))).1) wn v) j))))) q = μ20 q := fun q hq => hu_n (by omega)
        obtain ⟨hD, hfr2⟩ : IsD G (hu μ20 ((x + 1 + 1) + 14) (.inl (G.2.1 0, 3, .inl (fun j => iv (row3 (fu ((aD (aAct u0 (aD u0))).1) wn v) j))))) x rb ((fu ((aD (aAct u0 (aD u0))).1) wn v, (aD (aAct u0 (aD u0))).2), (aAct u0 (aD u0)).2) ∧ DFr x _ (hu μ20 ((x + 1 + 1) + 14) (.inl (G.2.1 0, 3, .inl (fun j => iv (row3 (fu ((aD (aAct u0 (aD u0))).1) wn v) j))))) := hD.pst hZ hC hs1 hfr1 (okS_set hT.1 hw3 (by omega)) (fun j hj => fu_n (by omega))
        have hfr := hfr.tr hfr2
        clear hfr2
        have hH : gP G (hu μ20 ((x + 1 + 1) + 14) (.inl (G.2.1 0, 3, .inl (fun j => iv (row3 (fu ((aD (aAct u0 (aD u0))).1) wn v) j))))) n21 H := hH
        obtain ⟨ν23, hν23⟩ : ∃ ν : hM, ν = (hu μ20 ((x + 1 + 1) + 14) (.inl (G.2.1 0, 3, .inl (fun j => iv (row3 (fu ((aD (aAct u0 (aD u0))).1) wn v) j))))) := ⟨_, rfl⟩
        rw [← hν23] at hD hfr hH
        clear hν23
        clear hX hZ hC hT hch hL hLs hY hCk hTk hchk hTX hI2 hOk2 hsz hkt hOC hrb hlast
        have hD9 := hD
        obtain ⟨hX, ⟨π, fp, sp, rd, hZ, hC, hT, hch⟩, ⟨ρ, πs, fps, sps, rds, hL, hLs⟩, ⟨πk, fpk, spk, rdk, hY, hCk, hTk, hchk⟩, ⟨to, td, tk, tn, tt, ta, hTX⟩, ⟨πr, τr, fpr, spr, hI2, hOk2⟩, hsz, hkt, hOC, hrb, hlast⟩ := hD9
        have hH : gP G ν23 n21 H := hH
        refine lv_iload_n hx hb dX8_set_70 rfl (lv_at hl 0 rfl) ?_
        subst hQ
        refine m_iret hx hb hr hlocks hH hS dX8_set_71 ?_ (by omega)
        unfold a_set
        rw [show ((wn : Nat) : Int).toNat = wn from rfl]
        rw [if_pos (by omega), if_neg (by omega)]
        exact ⟨rfl, hD, hfr⟩
      · skip
        refine j_bipush hx hb dX8_set_43 ?_ (by decide)
        subst hQ
        refine m_iret hx hb hr hlocks hH hS dX8_set_45 ?_ (by omega)
        unfold a_set
        rw [show ((wn : Nat) : Int).toNat = wn from rfl]
        rw [if_pos (by omega), if_pos (by omega)]
        exact ⟨rfl, hD, hfr⟩
    · skip
      refine j_bipush hx hb dX8_set_22 ?_ (by decide)
      subst hQ
      refine m_iret hx hb hr hlocks hH hS dX8_set_24 ?_ (by omega)
      unfold a_set
      rw [if_neg (by omega)]
      exact ⟨rfl, hD, hfr⟩

abbrev rm_c_X8_type : Room := { frames := 1, cells := 0, slots := 0, locals := 21 }
abbrev rm_c_X8_clearText : Room := { frames := 0, cells := 0, slots := 0, locals := 0 }
abbrev rm_c_X8_fault : Room := { frames := 6, cells := 0, slots := 0, locals := 128 }
abbrev rm_c_X8_undo : Room := { frames := 5, cells := 0, slots := 0, locals := 113 }
set_option maxHeartbeats 4000000 in
set_option maxRecDepth 100000 in
theorem c_X8_undo (l : Launch) (G : wG) (μ : hM) (n : Nat) (x rb : Nat) (u0 : aS)  (hD : IsD G μ x rb u0) : Met l yX8_undo wsX8_undo rm_c_X8_undo (mPc G μ n [.ref x]) (mQi G (fun z μ1 n1 => z = (a_undo u0).2 ∧ IsD G μ1 x rb (a_undo u0).1 ∧ DFr x μ μ1)) 0 0 (gA G) := by
  refine Met.ofW (cc := cX8_undo) (maxL := 1) (ret := (some .int)) (by decide) rfl ?_
  intro p e s m args below meth c s₁ B hml hv
  obtain ⟨hav, hK, hH⟩ := hv
  have hx := B.exec
  have hb := B.bytes
  have hr := B.returns
  have hts := atoms_spec (ws := wsX8_undo) B.pre
  have hown : s.vm.findClass RX8 = some m.cls := findClass_of_methodNamed B.named
  have hlocks := B.notSynchronized
  have hS : va_S (gA G) s.heap s.heap [] := va_S.rf
  have hl := lv_entry ([.ref x]) (n := 1) (Nat.le_of_ble_eq_true rfl)
  have hfr : entryFrame m args 1 = entryFrame m ([.ref x] : List Value).toArray 1 := by rw [hav]
  rw [hfr, lg_entry_eq]
  generalize (lg_sl ([.ref x]) ++ List.replicate (1 - (lg_sl ([.ref x])).length) Slot.unset).toArray = ls at hl ⊢
  have hl : lv_has ls 1 [(0, .ref x)] := hl
  generalize hQ : MQ below _ args s 0 0 (gA G) = Q
  show W p l e rm_c_X8_undo s m args below meth c s.heap [] 0 0 Q (F0 m 0 ls [])
  obtain ⟨H, hHe⟩ : ∃ H, H = s.heap := ⟨_, rfl⟩
  obtain ⟨locs, hlo⟩ : ∃ q : List Loc, q = [] := ⟨_, rfl⟩
  have hH : gP G μ n H := by rw [hHe]; exact hH
  have hS : va_S (gA G) s.heap H locs := by rw [hHe, hlo]; exact hS
  suffices hgo : W p l e rm_c_X8_undo s m args below meth c H locs 0 0 Q (F0 m 0 ls []) by rw [hHe, hlo] at hgo; exact hgo
  clear hHe hlo hfr hav
  have f_0 := hts (.fieldLink RX8 19 "StampDater" "history" "LStampDater$History;") (List.mem_of_getElem? (i := 1) rfl)
  have i_X8 : ∀ w ∈ u_ws RX8 TX8 6, w ∈ wsX8_undo := by decide +kernel
  have f_2 := hts (.fieldLink RX8 168 "StampDater$History" "size" "I") (List.mem_of_getElem? (i := 2) rfl)
  have i_X2 : ∀ w ∈ u_ws RX2 TX2 2, w ∈ wsX8_undo := by decide +kernel
  have f_4 := hts (.fieldLink RX8 10 "StampDater" "state" "LStampDater$State;") (List.mem_of_getElem? (i := 3) rfl)
  have hfr : DFr x μ μ := DFr.rf
  have hD9 := hD
  obtain ⟨hX, ⟨π, fp, sp, rd, hZ, hC, hT, hch⟩, ⟨ρ, πs, fps, sps, rds, hL, hLs⟩, ⟨πk, fpk, spk, rdk, hY, hCk, hTk, hchk⟩, ⟨to, td, tk, tn, tt, ta, hTX⟩, ⟨πr, τr, fpr, spr, hI2, hOk2⟩, hsz, hkt, hOC, hrb, hlast⟩ := hD9
  have h3 := hT.2.1
  have h5 := hT.2.2.1
  have hS0 := hT.1
  have h4 := hS0.2.2.2.1
  refine lv_aload_n hx hb dX8_undo_0 rfl (lv_at hl 0 rfl) ?_
  refine m_get (C := RX8) (T := TX8) (N := 6) (ci := 7) hx hb hts i_X8 hown hK hH hX rfl 1 (by decide) f_0 rfl dX8_undo_1 ?_
  refine m_get (C := RX2) (T := TX2) (N := 2) (ci := 1) hx hb hts i_X2 hown hK hH hL.1 rfl 1 (by decide) f_2 rfl dX8_undo_4 ?_
  have hsz0 := hsz
  refine j_if_ne (tgt := 13) hx hb dX8_undo_7 (by decide) (fun c1 => ?_) (fun c1 => ?_) (by omega)
  · skip
    refine lv_aload_n hx hb dX8_undo_13 rfl (lv_at hl 0 rfl) ?_
    refine m_get (C := RX8) (T := TX8) (N := 6) (ci := 7) hx hb hts i_X8 hown hK hH hX rfl 1 (by decide) f_0 rfl dX8_undo_14 ?_
    refine lv_aload_n hx hb dX8_undo_17 rfl (lv_at hl 0 rfl) ?_
    refine m_get (C := RX8) (T := TX8) (N := 6) (ci := 7) hx hb hts i_X8 hown hK hH hX rfl 0 (by decide) f_4 rfl dX8_undo_18 ?_
    refine m_callVv (As := [.ref (x + 1)]) (rest := []) ⟨hx, hb, hml, hown, hts⟩ hK hH hS (c_X2_takeLatest l G μ n (x + 30) ρ (aN u0) πs (fun r => (aH u0 r).1) fps sps rds (x + 1) π ((aD u0).1) fp sp rd hL (by omega) hZ hT (by omega)) (cwV 1 hts gX8_undo_X2_takeLatest rfl rfl rfl (by decide +kernel) ⟨(Nat.le_of_ble_eq_true rfl), (Nat.le_of_ble_eq_true rfl)⟩) hL.1 rfl rfl rfl rfl hl.1 (Nat.le_of_ble_eq_true rfl) dX8_undo_21 ⟨Nat.zero_le _, Nat.zero_le _⟩ (fun μ2 n3 H locs hp4 hH hS => ?_)
    obtain ⟨hL1, hZ1, hfr1⟩ := hp4
    obtain ⟨hD, hfr2⟩ : IsD G μ2 x rb (aH u0 (aN u0 - 1).toNat, aN u0 - 1, u0.2.2) ∧ DFr x _ μ2 := hD.und (by omega) hLs hL1 hZ1 (fun q a b => hfr1 q (by omega) (by omega))
    have hfr := hfr.tr hfr2
    clear hfr2
    clear hX hZ hC hT hch hL hLs hY hCk hTk hchk hTX hI2 hOk2 hsz hkt hOC hrb hlast
    have hD9 := hD
    obtain ⟨hX, ⟨π, fp, sp, rd, hZ, hC, hT, hch⟩, ⟨ρ, πs, fps, sps, rds, hL, hLs⟩, ⟨πk, fpk, spk, rdk, hY, hCk, hTk, hchk⟩, ⟨to, td, tk, tn, tt, ta, hTX⟩, ⟨πr, τr, fpr, spr, hI2, hOk2⟩, hsz, hkt, hOC, hrb, hlast⟩ := hD9
    refine lv_aload_n hx hb dX8_undo_24 rfl (lv_at hl 0 rfl) ?_
    refine m_get (C := RX8) (T := TX8) (N := 6) (ci := 7) hx hb hts i_X8 hown hK hH hX rfl 1 (by decide) f_0 rfl dX8_undo_25 ?_
    refine m_get (C := RX2) (T := TX2) (N := 2) (ci := 1) hx hb hts i_X2 hown hK hH hL.1 rfl 1 (by decide) f_2 rfl dX8_undo_28 ?_
    refine j_norm (y := (aN u0 - 1)) rfl ?_
    subst hQ
    refine m_iret hx hb hr hlocks hH hS dX8_undo_31 ?_ (by omega)
    unfold a_undo
    rw [if_neg (by omega)]
    exact ⟨rfl, hD, hfr⟩
  · skip
    refine j_bipush hx hb dX8_undo_10 ?_ (by decide)
    subst hQ
    refine m_iret hx hb hr hlocks hH hS dX8_undo_12 ?_ (by omega)
    unfold a_undo
    rw [if_pos (by omega)]
    exact ⟨rfl, hD, hfr⟩

abbrev rm_c_X8_keep : Room := { frames := 4, cells := 0, slots := 0, locals := 92 }
set_option maxHeartbeats 4000000 in
set_option maxRecDepth 100000 in
theorem c_X8_keep (l : Launch) (G : wG) (μ : hM) (n : Nat) (x rb : Nat) (u0 : aS)  (hD : IsD G μ x rb u0) : Met l yX8_keep wsX8_keep rm_c_X8_keep (mPc G μ n [.ref x]) (mQi G (fun z μ1 n1 => z = (a_keep u0).2 ∧ IsD G μ1 x rb (a_keep u0).1 ∧ DFr x μ μ1)) 0 0 (gA G) := by
  refine Met.ofW (cc := cX8_keep) (maxL := 1) (ret := (some .int)) (by decide) rfl ?_
  intro p e s m args below meth c s₁ B hml hv
  obtain ⟨hav, hK, hH⟩ := hv
  have hx := B.exec
  have hb := B.bytes
  have hr := B.returns
  have hts := atoms_spec (ws := wsX8_keep) B.pre
  have hown : s.vm.findClass RX8 = some m.cls := findClass_of_methodNamed B.named
  have hlocks := B.notSynchronized
  have hS : va_S (gA G) s.heap s.heap [] := va_S.rf
  have hl := lv_entry ([.ref x]) (n := 1) (Nat.le_of_ble_eq_true rfl)
  have hfr : entryFrame m args 1 = entryFrame m ([.ref x] : List Value).toArray 1 := by rw [hav]
  rw [hfr, lg_entry_eq]
  generalize (lg_sl ([.ref x]) ++ List.replicate (1 - (lg_sl ([.ref x])).length) Slot.unset).toArray = ls at hl ⊢
  have hl : lv_has ls 1 [(0, .ref x)] := hl
  generalize hQ : MQ below _ args s 0 0 (gA G) = Q
  show W p l e rm_c_X8_keep s m args below meth c s.heap [] 0 0 Q (F0 m 0 ls [])
  obtain ⟨H, hHe⟩ : ∃ H, H = s.heap := ⟨_, rfl⟩
  obtain ⟨locs, hlo⟩ : ∃ q : List Loc, q = [] := ⟨_, rfl⟩
  have hH : gP G μ n H := by rw [hHe]; exact hH
  have hS : va_S (gA G) s.heap H locs := by rw [hHe, hlo]; exact hS
  suffices hgo : W p l e rm_c_X8_keep s m args below meth c H locs 0 0 Q (F0 m 0 ls []) by rw [hHe, hlo] at hgo; exact hgo
  clear hHe hlo hfr hav
  have f_0 := hts (.fieldLink RX8 23 "StampDater" "snapshot" "LStampDater$State;") (List.mem_of_getElem? (i := 1) rfl)
  have i_X8 : ∀ w ∈ u_ws RX8 TX8 6, w ∈ wsX8_keep := by decide +kernel
  have f_2 := hts (.fieldLink RX8 10 "StampDater" "state" "LStampDater$State;") (List.mem_of_getElem? (i := 2) rfl)
  have f_3 := hts (.fieldLink RX8 26 "StampDater" "snapshotTaken" "Z") (List.mem_of_getElem? (i := 3) rfl)
  have f_4 := hts (.fieldLink RX8 48 "StampDater$State" "today" "I") (List.mem_of_getElem? (i := 4) rfl)
  have i_X6 : ∀ w ∈ u_ws RX6 TX6 8, w ∈ wsX8_keep := by decide +kernel
  have hfr : DFr x μ μ := DFr.rf
  have hD9 := hD
  obtain ⟨hX, ⟨π, fp, sp, rd, hZ, hC, hT, hch⟩, ⟨ρ, πs, fps, sps, rds, hL, hLs⟩, ⟨πk, fpk, spk, rdk, hY, hCk, hTk, hchk⟩, ⟨to, td, tk, tn, tt, ta, hTX⟩, ⟨πr, τr, fpr, spr, hI2, hOk2⟩, hsz, hkt, hOC, hrb, hlast⟩ := hD9
  have h3 := hT.2.1
  have h5 := hT.2.2.1
  have hS0 := hT.1
  have h4 := hS0.2.2.2.1
  refine lv_aload_n hx hb dX8_keep_0 rfl (lv_at hl 0 rfl) ?_
  refine m_get (C := RX8) (T := TX8) (N := 6) (ci := 7) hx hb hts i_X8 hown hK hH hX rfl 2 (by decide) f_0 rfl dX8_keep_1 ?_
  refine lv_aload_n hx hb dX8_keep_4 rfl (lv_at hl 0 rfl) ?_
  refine m_get (C := RX8) (T := TX8) (N := 6) (ci := 7) hx hb hts i_X8 hown hK hH hX rfl 0 (by decide) f_2 rfl dX8_keep_5 ?_
  refine m_callVv (As := [.ref (x + 1)]) (rest := []) ⟨hx, hb, hml, hown, hts⟩ hK hH hS (c_X6_copyState l G μ n (x + 148) πk (aK u0).1 fpk spk rdk (x + 1) π ((aD u0).1) fp sp rd hY hTk hZ hT (by omega)) (cwV 1 hts gX8_keep_X6_copyState rfl rfl rfl (by decide +kernel) ⟨(Nat.le_of_ble_eq_true rfl), (Nat.le_of_ble_eq_true rfl)⟩) hY.1 rfl rfl rfl rfl hl.1 (Nat.le_of_ble_eq_true rfl) dX8_keep_8 ⟨Nat.zero_le _, Nat.zero_le _⟩ (fun μ1 n2 H locs hp3 hH hS => ?_)
  obtain ⟨hY1, hfr1⟩ := hp3
  obtain ⟨hD, hfr2⟩ : IsD G μ1 x rb (u0.1, u0.2.1, u0.2.2.1, u0.2.2.2.1, aD u0, u0.2.2.2.2.2) ∧ DFr x _ μ1 := hD.pK ⟨_, _, _, _, hY1, hC.fr (fun q e a b => (hfr1 q (by omega)).trans b), hT, hch⟩ (fun q e a b => (hfr1 q (by omega)).trans b)
  have hfr := hfr.tr hfr2
  clear hfr2
  clear hX hZ hC hT hch hL hLs hY hCk hTk hchk hTX hI2 hOk2 hsz hkt hOC hrb hlast
  have hD9 := hD
  obtain ⟨hX, ⟨π, fp, sp, rd, hZ, hC, hT, hch⟩, ⟨ρ, πs, fps, sps, rds, hL, hLs⟩, ⟨πk, fpk, spk, rdk, hY, hCk, hTk, hchk⟩, ⟨to, td, tk, tn, tt, ta, hTX⟩, ⟨πr, τr, fpr, spr, hI2, hOk2⟩, hsz, hkt, hOC, hrb, hlast⟩ := hD9
  refine lv_aload_n hx hb dX8_keep_11 rfl (lv_at hl 0 rfl) ?_
  refine j_const hx hb dX8_keep_12 ?_
  refine m_put (C := RX8) (T := TX8) (N := 6) (ci := 7) hx hb hts i_X8 tyX8 tyX8_ok nmX8 hown hK hH hS hX rfl 3 (by decide) f_3 rfl (nar_z (by omega)) (fit_z (by omega)) (Nat.le_of_ble_eq_true rfl) dX8_keep_13 (fun H locs hH hS => ?_)
  obtain ⟨hD, hfr2⟩ : IsD G (hu μ1 x (.inr (7, [.ref (x + 1), .ref (x + 30), .ref (x + 148), .int (iv 1), .ref (x + 177), .ref (x + 179)]))) x rb (u0.1, u0.2.1, u0.2.2.1, 1, u0.1, u0.2.2.2.2.2) ∧ DFr x _ (hu μ1 x (.inr (7, [.ref (x + 1), .ref (x + 30), .ref (x + 148), .int (iv 1), .ref (x + 177), .ref (x + 179)]))) := hD.pT 1 (by omega)
  have hfr := hfr.tr hfr2
  clear hfr2
  have hH : gP G (hu μ1 x (.inr (7, [.ref (x + 1), .ref (x + 30), .ref (x + 148), .int (iv 1), .ref (x + 177), .ref (x + 179)]))) n2 H := hH
  obtain ⟨ν4, hν4⟩ : ∃ ν : hM, ν = (hu μ1 x (.inr (7, [.ref (x + 1), .ref (x + 30), .ref (x + 148), .int (iv 1), .ref (x + 177), .ref (x + 179)]))) := ⟨_, rfl⟩
  rw [← hν4] at hD hfr hH
  clear hν4
  clear hX hZ hC hT hch hL hLs hY hCk hTk hchk hTX hI2 hOk2 hsz hkt hOC hrb hlast
  have hD9 := hD
  obtain ⟨hX, ⟨π, fp, sp, rd, hZ, hC, hT, hch⟩, ⟨ρ, πs, fps, sps, rds, hL, hLs⟩, ⟨πk, fpk, spk, rdk, hY, hCk, hTk, hchk⟩, ⟨to, td, tk, tn, tt, ta, hTX⟩, ⟨πr, τr, fpr, spr, hI2, hOk2⟩, hsz, hkt, hOC, hrb, hlast⟩ := hD9
  have hH : gP G ν4 n2 H := hH
  refine lv_aload_n hx hb dX8_keep_16 rfl (lv_at hl 0 rfl) ?_
  refine m_get (C := RX8) (T := TX8) (N := 6) (ci := 7) hx hb hts i_X8 hown hK hH hX rfl 0 (by decide) f_2 rfl dX8_keep_17 ?_
  refine m_get (C := RX6) (T := TX6) (N := 8) (ci := 5) hx hb hts i_X6 hown hK hH hZ.1 rfl 2 (by decide) f_4 rfl dX8_keep_20 ?_
  refine j_norm (y := ((aD u0).1 3)) rfl ?_
  subst hQ
  refine m_iret hx hb hr hlocks hH hS dX8_keep_23 ?_ (by omega)
  exact ⟨rfl, hD, hfr⟩

abbrev rm_c_X8_restore : Room := { frames := 5, cells := 0, slots := 0, locals := 113 }
set_option maxHeartbeats 4000000 in
set_option maxRecDepth 100000 in
theorem c_X8_restore (l : Launch) (G : wG) (μ : hM) (n : Nat) (x rb : Nat) (u0 : aS)  (hD : IsD G μ x rb u0) : Met l yX8_restore wsX8_restore rm_c_X8_restore (mPc G μ n [.ref x]) (mQi G (fun z μ1 n1 => z = (a_restore u0).2 ∧ IsD G μ1 x rb (a_restore u0).1 ∧ DFr x μ μ1)) 0 0 (gA G) := by
  refine Met.ofW (cc := cX8_restore) (maxL := 1) (ret := (some .int)) (by decide) rfl ?_
  intro p e s m args below meth c s₁ B hml hv
  obtain ⟨hav, hK, hH⟩ := hv
  have hx := B.exec
  have hb := B.bytes
  have hr := B.returns
  have hts := atoms_spec (ws := wsX8_restore) B.pre
  have hown : s.vm.findClass RX8 = some m.cls := findClass_of_methodNamed B.named
  have hlocks := B.notSynchronized
  have hS : va_S (gA G) s.heap s.heap [] := va_S.rf
  have hl := lv_entry ([.ref x]) (n := 1) (Nat.le_of_ble_eq_true rfl)
  have hfr : entryFrame m args 1 = entryFrame m ([.ref x] : List Value).toArray 1 := by rw [hav]
  rw [hfr, lg_entry_eq]
  generalize (lg_sl ([.ref x]) ++ List.replicate (1 - (lg_sl ([.ref x])).length) Slot.unset).toArray = ls at hl ⊢
  have hl : lv_has ls 1 [(0, .ref x)] := hl
  generalize hQ : MQ below _ args s 0 0 (gA G) = Q
  show W p l e rm_c_X8_restore s m args below meth c s.heap [] 0 0 Q (F0 m 0 ls [])
  obtain ⟨H, hHe⟩ : ∃ H, H = s.heap := ⟨_, rfl⟩
  obtain ⟨locs, hlo⟩ : ∃ q : List Loc, q = [] := ⟨_, rfl⟩
  have hH : gP G μ n H := by rw [hHe]; exact hH
  have hS : va_S (gA G) s.heap H locs := by rw [hHe, hlo]; exact hS
  suffices hgo : W p l e rm_c_X8_restore s m args below meth c H locs 0 0 Q (F0 m 0 ls []) by rw [hHe, hlo] at hgo; exact hgo
  clear hHe hlo hfr hav
  have f_0 := hts (.fieldLink RX8 26 "StampDater" "snapshotTaken" "Z") (List.mem_of_getElem? (i := 1) rfl)
  have i_X8 : ∀ w ∈ u_ws RX8 TX8 6, w ∈ wsX8_restore := by decide +kernel
  have f_2 := hts (.fieldLink RX8 19 "StampDater" "history" "LStampDater$History;") (List.mem_of_getElem? (i := 2) rfl)
  have f_3 := hts (.fieldLink RX8 10 "StampDater" "state" "LStampDater$State;") (List.mem_of_getElem? (i := 3) rfl)
  have f_4 := hts (.fieldLink RX8 23 "StampDater" "snapshot" "LStampDater$State;") (List.mem_of_getElem? (i := 4) rfl)
  have f_5 := hts (.fieldLink RX8 48 "StampDater$State" "today" "I") (List.mem_of_getElem? (i := 5) rfl)
  have i_X6 : ∀ w ∈ u_ws RX6 TX6 8, w ∈ wsX8_restore := by decide +kernel
  have hfr : DFr x μ μ := DFr.rf
  have hD9 := hD
  obtain ⟨hX, ⟨π, fp, sp, rd, hZ, hC, hT, hch⟩, ⟨ρ, πs, fps, sps, rds, hL, hLs⟩, ⟨πk, fpk, spk, rdk, hY, hCk, hTk, hchk⟩, ⟨to, td, tk, tn, tt, ta, hTX⟩, ⟨πr, τr, fpr, spr, hI2, hOk2⟩, hsz, hkt, hOC, hrb, hlast⟩ := hD9
  have h3 := hT.2.1
  have h5 := hT.2.2.1
  have hS0 := hT.1
  have h4 := hS0.2.2.2.1
  refine lv_aload_n hx hb dX8_restore_0 rfl (lv_at hl 0 rfl) ?_
  refine m_get (C := RX8) (T := TX8) (N := 6) (ci := 7) hx hb hts i_X8 hown hK hH hX rfl 3 (by decide) f_0 rfl dX8_restore_1 ?_
  have hk3 := hTk.2.1
  refine j_if_ne (tgt := 10) hx hb dX8_restore_4 (by decide) (fun c1 => ?_) (fun c1 => ?_) (by omega)
  · skip
    refine lv_aload_n hx hb dX8_restore_10 rfl (lv_at hl 0 rfl) ?_
    refine m_get (C := RX8) (T := TX8) (N := 6) (ci := 7) hx hb hts i_X8 hown hK hH hX rfl 1 (by decide) f_2 rfl dX8_restore_11 ?_
    refine lv_aload_n hx hb dX8_restore_14 rfl (lv_at hl 0 rfl) ?_
    refine m_get (C := RX8) (T := TX8) (N := 6) (ci := 7) hx hb hts i_X8 hown hK hH hX rfl 0 (by decide) f_3 rfl dX8_restore_15 ?_
    refine m_callVv (As := [.ref (x + 1)]) (rest := []) ⟨hx, hb, hml, hown, hts⟩ hK hH hS (c_X2_remember l G μ n (x + 30) ρ (aN u0) πs (fun r => (aH u0 r).1) fps sps rds (x + 1) π ((aD u0).1) fp sp rd hL hsz hZ hT (by omega)) (cwV 1 hts gX8_restore_X2_remember rfl rfl rfl (by decide +kernel) ⟨(Nat.le_of_ble_eq_true rfl), (Nat.le_of_ble_eq_true rfl)⟩) hL.1 rfl rfl rfl rfl hl.1 (Nat.le_of_ble_eq_true rfl) dX8_restore_18 ⟨Nat.zero_le _, Nat.zero_le _⟩ (fun μ2 n3 H locs hp4 hH hS => ?_)
    obtain ⟨ρ1, πs1, fps1, sps1, hL1, hfr1⟩ := hp4
    obtain ⟨hD, hfr2⟩ : IsD G μ2 x rb (aAct u0 (aD u0)) ∧ DFr x _ μ2 := hD.rem hC hLs hL1 (fun q hq => hfr1 q (by omega))
    have hfr := hfr.tr hfr2
    clear hfr2
    clear hX hZ hC hT hch hL hLs hY hCk hTk hchk hTX hI2 hOk2 hsz hkt hOC hrb hlast
    have hD9 := hD
    obtain ⟨hX, ⟨π, fp, sp, rd, hZ, hC, hT, hch⟩, ⟨ρ, πs, fps, sps, rds, hL, hLs⟩, ⟨πk, fpk, spk, rdk, hY, hCk, hTk, hchk⟩, ⟨to, td, tk, tn, tt, ta, hTX⟩, ⟨πr, τr, fpr, spr, hI2, hOk2⟩, hsz, hkt, hOC, hrb, hlast⟩ := hD9
    refine lv_aload_n hx hb dX8_restore_21 rfl (lv_at hl 0 rfl) ?_
    refine m_get (C := RX8) (T := TX8) (N := 6) (ci := 7) hx hb hts i_X8 hown hK hH hX rfl 0 (by decide) f_3 rfl dX8_restore_22 ?_
    refine lv_aload_n hx hb dX8_restore_25 rfl (lv_at hl 0 rfl) ?_
    refine m_get (C := RX8) (T := TX8) (N := 6) (ci := 7) hx hb hts i_X8 hown hK hH hX rfl 2 (by decide) f_4 rfl dX8_restore_26 ?_
    refine m_callVv (As := [.ref (x + 148)]) (rest := []) ⟨hx, hb, hml, hown, hts⟩ hK hH hS (c_X6_copyState l G μ2 n3 (x + 1) π ((aD (aAct u0 (aD u0))).1) fp sp rd (x + 148) πk (aK (aAct u0 (aD u0))).1 fpk spk rdk hZ hT hY hTk (by omega)) (cwV 1 hts gX8_restore_X6_copyState rfl rfl rfl (by decide +kernel) ⟨(Nat.le_of_ble_eq_true rfl), (Nat.le_of_ble_eq_true rfl)⟩) hZ.1 rfl rfl rfl rfl hl.1 (Nat.le_of_ble_eq_true rfl) dX8_restore_29 ⟨Nat.zero_le _, Nat.zero_le _⟩ (fun μ5 n6 H locs hp7 hH hS => ?_)
    obtain ⟨hZ1, hfr1⟩ := hp7
    obtain ⟨hD, hfr2⟩ : IsD G μ5 x rb (aAct u0 (aK u0)) ∧ DFr x _ μ5 := hD.pS ⟨_, _, _, _, hZ1, hCk.fr (fun q e a b => (hfr1 q (by omega)).trans b), hTk, hchk⟩ (fun q e a b => (hfr1 q (by omega)).trans b)
    have hfr := hfr.tr hfr2
    clear hfr2
    clear hX hZ hC hT hch hL hLs hY hCk hTk hchk hTX hI2 hOk2 hsz hkt hOC hrb hlast
    have hD9 := hD
    obtain ⟨hX, ⟨π, fp, sp, rd, hZ, hC, hT, hch⟩, ⟨ρ, πs, fps, sps, rds, hL, hLs⟩, ⟨πk, fpk, spk, rdk, hY, hCk, hTk, hchk⟩, ⟨to, td, tk, tn, tt, ta, hTX⟩, ⟨πr, τr, fpr, spr, hI2, hOk2⟩, hsz, hkt, hOC, hrb, hlast⟩ := hD9
    refine lv_aload_n hx hb dX8_restore_32 rfl (lv_at hl 0 rfl) ?_
    refine m_get (C := RX8) (T := TX8) (N := 6) (ci := 7) hx hb hts i_X8 hown hK hH hX rfl 0 (by decide) f_3 rfl dX8_restore_33 ?_
    refine m_get (C := RX6) (T := TX6) (N := 8) (ci := 5) hx hb hts i_X6 hown hK hH hZ.1 rfl 2 (by decide) f_5 rfl dX8_restore_36 ?_
    refine j_norm (y := ((aK u0).1 3)) rfl ?_
    subst hQ
    refine m_iret hx hb hr hlocks hH hS dX8_restore_39 ?_ (by omega)
    unfold a_restore
    rw [if_neg (by omega)]
    exact ⟨rfl, hD, hfr⟩
  · skip
    refine j_bipush hx hb dX8_restore_7 ?_ (by decide)
    subst hQ
    refine m_iret hx hb hr hlocks hH hS dX8_restore_9 ?_ (by omega)
    unfold a_restore
    rw [if_pos (by omega)]
    exact ⟨rfl, hD, hfr⟩
