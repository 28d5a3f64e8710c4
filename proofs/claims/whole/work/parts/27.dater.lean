abbrev rm_c_X8_isStrength : Room := { frames := 1, cells := 0, slots := 0, locals := 22 }
set_option maxHeartbeats 4000000 in
set_option maxRecDepth 100000 in
theorem c_X8_isStrength (l : Launch) (G : wG) (μ : hM) (n : Nat) (v : Int) (hv1 : -2147483648 ≤ v ∧ v ≤ 2147483647) : Met l yX8_isStrength wsX8_isStrength rm_c_X8_isStrength (mPc G μ n [.int (iv v)]) (mQi G (fun z μ1 n1 => z = (if 1 ≤ v ∧ v ≤ 9 then 1 else 0) ∧ μ1 = μ ∧ n1 = n)) 0 0 (gA G) := by
  refine Met.ofW (cc := cX8_isStrength) (maxL := 1) (ret := (some .boolean)) (by decide) rfl ?_
  intro p e s m args below meth c s₁ B hml hv
  obtain ⟨hav, hK, hH⟩ := hv
  have hx := B.exec
  have hb := B.bytes
  have hr := B.returns
  have hts := atoms_spec (ws := wsX8_isStrength) B.pre
  have hown : s.vm.findClass RX8 = some m.cls := findClass_of_methodNamed B.named
  have hlocks := B.notSynchronized
  have hS : va_S (gA G) s.heap s.heap [] := va_S.rf
  have hl := lv_entry ([.int (iv v)]) (n := 1) (Nat.le_of_ble_eq_true rfl)
  have hfr : entryFrame m args 1 = entryFrame m ([.int (iv v)] : List Value).toArray 1 := by rw [hav]
  rw [hfr, lg_entry_eq]
  generalize (lg_sl ([.int (iv v)]) ++ List.replicate (1 - (lg_sl ([.int (iv v)])).length) Slot.unset).toArray = ls at hl ⊢
  have hl : lv_has ls 1 [(0, .int (iv v))] := hl
  generalize hQ : MQ below _ args s 0 0 (gA G) = Q
  show W p l e rm_c_X8_isStrength s m args below meth c s.heap [] 0 0 Q (F0 m 0 ls [])
  obtain ⟨H, hHe⟩ : ∃ H, H = s.heap := ⟨_, rfl⟩
  obtain ⟨locs, hlo⟩ : ∃ q : List Loc, q = [] := ⟨_, rfl⟩
  have hH : gP G μ n H := by rw [hHe]; exact hH
  have hS : va_S (gA G) s.heap H locs := by rw [hHe, hlo]; exact hS
  suffices hgo : W p l e rm_c_X8_isStrength s m args below meth c H locs 0 0 Q (F0 m 0 ls []) by rw [hHe, hlo] at hgo; exact hgo
  clear hHe hlo hfr hav
  refine lv_iload_n hx hb dX8_isStrength_0 rfl (lv_at hl 0 rfl) ?_
  refine j_const hx hb dX8_isStrength_1 ?_
  refine j_bipush hx hb dX8_isStrength_2 ?_ (by decide)
  refine m_callSi (As := [.int (iv v), .int (iv 1), .int (iv 9)]) (rest := []) ⟨hx, hb, hml, hown, hts⟩ hK hH hS (c_X8_isWithin l G μ n v 1 9 (by omega) (by omega) (by omega)) (va_cwS 3 hts gX8_isStrength_X8_isWithin rfl rfl rfl (by decide +kernel) ⟨(Nat.le_of_ble_eq_true rfl), (Nat.le_of_ble_eq_true rfl)⟩) rfl rfl hl.1 (Nat.le_of_ble_eq_true rfl) dX8_isStrength_4 ⟨Nat.zero_le _, Nat.zero_le _⟩ (fun z4 μ1 n2 H locs hz4 hp3 hH hS => ?_)
  obtain ⟨hz9, hm9, hn9⟩ := hp3
  rw [hm9, hn9] at hH
  have hz4c : (z4 = 1 ∧ (1 ≤ v ∧ v ≤ 9)) ∨ (z4 = 0 ∧ ¬ (1 ≤ v ∧ v ≤ 9)) := by
    by_cases q9 : 1 ≤ v ∧ v ≤ 9
    · rw [if_pos q9] at hz9; exact Or.inl ⟨hz9, q9⟩
    · rw [if_neg q9] at hz9; exact Or.inr ⟨hz9, q9⟩
  clear hz9 hm9 hn9
  subst hQ
  refine m_zret hx hb hr hlocks hH hS dX8_isStrength_7 ?_ (by omega)
  refine ⟨?_, rfl, rfl⟩
  split <;> omega

abbrev rm_c_X8_isSetting : Room := { frames := 1, cells := 0, slots := 0, locals := 22 }
set_option maxHeartbeats 4000000 in
set_option maxRecDepth 100000 in
theorem c_X8_isSetting (l : Launch) (G : wG) (μ : hM) (n : Nat) (v : Int) (hv1 : -2147483648 ≤ v ∧ v ≤ 2147483647) : Met l yX8_isSetting wsX8_isSetting rm_c_X8_isSetting (mPc G μ n [.int (iv v)]) (mQi G (fun z μ1 n1 => z = (if 0 ≤ v ∧ v ≤ 2 then 1 else 0) ∧ μ1 = μ ∧ n1 = n)) 0 0 (gA G) := by
  refine Met.ofW (cc := cX8_isSetting) (maxL := 1) (ret := (some .boolean)) (by decide) rfl ?_
  intro p e s m args below meth c s₁ B hml hv
  obtain ⟨hav, hK, hH⟩ := hv
  have hx := B.exec
  have hb := B.bytes
  have hr := B.returns
  have hts := atoms_spec (ws := wsX8_isSetting) B.pre
  have hown : s.vm.findClass RX8 = some m.cls := findClass_of_methodNamed B.named
  have hlocks := B.notSynchronized
  have hS : va_S (gA G) s.heap s.heap [] := va_S.rf
  have hl := lv_entry ([.int (iv v)]) (n := 1) (Nat.le_of_ble_eq_true rfl)
  have hfr : entryFrame m args 1 = entryFrame m ([.int (iv v)] : List Value).toArray 1 := by rw [hav]
  rw [hfr, lg_entry_eq]
  generalize (lg_sl ([.int (iv v)]) ++ List.replicate (1 - (lg_sl ([.int (iv v)])).length) Slot.unset).toArray = ls at hl ⊢
  have hl : lv_has ls 1 [(0, .int (iv v))] := hl
  generalize hQ : MQ below _ args s 0 0 (gA G) = Q
  show W p l e rm_c_X8_isSetting s m args below meth c s.heap [] 0 0 Q (F0 m 0 ls [])
  obtain ⟨H, hHe⟩ : ∃ H, H = s.heap := ⟨_, rfl⟩
  obtain ⟨locs, hlo⟩ : ∃ q : List Loc, q = [] := ⟨_, rfl⟩
  have hH : gP G μ n H := by rw [hHe]; exact hH
  have hS : va_S (gA G) s.heap H locs := by rw [hHe, hlo]; exact hS
  suffices hgo : W p l e rm_c_X8_isSetting s m args below meth c H locs 0 0 Q (F0 m 0 ls []) by rw [hHe, hlo] at hgo; exact hgo
  clear hHe hlo hfr hav
  refine lv_iload_n hx hb dX8_isSetting_0 rfl (lv_at hl 0 rfl) ?_
  refine j_const hx hb dX8_isSetting_1 ?_
  refine j_const hx hb dX8_isSetting_2 ?_
  refine m_callSi (As := [.int (iv v), .int (iv 0), .int (iv 2)]) (rest := []) ⟨hx, hb, hml, hown, hts⟩ hK hH hS (c_X8_isWithin l G μ n v 0 2 (by omega) (by omega) (by omega)) (va_cwS 3 hts gX8_isSetting_X8_isWithin rfl rfl rfl (by decide +kernel) ⟨(Nat.le_of_ble_eq_true rfl), (Nat.le_of_ble_eq_true rfl)⟩) rfl rfl hl.1 (Nat.le_of_ble_eq_true rfl) dX8_isSetting_3 ⟨Nat.zero_le _, Nat.zero_le _⟩ (fun z4 μ1 n2 H locs hz4 hp3 hH hS => ?_)
  obtain ⟨hz9, hm9, hn9⟩ := hp3
  rw [hm9, hn9] at hH
  have hz4c : (z4 = 1 ∧ (0 ≤ v ∧ v ≤ 2)) ∨ (z4 = 0 ∧ ¬ (0 ≤ v ∧ v ≤ 2)) := by
    by_cases q9 : 0 ≤ v ∧ v ≤ 2
    · rw [if_pos q9] at hz9; exact Or.inl ⟨hz9, q9⟩
    · rw [if_neg q9] at hz9; exact Or.inr ⟨hz9, q9⟩
  clear hz9 hm9 hn9
  subst hQ
  refine m_zret hx hb hr hlocks hH hS dX8_isSetting_6 ?_ (by omega)
  refine ⟨?_, rfl, rfl⟩
  split <;> omega

abbrev rm_c_X8_leastSetting : Room := { frames := 0, cells := 0, slots := 0, locals := 0 }
set_option maxHeartbeats 4000000 in
set_option maxRecDepth 100000 in
theorem c_X8_leastSetting (l : Launch) (G : wG) (μ : hM) (n : Nat) (v : Int) (hv1 : 0 ≤ v ∧ v ≤ 2) : Met l yX8_leastSetting wsX8_leastSetting rm_c_X8_leastSetting (mPc G μ n [.int (iv v)]) (mQi G (fun z μ1 n1 => z = loSet v ∧ μ1 = μ ∧ n1 = n)) 0 0 (gA G) := by
  refine Met.ofW (cc := cX8_leastSetting) (maxL := 1) (ret := (some .int)) (by decide) rfl ?_
  intro p e s m args below meth c s₁ B hml hv
  obtain ⟨hav, hK, hH⟩ := hv
  have hx := B.exec
  have hb := B.bytes
  have hr := B.returns
  have hts := atoms_spec (ws := wsX8_leastSetting) B.pre
  have hown : s.vm.findClass RX8 = some m.cls := findClass_of_methodNamed B.named
  have hlocks := B.notSynchronized
  have hS : va_S (gA G) s.heap s.heap [] := va_S.rf
  have hl := lv_entry ([.int (iv v)]) (n := 1) (Nat.le_of_ble_eq_true rfl)
  have hfr : entryFrame m args 1 = entryFrame m ([.int (iv v)] : List Value).toArray 1 := by rw [hav]
  rw [hfr, lg_entry_eq]
  generalize (lg_sl ([.int (iv v)]) ++ List.replicate (1 - (lg_sl ([.int (iv v)])).length) Slot.unset).toArray = ls at hl ⊢
  have hl : lv_has ls 1 [(0, .int (iv v))] := hl
  generalize hQ : MQ below _ args s 0 0 (gA G) = Q
  show W p l e rm_c_X8_leastSetting s m args below meth c s.heap [] 0 0 Q (F0 m 0 ls [])
  obtain ⟨H, hHe⟩ : ∃ H, H = s.heap := ⟨_, rfl⟩
  obtain ⟨locs, hlo⟩ : ∃ q : List Loc, q = [] := ⟨_, rfl⟩
  have hH : gP G μ n H := by rw [hHe]; exact hH
  have hS : va_S (gA G) s.heap H locs := by rw [hHe, hlo]; exact hS
  suffices hgo : W p l e rm_c_X8_leastSetting s m args below meth c H locs 0 0 Q (F0 m 0 ls []) by rw [hHe, hlo] at hgo; exact hgo
  clear hHe hlo hfr hav
  refine lv_iload_n hx hb dX8_leastSetting_0 rfl (lv_at hl 0 rfl) ?_
  refine j_if_ne (tgt := 9) hx hb dX8_leastSetting_1 (by decide) (fun c1 => ?_) (fun c1 => ?_) (by omega)
  · skip
    refine lv_iload_n hx hb dX8_leastSetting_9 rfl (lv_at hl 0 rfl) ?_
    refine j_const hx hb dX8_leastSetting_10 ?_
    refine j_icmp_ne (tgt := 19) hx hb dX8_leastSetting_11 (by decide) (fun c2 => ?_) (fun c2 => ?_) (by omega) (by omega)
    · skip
      refine j_const hx hb dX8_leastSetting_19 ?_
      subst hQ
      refine m_iret hx hb hr hlocks hH hS dX8_leastSetting_20 ?_ (by omega)
      refine ⟨?_, rfl, rfl⟩
      unfold loSet
      (repeat' split) <;> omega
    · skip
      refine j_bipush hx hb dX8_leastSetting_14 ?_ (by decide)
      refine lv_goto (tgt := 20) hx hb dX8_leastSetting_16 (by decide) ?_
      subst hQ
      refine m_iret hx hb hr hlocks hH hS dX8_leastSetting_20 ?_ (by omega)
      refine ⟨?_, rfl, rfl⟩
      unfold loSet
      (repeat' split) <;> omega
  · skip
    refine j_bipush hx hb dX8_leastSetting_4 ?_ (by decide)
    refine lv_goto (tgt := 20) hx hb dX8_leastSetting_6 (by decide) ?_
    subst hQ
    refine m_iret hx hb hr hlocks hH hS dX8_leastSetting_20 ?_ (by omega)
    refine ⟨?_, rfl, rfl⟩
    unfold loSet
    (repeat' split) <;> omega

abbrev rm_c_X8_mostSetting : Room := { frames := 0, cells := 0, slots := 0, locals := 0 }
set_option maxHeartbeats 4000000 in
set_option maxRecDepth 100000 in
theorem c_X8_mostSetting (l : Launch) (G : wG) (μ : hM) (n : Nat) (v : Int) (hv1 : 0 ≤ v ∧ v ≤ 2) : Met l yX8_mostSetting wsX8_mostSetting rm_c_X8_mostSetting (mPc G μ n [.int (iv v)]) (mQi G (fun z μ1 n1 => z = hiSet v ∧ μ1 = μ ∧ n1 = n)) 0 0 (gA G) := by
  refine Met.ofW (cc := cX8_mostSetting) (maxL := 1) (ret := (some .int)) (by decide) rfl ?_
  intro p e s m args below meth c s₁ B hml hv
  obtain ⟨hav, hK, hH⟩ := hv
  have hx := B.exec
  have hb := B.bytes
  have hr := B.returns
  have hts := atoms_spec (ws := wsX8_mostSetting) B.pre
  have hown : s.vm.findClass RX8 = some m.cls := findClass_of_methodNamed B.named
  have hlocks := B.notSynchronized
  have hS : va_S (gA G) s.heap s.heap [] := va_S.rf
  have hl := lv_entry ([.int (iv v)]) (n := 1) (Nat.le_of_ble_eq_true rfl)
  have hfr : entryFrame m args 1 = entryFrame m ([.int (iv v)] : List Value).toArray 1 := by rw [hav]
  rw [hfr, lg_entry_eq]
  generalize (lg_sl ([.int (iv v)]) ++ List.replicate (1 - (lg_sl ([.int (iv v)])).length) Slot.unset).toArray = ls at hl ⊢
  have hl : lv_has ls 1 [(0, .int (iv v))] := hl
  generalize hQ : MQ below _ args s 0 0 (gA G) = Q
  show W p l e rm_c_X8_mostSetting s m args below meth c s.heap [] 0 0 Q (F0 m 0 ls [])
  obtain ⟨H, hHe⟩ : ∃ H, H = s.heap := ⟨_, rfl⟩
  obtain ⟨locs, hlo⟩ : ∃ q : List Loc, q = [] := ⟨_, rfl⟩
  have hH : gP G μ n H := by rw [hHe]; exact hH
  have hS : va_S (gA G) s.heap H locs := by rw [hHe, hlo]; exact hS
  suffices hgo : W p l e rm_c_X8_mostSetting s m args below meth c H locs 0 0 Q (F0 m 0 ls []) by rw [hHe, hlo] at hgo; exact hgo
  clear hHe hlo hfr hav
  refine lv_iload_n hx hb dX8_mostSetting_0 rfl (lv_at hl 0 rfl) ?_
  refine j_if_ne (tgt := 9) hx hb dX8_mostSetting_1 (by decide) (fun c1 => ?_) (fun c1 => ?_) (by omega)
  · skip
    refine lv_iload_n hx hb dX8_mostSetting_9 rfl (lv_at hl 0 rfl) ?_
    refine j_const hx hb dX8_mostSetting_10 ?_
    refine j_icmp_ne (tgt := 20) hx hb dX8_mostSetting_11 (by decide) (fun c2 => ?_) (fun c2 => ?_) (by omega) (by omega)
    · skip
      refine j_bipush hx hb dX8_mostSetting_20 ?_ (by decide)
      subst hQ
      refine m_iret hx hb hr hlocks hH hS dX8_mostSetting_22 ?_ (by omega)
      refine ⟨?_, rfl, rfl⟩
      unfold hiSet
      (repeat' split) <;> omega
    · skip
      refine j_sipush hx hb dX8_mostSetting_14 ?_ (by decide)
      refine lv_goto (tgt := 22) hx hb dX8_mostSetting_17 (by decide) ?_
      subst hQ
      refine m_iret hx hb hr hlocks hH hS dX8_mostSetting_22 ?_ (by omega)
      refine ⟨?_, rfl, rfl⟩
      unfold hiSet
      (repeat' split) <;> omega
  · skip
    refine j_bipush hx hb dX8_mostSetting_4 ?_ (by decide)
    refine lv_goto (tgt := 22) hx hb dX8_mostSetting_6 (by decide) ?_
    subst hQ
    refine m_iret hx hb hr hlocks hH hS dX8_mostSetting_22 ?_ (by omega)
    refine ⟨?_, rfl, rfl⟩
    unfold hiSet
    (repeat' split) <;> omega

abbrev rm_c_X8_pass : Room := { frames := 5, cells := 0, slots := 0, locals := 113 }
set_option maxHeartbeats 4000000 in
set_option maxRecDepth 100000 in
theorem c_X8_pass (l : Launch) (G : wG) (μ : hM) (n : Nat) (x rb : Nat) (u0 : aS) (k : Int) (hD : IsD G μ x rb u0) (hk : -2147483648 ≤ k ∧ k ≤ 2147483647) : Met l yX8_pass wsX8_pass rm_c_X8_pass (mPc G μ n [.ref x, .int (iv k)]) (mQi G (fun z μ1 n1 => z = (a_pass u0 k).2 ∧ IsD G μ1 x rb (a_pass u0 k).1 ∧ DFr x μ μ1)) 0 0 (gA G) := by
  refine Met.ofW (cc := cX8_pass) (maxL := 2) (ret := (some .int)) (by decide) rfl ?_
  intro p e s m args below meth c s₁ B hml hv
  obtain ⟨hav, hK, hH⟩ := hv
  have hx := B.exec
  have hb := B.bytes
  have hr := B.returns
  have hts := atoms_spec (ws := wsX8_pass) B.pre
  have hown : s.vm.findClass RX8 = some m.cls := findClass_of_methodNamed B.named
  have hlocks := B.notSynchronized
  have hS : va_S (gA G) s.heap s.heap [] := va_S.rf
  have hl := lv_entry ([.ref x, .int (iv k)]) (n := 2) (Nat.le_of_ble_eq_true rfl)
  have hfr : entryFrame m args 2 = entryFrame m ([.ref x, .int (iv k)] : List Value).toArray 2 := by rw [hav]
  rw [hfr, lg_entry_eq]
  generalize (lg_sl ([.ref x, .int (iv k)]) ++ List.replicate (2 - (lg_sl ([.ref x, .int (iv k)])).length) Slot.unset).toArray = ls at hl ⊢
  have hl : lv_has ls 2 [(0, .ref x), (1, .int (iv k))] := hl
  generalize hQ : MQ below _ args s 0 0 (gA G) = Q
  show W p l e rm_c_X8_pass s m args below meth c s.heap [] 0 0 Q (F0 m 0 ls [])
  obtain ⟨H, hHe⟩ : ∃ H, H = s.heap := ⟨_, rfl⟩
  obtain ⟨locs, hlo⟩ : ∃ q : List Loc, q = [] := ⟨_, rfl⟩
  have hH : gP G μ n H := by rw [hHe]; exact hH
  have hS : va_S (gA G) s.heap H locs := by rw [hHe, hlo]; exact hS
  suffices hgo : W p l e rm_c_X8_pass s m args below meth c H locs 0 0 Q (F0 m 0 ls []) by rw [hHe, hlo] at hgo; exact hgo
  clear hHe hlo hfr hav
  have f_0 := hts (.fieldLink RX8 10 "StampDater" "state" "LStampDater$State;") (List.mem_of_getElem? (i := 1) rfl)
  have i_X8 : ∀ w ∈ u_ws RX8 TX8 6, w ∈ wsX8_pass := by decide +kernel
  have f_2 := hts (.fieldLink RX8 48 "StampDater$State" "today" "I") (List.mem_of_getElem? (i := 2) rfl)
  have i_X6 : ∀ w ∈ u_ws RX6 TX6 8, w ∈ wsX8_pass := by decide +kernel
  have f_4 := hts (.constant RX8 52 (36524)) (List.mem_of_getElem? (i := 3) rfl)
  have f_5 := hts (.fieldLink RX8 19 "StampDater" "history" "LStampDater$History;") (List.mem_of_getElem? (i := 4) rfl)
  have hfr : DFr x μ μ := DFr.rf
  have hD9 := hD
  obtain ⟨hX, ⟨π, fp, sp, rd, hZ, hC, hT, hch⟩, ⟨ρ, πs, fps, sps, rds, hL, hLs⟩, ⟨πk, fpk, spk, rdk, hY, hCk, hTk, hchk⟩, ⟨to, td, tk, tn, tt, ta, hTX⟩, ⟨πr, τr, fpr, spr, hI2, hOk2⟩, hsz, hkt, hOC, hrb, hlast⟩ := hD9
  have h3 := hT.2.1
  have h5 := hT.2.2.1
  have hS0 := hT.1
  have h4 := hS0.2.2.2.1
  refine lv_iload_n hx hb dX8_pass_0 rfl (lv_at hl 1 rfl) ?_
  refine j_const hx hb dX8_pass_1 ?_
  refine j_sipush hx hb dX8_pass_2 ?_ (by decide)
  refine m_callSi (As := [.int (iv k), .int (iv 1), .int (iv 999)]) (rest := []) ⟨hx, hb, hml, hown, hts⟩ hK hH hS (c_X8_isWithin l G μ n k 1 999 (by omega) (by omega) (by omega)) (va_cwS 3 hts gX8_pass_X8_isWithin rfl rfl rfl (by decide +kernel) ⟨(Nat.le_of_ble_eq_true rfl), (Nat.le_of_ble_eq_true rfl)⟩) rfl rfl hl.1 (Nat.le_of_ble_eq_true rfl) dX8_pass_5 ⟨Nat.zero_le _, Nat.zero_le _⟩ (fun z4 μ1 n2 H locs hz4 hp3 hH hS => ?_)
  obtain ⟨hz9, hm9, hn9⟩ := hp3
  rw [hm9, hn9] at hH
  have hz4c : (z4 = 1 ∧ (1 ≤ k ∧ k ≤ 999)) ∨ (z4 = 0 ∧ ¬ (1 ≤ k ∧ k ≤ 999)) := by
    by_cases q9 : 1 ≤ k ∧ k ≤ 999
    · rw [if_pos q9] at hz9; exact Or.inl ⟨hz9, q9⟩
    · rw [if_neg q9] at hz9; exact Or.inr ⟨hz9, q9⟩
  clear hz9 hm9 hn9
  refine j_if_ne (tgt := 14) hx hb dX8_pass_8 (by decide) (fun c5 => ?_) (fun c5 => ?_) (by omega)
  · skip
    refine lv_aload_n hx hb dX8_pass_14 rfl (lv_at hl 0 rfl) ?_
    refine m_get (C := RX8) (T := TX8) (N := 6) (ci := 7) hx hb hts i_X8 hown hK hH hX rfl 0 (by decide) f_0 rfl dX8_pass_15 ?_
    refine m_get (C := RX6) (T := TX6) (N := 8) (ci := 5) hx hb hts i_X6 hown hK hH hZ.1 rfl 2 (by decide) f_2 rfl dX8_pass_18 ?_
    refine lv_iload_n hx hb dX8_pass_21 rfl (lv_at hl 1 rfl) ?_
    refine j_iadd hx hb dX8_pass_22 ?_
    refine j_ldc hx hb (36524) hown f_4 dX8_pass_23 ?_ (by decide)
    refine j_icmp_le (tgt := 31) hx hb dX8_pass_25 (by decide) (fun c6 => ?_) (fun c6 => ?_) (by omega) (by omega)
    · skip
      refine lv_aload_n hx hb dX8_pass_31 rfl (lv_at hl 0 rfl) ?_
      refine m_get (C := RX8) (T := TX8) (N := 6) (ci := 7) hx hb hts i_X8 hown hK hH hX rfl 1 (by decide) f_5 rfl dX8_pass_32 ?_
      refine lv_aload_n hx hb dX8_pass_35 rfl (lv_at hl 0 rfl) ?_
      refine m_get (C := RX8) (T := TX8) (N := 6) (ci := 7) hx hb hts i_X8 hown hK hH hX rfl 0 (by decide) f_0 rfl dX8_pass_36 ?_
      refine m_callVv (As := [.ref (x + 1)]) (rest := []) ⟨hx, hb, hml, hown, hts⟩ hK hH hS (c_X2_remember l G μ n (x + 30) ρ (aN u0) πs (fun r => (aH u0 r).1) fps sps rds (x + 1) π ((aD u0).1) fp sp rd hL hsz hZ hT (by omega)) (cwV 1 hts gX8_pass_X2_remember rfl rfl rfl (by decide +kernel) ⟨(Nat.le_of_ble_eq_true rfl), (Nat.le_of_ble_eq_true rfl)⟩) hL.1 rfl rfl rfl rfl hl.1 (Nat.le_of_ble_eq_true rfl) dX8_pass_39 ⟨Nat.zero_le _, Nat.zero_le _⟩ (fun μ7 n8 H locs hp9 hH hS => ?_)
      obtain ⟨ρ1, πs1, fps1, sps1, hL1, hfr1⟩ := hp9
      obtain ⟨hD, hfr2⟩ : IsD G μ7 x rb (aAct u0 (aD u0)) ∧ DFr x _ μ7 := hD.rem hC hLs hL1 (fun q hq => hfr1 q (by omega))
      have hfr := hfr.tr hfr2
      clear hfr2
      clear hX hZ hC hT hch hL hLs hY hCk hTk hchk hTX hI2 hOk2 hsz hkt hOC hrb hlast
      have hD9 := hD
      obtain ⟨hX, ⟨π, fp, sp, rd, hZ, hC, hT, hch⟩, ⟨ρ, πs, fps, sps, rds, hL, hLs⟩, ⟨πk, fpk, spk, rdk, hY, hCk, hTk, hchk⟩, ⟨to, td, tk, tn, tt, ta, hTX⟩, ⟨πr, τr, fpr, spr, hI2, hOk2⟩, hsz, hkt, hOC, hrb, hlast⟩ := hD9
      have e3 : (aD (aAct u0 (aD u0))).1 3 = (aD u0).1 3 := rfl
      refine lv_aload_n hx hb dX8_pass_42 rfl (lv_at hl 0 rfl) ?_
      refine m_get (C := RX8) (T := TX8) (N := 6) (ci := 7) hx hb hts i_X8 hown hK hH hX rfl 0 (by decide) f_0 rfl dX8_pass_43 ?_
      refine lv_dup hx hb dX8_pass_46 rfl ?_
      refine m_get (C := RX6) (T := TX6) (N := 8) (ci := 5) hx hb hts i_X6 hown hK hH hZ.1 rfl 2 (by decide) f_2 rfl dX8_pass_47 ?_
      refine lv_iload_n hx hb dX8_pass_50 rfl (lv_at hl 1 rfl) ?_
      refine j_iadd hx hb dX8_pass_51 ?_
      refine m_put (C := RX6) (T := TX6) (N := 8) (ci := 5) hx hb hts i_X6 tyX6 tyX6_ok nmX6 hown hK hH hS hZ.1 rfl 2 (by decide) f_2 rfl rfl rfl (Nat.le_of_ble_eq_true rfl) dX8_pass_52 (fun H locs hH hS => ?_)
      obtain ⟨hD, hfr2⟩ : IsD G (hu μ7 (x + 1) (.inr (5, [.ref (x + 1 + 1), .ref (x + 1 + 16), .int (iv ((((aD (aAct u0 (aD u0))).1) 3) + k)), .int (iv (((aD (aAct u0 (aD u0))).1) 5)), .int (iv (((aD (aAct u0 (aD u0))).1) 6)), .int (iv (((aD (aAct u0 (aD u0))).1) 7)), .int (iv (((aD (aAct u0 (aD u0))).1) 8)), va_rf rd]))) x rb ((fu ((aD (aAct u0 (aD u0))).1) 3 ((((aD (aAct u0 (aD u0))).1) 3) + k), (aD (aAct u0 (aD u0))).2), (aAct u0 (aD u0)).2) ∧ DFr x _ (hu μ7 (x + 1) (.inr (5, [.ref (x + 1 + 1), .ref (x + 1 + 16), .int (iv ((((aD (aAct u0 (aD u0))).1) 3) + k)), .int (iv (((aD (aAct u0 (aD u0))).1) 5)), .int (iv (((aD (aAct u0 (aD u0))).1) 6)), .int (iv (((aD (aAct u0 (aD u0))).1) 7)), .int (iv (((aD (aAct u0 (aD u0))).1) 8)), va_rf rd]))) := hD.ptd hZ hC (v := ((((aD (aAct u0 (aD u0))).1) 3) + k)) (by omega)
      have hfr := hfr.tr hfr2
      clear hfr2
      have hH : gP G (hu μ7 (x + 1) (.inr (5, [.ref (x + 1 + 1), .ref (x + 1 + 16), .int (iv ((((aD (aAct u0 (aD u0))).1) 3) + k)), .int (iv (((aD (aAct u0 (aD u0))).1) 5)), .int (iv (((aD (aAct u0 (aD u0))).1) 6)), .int (iv (((aD (aAct u0 (aD u0))).1) 7)), .int (iv (((aD (aAct u0 (aD u0))).1) 8)), va_rf rd]))) n8 H := hH
      obtain ⟨ν10, hν10⟩ : ∃ ν : hM, ν = (hu μ7 (x + 1) (.inr (5, [.ref (x + 1 + 1), .ref (x + 1 + 16), .int (iv ((((aD (aAct u0 (aD u0))).1) 3) + k)), .int (iv (((aD (aAct u0 (aD u0))).1) 5)), .int (iv (((aD (aAct u0 (aD u0))).1) 6)), .int (iv (((aD (aAct u0 (aD u0))).1) 7)), .int (iv (((aD (aAct u0 (aD u0))).1) 8)), va_rf rd]))) := ⟨_, rfl⟩
      rw [← hν10] at hD hfr hH
      clear hν10
      clear hX hZ hC hT hch hL hLs hY hCk hTk hchk hTX hI2 hOk2 hsz hkt hOC hrb hlast
      have hD9 := hD
      obtain ⟨hX, ⟨π, fp, sp, rd, hZ, hC, hT, hch⟩, ⟨ρ, πs, fps, sps, rds, hL, hLs⟩, ⟨πk, fpk, spk, rdk, hY, hCk, hTk, hchk⟩, ⟨to, td, tk, tn, tt, ta, hTX⟩, ⟨πr, τr, fpr, spr, hI2, hOk2⟩, hsz, hkt, hOC, hrb, hlast⟩ := hD9
      have hH : gP G ν10 n8 H := hH
      refine lv_aload_n hx hb dX8_pass_55 rfl (lv_at hl 0 rfl) ?_
      refine m_get (C := RX8) (T := TX8) (N := 6) (ci := 7) hx hb hts i_X8 hown hK hH hX rfl 0 (by decide) f_0 rfl dX8_pass_56 ?_
      refine m_get (C := RX6) (T := TX6) (N := 8) (ci := 5) hx hb hts i_X6 hown hK hH hZ.1 rfl 2 (by decide) f_2 rfl dX8_pass_59 ?_
      refine j_norm (y := ((aD u0).1 3 + k)) rfl ?_
      subst hQ
      refine m_iret hx hb hr hlocks hH hS dX8_pass_62 ?_ (by omega)
      unfold a_pass
      rw [if_pos (by omega), if_pos (by omega)]
      exact ⟨rfl, hD, hfr⟩
    · skip
      refine j_bipush hx hb dX8_pass_28 ?_ (by decide)
      subst hQ
      refine m_iret hx hb hr hlocks hH hS dX8_pass_30 ?_ (by omega)
      unfold a_pass
      rw [if_pos (by omega), if_neg (by omega)]
      exact ⟨rfl, hD, hfr⟩
  · skip
    refine j_bipush hx hb dX8_pass_11 ?_ (by decide)
    subst hQ
    refine m_iret hx hb hr hlocks hH hS dX8_pass_13 ?_ (by omega)
    unfold a_pass
    rw [if_neg (by omega)]
    exact ⟨rfl, hD, hfr⟩
