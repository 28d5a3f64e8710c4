abbrev rm_c_X1_isDay : Room := { frames := 0, cells := 0, slots := 0, locals := 0 }
set_option maxHeartbeats 4000000 in
set_option maxRecDepth 100000 in
theorem c_X1_isDay (l : Launch) (G : wG) (μ : hM) (n : Nat) (x : Int) (hx1 : -2147483648 ≤ x ∧ x ≤ 2147483647) : Met l yX1_isDay wsX1_isDay rm_c_X1_isDay (mPc G μ n [.int (iv x)]) (mQi G (fun z μ1 n1 => z = (if 0 ≤ x ∧ x ≤ 36524 then 1 else 0) ∧ μ1 = μ ∧ n1 = n)) 0 0 (gA G) := by
  refine Met.ofW (cc := cX1_isDay) (maxL := 1) (ret := (some .boolean)) (by decide) rfl ?_
  intro p e s m args below meth c s₁ B hml hv
  obtain ⟨hav, hK, hH⟩ := hv
  have hx := B.exec
  have hb := B.bytes
  have hr := B.returns
  have hts := atoms_spec (ws := wsX1_isDay) B.pre
  have hown : s.vm.findClass RX1 = some m.cls := findClass_of_methodNamed B.named
  have hlocks := B.notSynchronized
  have hS : va_S (gA G) s.heap s.heap [] := va_S.rf
  have hl := lv_entry ([.int (iv x)]) (n := 1) (Nat.le_of_ble_eq_true rfl)
  have hfr : entryFrame m args 1 = entryFrame m ([.int (iv x)] : List Value).toArray 1 := by rw [hav]
  rw [hfr, lg_entry_eq]
  generalize (lg_sl ([.int (iv x)]) ++ List.replicate (1 - (lg_sl ([.int (iv x)])).length) Slot.unset).toArray = ls at hl ⊢
  have hl : lv_has ls 1 [(0, .int (iv x))] := hl
  generalize hQ : MQ below _ args s 0 0 (gA G) = Q
  show W p l e rm_c_X1_isDay s m args below meth c s.heap [] 0 0 Q (F0 m 0 ls [])
  obtain ⟨H, hHe⟩ : ∃ H, H = s.heap := ⟨_, rfl⟩
  obtain ⟨locs, hlo⟩ : ∃ q : List Loc, q = [] := ⟨_, rfl⟩
  have hH : gP G μ n H := by rw [hHe]; exact hH
  have hS : va_S (gA G) s.heap H locs := by rw [hHe, hlo]; exact hS
  suffices hgo : W p l e rm_c_X1_isDay s m args below meth c H locs 0 0 Q (F0 m 0 ls []) by rw [hHe, hlo] at hgo; exact hgo
  clear hHe hlo hfr hav
  have f_0 := hts (.constant RX1 9 (36524)) (List.mem_of_getElem? (i := 1) rfl)
  refine lv_iload_n hx hb dX1_isDay_0 rfl (lv_at hl 0 rfl) ?_
  refine j_if_lt (tgt := 14) hx hb dX1_isDay_1 (by decide) (fun c1 => ?_) (fun c1 => ?_) (by omega)
  · skip
    refine j_const hx hb dX1_isDay_14 ?_
    subst hQ
    refine m_zret hx hb hr hlocks hH hS dX1_isDay_15 ?_ (by omega)
    refine ⟨?_, rfl, rfl⟩
    split <;> omega
  · skip
    refine lv_iload_n hx hb dX1_isDay_4 rfl (lv_at hl 0 rfl) ?_
    refine j_ldc hx hb (36524) hown f_0 dX1_isDay_5 ?_ (by decide)
    refine j_icmp_gt (tgt := 14) hx hb dX1_isDay_7 (by decide) (fun c2 => ?_) (fun c2 => ?_) (by omega) (by omega)
    · skip
      refine j_const hx hb dX1_isDay_14 ?_
      subst hQ
      refine m_zret hx hb hr hlocks hH hS dX1_isDay_15 ?_ (by omega)
      refine ⟨?_, rfl, rfl⟩
      split <;> omega
    · skip
      refine j_const hx hb dX1_isDay_10 ?_
      refine lv_goto (tgt := 15) hx hb dX1_isDay_11 (by decide) ?_
      subst hQ
      refine m_zret hx hb hr hlocks hH hS dX1_isDay_15 ?_ (by omega)
      refine ⟨?_, rfl, rfl⟩
      split <;> omega

abbrev rm_c_X1_dayOfMonth : Room := { frames := 0, cells := 0, slots := 0, locals := 0 }
set_option maxHeartbeats 4000000 in
set_option maxRecDepth 100000 in
theorem c_X1_dayOfMonth (l : Launch) (G : wG) (μ : hM) (n : Nat) (D : Int) (hD : 0 ≤ D ∧ D ≤ 999999) : Met l yX1_dayOfMonth wsX1_dayOfMonth rm_c_X1_dayOfMonth (mPc G μ n [.int (iv D)]) (mQi G (fun z μ1 n1 => z = D / 10000 ∧ μ1 = μ ∧ n1 = n)) 0 0 (gA G) := by
  refine Met.ofW (cc := cX1_dayOfMonth) (maxL := 1) (ret := (some .int)) (by decide) rfl ?_
  intro p e s m args below meth c s₁ B hml hv
  obtain ⟨hav, hK, hH⟩ := hv
  have hx := B.exec
  have hb := B.bytes
  have hr := B.returns
  have hts := atoms_spec (ws := wsX1_dayOfMonth) B.pre
  have hown : s.vm.findClass RX1 = some m.cls := findClass_of_methodNamed B.named
  have hlocks := B.notSynchronized
  have hS : va_S (gA G) s.heap s.heap [] := va_S.rf
  have hl := lv_entry ([.int (iv D)]) (n := 1) (Nat.le_of_ble_eq_true rfl)
  have hfr : entryFrame m args 1 = entryFrame m ([.int (iv D)] : List Value).toArray 1 := by rw [hav]
  rw [hfr, lg_entry_eq]
  generalize (lg_sl ([.int (iv D)]) ++ List.replicate (1 - (lg_sl ([.int (iv D)])).length) Slot.unset).toArray = ls at hl ⊢
  have hl : lv_has ls 1 [(0, .int (iv D))] := hl
  generalize hQ : MQ below _ args s 0 0 (gA G) = Q
  show W p l e rm_c_X1_dayOfMonth s m args below meth c s.heap [] 0 0 Q (F0 m 0 ls [])
  obtain ⟨H, hHe⟩ : ∃ H, H = s.heap := ⟨_, rfl⟩
  obtain ⟨locs, hlo⟩ : ∃ q : List Loc, q = [] := ⟨_, rfl⟩
  have hH : gP G μ n H := by rw [hHe]; exact hH
  have hS : va_S (gA G) s.heap H locs := by rw [hHe, hlo]; exact hS
  suffices hgo : W p l e rm_c_X1_dayOfMonth s m args below meth c H locs 0 0 Q (F0 m 0 ls []) by rw [hHe, hlo] at hgo; exact hgo
  clear hHe hlo hfr hav
  refine lv_iload_n hx hb dX1_dayOfMonth_0 rfl (lv_at hl 0 rfl) ?_
  refine j_sipush hx hb dX1_dayOfMonth_1 ?_ (by decide)
  refine j_idiv hx hb dX1_dayOfMonth_4 ?_ (by omega) (by omega)
  subst hQ
  refine m_iret hx hb hr hlocks hH hS dX1_dayOfMonth_5 ?_ (by omega)
  exact ⟨rfl, rfl, rfl⟩

abbrev rm_c_X1_month : Room := { frames := 0, cells := 0, slots := 0, locals := 0 }
set_option maxHeartbeats 4000000 in
set_option maxRecDepth 100000 in
theorem c_X1_month (l : Launch) (G : wG) (μ : hM) (n : Nat) (D : Int) (hD : 0 ≤ D ∧ D ≤ 999999) : Met l yX1_month wsX1_month rm_c_X1_month (mPc G μ n [.int (iv D)]) (mQi G (fun z μ1 n1 => z = D / 100 % 100 ∧ μ1 = μ ∧ n1 = n)) 0 0 (gA G) := by
  refine Met.ofW (cc := cX1_month) (maxL := 1) (ret := (some .int)) (by decide) rfl ?_
  intro p e s m args below meth c s₁ B hml hv
  obtain ⟨hav, hK, hH⟩ := hv
  have hx := B.exec
  have hb := B.bytes
  have hr := B.returns
  have hts := atoms_spec (ws := wsX1_month) B.pre
  have hown : s.vm.findClass RX1 = some m.cls := findClass_of_methodNamed B.named
  have hlocks := B.notSynchronized
  have hS : va_S (gA G) s.heap s.heap [] := va_S.rf
  have hl := lv_entry ([.int (iv D)]) (n := 1) (Nat.le_of_ble_eq_true rfl)
  have hfr : entryFrame m args 1 = entryFrame m ([.int (iv D)] : List Value).toArray 1 := by rw [hav]
  rw [hfr, lg_entry_eq]
  generalize (lg_sl ([.int (iv D)]) ++ List.replicate (1 - (lg_sl ([.int (iv D)])).length) Slot.unset).toArray = ls at hl ⊢
  have hl : lv_has ls 1 [(0, .int (iv D))] := hl
  generalize hQ : MQ below _ args s 0 0 (gA G) = Q
  show W p l e rm_c_X1_month s m args below meth c s.heap [] 0 0 Q (F0 m 0 ls [])
  obtain ⟨H, hHe⟩ : ∃ H, H = s.heap := ⟨_, rfl⟩
  obtain ⟨locs, hlo⟩ : ∃ q : List Loc, q = [] := ⟨_, rfl⟩
  have hH : gP G μ n H := by rw [hHe]; exact hH
  have hS : va_S (gA G) s.heap H locs := by rw [hHe, hlo]; exact hS
  suffices hgo : W p l e rm_c_X1_month s m args below meth c H locs 0 0 Q (F0 m 0 ls []) by rw [hHe, hlo] at hgo; exact hgo
  clear hHe hlo hfr hav
  refine lv_iload_n hx hb dX1_month_0 rfl (lv_at hl 0 rfl) ?_
  refine j_bipush hx hb dX1_month_1 ?_ (by decide)
  refine j_idiv hx hb dX1_month_3 ?_ (by omega) (by omega)
  refine j_bipush hx hb dX1_month_4 ?_ (by decide)
  refine j_irem hx hb dX1_month_6 ?_ (by omega) (by omega)
  subst hQ
  refine m_iret hx hb hr hlocks hH hS dX1_month_7 ?_ (by omega)
  exact ⟨rfl, rfl, rfl⟩

abbrev rm_c_X1_year : Room := { frames := 0, cells := 0, slots := 0, locals := 0 }
set_option maxHeartbeats 4000000 in
set_option maxRecDepth 100000 in
theorem c_X1_year (l : Launch) (G : wG) (μ : hM) (n : Nat) (D : Int) (hD : 0 ≤ D ∧ D ≤ 999999) : Met l yX1_year wsX1_year rm_c_X1_year (mPc G μ n [.int (iv D)]) (mQi G (fun z μ1 n1 => z = D % 100 ∧ μ1 = μ ∧ n1 = n)) 0 0 (gA G) := by
  refine Met.ofW (cc := cX1_year) (maxL := 1) (ret := (some .int)) (by decide) rfl ?_
  intro p e s m args below meth c s₁ B hml hv
  obtain ⟨hav, hK, hH⟩ := hv
  have hx := B.exec
  have hb := B.bytes
  have hr := B.returns
  have hts := atoms_spec (ws := wsX1_year) B.pre
  have hown : s.vm.findClass RX1 = some m.cls := findClass_of_methodNamed B.named
  have hlocks := B.notSynchronized
  have hS : va_S (gA G) s.heap s.heap [] := va_S.rf
  have hl := lv_entry ([.int (iv D)]) (n := 1) (Nat.le_of_ble_eq_true rfl)
  have hfr : entryFrame m args 1 = entryFrame m ([.int (iv D)] : List Value).toArray 1 := by rw [hav]
  rw [hfr, lg_entry_eq]
  generalize (lg_sl ([.int (iv D)]) ++ List.replicate (1 - (lg_sl ([.int (iv D)])).length) Slot.unset).toArray = ls at hl ⊢
  have hl : lv_has ls 1 [(0, .int (iv D))] := hl
  generalize hQ : MQ below _ args s 0 0 (gA G) = Q
  show W p l e rm_c_X1_year s m args below meth c s.heap [] 0 0 Q (F0 m 0 ls [])
  obtain ⟨H, hHe⟩ : ∃ H, H = s.heap := ⟨_, rfl⟩
  obtain ⟨locs, hlo⟩ : ∃ q : List Loc, q = [] := ⟨_, rfl⟩
  have hH : gP G μ n H := by rw [hHe]; exact hH
  have hS : va_S (gA G) s.heap H locs := by rw [hHe, hlo]; exact hS
  suffices hgo : W p l e rm_c_X1_year s m args below meth c H locs 0 0 Q (F0 m 0 ls []) by rw [hHe, hlo] at hgo; exact hgo
  clear hHe hlo hfr hav
  refine lv_iload_n hx hb dX1_year_0 rfl (lv_at hl 0 rfl) ?_
  refine j_bipush hx hb dX1_year_1 ?_ (by decide)
  refine j_irem hx hb dX1_year_3 ?_ (by omega) (by omega)
  subst hQ
  refine m_iret hx hb hr hlocks hH hS dX1_year_4 ?_ (by omega)
  exact ⟨rfl, rfl, rfl⟩

abbrev rm_c_X1_longestOf : Room := { frames := 0, cells := 0, slots := 0, locals := 0 }
set_option maxHeartbeats 4000000 in
set_option maxRecDepth 100000 in
theorem c_X1_longestOf (l : Launch) (G : wG) (μ : hM) (n : Nat) (k : Int) (hk : -1000 ≤ k ∧ k ≤ 1000) : Met l yX1_longestOf wsX1_longestOf rm_c_X1_longestOf (mPc G μ n [.int (iv k)]) (mQi G (fun z μ1 n1 => z = lgst k ∧ μ1 = μ ∧ n1 = n)) 0 0 (gA G) := by
  refine Met.ofW (cc := cX1_longestOf) (maxL := 1) (ret := (some .int)) (by decide) rfl ?_
  intro p e s m args below meth c s₁ B hml hv
  obtain ⟨hav, hK, hH⟩ := hv
  have hx := B.exec
  have hb := B.bytes
  have hr := B.returns
  have hts := atoms_spec (ws := wsX1_longestOf) B.pre
  have hown : s.vm.findClass RX1 = some m.cls := findClass_of_methodNamed B.named
  have hlocks := B.notSynchronized
  have hS : va_S (gA G) s.heap s.heap [] := va_S.rf
  have hl := lv_entry ([.int (iv k)]) (n := 1) (Nat.le_of_ble_eq_true rfl)
  have hfr : entryFrame m args 1 = entryFrame m ([.int (iv k)] : List Value).toArray 1 := by rw [hav]
  rw [hfr, lg_entry_eq]
  generalize (lg_sl ([.int (iv k)]) ++ List.replicate (1 - (lg_sl ([.int (iv k)])).length) Slot.unset).toArray = ls at hl ⊢
  have hl : lv_has ls 1 [(0, .int (iv k))] := hl
  generalize hQ : MQ below _ args s 0 0 (gA G) = Q
  show W p l e rm_c_X1_longestOf s m args below meth c s.heap [] 0 0 Q (F0 m 0 ls [])
  obtain ⟨H, hHe⟩ : ∃ H, H = s.heap := ⟨_, rfl⟩
  obtain ⟨locs, hlo⟩ : ∃ q : List Loc, q = [] := ⟨_, rfl⟩
  have hH : gP G μ n H := by rw [hHe]; exact hH
  have hS : va_S (gA G) s.heap H locs := by rw [hHe, hlo]; exact hS
  suffices hgo : W p l e rm_c_X1_longestOf s m args below meth c H locs 0 0 Q (F0 m 0 ls []) by rw [hHe, hlo] at hgo; exact hgo
  clear hHe hlo hfr hav
  have f_0 := hts (.fieldLink RX1 10 "StampDater$Dates" "LONGEST" "[I") (List.mem_of_getElem? (i := 1) rfl)
  refine lv_iload_n hx hb dX1_longestOf_0 rfl (lv_at hl 0 rfl) ?_
  refine j_const hx hb dX1_longestOf_1 ?_
  refine j_icmp_lt (tgt := 13) hx hb dX1_longestOf_2 (by decide) (fun c1 => ?_) (fun c1 => ?_) (by omega) (by omega)
  · skip
    refine j_const hx hb dX1_longestOf_13 ?_
    refine lv_goto (tgt := 24) hx hb dX1_longestOf_14 (by decide) ?_
    subst hQ
    refine m_iret hx hb hr hlocks hH hS dX1_longestOf_24 ?_ (by omega)
    refine ⟨?_, rfl, rfl⟩
    unfold lgst
    rw [if_neg (by omega)]
  · skip
    refine lv_iload_n hx hb dX1_longestOf_5 rfl (lv_at hl 0 rfl) ?_
    refine m_gets hx hb hK hS hown f_0 dX1_longestOf_6 ?_
    refine m_llen hx hb hK hS dX1_longestOf_9 ?_
    refine j_icmp_le (tgt := 17) hx hb dX1_longestOf_10 (by decide) (fun c2 => ?_) (fun c2 => ?_) (by omega) (by omega)
    · skip
      refine m_gets hx hb hK hS hown f_0 dX1_longestOf_17 ?_
      refine lv_iload_n hx hb dX1_longestOf_20 rfl (lv_at hl 0 rfl) ?_
      refine j_const hx hb dX1_longestOf_21 ?_
      refine j_isub hx hb dX1_longestOf_22 ?_
      refine m_lald hx hb hK hS dX1_longestOf_23 ?_ (by omega)
      refine j_top (fun v hv => ?_)
      have hlr := longest_rng (k - 1).toNat
      rw [← hv] at hlr
      subst hQ
      refine m_iret hx hb hr hlocks hH hS dX1_longestOf_24 ?_ (by omega)
      refine ⟨?_, rfl, rfl⟩
      unfold lgst
      rw [if_pos (by omega)]; exact hv
    · skip
      refine j_const hx hb dX1_longestOf_13 ?_
      refine lv_goto (tgt := 24) hx hb dX1_longestOf_14 (by decide) ?_
      subst hQ
      refine m_iret hx hb hr hlocks hH hS dX1_longestOf_24 ?_ (by omega)
      refine ⟨?_, rfl, rfl⟩
      unfold lgst
      rw [if_neg (by omega)]

abbrev rm_c_X1_isLeap : Room := { frames := 0, cells := 0, slots := 0, locals := 0 }
set_option maxHeartbeats 4000000 in
set_option maxRecDepth 100000 in
theorem c_X1_isLeap (l : Launch) (G : wG) (μ : hM) (n : Nat) (y : Int) (hy : 0 ≤ y ∧ y ≤ 1000) : Met l yX1_isLeap wsX1_isLeap rm_c_X1_isLeap (mPc G μ n [.int (iv y)]) (mQi G (fun z μ1 n1 => z = (if y % 4 = 0 then 1 else 0) ∧ μ1 = μ ∧ n1 = n)) 0 0 (gA G) := by
  refine Met.ofW (cc := cX1_isLeap) (maxL := 1) (ret := (some .boolean)) (by decide) rfl ?_
  intro p e s m args below meth c s₁ B hml hv
  obtain ⟨hav, hK, hH⟩ := hv
  have hx := B.exec
  have hb := B.bytes
  have hr := B.returns
  have hts := atoms_spec (ws := wsX1_isLeap) B.pre
  have hown : s.vm.findClass RX1 = some m.cls := findClass_of_methodNamed B.named
  have hlocks := B.notSynchronized
  have hS : va_S (gA G) s.heap s.heap [] := va_S.rf
  have hl := lv_entry ([.int (iv y)]) (n := 1) (Nat.le_of_ble_eq_true rfl)
  have hfr : entryFrame m args 1 = entryFrame m ([.int (iv y)] : List Value).toArray 1 := by rw [hav]
  rw [hfr, lg_entry_eq]
  generalize (lg_sl ([.int (iv y)]) ++ List.replicate (1 - (lg_sl ([.int (iv y)])).length) Slot.unset).toArray = ls at hl ⊢
  have hl : lv_has ls 1 [(0, .int (iv y))] := hl
  generalize hQ : MQ below _ args s 0 0 (gA G) = Q
  show W p l e rm_c_X1_isLeap s m args below meth c s.heap [] 0 0 Q (F0 m 0 ls [])
  obtain ⟨H, hHe⟩ : ∃ H, H = s.heap := ⟨_, rfl⟩
  obtain ⟨locs, hlo⟩ : ∃ q : List Loc, q = [] := ⟨_, rfl⟩
  have hH : gP G μ n H := by rw [hHe]; exact hH
  have hS : va_S (gA G) s.heap H locs := by rw [hHe, hlo]; exact hS
  suffices hgo : W p l e rm_c_X1_isLeap s m args below meth c H locs 0 0 Q (F0 m 0 ls []) by rw [hHe, hlo] at hgo; exact hgo
  clear hHe hlo hfr hav
  refine lv_iload_n hx hb dX1_isLeap_0 rfl (lv_at hl 0 rfl) ?_
  refine j_const hx hb dX1_isLeap_1 ?_
  refine j_irem hx hb dX1_isLeap_2 ?_ (by omega) (by omega)
  refine j_if_ne (tgt := 10) hx hb dX1_isLeap_3 (by decide) (fun c1 => ?_) (fun c1 => ?_) (by omega)
  · skip
    refine j_const hx hb dX1_isLeap_10 ?_
    subst hQ
    refine m_zret hx hb hr hlocks hH hS dX1_isLeap_11 ?_ (by omega)
    refine ⟨?_, rfl, rfl⟩
    split <;> omega
  · skip
    refine j_const hx hb dX1_isLeap_6 ?_
    refine lv_goto (tgt := 11) hx hb dX1_isLeap_7 (by decide) ?_
    subst hQ
    refine m_zret hx hb hr hlocks hH hS dX1_isLeap_11 ?_ (by omega)
    refine ⟨?_, rfl, rfl⟩
    split <;> omega

abbrev rm_c_X1_daysOf : Room := { frames := 1, cells := 0, slots := 0, locals := 20 }
set_option maxHeartbeats 4000000 in
set_option maxRecDepth 100000 in
theorem c_X1_daysOf (l : Launch) (G : wG) (μ : hM) (n : Nat) (k y : Int) (hk : -1000 ≤ k ∧ k ≤ 1000) (hy : 0 ≤ y ∧ y ≤ 1000) : Met l yX1_daysOf wsX1_daysOf rm_c_X1_daysOf (mPc G μ n [.int (iv k), .int (iv y)]) (mQi G (fun z μ1 n1 => z = clen k y ∧ μ1 = μ ∧ n1 = n)) 0 0 (gA G) := by
  refine Met.ofW (cc := cX1_daysOf) (maxL := 2) (ret := (some .int)) (by decide) rfl ?_
  intro p e s m args below meth c s₁ B hml hv
  obtain ⟨hav, hK, hH⟩ := hv
  have hx := B.exec
  have hb := B.bytes
  have hr := B.returns
  have hts := atoms_spec (ws := wsX1_daysOf) B.pre
  have hown : s.vm.findClass RX1 = some m.cls := findClass_of_methodNamed B.named
  have hlocks := B.notSynchronized
  have hS : va_S (gA G) s.heap s.heap [] := va_S.rf
  have hl := lv_entry ([.int (iv k), .int (iv y)]) (n := 2) (Nat.le_of_ble_eq_true rfl)
  have hfr : entryFrame m args 2 = entryFrame m ([.int (iv k), .int (iv y)] : List Value).toArray 2 := by rw [hav]
  rw [hfr, lg_entry_eq]
  generalize (lg_sl ([.int (iv k), .int (iv y)]) ++ List.replicate (2 - (lg_sl ([.int (iv k), .int (iv y)])).length) Slot.unset).toArray = ls at hl ⊢
  have hl : lv_has ls 2 [(0, .int (iv k)), (1, .int (iv y))] := hl
  generalize hQ : MQ below _ args s 0 0 (gA G) = Q
  show W p l e rm_c_X1_daysOf s m args below meth c s.heap [] 0 0 Q (F0 m 0 ls [])
  obtain ⟨H, hHe⟩ : ∃ H, H = s.heap := ⟨_, rfl⟩
  obtain ⟨locs, hlo⟩ : ∃ q : List Loc, q = [] := ⟨_, rfl⟩
  have hH : gP G μ n H := by rw [hHe]; exact hH
  have hS : va_S (gA G) s.heap H locs := by rw [hHe, hlo]; exact hS
  suffices hgo : W p l e rm_c_X1_daysOf s m args below meth c H locs 0 0 Q (F0 m 0 ls []) by rw [hHe, hlo] at hgo; exact hgo
  clear hHe hlo hfr hav
  refine lv_iload_n hx hb dX1_daysOf_0 rfl (lv_at hl 0 rfl) ?_
  refine j_const hx hb dX1_daysOf_1 ?_
  refine j_icmp_ne (tgt := 17) hx hb dX1_daysOf_2 (by decide) (fun c1 => ?_) (fun c1 => ?_) (by omega) (by omega)
  · skip
    refine lv_iload_n hx hb dX1_daysOf_17 rfl (lv_at hl 0 rfl) ?_
    refine m_callSi (As := [.int (iv k)]) (rest := []) ⟨hx, hb, hml, hown, hts⟩ hK hH hS (c_X1_longestOf l G μ n k (by omega)) (va_cwS 1 hts gX1_daysOf_X1_longestOf rfl rfl rfl (by decide +kernel) ⟨(Nat.le_of_ble_eq_true rfl), (Nat.le_of_ble_eq_true rfl)⟩) rfl rfl hl.1 (Nat.le_of_ble_eq_true rfl) dX1_daysOf_18 ⟨Nat.zero_le _, Nat.zero_le _⟩ (fun z5 μ2 n3 H locs hz5 hp4 hH hS => ?_)
    obtain ⟨hz2, hm2, hn2⟩ := hp4; rw [hz2]; rw [hm2, hn2] at hH; clear hz2 hm2 hn2
    have hlg := lgst_rng k
    subst hQ
    refine m_iret hx hb hr hlocks hH hS dX1_daysOf_21 ?_ (by omega)
    refine ⟨?_, rfl, rfl⟩
    unfold clen
    rw [if_neg]; intro h9; first | (exact absurd h9.1 (by omega)) | (rw [if_neg h9.2] at hlv; omega)
  · skip
    refine lv_iload_n hx hb dX1_daysOf_5 rfl (lv_at hl 1 rfl) ?_
    refine m_callSi (As := [.int (iv y)]) (rest := []) ⟨hx, hb, hml, hown, hts⟩ hK hH hS (c_X1_isLeap l G μ n y (by omega)) (va_cwS 1 hts gX1_daysOf_X1_isLeap rfl rfl rfl (by decide +kernel) ⟨(Nat.le_of_ble_eq_true rfl), (Nat.le_of_ble_eq_true rfl)⟩) rfl rfl hl.1 (Nat.le_of_ble_eq_true rfl) dX1_daysOf_6 ⟨Nat.zero_le _, Nat.zero_le _⟩ (fun z9 μ6 n7 H locs hz9 hp8 hH hS => ?_)
    obtain ⟨hz2, hm2, hn2⟩ := hp8; rw [hz2]; rw [hm2, hn2] at hH; clear hz2 hm2 hn2
    refine j_top (fun lv hlv => ?_)
    have hl2 : 0 ≤ lv ∧ lv ≤ 1 := by rw [hlv]; split <;> omega
    refine j_if_ne (tgt := 17) hx hb dX1_daysOf_9 (by decide) (fun c10 => ?_) (fun c10 => ?_) (by omega)
    · skip
      refine lv_iload_n hx hb dX1_daysOf_17 rfl (lv_at hl 0 rfl) ?_
      refine m_callSi (As := [.int (iv k)]) (rest := []) ⟨hx, hb, hml, hown, hts⟩ hK hH hS (c_X1_longestOf l G μ n k (by omega)) (va_cwS 1 hts gX1_daysOf_X1_longestOf rfl rfl rfl (by decide +kernel) ⟨(Nat.le_of_ble_eq_true rfl), (Nat.le_of_ble_eq_true rfl)⟩) rfl rfl hl.1 (Nat.le_of_ble_eq_true rfl) dX1_daysOf_18 ⟨Nat.zero_le _, Nat.zero_le _⟩ (fun z14 μ11 n12 H locs hz14 hp13 hH hS => ?_)
      obtain ⟨hz2, hm2, hn2⟩ := hp13; rw [hz2]; rw [hm2, hn2] at hH; clear hz2 hm2 hn2
      have hlg := lgst_rng k
      subst hQ
      refine m_iret hx hb hr hlocks hH hS dX1_daysOf_21 ?_ (by omega)
      refine ⟨?_, rfl, rfl⟩
      unfold clen
      rw [if_neg]; intro h9; first | (exact absurd h9.1 (by omega)) | (rw [if_neg h9.2] at hlv; omega)
    · skip
      refine j_bipush hx hb dX1_daysOf_12 ?_ (by decide)
      refine lv_goto (tgt := 21) hx hb dX1_daysOf_14 (by decide) ?_
      have hlg := lgst_rng k
      subst hQ
      refine m_iret hx hb hr hlocks hH hS dX1_daysOf_21 ?_ (by omega)
      refine ⟨?_, rfl, rfl⟩
      unfold clen
      rw [if_pos]; constructor; omega; intro h9; rw [if_pos h9] at hlv; omega

abbrev rm_c_X1_daysBefore : Room := { frames := 0, cells := 0, slots := 0, locals := 0 }
set_option maxHeartbeats 4000000 in
set_option maxRecDepth 100000 in
theorem c_X1_daysBefore (l : Launch) (G : wG) (μ : hM) (n : Nat) (y : Int) (hy : 0 ≤ y ∧ y ≤ 1000) : Met l yX1_daysBefore wsX1_daysBefore rm_c_X1_daysBefore (mPc G μ n [.int (iv y)]) (mQi G (fun z μ1 n1 => z = ystart y ∧ μ1 = μ ∧ n1 = n)) 0 0 (gA G) := by
  refine Met.ofW (cc := cX1_daysBefore) (maxL := 1) (ret := (some .int)) (by decide) rfl ?_
  intro p e s m args below meth c s₁ B hml hv
  obtain ⟨hav, hK, hH⟩ := hv
  have hx := B.exec
  have hb := B.bytes
  have hr := B.returns
  have hts := atoms_spec (ws := wsX1_daysBefore) B.pre
  have hown : s.vm.findClass RX1 = some m.cls := findClass_of_methodNamed B.named
  have hlocks := B.notSynchronized
  have hS : va_S (gA G) s.heap s.heap [] := va_S.rf
  have hl := lv_entry ([.int (iv y)]) (n := 1) (Nat.le_of_ble_eq_true rfl)
  have hfr : entryFrame m args 1 = entryFrame m ([.int (iv y)] : List Value).toArray 1 := by rw [hav]
  rw [hfr, lg_entry_eq]
  generalize (lg_sl ([.int (iv y)]) ++ List.replicate (1 - (lg_sl ([.int (iv y)])).length) Slot.unset).toArray = ls at hl ⊢
  have hl : lv_has ls 1 [(0, .int (iv y))] := hl
  generalize hQ : MQ below _ args s 0 0 (gA G) = Q
  show W p l e rm_c_X1_daysBefore s m args below meth c s.heap [] 0 0 Q (F0 m 0 ls [])
  obtain ⟨H, hHe⟩ : ∃ H, H = s.heap := ⟨_, rfl⟩
  obtain ⟨locs, hlo⟩ : ∃ q : List Loc, q = [] := ⟨_, rfl⟩
  have hH : gP G μ n H := by rw [hHe]; exact hH
  have hS : va_S (gA G) s.heap H locs := by rw [hHe, hlo]; exact hS
  suffices hgo : W p l e rm_c_X1_daysBefore s m args below meth c H locs 0 0 Q (F0 m 0 ls []) by rw [hHe, hlo] at hgo; exact hgo
  clear hHe hlo hfr hav
  refine j_sipush hx hb dX1_daysBefore_0 ?_ (by decide)
  refine lv_iload_n hx hb dX1_daysBefore_3 rfl (lv_at hl 0 rfl) ?_
  refine j_imul hx hb dX1_daysBefore_4 ?_
  refine lv_iload_n hx hb dX1_daysBefore_5 rfl (lv_at hl 0 rfl) ?_
  refine j_const hx hb dX1_daysBefore_6 ?_
  refine j_iadd hx hb dX1_daysBefore_7 ?_
  refine j_const hx hb dX1_daysBefore_8 ?_
  refine j_idiv hx hb dX1_daysBefore_9 ?_ (by omega) (by omega)
  refine j_iadd hx hb dX1_daysBefore_10 ?_
  subst hQ
  refine m_iret hx hb hr hlocks hH hS dX1_daysBefore_11 ?_ (by omega)
  exact ⟨rfl, rfl, rfl⟩

abbrev rm_c_X1_digitsOf : Room := { frames := 2, cells := 0, slots := 0, locals := 41 }
set_option maxHeartbeats 4000000 in
set_option maxRecDepth 100000 in
theorem c_X1_digitsOf (l : Launch) (G : wG) (μ : hM) (n : Nat) (day : Int) (hd : 0 ≤ day ∧ day ≤ 36524) : Met l yX1_digitsOf wsX1_digitsOf rm_c_X1_digitsOf (mPc G μ n [.int (iv day)]) (mQi G (fun z μ1 n1 => z = dig day ∧ μ1 = μ ∧ n1 = n)) 0 0 (gA G) := by
  refine Met.ofW (cc := cX1_digitsOf) (maxL := 4) (ret := (some .int)) (by decide) rfl ?_
  intro p e s m args below meth c s₁ B hml hv
  obtain ⟨hav, hK, hH⟩ := hv
  have hx := B.exec
  have hb := B.bytes
  have hr := B.returns
  have hts := atoms_spec (ws := wsX1_digitsOf) B.pre
  have hown : s.vm.findClass RX1 = some m.cls := findClass_of_methodNamed B.named
  have hlocks := B.notSynchronized
  have hS : va_S (gA G) s.heap s.heap [] := va_S.rf
  have hl := lv_entry ([.int (iv day)]) (n := 4) (Nat.le_of_ble_eq_true rfl)
  have hfr : entryFrame m args 4 = entryFrame m ([.int (iv day)] : List Value).toArray 4 := by rw [hav]
  rw [hfr, lg_entry_eq]
  generalize (lg_sl ([.int (iv day)]) ++ List.replicate (4 - (lg_sl ([.int (iv day)])).length) Slot.unset).toArray = ls at hl ⊢
  have hl : lv_has ls 4 [(0, .int (iv day))] := hl
  generalize hQ : MQ below _ args s 0 0 (gA G) = Q
  show W p l e rm_c_X1_digitsOf s m args below meth c s.heap [] 0 0 Q (F0 m 0 ls [])
  obtain ⟨H, hHe⟩ : ∃ H, H = s.heap := ⟨_, rfl⟩
  obtain ⟨locs, hlo⟩ : ∃ q : List Loc, q = [] := ⟨_, rfl⟩
  have hH : gP G μ n H := by rw [hHe]; exact hH
  have hS : va_S (gA G) s.heap H locs := by rw [hHe, hlo]; exact hS
  suffices hgo : W p l e rm_c_X1_digitsOf s m args below meth c H locs 0 0 Q (F0 m 0 ls []) by rw [hHe, hlo] at hgo; exact hgo
  clear hHe hlo hfr hav
  refine lv_iload_n hx hb dX1_digitsOf_0 rfl (lv_at hl 0 rfl) ?_
  refine j_sipush hx hb dX1_digitsOf_1 ?_ (by decide)
  refine j_idiv hx hb dX1_digitsOf_4 ?_ (by omega) (by omega)
  refine j_const hx hb dX1_digitsOf_5 ?_
  refine j_imul hx hb dX1_digitsOf_6 ?_
  refine lv_iload_n hx hb dX1_digitsOf_7 rfl (lv_at hl 0 rfl) ?_
  refine j_sipush hx hb dX1_digitsOf_8 ?_ (by decide)
  refine j_irem hx hb dX1_digitsOf_11 ?_ (by omega) (by omega)
  refine j_const hx hb dX1_digitsOf_12 ?_
  refine j_isub hx hb dX1_digitsOf_13 ?_
  refine j_sipush hx hb dX1_digitsOf_14 ?_ (by decide)
  refine j_idivT hx hb dX1_digitsOf_17 ?_
  refine j_iadd hx hb dX1_digitsOf_18 ?_
  refine j_top (fun yv hyv => ?_)
  have hy2 : yv = yearOf day := by rw [hyv]; exact yearJ hd.1
  have hy3 := yearOf_rng hd
  rw [← hy2] at hy3
  refine lv_istore_n (lv' := [(1, .int (iv yv)), (0, .int (iv day))]) hx hb dX1_digitsOf_19 rfl hl (by decide) rfl (fun ls hl => ?_)
  refine lv_iload_n hx hb dX1_digitsOf_20 rfl (lv_at hl 1 rfl) ?_
  refine lv_iload_n hx hb dX1_digitsOf_21 rfl (lv_at hl 0 rfl) ?_
  refine m_callSi (As := [.int (iv yv)]) (rest := [.int (iv day)]) ⟨hx, hb, hml, hown, hts⟩ hK hH hS (c_X1_daysBefore l G μ n yv (by omega)) (va_cwS 1 hts gX1_digitsOf_X1_daysBefore rfl rfl rfl (by decide +kernel) ⟨(Nat.le_of_ble_eq_true rfl), (Nat.le_of_ble_eq_true rfl)⟩) rfl rfl hl.1 (Nat.le_of_ble_eq_true rfl) dX1_digitsOf_22 ⟨Nat.zero_le _, Nat.zero_le _⟩ (fun z4 μ1 n2 H locs hz4 hp3 hH hS => ?_)
  obtain ⟨hz2, hm2, hn2⟩ := hp3; rw [hz2]; rw [hm2, hn2] at hH; clear hz2 hm2 hn2
  refine j_isub hx hb dX1_digitsOf_25 ?_
  refine j_top (fun rv hrv => ?_)
  have hr2 : rv = restOf day := by rw [hrv, hy2]; rfl
  have hr3 := restOf_rng day
  rw [← hr2, ← hy2] at hr3
  refine lv_istore_n (lv' := [(2, .int (iv rv)), (1, .int (iv yv)), (0, .int (iv day))]) hx hb dX1_digitsOf_26 rfl hl (by decide) rfl (fun ls hl => ?_)
  refine j_const hx hb dX1_digitsOf_27 ?_
  refine lv_istore_n (lv' := [(3, .int (iv 1)), (2, .int (iv rv)), (1, .int (iv yv)), (0, .int (iv day))]) hx hb dX1_digitsOf_28 rfl hl (by decide) rfl (fun ls hl => ?_)
  have lp29 : ∀ (k : Nat) (rr : Int) (mo : Int) (hmo : 1 ≤ mo ∧ mo ≤ 12) (hrr : rr = rv - cum mo yv) (hr0 : 0 ≤ rr) (_ : (12 - mo).toNat < k) (H : Heap) (locs : List Loc) (ls : Array Slot) (_ : gP G μ n H) (_ : va_S (gA G) s.heap H locs) (_ : lv_has ls 4 [(0, .int (iv day)), (1, .int (iv yv)), (2, .int (iv rr)), (3, .int (iv mo))]), W p l e rm_c_X1_digitsOf s m args below meth c H locs 0 0 Q (F0 m 29 ls []) := by
    intro k
    induction k with
    | zero => intro _ _ _ _ _ hk; exact absurd hk (Nat.not_lt_zero _)
    | succ k ih =>
      intro rr mo hmo hrr hr0 hk H locs ls hH hS hl
      have ih5 := ih; clear ih
      refine lv_iload_n hx hb dX1_digitsOf_29 rfl (lv_at hl 3 rfl) ?_
      have hrb := cum_rng mo yv
      have hfb := feb_rng yv
      have hf2 : feb yv ≤ 29 := by rw [hfb]; split <;> omega
      refine j_bipush hx hb dX1_digitsOf_30 ?_ (by decide)
      refine j_icmp_ge (tgt := 58) hx hb dX1_digitsOf_32 (by decide) (fun c6 => ?_) (fun c6 => ?_) (by omega) (by omega)
      · skip
        have hcm := clen_m hmo yv
        have hmr := mlen_rng mo yv
        have hq := cum_mono (m := mo) (y := yv) (r := rv) hmo (by omega) (by omega) (by rw [← hcm]; omega)
        refine j_sipush hx hb dX1_digitsOf_58 ?_ (by decide)
        refine lv_iload_n hx hb dX1_digitsOf_61 rfl (lv_at hl 2 rfl) ?_
        refine j_const hx hb dX1_digitsOf_62 ?_
        refine j_iadd hx hb dX1_digitsOf_63 ?_
        refine j_imul hx hb dX1_digitsOf_64 ?_
        refine j_bipush hx hb dX1_digitsOf_65 ?_ (by decide)
        refine lv_iload_n hx hb dX1_digitsOf_67 rfl (lv_at hl 3 rfl) ?_
        refine j_imul hx hb dX1_digitsOf_68 ?_
        refine j_iadd hx hb dX1_digitsOf_69 ?_
        refine lv_iload_n hx hb dX1_digitsOf_70 rfl (lv_at hl 1 rfl) ?_
        refine j_iadd hx hb dX1_digitsOf_71 ?_
        subst hQ
        refine m_iret hx hb hr hlocks hH hS dX1_digitsOf_72 ?_ (by omega)
        refine ⟨?_, rfl, rfl⟩
        unfold dig
        rw [← hr2, ← hy2, hq.1]
        omega
      · skip
        refine lv_iload_n hx hb dX1_digitsOf_35 rfl (lv_at hl 2 rfl) ?_
        refine lv_iload_n hx hb dX1_digitsOf_36 rfl (lv_at hl 3 rfl) ?_
        refine lv_iload_n hx hb dX1_digitsOf_37 rfl (lv_at hl 1 rfl) ?_
        refine m_callSi (As := [.int (iv mo), .int (iv yv)]) (rest := [.int (iv rr)]) ⟨hx, hb, hml, hown, hts⟩ hK hH hS (c_X1_daysOf l G μ n mo yv (by omega) (by omega)) (va_cwS 2 hts gX1_digitsOf_X1_daysOf rfl rfl rfl (by decide +kernel) ⟨(Nat.le_of_ble_eq_true rfl), (Nat.le_of_ble_eq_true rfl)⟩) rfl rfl hl.1 (Nat.le_of_ble_eq_true rfl) dX1_digitsOf_38 ⟨Nat.zero_le _, Nat.zero_le _⟩ (fun z10 μ7 n8 H locs hz10 hp9 hH hS => ?_)
        obtain ⟨hz2, hm2, hn2⟩ := hp9; rw [hz2]; rw [hm2, hn2] at hH; clear hz2 hm2 hn2
        have hcr := clen_rng mo yv
        refine j_icmp_lt (tgt := 58) hx hb dX1_digitsOf_41 (by decide) (fun c11 => ?_) (fun c11 => ?_) (by omega) (by omega)
        · skip
          have hcm := clen_m hmo yv
          have hmr := mlen_rng mo yv
          have hq := cum_mono (m := mo) (y := yv) (r := rv) hmo (by omega) (by omega) (by rw [← hcm]; omega)
          refine j_sipush hx hb dX1_digitsOf_58 ?_ (by decide)
          refine lv_iload_n hx hb dX1_digitsOf_61 rfl (lv_at hl 2 rfl) ?_
          refine j_const hx hb dX1_digitsOf_62 ?_
          refine j_iadd hx hb dX1_digitsOf_63 ?_
          refine j_imul hx hb dX1_digitsOf_64 ?_
          refine j_bipush hx hb dX1_digitsOf_65 ?_ (by decide)
          refine lv_iload_n hx hb dX1_digitsOf_67 rfl (lv_at hl 3 rfl) ?_
          refine j_imul hx hb dX1_digitsOf_68 ?_
          refine j_iadd hx hb dX1_digitsOf_69 ?_
          refine lv_iload_n hx hb dX1_digitsOf_70 rfl (lv_at hl 1 rfl) ?_
          refine j_iadd hx hb dX1_digitsOf_71 ?_
          subst hQ
          refine m_iret hx hb hr hlocks hH hS dX1_digitsOf_72 ?_ (by omega)
          refine ⟨?_, rfl, rfl⟩
          unfold dig
          rw [← hr2, ← hy2, hq.1]
          omega
        · skip
          refine lv_iload_n hx hb dX1_digitsOf_44 rfl (lv_at hl 2 rfl) ?_
          refine lv_iload_n hx hb dX1_digitsOf_45 rfl (lv_at hl 3 rfl) ?_
          refine lv_iload_n hx hb dX1_digitsOf_46 rfl (lv_at hl 1 rfl) ?_
          refine m_callSi (As := [.int (iv mo), .int (iv yv)]) (rest := [.int (iv rr)]) ⟨hx, hb, hml, hown, hts⟩ hK hH hS (c_X1_daysOf l G μ n mo yv (by omega) (by omega)) (va_cwS 2 hts gX1_digitsOf_X1_daysOf rfl rfl rfl (by decide +kernel) ⟨(Nat.le_of_ble_eq_true rfl), (Nat.le_of_ble_eq_true rfl)⟩) rfl rfl hl.1 (Nat.le_of_ble_eq_true rfl) dX1_digitsOf_47 ⟨Nat.zero_le _, Nat.zero_le _⟩ (fun z15 μ12 n13 H locs hz15 hp14 hH hS => ?_)
          obtain ⟨hz2, hm2, hn2⟩ := hp14; rw [hz2]; rw [hm2, hn2] at hH; clear hz2 hm2 hn2
          refine j_isub hx hb dX1_digitsOf_50 ?_
          refine j_top (fun q51 hq51 => ?_)
          refine lv_istore_n (lv' := [(2, .int (iv q51)), (0, .int (iv day)), (1, .int (iv yv)), (3, .int (iv mo))]) hx hb dX1_digitsOf_51 rfl hl (by decide) rfl (fun ls hl => ?_)
          refine j_iinc (lv' := [(3, .int (iv (mo + 1))), (2, .int (iv q51)), (0, .int (iv day)), (1, .int (iv yv))]) hx hb dX1_digitsOf_52 hl (k := 3) rfl (by decide) rfl (fun ls hl => ?_)
          refine lv_goto (tgt := 29) hx hb dX1_digitsOf_55 (by decide) ?_
          exact ih5 q51 (mo + 1) (by omega) (by rw [cum_s hmo yv, ← clen_m hmo yv]; omega) (by omega) (by omega) H locs ls hH hS (lv_sub hl [2, 3, 1, 0] rfl)
  exact lp29 (13) rv 1 (by omega) (by rw [cum_1]; omega) (by omega) (by omega) H locs ls hH hS (lv_sub hl [3, 2, 1, 0] rfl)

abbrev rm_c_X1_dayOf : Room := { frames := 2, cells := 0, slots := 0, locals := 41 }
set_option maxHeartbeats 4000000 in
set_option maxRecDepth 100000 in
theorem c_X1_dayOf (l : Launch) (G : wG) (μ : hM) (n : Nat) (D : Int) (hD : 0 ≤ D ∧ D ≤ 999999) : Met l yX1_dayOf wsX1_dayOf rm_c_X1_dayOf (mPc G μ n [.int (iv D)]) (mQi G (fun z μ1 n1 => z = dday D ∧ μ1 = μ ∧ n1 = n)) 0 0 (gA G) := by
  refine Met.ofW (cc := cX1_dayOf) (maxL := 6) (ret := (some .int)) (by decide) rfl ?_
  intro p e s m args below meth c s₁ B hml hv
  obtain ⟨hav, hK, hH⟩ := hv
  have hx := B.exec
  have hb := B.bytes
  have hr := B.returns
  have hts := atoms_spec (ws := wsX1_dayOf) B.pre
  have hown : s.vm.findClass RX1 = some m.cls := findClass_of_methodNamed B.named
  have hlocks := B.notSynchronized
  have hS : va_S (gA G) s.heap s.heap [] := va_S.rf
  have hl := lv_entry ([.int (iv D)]) (n := 6) (Nat.le_of_ble_eq_true rfl)
  have hfr : entryFrame m args 6 = entryFrame m ([.int (iv D)] : List Value).toArray 6 := by rw [hav]
  rw [hfr, lg_entry_eq]
  generalize (lg_sl ([.int (iv D)]) ++ List.replicate (6 - (lg_sl ([.int (iv D)])).length) Slot.unset).toArray = ls at hl ⊢
  have hl : lv_has ls 6 [(0, .int (iv D))] := hl
  generalize hQ : MQ below _ args s 0 0 (gA G) = Q
  show W p l e rm_c_X1_dayOf s m args below meth c s.heap [] 0 0 Q (F0 m 0 ls [])
  obtain ⟨H, hHe⟩ : ∃ H, H = s.heap := ⟨_, rfl⟩
  obtain ⟨locs, hlo⟩ : ∃ q : List Loc, q = [] := ⟨_, rfl⟩
  have hH : gP G μ n H := by rw [hHe]; exact hH
  have hS : va_S (gA G) s.heap H locs := by rw [hHe, hlo]; exact hS
  suffices hgo : W p l e rm_c_X1_dayOf s m args below meth c H locs 0 0 Q (F0 m 0 ls []) by rw [hHe, hlo] at hgo; exact hgo
  clear hHe hlo hfr hav
  refine lv_iload_n hx hb dX1_dayOf_0 rfl (lv_at hl 0 rfl) ?_
  refine m_callSi (As := [.int (iv D)]) (rest := []) ⟨hx, hb, hml, hown, hts⟩ hK hH hS (c_X1_year l G μ n D (by omega)) (va_cwS 1 hts gX1_dayOf_X1_year rfl rfl rfl (by decide +kernel) ⟨(Nat.le_of_ble_eq_true rfl), (Nat.le_of_ble_eq_true rfl)⟩) rfl rfl hl.1 (Nat.le_of_ble_eq_true rfl) dX1_dayOf_1 ⟨Nat.zero_le _, Nat.zero_le _⟩ (fun z4 μ1 n2 H locs hz4 hp3 hH hS => ?_)
  obtain ⟨hz2, hm2, hn2⟩ := hp3; rw [hz2]; rw [hm2, hn2] at hH; clear hz2 hm2 hn2
  refine j_top (fun yv hyv => ?_)
  refine lv_istore_n (lv' := [(1, .int (iv yv)), (0, .int (iv D))]) hx hb dX1_dayOf_4 rfl hl (by decide) rfl (fun ls hl => ?_)
  refine lv_iload_n hx hb dX1_dayOf_5 rfl (lv_at hl 1 rfl) ?_
  refine m_callSi (As := [.int (iv D)]) (rest := []) ⟨hx, hb, hml, hown, hts⟩ hK hH hS (c_X1_month l G μ n D (by omega)) (va_cwS 1 hts gX1_dayOf_X1_month rfl rfl rfl (by decide +kernel) ⟨(Nat.le_of_ble_eq_true rfl), (Nat.le_of_ble_eq_true rfl)⟩) rfl rfl hl.1 (Nat.le_of_ble_eq_true rfl) dX1_dayOf_6 ⟨Nat.zero_le _, Nat.zero_le _⟩ (fun z8 μ5 n6 H locs hz8 hp7 hH hS => ?_)
  obtain ⟨hz2, hm2, hn2⟩ := hp7; rw [hz2]; rw [hm2, hn2] at hH; clear hz2 hm2 hn2
  refine j_top (fun mv hmv => ?_)
  refine lv_istore_n (lv' := [(2, .int (iv mv)), (1, .int (iv yv)), (0, .int (iv D))]) hx hb dX1_dayOf_9 rfl hl (by decide) rfl (fun ls hl => ?_)
  refine lv_iload_n hx hb dX1_dayOf_10 rfl (lv_at hl 2 rfl) ?_
  refine m_callSi (As := [.int (iv D)]) (rest := []) ⟨hx, hb, hml, hown, hts⟩ hK hH hS (c_X1_dayOfMonth l G μ n D (by omega)) (va_cwS 1 hts gX1_dayOf_X1_dayOfMonth rfl rfl rfl (by decide +kernel) ⟨(Nat.le_of_ble_eq_true rfl), (Nat.le_of_ble_eq_true rfl)⟩) rfl rfl hl.1 (Nat.le_of_ble_eq_true rfl) dX1_dayOf_11 ⟨Nat.zero_le _, Nat.zero_le _⟩ (fun z12 μ9 n10 H locs hz12 hp11 hH hS => ?_)
  obtain ⟨hz2, hm2, hn2⟩ := hp11; rw [hz2]; rw [hm2, hn2] at hH; clear hz2 hm2 hn2
  refine j_top (fun dv hdv => ?_)
  refine lv_istore_n (lv' := [(3, .int (iv dv)), (2, .int (iv mv)), (1, .int (iv yv)), (0, .int (iv D))]) hx hb dX1_dayOf_14 rfl hl (by decide) rfl (fun ls hl => ?_)
  refine lv_iload_n hx hb dX1_dayOf_15 rfl (lv_at hl 0 rfl) ?_
  refine j_const hx hb dX1_dayOf_16 ?_
  refine j_icmp_lt (tgt := 29) hx hb dX1_dayOf_17 (by decide) (fun c13 => ?_) (fun c13 => ?_) (by omega) (by omega)
  · skip
    refine j_bipush hx hb dX1_dayOf_29 ?_ (by decide)
    subst hQ
    refine m_iret hx hb hr hlocks hH hS dX1_dayOf_31 ?_ (by omega)
    refine ⟨?_, rfl, rfl⟩
    unfold dday
    rw [← hyv, ← hmv, ← hdv]
    rw [if_neg]
    intro hn
    have hcm := clen_m hn.1 yv
    omega
  · skip
    refine lv_iload_n hx hb dX1_dayOf_20 rfl (lv_at hl 0 rfl) ?_
    refine lv_iload_n hx hb dX1_dayOf_21 rfl (lv_at hl 1 rfl) ?_
    refine lv_iload_n hx hb dX1_dayOf_22 rfl (lv_at hl 2 rfl) ?_
    refine m_callSi (As := [.int (iv mv), .int (iv yv)]) (rest := [.int (iv dv)]) ⟨hx, hb, hml, hown, hts⟩ hK hH hS (c_X1_daysOf l G μ n mv yv (by omega) (by omega)) (va_cwS 2 hts gX1_dayOf_X1_daysOf rfl rfl rfl (by decide +kernel) ⟨(Nat.le_of_ble_eq_true rfl), (Nat.le_of_ble_eq_true rfl)⟩) rfl rfl hl.1 (Nat.le_of_ble_eq_true rfl) dX1_dayOf_23 ⟨Nat.zero_le _, Nat.zero_le _⟩ (fun z17 μ14 n15 H locs hz17 hp16 hH hS => ?_)
    obtain ⟨hz2, hm2, hn2⟩ := hp16; rw [hz2]; rw [hm2, hn2] at hH; clear hz2 hm2 hn2
    have hcr := clen_rng mv yv
    refine j_icmp_le (tgt := 32) hx hb dX1_dayOf_26 (by decide) (fun c18 => ?_) (fun c18 => ?_) (by omega) (by omega)
    · skip
      have hm1 : 1 ≤ mv ∧ mv ≤ 12 := by
        refine Decidable.byContradiction (fun hn => ?_)
        have h0 := clen_0 (m := mv) (by omega) yv
        omega
      have hcm := clen_m hm1 yv
      refine lv_iload_n hx hb dX1_dayOf_32 rfl (lv_at hl 2 rfl) ?_
      refine m_callSi (As := [.int (iv yv)]) (rest := []) ⟨hx, hb, hml, hown, hts⟩ hK hH hS (c_X1_daysBefore l G μ n yv (by omega)) (va_cwS 1 hts gX1_dayOf_X1_daysBefore rfl rfl rfl (by decide +kernel) ⟨(Nat.le_of_ble_eq_true rfl), (Nat.le_of_ble_eq_true rfl)⟩) rfl rfl hl.1 (Nat.le_of_ble_eq_true rfl) dX1_dayOf_33 ⟨Nat.zero_le _, Nat.zero_le _⟩ (fun z22 μ19 n20 H locs hz22 hp21 hH hS => ?_)
      obtain ⟨hz2, hm2, hn2⟩ := hp21; rw [hz2]; rw [hm2, hn2] at hH; clear hz2 hm2 hn2
      refine lv_iload_n hx hb dX1_dayOf_36 rfl (lv_at hl 0 rfl) ?_
      refine j_iadd hx hb dX1_dayOf_37 ?_
      refine j_const hx hb dX1_dayOf_38 ?_
      refine j_isub hx hb dX1_dayOf_39 ?_
      refine lv_istore (lv' := [(4, .int (iv (((ystart yv) + dv) - 1))), (3, .int (iv dv)), (2, .int (iv mv)), (1, .int (iv yv)), (0, .int (iv D))]) hx hb dX1_dayOf_40 hl (by decide) rfl (fun ls hl => ?_)
      refine j_const hx hb dX1_dayOf_42 ?_
      refine lv_istore (lv' := [(5, .int (iv 1)), (4, .int (iv (((ystart yv) + dv) - 1))), (3, .int (iv dv)), (2, .int (iv mv)), (1, .int (iv yv)), (0, .int (iv D))]) hx hb dX1_dayOf_43 hl (by decide) rfl (fun ls hl => ?_)
      have lp45 : ∀ (k : Nat) (dd : Int) (ee : Int) (he : 1 ≤ ee ∧ ee ≤ mv) (hdd : dd = ystart yv + dv - 1 + cum ee yv) (_ : (12 - ee).toNat < k) (H : Heap) (locs : List Loc) (ls : Array Slot) (_ : gP G μ n H) (_ : va_S (gA G) s.heap H locs) (_ : lv_has ls 6 [(1, .int (iv yv)), (2, .int (iv mv)), (3, .int (iv dv)), (4, .int (iv dd)), (5, .int (iv ee))]), W p l e rm_c_X1_dayOf s m args below meth c H locs 0 0 Q (F0 m 45 ls []) := by
        intro k
        induction k with
        | zero => intro _ _ _ _ hk; exact absurd hk (Nat.not_lt_zero _)
        | succ k ih =>
          intro dd ee he hdd hk H locs ls hH hS hl
          have ih23 := ih; clear ih
          refine lv_iload hx hb dX1_dayOf_45 (lv_at hl 4 rfl) ?_
          refine lv_iload_n hx hb dX1_dayOf_47 rfl (lv_at hl 1 rfl) ?_
          refine j_icmp_ge (tgt := 68) hx hb dX1_dayOf_48 (by decide) (fun c24 => ?_) (fun c24 => ?_) (by omega) (by omega)
          · skip
            have hys : 0 ≤ ystart yv ∧ ystart yv ≤ 40000 := by unfold ystart; omega
            have hcu := cum_rng ee yv
            have hclr := clen_rng mv yv
            refine lv_iload hx hb dX1_dayOf_68 (lv_at hl 3 rfl) ?_
            subst hQ
            refine m_iret hx hb hr hlocks hH hS dX1_dayOf_70 ?_ (by omega)
            refine ⟨?_, rfl, rfl⟩
            unfold dday
            rw [← hyv, ← hmv, ← hdv]
            rw [if_pos (by omega), hdd, show ee = mv by omega]
            omega
          · skip
            refine lv_iload hx hb dX1_dayOf_51 (lv_at hl 3 rfl) ?_
            refine lv_iload hx hb dX1_dayOf_53 (lv_at hl 4 rfl) ?_
            refine lv_iload_n hx hb dX1_dayOf_55 rfl (lv_at hl 0 rfl) ?_
            refine m_callSi (As := [.int (iv ee), .int (iv yv)]) (rest := [.int (iv dd)]) ⟨hx, hb, hml, hown, hts⟩ hK hH hS (c_X1_daysOf l G μ n ee yv (by omega) (by omega)) (va_cwS 2 hts gX1_dayOf_X1_daysOf rfl rfl rfl (by decide +kernel) ⟨(Nat.le_of_ble_eq_true rfl), (Nat.le_of_ble_eq_true rfl)⟩) rfl rfl hl.1 (Nat.le_of_ble_eq_true rfl) dX1_dayOf_56 ⟨Nat.zero_le _, Nat.zero_le _⟩ (fun z28 μ25 n26 H locs hz28 hp27 hH hS => ?_)
            obtain ⟨hz2, hm2, hn2⟩ := hp27; rw [hz2]; rw [hm2, hn2] at hH; clear hz2 hm2 hn2
            refine j_iadd hx hb dX1_dayOf_59 ?_
            refine lv_istore (lv' := [(4, .int (iv (dd + (clen ee yv)))), (1, .int (iv yv)), (2, .int (iv mv)), (3, .int (iv dv)), (5, .int (iv ee))]) hx hb dX1_dayOf_60 hl (by decide) rfl (fun ls hl => ?_)
            refine j_iinc (lv' := [(5, .int (iv (ee + 1))), (4, .int (iv (dd + (clen ee yv)))), (1, .int (iv yv)), (2, .int (iv mv)), (3, .int (iv dv))]) hx hb dX1_dayOf_62 hl (k := 4) rfl (by decide) rfl (fun ls hl => ?_)
            refine lv_goto (tgt := 45) hx hb dX1_dayOf_65 (by decide) ?_
            exact ih23 (dd + (clen ee yv)) (ee + 1) (by omega) (by rw [cum_s (by omega) yv, ← clen_m (by omega) yv]; omega) (by omega) H locs ls hH hS (lv_sub hl [2, 3, 4, 1, 0] rfl)
      exact lp45 (13) (((ystart yv) + dv) - 1) 1 (by omega) (by rw [cum_1]; omega) (by omega) H locs ls hH hS (lv_sub hl [4, 3, 2, 1, 0] rfl)
    · skip
      refine j_bipush hx hb dX1_dayOf_29 ?_ (by decide)
      subst hQ
      refine m_iret hx hb hr hlocks hH hS dX1_dayOf_31 ?_ (by omega)
      refine ⟨?_, rfl, rfl⟩
      unfold dday
      rw [← hyv, ← hmv, ← hdv]
      rw [if_neg]
      intro hn
      have hcm := clen_m hn.1 yv
      omega

abbrev rm_c_X1_someBegins : Room := { frames := 2, cells := 0, slots := 0, locals := 41 }
abbrev rm_c_X1_pairAgrees : Room := { frames := 0, cells := 0, slots := 0, locals := 0 }
set_option maxHeartbeats 4000000 in
set_option maxRecDepth 100000 in
theorem c_X1_pairAgrees (l : Launch) (G : wG) (μ : hM) (n : Nat) (a b : Int) (P : Nat) (ha : 0 ≤ a ∧ a ≤ 1000) (hb0 : 0 ≤ b ∧ b ≤ 1000) (hP : P < 64) : Met l yX1_pairAgrees wsX1_pairAgrees rm_c_X1_pairAgrees (mPc G μ n [.int (iv a), .int (iv b), .int (iv (P : Int))]) (mQi G (fun z μ1 n1 => z = pag a b P ∧ μ1 = μ ∧ n1 = n)) 0 0 (gA G) := by
  refine Met.ofW (cc := cX1_pairAgrees) (maxL := 3) (ret := (some .boolean)) (by decide) rfl ?_
  intro p e s m args below meth c s₁ B hml hv
  obtain ⟨hav, hK, hH⟩ := hv
  have hx := B.exec
  have hb := B.bytes
  have hr := B.returns
  have hts := atoms_spec (ws := wsX1_pairAgrees) B.pre
  have hown : s.vm.findClass RX1 = some m.cls := findClass_of_methodNamed B.named
  have hlocks := B.notSynchronized
  have hS : va_S (gA G) s.heap s.heap [] := va_S.rf
  have hl := lv_entry ([.int (iv a), .int (iv b), .int (iv (P : Int))]) (n := 3) (Nat.le_of_ble_eq_true rfl)
  have hfr : entryFrame m args 3 = entryFrame m ([.int (iv a), .int (iv b), .int (iv (P : Int))] : List Value).toArray 3 := by rw [hav]
  rw [hfr, lg_entry_eq]
  generalize (lg_sl ([.int (iv a), .int (iv b), .int (iv (P : Int))]) ++ List.replicate (3 - (lg_sl ([.int (iv a), .int (iv b), .int (iv (P : Int))])).length) Slot.unset).toArray = ls at hl ⊢
  have hl : lv_has ls 3 [(0, .int (iv a)), (1, .int (iv b)), (2, .int (iv (P : Int)))] := hl
  generalize hQ : MQ below _ args s 0 0 (gA G) = Q
  show W p l e rm_c_X1_pairAgrees s m args below meth c s.heap [] 0 0 Q (F0 m 0 ls [])
  obtain ⟨H, hHe⟩ : ∃ H, H = s.heap := ⟨_, rfl⟩
  obtain ⟨locs, hlo⟩ : ∃ q : List Loc, q = [] := ⟨_, rfl⟩
  have hH : gP G μ n H := by rw [hHe]; exact hH
  have hS : va_S (gA G) s.heap H locs := by rw [hHe, hlo]; exact hS
  suffices hgo : W p l e rm_c_X1_pairAgrees s m args below meth c H locs 0 0 Q (F0 m 0 ls []) by rw [hHe, hlo] at hgo; exact hgo
  clear hHe hlo hfr hav
  refine lv_iload_n hx hb dX1_pairAgrees_0 rfl (lv_at hl 2 rfl) ?_
  refine j_const hx hb dX1_pairAgrees_1 ?_
  refine j_iand (v := ((P % 2 : Nat) : Int)) hx hb dX1_pairAgrees_2 (bit_and1 P hP) ?_
  refine j_if_eq (tgt := 17) hx hb dX1_pairAgrees_3 (by decide) (fun c1 => ?_) (fun c1 => ?_) (by omega)
  · skip
    refine lv_iload_n hx hb dX1_pairAgrees_17 rfl (lv_at hl 2 rfl) ?_
    refine j_const hx hb dX1_pairAgrees_18 ?_
    refine j_iand (v := ((P / 2 % 2 * 2 : Nat) : Int)) hx hb dX1_pairAgrees_19 (bit_and2 P hP) ?_
    refine j_if_eq (tgt := 34) hx hb dX1_pairAgrees_20 (by decide) (fun c2 => ?_) (fun c2 => ?_) (by omega)
    · skip
      refine j_const hx hb dX1_pairAgrees_34 ?_
      refine lv_goto (tgt := 39) hx hb dX1_pairAgrees_35 (by decide) ?_
      subst hQ
      refine m_zret hx hb hr hlocks hH hS dX1_pairAgrees_39 ?_ (by omega)
      refine ⟨?_, rfl, rfl⟩
      unfold pag
      split <;> omega
    · skip
      refine lv_iload_n hx hb dX1_pairAgrees_23 rfl (lv_at hl 0 rfl) ?_
      refine j_bipush hx hb dX1_pairAgrees_24 ?_ (by decide)
      refine j_irem hx hb dX1_pairAgrees_26 ?_ (by omega) (by omega)
      refine lv_iload_n hx hb dX1_pairAgrees_27 rfl (lv_at hl 1 rfl) ?_
      refine j_bipush hx hb dX1_pairAgrees_28 ?_ (by decide)
      refine j_irem hx hb dX1_pairAgrees_30 ?_ (by omega) (by omega)
      refine j_icmp_ne (tgt := 38) hx hb dX1_pairAgrees_31 (by decide) (fun c3 => ?_) (fun c3 => ?_) (by omega) (by omega)
      · skip
        refine j_const hx hb dX1_pairAgrees_38 ?_
        subst hQ
        refine m_zret hx hb hr hlocks hH hS dX1_pairAgrees_39 ?_ (by omega)
        refine ⟨?_, rfl, rfl⟩
        unfold pag
        split <;> omega
      · skip
        refine j_const hx hb dX1_pairAgrees_34 ?_
        refine lv_goto (tgt := 39) hx hb dX1_pairAgrees_35 (by decide) ?_
        subst hQ
        refine m_zret hx hb hr hlocks hH hS dX1_pairAgrees_39 ?_ (by omega)
        refine ⟨?_, rfl, rfl⟩
        unfold pag
        split <;> omega
  · skip
    refine lv_iload_n hx hb dX1_pairAgrees_6 rfl (lv_at hl 0 rfl) ?_
    refine j_bipush hx hb dX1_pairAgrees_7 ?_ (by decide)
    refine j_idiv hx hb dX1_pairAgrees_9 ?_ (by omega) (by omega)
    refine lv_iload_n hx hb dX1_pairAgrees_10 rfl (lv_at hl 1 rfl) ?_
    refine j_bipush hx hb dX1_pairAgrees_11 ?_ (by decide)
    refine j_idiv hx hb dX1_pairAgrees_13 ?_ (by omega) (by omega)
    refine j_icmp_ne (tgt := 38) hx hb dX1_pairAgrees_14 (by decide) (fun c4 => ?_) (fun c4 => ?_) (by omega) (by omega)
    · skip
      refine j_const hx hb dX1_pairAgrees_38 ?_
      subst hQ
      refine m_zret hx hb hr hlocks hH hS dX1_pairAgrees_39 ?_ (by omega)
      refine ⟨?_, rfl, rfl⟩
      unfold pag
      split <;> omega
    · skip
      refine lv_iload_n hx hb dX1_pairAgrees_17 rfl (lv_at hl 2 rfl) ?_
      refine j_const hx hb dX1_pairAgrees_18 ?_
      refine j_iand (v := ((P / 2 % 2 * 2 : Nat) : Int)) hx hb dX1_pairAgrees_19 (bit_and2 P hP) ?_
      refine j_if_eq (tgt := 34) hx hb dX1_pairAgrees_20 (by decide) (fun c5 => ?_) (fun c5 => ?_) (by omega)
      · skip
        refine j_const hx hb dX1_pairAgrees_34 ?_
        refine lv_goto (tgt := 39) hx hb dX1_pairAgrees_35 (by decide) ?_
        subst hQ
        refine m_zret hx hb hr hlocks hH hS dX1_pairAgrees_39 ?_ (by omega)
        refine ⟨?_, rfl, rfl⟩
        unfold pag
        split <;> omega
      · skip
        refine lv_iload_n hx hb dX1_pairAgrees_23 rfl (lv_at hl 0 rfl) ?_
        refine j_bipush hx hb dX1_pairAgrees_24 ?_ (by decide)
        refine j_irem hx hb dX1_pairAgrees_26 ?_ (by omega) (by omega)
        refine lv_iload_n hx hb dX1_pairAgrees_27 rfl (lv_at hl 1 rfl) ?_
        refine j_bipush hx hb dX1_pairAgrees_28 ?_ (by decide)
        refine j_irem hx hb dX1_pairAgrees_30 ?_ (by omega) (by omega)
        refine j_icmp_ne (tgt := 38) hx hb dX1_pairAgrees_31 (by decide) (fun c6 => ?_) (fun c6 => ?_) (by omega) (by omega)
        · skip
          refine j_const hx hb dX1_pairAgrees_38 ?_
          subst hQ
          refine m_zret hx hb hr hlocks hH hS dX1_pairAgrees_39 ?_ (by omega)
          refine ⟨?_, rfl, rfl⟩
          unfold pag
          split <;> omega
        · skip
          refine j_const hx hb dX1_pairAgrees_34 ?_
          refine lv_goto (tgt := 39) hx hb dX1_pairAgrees_35 (by decide) ?_
          subst hQ
          refine m_zret hx hb hr hlocks hH hS dX1_pairAgrees_39 ?_ (by omega)
          refine ⟨?_, rfl, rfl⟩
          unfold pag
          split <;> omega

abbrev rm_c_X1_dayAgrees : Room := { frames := 1, cells := 0, slots := 0, locals := 22 }
set_option maxHeartbeats 4000000 in
set_option maxRecDepth 100000 in
theorem c_X1_dayAgrees (l : Launch) (G : wG) (μ : hM) (n : Nat) (a D : Int) (P : Nat) (ha : 0 ≤ a ∧ a ≤ 1000) (hD : 0 ≤ D ∧ D ≤ 999999) (hP : P < 64) : Met l yX1_dayAgrees wsX1_dayAgrees rm_c_X1_dayAgrees (mPc G μ n [.int (iv a), .int (iv D), .int (iv (P : Int))]) (mQi G (fun z μ1 n1 => z = pag a (D / 10000) (P) ∧ μ1 = μ ∧ n1 = n)) 0 0 (gA G) := by
  refine Met.ofW (cc := cX1_dayAgrees) (maxL := 3) (ret := (some .boolean)) (by decide) rfl ?_
  intro p e s m args below meth c s₁ B hml hv
  obtain ⟨hav, hK, hH⟩ := hv
  have hx := B.exec
  have hb := B.bytes
  have hr := B.returns
  have hts := atoms_spec (ws := wsX1_dayAgrees) B.pre
  have hown : s.vm.findClass RX1 = some m.cls := findClass_of_methodNamed B.named
  have hlocks := B.notSynchronized
  have hS : va_S (gA G) s.heap s.heap [] := va_S.rf
  have hl := lv_entry ([.int (iv a), .int (iv D), .int (iv (P : Int))]) (n := 3) (Nat.le_of_ble_eq_true rfl)
  have hfr : entryFrame m args 3 = entryFrame m ([.int (iv a), .int (iv D), .int (iv (P : Int))] : List Value).toArray 3 := by rw [hav]
  rw [hfr, lg_entry_eq]
  generalize (lg_sl ([.int (iv a), .int (iv D), .int (iv (P : Int))]) ++ List.replicate (3 - (lg_sl ([.int (iv a), .int (iv D), .int (iv (P : Int))])).length) Slot.unset).toArray = ls at hl ⊢
  have hl : lv_has ls 3 [(0, .int (iv a)), (1, .int (iv D)), (2, .int (iv (P : Int)))] := hl
  generalize hQ : MQ below _ args s 0 0 (gA G) = Q
  show W p l e rm_c_X1_dayAgrees s m args below meth c s.heap [] 0 0 Q (F0 m 0 ls [])
  obtain ⟨H, hHe⟩ : ∃ H, H = s.heap := ⟨_, rfl⟩
  obtain ⟨locs, hlo⟩ : ∃ q : List Loc, q = [] := ⟨_, rfl⟩
  have hH : gP G μ n H := by rw [hHe]; exact hH
  have hS : va_S (gA G) s.heap H locs := by rw [hHe, hlo]; exact hS
  suffices hgo : W p l e rm_c_X1_dayAgrees s m args below meth c H locs 0 0 Q (F0 m 0 ls []) by rw [hHe, hlo] at hgo; exact hgo
  clear hHe hlo hfr hav
  refine lv_iload_n hx hb dX1_dayAgrees_0 rfl (lv_at hl 0 rfl) ?_
  refine lv_iload_n hx hb dX1_dayAgrees_1 rfl (lv_at hl 1 rfl) ?_
  refine m_callSi (As := [.int (iv D)]) (rest := [.int (iv a)]) ⟨hx, hb, hml, hown, hts⟩ hK hH hS (c_X1_dayOfMonth l G μ n D (by omega)) (va_cwS 1 hts gX1_dayAgrees_X1_dayOfMonth rfl rfl rfl (by decide +kernel) ⟨(Nat.le_of_ble_eq_true rfl), (Nat.le_of_ble_eq_true rfl)⟩) rfl rfl hl.1 (Nat.le_of_ble_eq_true rfl) dX1_dayAgrees_2 ⟨Nat.zero_le _, Nat.zero_le _⟩ (fun z4 μ1 n2 H locs hz4 hp3 hH hS => ?_)
  obtain ⟨hz2, hm2, hn2⟩ := hp3; rw [hz2]; rw [hm2, hn2] at hH; clear hz2 hm2 hn2
  refine lv_iload_n hx hb dX1_dayAgrees_5 rfl (lv_at hl 2 rfl) ?_
  refine m_callSi (As := [.int (iv a), .int (iv (D / 10000)), .int (iv (P : Int))]) (rest := []) ⟨hx, hb, hml, hown, hts⟩ hK hH hS (c_X1_pairAgrees l G μ n a (D / 10000) (P) (by omega) (by omega) (by omega)) (va_cwS 3 hts gX1_dayAgrees_X1_pairAgrees rfl rfl rfl (by decide +kernel) ⟨(Nat.le_of_ble_eq_true rfl), (Nat.le_of_ble_eq_true rfl)⟩) rfl rfl hl.1 (Nat.le_of_ble_eq_true rfl) dX1_dayAgrees_6 ⟨Nat.zero_le _, Nat.zero_le _⟩ (fun z8 μ5 n6 H locs hz8 hp7 hH hS => ?_)
  obtain ⟨hz2, hm2, hn2⟩ := hp7; rw [hz2]; rw [hm2, hn2] at hH; clear hz2 hm2 hn2
  have hpr := pag_rng a (D / 10000) (P)
  subst hQ
  refine m_zret hx hb hr hlocks hH hS dX1_dayAgrees_9 ?_ (by omega)
  exact ⟨rfl, rfl, rfl⟩

abbrev rm_c_X1_monthAgrees : Room := { frames := 1, cells := 0, slots := 0, locals := 22 }
set_option maxHeartbeats 4000000 in
set_option maxRecDepth 100000 in
theorem c_X1_monthAgrees (l : Launch) (G : wG) (μ : hM) (n : Nat) (a D : Int) (P : Nat) (ha : 0 ≤ a ∧ a ≤ 1000) (hD : 0 ≤ D ∧ D ≤ 999999) (hP : P < 64) : Met l yX1_monthAgrees wsX1_monthAgrees rm_c_X1_monthAgrees (mPc G μ n [.int (iv a), .int (iv D), .int (iv (P : Int))]) (mQi G (fun z μ1 n1 => z = pag a (D / 100 % 100) (P / 4) ∧ μ1 = μ ∧ n1 = n)) 0 0 (gA G) := by
  refine Met.ofW (cc := cX1_monthAgrees) (maxL := 3) (ret := (some .boolean)) (by decide) rfl ?_
  intro p e s m args below meth c s₁ B hml hv
  obtain ⟨hav, hK, hH⟩ := hv
  have hx := B.exec
  have hb := B.bytes
  have hr := B.returns
  have hts := atoms_spec (ws := wsX1_monthAgrees) B.pre
  have hown : s.vm.findClass RX1 = some m.cls := findClass_of_methodNamed B.named
  have hlocks := B.notSynchronized
  have hS : va_S (gA G) s.heap s.heap [] := va_S.rf
  have hl := lv_entry ([.int (iv a), .int (iv D), .int (iv (P : Int))]) (n := 3) (Nat.le_of_ble_eq_true rfl)
  have hfr : entryFrame m args 3 = entryFrame m ([.int (iv a), .int (iv D), .int (iv (P : Int))] : List Value).toArray 3 := by rw [hav]
  rw [hfr, lg_entry_eq]
  generalize (lg_sl ([.int (iv a), .int (iv D), .int (iv (P : Int))]) ++ List.replicate (3 - (lg_sl ([.int (iv a), .int (iv D), .int (iv (P : Int))])).length) Slot.unset).toArray = ls at hl ⊢
  have hl : lv_has ls 3 [(0, .int (iv a)), (1, .int (iv D)), (2, .int (iv (P : Int)))] := hl
  generalize hQ : MQ below _ args s 0 0 (gA G) = Q
  show W p l e rm_c_X1_monthAgrees s m args below meth c s.heap [] 0 0 Q (F0 m 0 ls [])
  obtain ⟨H, hHe⟩ : ∃ H, H = s.heap := ⟨_, rfl⟩
  obtain ⟨locs, hlo⟩ : ∃ q : List Loc, q = [] := ⟨_, rfl⟩
  have hH : gP G μ n H := by rw [hHe]; exact hH
  have hS : va_S (gA G) s.heap H locs := by rw [hHe, hlo]; exact hS
  suffices hgo : W p l e rm_c_X1_monthAgrees s m args below meth c H locs 0 0 Q (F0 m 0 ls []) by rw [hHe, hlo] at hgo; exact hgo
  clear hHe hlo hfr hav
  refine lv_iload_n hx hb dX1_monthAgrees_0 rfl (lv_at hl 0 rfl) ?_
  refine lv_iload_n hx hb dX1_monthAgrees_1 rfl (lv_at hl 1 rfl) ?_
  refine m_callSi (As := [.int (iv D)]) (rest := [.int (iv a)]) ⟨hx, hb, hml, hown, hts⟩ hK hH hS (c_X1_month l G μ n D (by omega)) (va_cwS 1 hts gX1_monthAgrees_X1_month rfl rfl rfl (by decide +kernel) ⟨(Nat.le_of_ble_eq_true rfl), (Nat.le_of_ble_eq_true rfl)⟩) rfl rfl hl.1 (Nat.le_of_ble_eq_true rfl) dX1_monthAgrees_2 ⟨Nat.zero_le _, Nat.zero_le _⟩ (fun z4 μ1 n2 H locs hz4 hp3 hH hS => ?_)
  obtain ⟨hz2, hm2, hn2⟩ := hp3; rw [hz2]; rw [hm2, hn2] at hH; clear hz2 hm2 hn2
  refine lv_iload_n hx hb dX1_monthAgrees_5 rfl (lv_at hl 2 rfl) ?_
  refine j_const hx hb dX1_monthAgrees_6 ?_
  refine j_ishr (v := ((P / 4 : Nat) : Int)) hx hb dX1_monthAgrees_7 (bit_shr2 P hP) ?_
  refine m_callSi (As := [.int (iv a), .int (iv (D / 100 % 100)), .int (iv ((P / 4 : Nat) : Int))]) (rest := []) ⟨hx, hb, hml, hown, hts⟩ hK hH hS (c_X1_pairAgrees l G μ n a (D / 100 % 100) (P / 4) (by omega) (by omega) (by omega)) (va_cwS 3 hts gX1_monthAgrees_X1_pairAgrees rfl rfl rfl (by decide +kernel) ⟨(Nat.le_of_ble_eq_true rfl), (Nat.le_of_ble_eq_true rfl)⟩) rfl rfl hl.1 (Nat.le_of_ble_eq_true rfl) dX1_monthAgrees_8 ⟨Nat.zero_le _, Nat.zero_le _⟩ (fun z8 μ5 n6 H locs hz8 hp7 hH hS => ?_)
  obtain ⟨hz2, hm2, hn2⟩ := hp7; rw [hz2]; rw [hm2, hn2] at hH; clear hz2 hm2 hn2
  have hpr := pag_rng a (D / 100 % 100) (P / 4)
  subst hQ
  refine m_zret hx hb hr hlocks hH hS dX1_monthAgrees_11 ?_ (by omega)
  exact ⟨rfl, rfl, rfl⟩

abbrev rm_c_X1_yearAgrees : Room := { frames := 1, cells := 0, slots := 0, locals := 22 }
set_option maxHeartbeats 4000000 in
set_option maxRecDepth 100000 in
theorem c_X1_yearAgrees (l : Launch) (G : wG) (μ : hM) (n : Nat) (a D : Int) (P : Nat) (ha : 0 ≤ a ∧ a ≤ 1000) (hD : 0 ≤ D ∧ D ≤ 999999) (hP : P < 64) : Met l yX1_yearAgrees wsX1_yearAgrees rm_c_X1_yearAgrees (mPc G μ n [.int (iv a), .int (iv D), .int (iv (P : Int))]) (mQi G (fun z μ1 n1 => z = pag a (D % 100) (P / 16) ∧ μ1 = μ ∧ n1 = n)) 0 0 (gA G) := by
  refine Met.ofW (cc := cX1_yearAgrees) (maxL := 3) (ret := (some .boolean)) (by decide) rfl ?_
  intro p e s m args below meth c s₁ B hml hv
  obtain ⟨hav, hK, hH⟩ := hv
  have hx := B.exec
  have hb := B.bytes
  have hr := B.returns
  have hts := atoms_spec (ws := wsX1_yearAgrees) B.pre
  have hown : s.vm.findClass RX1 = some m.cls := findClass_of_methodNamed B.named
  have hlocks := B.notSynchronized
  have hS : va_S (gA G) s.heap s.heap [] := va_S.rf
  have hl := lv_entry ([.int (iv a), .int (iv D), .int (iv (P : Int))]) (n := 3) (Nat.le_of_ble_eq_true rfl)
  have hfr : entryFrame m args 3 = entryFrame m ([.int (iv a), .int (iv D), .int (iv (P : Int))] : List Value).toArray 3 := by rw [hav]
  rw [hfr, lg_entry_eq]
  generalize (lg_sl ([.int (iv a), .int (iv D), .int (iv (P : Int))]) ++ List.replicate (3 - (lg_sl ([.int (iv a), .int (iv D), .int (iv (P : Int))])).length) Slot.unset).toArray = ls at hl ⊢
  have hl : lv_has ls 3 [(0, .int (iv a)), (1, .int (iv D)), (2, .int (iv (P : Int)))] := hl
  generalize hQ : MQ below _ args s 0 0 (gA G) = Q
  show W p l e rm_c_X1_yearAgrees s m args below meth c s.heap [] 0 0 Q (F0 m 0 ls [])
  obtain ⟨H, hHe⟩ : ∃ H, H = s.heap := ⟨_, rfl⟩
  obtain ⟨locs, hlo⟩ : ∃ q : List Loc, q = [] := ⟨_, rfl⟩
  have hH : gP G μ n H := by rw [hHe]; exact hH
  have hS : va_S (gA G) s.heap H locs := by rw [hHe, hlo]; exact hS
  suffices hgo : W p l e rm_c_X1_yearAgrees s m args below meth c H locs 0 0 Q (F0 m 0 ls []) by rw [hHe, hlo] at hgo; exact hgo
  clear hHe hlo hfr hav
  refine lv_iload_n hx hb dX1_yearAgrees_0 rfl (lv_at hl 0 rfl) ?_
  refine lv_iload_n hx hb dX1_yearAgrees_1 rfl (lv_at hl 1 rfl) ?_
  refine m_callSi (As := [.int (iv D)]) (rest := [.int (iv a)]) ⟨hx, hb, hml, hown, hts⟩ hK hH hS (c_X1_year l G μ n D (by omega)) (va_cwS 1 hts gX1_yearAgrees_X1_year rfl rfl rfl (by decide +kernel) ⟨(Nat.le_of_ble_eq_true rfl), (Nat.le_of_ble_eq_true rfl)⟩) rfl rfl hl.1 (Nat.le_of_ble_eq_true rfl) dX1_yearAgrees_2 ⟨Nat.zero_le _, Nat.zero_le _⟩ (fun z4 μ1 n2 H locs hz4 hp3 hH hS => ?_)
  obtain ⟨hz2, hm2, hn2⟩ := hp3; rw [hz2]; rw [hm2, hn2] at hH; clear hz2 hm2 hn2
  refine lv_iload_n hx hb dX1_yearAgrees_5 rfl (lv_at hl 2 rfl) ?_
  refine j_const hx hb dX1_yearAgrees_6 ?_
  refine j_ishr (v := ((P / 16 : Nat) : Int)) hx hb dX1_yearAgrees_7 (bit_shr4 P hP) ?_
  refine m_callSi (As := [.int (iv a), .int (iv (D % 100)), .int (iv ((P / 16 : Nat) : Int))]) (rest := []) ⟨hx, hb, hml, hown, hts⟩ hK hH hS (c_X1_pairAgrees l G μ n a (D % 100) (P / 16) (by omega) (by omega) (by omega)) (va_cwS 3 hts gX1_yearAgrees_X1_pairAgrees rfl rfl rfl (by decide +kernel) ⟨(Nat.le_of_ble_eq_true rfl), (Nat.le_of_ble_eq_true rfl)⟩) rfl rfl hl.1 (Nat.le_of_ble_eq_true rfl) dX1_yearAgrees_8 ⟨Nat.zero_le _, Nat.zero_le _⟩ (fun z8 μ5 n6 H locs hz8 hp7 hH hS => ?_)
  obtain ⟨hz2, hm2, hn2⟩ := hp7; rw [hz2]; rw [hm2, hn2] at hH; clear hz2 hm2 hn2
  have hpr := pag_rng a (D % 100) (P / 16)
  subst hQ
  refine m_zret hx hb hr hlocks hH hS dX1_yearAgrees_11 ?_ (by omega)
  exact ⟨rfl, rfl, rfl⟩
