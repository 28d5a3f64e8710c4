abbrev rm_c_X9_in : Room := { frames := 0, cells := 0, slots := 0, locals := 0 }
set_option maxHeartbeats 4000000 in
set_option maxRecDepth 100000 in
theorem c_X9_in (l : Launch) (G : wG) (μ : hM) (n : Nat) (v a b : Int) (hv1 : -2147483648 ≤ v ∧ v ≤ 2147483647) (ha1 : -2147483648 ≤ a ∧ a ≤ 2147483647) (hb1 : -2147483648 ≤ b ∧ b ≤ 2147483647) : Met l yX9_in wsX9_in rm_c_X9_in (mPc G μ n [.int (iv v), .int (iv a), .int (iv b)]) (mQi G (fun z μ1 n1 => z = (if a ≤ v ∧ v ≤ b then 1 else 0) ∧ μ1 = μ ∧ n1 = n)) 0 0 (gA G) := by
  refine Met.ofW (cc := cX9_in) (maxL := 3) (ret := (some .boolean)) (by decide) rfl ?_
  intro p e s m args below meth c s₁ B hml hv
  obtain ⟨hav, hK, hH⟩ := hv
  have hx := B.exec
  have hb := B.bytes
  have hr := B.returns
  have hts := atoms_spec (ws := wsX9_in) B.pre
  have hown : s.vm.findClass RX9 = some m.cls := findClass_of_methodNamed B.named
  have hlocks := B.notSynchronized
  have hS : va_S (gA G) s.heap s.heap [] := va_S.rf
  have hl := lv_entry ([.int (iv v), .int (iv a), .int (iv b)]) (n := 3) (Nat.le_of_ble_eq_true rfl)
  have hfr : entryFrame m args 3 = entryFrame m ([.int (iv v), .int (iv a), .int (iv b)] : List Value).toArray 3 := by rw [hav]
  rw [hfr, lg_entry_eq]
  generalize (lg_sl ([.int (iv v), .int (iv a), .int (iv b)]) ++ List.replicate (3 - (lg_sl ([.int (iv v), .int (iv a), .int (iv b)])).length) Slot.unset).toArray = ls at hl ⊢
  have hl : lv_has ls 3 [(0, .int (iv v)), (1, .int (iv a)), (2, .int (iv b))] := hl
  generalize hQ : MQ below _ args s 0 0 (gA G) = Q
  show W p l e rm_c_X9_in s m args below meth c s.heap [] 0 0 Q (F0 m 0 ls [])
  obtain ⟨H, hHe⟩ : ∃ H, H = s.heap := ⟨_, rfl⟩
  obtain ⟨locs, hlo⟩ : ∃ q : List Loc, q = [] := ⟨_, rfl⟩
  have hH : gP G μ n H := by rw [hHe]; exact hH
  have hS : va_S (gA G) s.heap H locs := by rw [hHe, hlo]; exact hS
  suffices hgo : W p l e rm_c_X9_in s m args below meth c H locs 0 0 Q (F0 m 0 ls []) by rw [hHe, hlo] at hgo; exact hgo
  clear hHe hlo hfr hav
  refine lv_iload_n hx hb dX9_in_0 rfl (lv_at hl 0 rfl) ?_
  refine lv_iload_n hx hb dX9_in_1 rfl (lv_at hl 1 rfl) ?_
  refine j_icmp_lt (tgt := 14) hx hb dX9_in_2 (by decide) (fun c1 => ?_) (fun c1 => ?_) (by omega) (by omega)
  · skip
    refine j_const hx hb dX9_in_14 ?_
    subst hQ
    refine m_zret hx hb hr hlocks hH hS dX9_in_15 ?_ (by omega)
    refine ⟨?_, rfl, rfl⟩
    split <;> omega
  · skip
    refine lv_iload_n hx hb dX9_in_5 rfl (lv_at hl 0 rfl) ?_
    refine lv_iload_n hx hb dX9_in_6 rfl (lv_at hl 2 rfl) ?_
    refine j_icmp_gt (tgt := 14) hx hb dX9_in_7 (by decide) (fun c2 => ?_) (fun c2 => ?_) (by omega) (by omega)
    · skip
      refine j_const hx hb dX9_in_14 ?_
      subst hQ
      refine m_zret hx hb hr hlocks hH hS dX9_in_15 ?_ (by omega)
      refine ⟨?_, rfl, rfl⟩
      split <;> omega
    · skip
      refine j_const hx hb dX9_in_10 ?_
      refine lv_goto (tgt := 15) hx hb dX9_in_11 (by decide) ?_
      subst hQ
      refine m_zret hx hb hr hlocks hH hS dX9_in_15 ?_ (by omega)
      refine ⟨?_, rfl, rfl⟩
      split <;> omega

abbrev rm_c_X9_least : Room := { frames := 0, cells := 0, slots := 0, locals := 0 }
set_option maxHeartbeats 4000000 in
set_option maxRecDepth 100000 in
theorem c_X9_least (l : Launch) (G : wG) (μ : hM) (n : Nat) (a b : Int) (ha1 : -2147483648 ≤ a ∧ a ≤ 2147483647) (hb1 : -2147483648 ≤ b ∧ b ≤ 2147483647) : Met l yX9_least wsX9_least rm_c_X9_least (mPc G μ n [.int (iv a), .int (iv b)]) (mQi G (fun z μ1 n1 => z = min a b ∧ μ1 = μ ∧ n1 = n)) 0 0 (gA G) := by
  refine Met.ofW (cc := cX9_least) (maxL := 2) (ret := (some .int)) (by decide) rfl ?_
  intro p e s m args below meth c s₁ B hml hv
  obtain ⟨hav, hK, hH⟩ := hv
  have hx := B.exec
  have hb := B.bytes
  have hr := B.returns
  have hts := atoms_spec (ws := wsX9_least) B.pre
  have hown : s.vm.findClass RX9 = some m.cls := findClass_of_methodNamed B.named
  have hlocks := B.notSynchronized
  have hS : va_S (gA G) s.heap s.heap [] := va_S.rf
  have hl := lv_entry ([.int (iv a), .int (iv b)]) (n := 2) (Nat.le_of_ble_eq_true rfl)
  have hfr : entryFrame m args 2 = entryFrame m ([.int (iv a), .int (iv b)] : List Value).toArray 2 := by rw [hav]
  rw [hfr, lg_entry_eq]
  generalize (lg_sl ([.int (iv a), .int (iv b)]) ++ List.replicate (2 - (lg_sl ([.int (iv a), .int (iv b)])).length) Slot.unset).toArray = ls at hl ⊢
  have hl : lv_has ls 2 [(0, .int (iv a)), (1, .int (iv b))] := hl
  generalize hQ : MQ below _ args s 0 0 (gA G) = Q
  show W p l e rm_c_X9_least s m args below meth c s.heap [] 0 0 Q (F0 m 0 ls [])
  obtain ⟨H, hHe⟩ : ∃ H, H = s.heap := ⟨_, rfl⟩
  obtain ⟨locs, hlo⟩ : ∃ q : List Loc, q = [] := ⟨_, rfl⟩
  have hH : gP G μ n H := by rw [hHe]; exact hH
  have hS : va_S (gA G) s.heap H locs := by rw [hHe, hlo]; exact hS
  suffices hgo : W p l e rm_c_X9_least s m args below meth c H locs 0 0 Q (F0 m 0 ls []) by rw [hHe, hlo] at hgo; exact hgo
  clear hHe hlo hfr hav
  refine lv_iload_n hx hb dX9_least_0 rfl (lv_at hl 0 rfl) ?_
  refine lv_iload_n hx hb dX9_least_1 rfl (lv_at hl 1 rfl) ?_
  refine j_icmp_ge (tgt := 9) hx hb dX9_least_2 (by decide) (fun c1 => ?_) (fun c1 => ?_) (by omega) (by omega)
  · skip
    refine lv_iload_n hx hb dX9_least_9 rfl (lv_at hl 1 rfl) ?_
    subst hQ
    refine m_iret hx hb hr hlocks hH hS dX9_least_10 ?_ (by omega)
    refine ⟨?_, rfl, rfl⟩
    omega
  · skip
    refine lv_iload_n hx hb dX9_least_5 rfl (lv_at hl 0 rfl) ?_
    refine lv_goto (tgt := 10) hx hb dX9_least_6 (by decide) ?_
    subst hQ
    refine m_iret hx hb hr hlocks hH hS dX9_least_10 ?_ (by omega)
    refine ⟨?_, rfl, rfl⟩
    omega

abbrev rm_c_X9_of : Room := { frames := 0, cells := 0, slots := 0, locals := 0 }
set_option maxHeartbeats 4000000 in
set_option maxRecDepth 100000 in
theorem c_X9_of (l : Launch) (G : wG) (μ : hM) (n : Nat) (a b : Int) (ha1 : -1000 ≤ a ∧ a ≤ 1000) (hb1 : -1000 ≤ b ∧ b ≤ 1000) : Met l yX9_of wsX9_of rm_c_X9_of (mPc G μ n [.int (iv a), .int (iv b)]) (mQi G (fun z μ1 n1 => z = 85 + 13 * a + b ∧ μ1 = μ ∧ n1 = n)) 0 0 (gA G) := by
  refine Met.ofW (cc := cX9_of) (maxL := 2) (ret := (some .int)) (by decide) rfl ?_
  intro p e s m args below meth c s₁ B hml hv
  obtain ⟨hav, hK, hH⟩ := hv
  have hx := B.exec
  have hb := B.bytes
  have hr := B.returns
  have hts := atoms_spec (ws := wsX9_of) B.pre
  have hown : s.vm.findClass RX9 = some m.cls := findClass_of_methodNamed B.named
  have hlocks := B.notSynchronized
  have hS : va_S (gA G) s.heap s.heap [] := va_S.rf
  have hl := lv_entry ([.int (iv a), .int (iv b)]) (n := 2) (Nat.le_of_ble_eq_true rfl)
  have hfr : entryFrame m args 2 = entryFrame m ([.int (iv a), .int (iv b)] : List Value).toArray 2 := by rw [hav]
  rw [hfr, lg_entry_eq]
  generalize (lg_sl ([.int (iv a), .int (iv b)]) ++ List.replicate (2 - (lg_sl ([.int (iv a), .int (iv b)])).length) Slot.unset).toArray = ls at hl ⊢
  have hl : lv_has ls 2 [(0, .int (iv a)), (1, .int (iv b))] := hl
  generalize hQ : MQ below _ args s 0 0 (gA G) = Q
  show W p l e rm_c_X9_of s m args below meth c s.heap [] 0 0 Q (F0 m 0 ls [])
  obtain ⟨H, hHe⟩ : ∃ H, H = s.heap := ⟨_, rfl⟩
  obtain ⟨locs, hlo⟩ : ∃ q : List Loc, q = [] := ⟨_, rfl⟩
  have hH : gP G μ n H := by rw [hHe]; exact hH
  have hS : va_S (gA G) s.heap H locs := by rw [hHe, hlo]; exact hS
  suffices hgo : W p l e rm_c_X9_of s m args below meth c H locs 0 0 Q (F0 m 0 ls []) by rw [hHe, hlo] at hgo; exact hgo
  clear hHe hlo hfr hav
  refine j_bipush hx hb dX9_of_0 ?_ (by decide)
  refine j_bipush hx hb dX9_of_2 ?_ (by decide)
  refine lv_iload_n hx hb dX9_of_4 rfl (lv_at hl 0 rfl) ?_
  refine j_imul hx hb dX9_of_5 ?_
  refine j_iadd hx hb dX9_of_6 ?_
  refine lv_iload_n hx hb dX9_of_7 rfl (lv_at hl 1 rfl) ?_
  refine j_iadd hx hb dX9_of_8 ?_
  subst hQ
  refine m_iret hx hb hr hlocks hH hS dX9_of_9 ?_ (by omega)
  exact ⟨rfl, rfl, rfl⟩

abbrev rm_c_X9_isPlace : Room := { frames := 1, cells := 0, slots := 0, locals := 22 }
set_option maxHeartbeats 4000000 in
set_option maxRecDepth 100000 in
theorem c_X9_isPlace (l : Launch) (G : wG) (μ : hM) (n : Nat) (v : Int) (hv1 : -2147483648 ≤ v ∧ v ≤ 2147483647) : Met l yX9_isPlace wsX9_isPlace rm_c_X9_isPlace (mPc G μ n [.int (iv v)]) (mQi G (fun z μ1 n1 => z = (if 0 ≤ v ∧ v ≤ 5 then 1 else 0) ∧ μ1 = μ ∧ n1 = n)) 0 0 (gA G) := by
  refine Met.ofW (cc := cX9_isPlace) (maxL := 1) (ret := (some .boolean)) (by decide) rfl ?_
  intro p e s m args below meth c s₁ B hml hv
  obtain ⟨hav, hK, hH⟩ := hv
  have hx := B.exec
  have hb := B.bytes
  have hr := B.returns
  have hts := atoms_spec (ws := wsX9_isPlace) B.pre
  have hown : s.vm.findClass RX9 = some m.cls := findClass_of_methodNamed B.named
  have hlocks := B.notSynchronized
  have hS : va_S (gA G) s.heap s.heap [] := va_S.rf
  have hl := lv_entry ([.int (iv v)]) (n := 1) (Nat.le_of_ble_eq_true rfl)
  have hfr : entryFrame m args 1 = entryFrame m ([.int (iv v)] : List Value).toArray 1 := by rw [hav]
  rw [hfr, lg_entry_eq]
  generalize (lg_sl ([.int (iv v)]) ++ List.replicate (1 - (lg_sl ([.int (iv v)])).length) Slot.unset).toArray = ls at hl ⊢
  have hl : lv_has ls 1 [(0, .int (iv v))] := hl
  generalize hQ : MQ below _ args s 0 0 (gA G) = Q
  show W p l e rm_c_X9_isPlace s m args below meth c s.heap [] 0 0 Q (F0 m 0 ls [])
  obtain ⟨H, hHe⟩ : ∃ H, H = s.heap := ⟨_, rfl⟩
  obtain ⟨locs, hlo⟩ : ∃ q : List Loc, q = [] := ⟨_, rfl⟩
  have hH : gP G μ n H := by rw [hHe]; exact hH
  have hS : va_S (gA G) s.heap H locs := by rw [hHe, hlo]; exact hS
  suffices hgo : W p l e rm_c_X9_isPlace s m args below meth c H locs 0 0 Q (F0 m 0 ls []) by rw [hHe, hlo] at hgo; exact hgo
  clear hHe hlo hfr hav
  refine lv_iload_n hx hb dX9_isPlace_0 rfl (lv_at hl 0 rfl) ?_
  refine j_const hx hb dX9_isPlace_1 ?_
  refine j_const hx hb dX9_isPlace_2 ?_
  refine m_callSi (As := [.int (iv v), .int (iv 0), .int (iv 5)]) (rest := []) ⟨hx, hb, hml, hown, hts⟩ hK hH hS (c_X9_in l G μ n v 0 5 (by omega) (by omega) (by omega)) (va_cwS 3 hts gX9_isPlace_X9_in rfl rfl rfl (by decide +kernel) ⟨(Nat.le_of_ble_eq_true rfl), (Nat.le_of_ble_eq_true rfl)⟩) rfl rfl hl.1 (Nat.le_of_ble_eq_true rfl) dX9_isPlace_3 ⟨Nat.zero_le _, Nat.zero_le _⟩ (fun z4 μ1 n2 H locs hz4 hp3 hH hS => ?_)
  obtain ⟨hz9, hm9, hn9⟩ := hp3
  rw [hm9, hn9] at hH
  have hz4c : (z4 = 1 ∧ (0 ≤ v ∧ v ≤ 5)) ∨ (z4 = 0 ∧ ¬ (0 ≤ v ∧ v ≤ 5)) := by
    by_cases q9 : 0 ≤ v ∧ v ≤ 5
    · rw [if_pos q9] at hz9; exact Or.inl ⟨hz9, q9⟩
    · rw [if_neg q9] at hz9; exact Or.inr ⟨hz9, q9⟩
  clear hz9 hm9 hn9
  subst hQ
  refine m_zret hx hb hr hlocks hH hS dX9_isPlace_6 ?_ (by omega)
  refine ⟨?_, rfl, rfl⟩
  split <;> omega

abbrev rm_c_X9_isDay : Room := { frames := 1, cells := 0, slots := 0, locals := 22 }
set_option maxHeartbeats 4000000 in
set_option maxRecDepth 100000 in
theorem c_X9_isDay (l : Launch) (G : wG) (μ : hM) (n : Nat) (v : Int) (hv1 : -2147483648 ≤ v ∧ v ≤ 2147483647) : Met l yX9_isDay wsX9_isDay rm_c_X9_isDay (mPc G μ n [.int (iv v)]) (mQi G (fun z μ1 n1 => z = (if 0 ≤ v ∧ v ≤ 36524 then 1 else 0) ∧ μ1 = μ ∧ n1 = n)) 0 0 (gA G) := by
  refine Met.ofW (cc := cX9_isDay) (maxL := 1) (ret := (some .boolean)) (by decide) rfl ?_
  intro p e s m args below meth c s₁ B hml hv
  obtain ⟨hav, hK, hH⟩ := hv
  have hx := B.exec
  have hb := B.bytes
  have hr := B.returns
  have hts := atoms_spec (ws := wsX9_isDay) B.pre
  have hown : s.vm.findClass RX9 = some m.cls := findClass_of_methodNamed B.named
  have hlocks := B.notSynchronized
  have hS : va_S (gA G) s.heap s.heap [] := va_S.rf
  have hl := lv_entry ([.int (iv v)]) (n := 1) (Nat.le_of_ble_eq_true rfl)
  have hfr : entryFrame m args 1 = entryFrame m ([.int (iv v)] : List Value).toArray 1 := by rw [hav]
  rw [hfr, lg_entry_eq]
  generalize (lg_sl ([.int (iv v)]) ++ List.replicate (1 - (lg_sl ([.int (iv v)])).length) Slot.unset).toArray = ls at hl ⊢
  have hl : lv_has ls 1 [(0, .int (iv v))] := hl
  generalize hQ : MQ below _ args s 0 0 (gA G) = Q
  show W p l e rm_c_X9_isDay s m args below meth c s.heap [] 0 0 Q (F0 m 0 ls [])
  obtain ⟨H, hHe⟩ : ∃ H, H = s.heap := ⟨_, rfl⟩
  obtain ⟨locs, hlo⟩ : ∃ q : List Loc, q = [] := ⟨_, rfl⟩
  have hH : gP G μ n H := by rw [hHe]; exact hH
  have hS : va_S (gA G) s.heap H locs := by rw [hHe, hlo]; exact hS
  suffices hgo : W p l e rm_c_X9_isDay s m args below meth c H locs 0 0 Q (F0 m 0 ls []) by rw [hHe, hlo] at hgo; exact hgo
  clear hHe hlo hfr hav
  have f_0 := hts (.constant RX9 36 (36524)) (List.mem_of_getElem? (i := 1) rfl)
  refine lv_iload_n hx hb dX9_isDay_0 rfl (lv_at hl 0 rfl) ?_
  refine j_const hx hb dX9_isDay_1 ?_
  refine j_ldc hx hb (36524) hown f_0 dX9_isDay_2 ?_ (by decide)
  refine m_callSi (As := [.int (iv v), .int (iv 0), .int (iv 36524)]) (rest := []) ⟨hx, hb, hml, hown, hts⟩ hK hH hS (c_X9_in l G μ n v 0 36524 (by omega) (by omega) (by omega)) (va_cwS 3 hts gX9_isDay_X9_in rfl rfl rfl (by decide +kernel) ⟨(Nat.le_of_ble_eq_true rfl), (Nat.le_of_ble_eq_true rfl)⟩) rfl rfl hl.1 (Nat.le_of_ble_eq_true rfl) dX9_isDay_4 ⟨Nat.zero_le _, Nat.zero_le _⟩ (fun z4 μ1 n2 H locs hz4 hp3 hH hS => ?_)
  obtain ⟨hz9, hm9, hn9⟩ := hp3
  rw [hm9, hn9] at hH
  have hz4c : (z4 = 1 ∧ (0 ≤ v ∧ v ≤ 36524)) ∨ (z4 = 0 ∧ ¬ (0 ≤ v ∧ v ≤ 36524)) := by
    by_cases q9 : 0 ≤ v ∧ v ≤ 36524
    · rw [if_pos q9] at hz9; exact Or.inl ⟨hz9, q9⟩
    · rw [if_neg q9] at hz9; exact Or.inr ⟨hz9, q9⟩
  clear hz9 hm9 hn9
  subst hQ
  refine m_zret hx hb hr hlocks hH hS dX9_isDay_7 ?_ (by omega)
  refine ⟨?_, rfl, rfl⟩
  split <;> omega

abbrev rm_c_X9_arePresses : Room := { frames := 1, cells := 0, slots := 0, locals := 22 }
set_option maxHeartbeats 4000000 in
set_option maxRecDepth 100000 in
theorem c_X9_arePresses (l : Launch) (G : wG) (μ : hM) (n : Nat) (k t : Int) (hv1 : -2147483648 ≤ k ∧ k ≤ 2147483647) (hv2 : -2147483648 ≤ t ∧ t ≤ 2147483647) : Met l yX9_arePresses wsX9_arePresses rm_c_X9_arePresses (mPc G μ n [.int (iv k), .int (iv t)]) (mQi G (fun z μ1 n1 => z = (if (1 ≤ k ∧ k ≤ 9) ∧ 1 ≤ t ∧ t ≤ 20 then 1 else 0) ∧ μ1 = μ ∧ n1 = n)) 0 0 (gA G) := by
  refine Met.ofW (cc := cX9_arePresses) (maxL := 2) (ret := (some .boolean)) (by decide) rfl ?_
  intro p e s m args below meth c s₁ B hml hv
  obtain ⟨hav, hK, hH⟩ := hv
  have hx := B.exec
  have hb := B.bytes
  have hr := B.returns
  have hts := atoms_spec (ws := wsX9_arePresses) B.pre
  have hown : s.vm.findClass RX9 = some m.cls := findClass_of_methodNamed B.named
  have hlocks := B.notSynchronized
  have hS : va_S (gA G) s.heap s.heap [] := va_S.rf
  have hl := lv_entry ([.int (iv k), .int (iv t)]) (n := 2) (Nat.le_of_ble_eq_true rfl)
  have hfr : entryFrame m args 2 = entryFrame m ([.int (iv k), .int (iv t)] : List Value).toArray 2 := by rw [hav]
  rw [hfr, lg_entry_eq]
  generalize (lg_sl ([.int (iv k), .int (iv t)]) ++ List.replicate (2 - (lg_sl ([.int (iv k), .int (iv t)])).length) Slot.unset).toArray = ls at hl ⊢
  have hl : lv_has ls 2 [(0, .int (iv k)), (1, .int (iv t))] := hl
  generalize hQ : MQ below _ args s 0 0 (gA G) = Q
  show W p l e rm_c_X9_arePresses s m args below meth c s.heap [] 0 0 Q (F0 m 0 ls [])
  obtain ⟨H, hHe⟩ : ∃ H, H = s.heap := ⟨_, rfl⟩
  obtain ⟨locs, hlo⟩ : ∃ q : List Loc, q = [] := ⟨_, rfl⟩
  have hH : gP G μ n H := by rw [hHe]; exact hH
  have hS : va_S (gA G) s.heap H locs := by rw [hHe, hlo]; exact hS
  suffices hgo : W p l e rm_c_X9_arePresses s m args below meth c H locs 0 0 Q (F0 m 0 ls []) by rw [hHe, hlo] at hgo; exact hgo
  clear hHe hlo hfr hav
  refine lv_iload_n hx hb dX9_arePresses_0 rfl (lv_at hl 0 rfl) ?_
  refine j_const hx hb dX9_arePresses_1 ?_
  refine j_bipush hx hb dX9_arePresses_2 ?_ (by decide)
  refine m_callSi (As := [.int (iv k), .int (iv 1), .int (iv 9)]) (rest := []) ⟨hx, hb, hml, hown, hts⟩ hK hH hS (c_X9_in l G μ n k 1 9 (by omega) (by omega) (by omega)) (va_cwS 3 hts gX9_arePresses_X9_in rfl rfl rfl (by decide +kernel) ⟨(Nat.le_of_ble_eq_true rfl), (Nat.le_of_ble_eq_true rfl)⟩) rfl rfl hl.1 (Nat.le_of_ble_eq_true rfl) dX9_arePresses_4 ⟨Nat.zero_le _, Nat.zero_le _⟩ (fun z4 μ1 n2 H locs hz4 hp3 hH hS => ?_)
  obtain ⟨hz9, hm9, hn9⟩ := hp3
  rw [hm9, hn9] at hH
  have hz4c : (z4 = 1 ∧ (1 ≤ k ∧ k ≤ 9)) ∨ (z4 = 0 ∧ ¬ (1 ≤ k ∧ k ≤ 9)) := by
    by_cases q9 : 1 ≤ k ∧ k ≤ 9
    · rw [if_pos q9] at hz9; exact Or.inl ⟨hz9, q9⟩
    · rw [if_neg q9] at hz9; exact Or.inr ⟨hz9, q9⟩
  clear hz9 hm9 hn9
  refine j_if_eq (tgt := 24) hx hb dX9_arePresses_7 (by decide) (fun c5 => ?_) (fun c5 => ?_) (by omega)
  · skip
    refine j_const hx hb dX9_arePresses_24 ?_
    subst hQ
    refine m_zret hx hb hr hlocks hH hS dX9_arePresses_25 ?_ (by omega)
    refine ⟨?_, rfl, rfl⟩
    split <;> omega
  · skip
    refine lv_iload_n hx hb dX9_arePresses_10 rfl (lv_at hl 1 rfl) ?_
    refine j_const hx hb dX9_arePresses_11 ?_
    refine j_bipush hx hb dX9_arePresses_12 ?_ (by decide)
    refine m_callSi (As := [.int (iv t), .int (iv 1), .int (iv 20)]) (rest := []) ⟨hx, hb, hml, hown, hts⟩ hK hH hS (c_X9_in l G μ n t 1 20 (by omega) (by omega) (by omega)) (va_cwS 3 hts gX9_arePresses_X9_in rfl rfl rfl (by decide +kernel) ⟨(Nat.le_of_ble_eq_true rfl), (Nat.le_of_ble_eq_true rfl)⟩) rfl rfl hl.1 (Nat.le_of_ble_eq_true rfl) dX9_arePresses_14 ⟨Nat.zero_le _, Nat.zero_le _⟩ (fun z9 μ6 n7 H locs hz9 hp8 hH hS => ?_)
    obtain ⟨hz9, hm9, hn9⟩ := hp8
    rw [hm9, hn9] at hH
    have hz9c : (z9 = 1 ∧ (1 ≤ t ∧ t ≤ 20)) ∨ (z9 = 0 ∧ ¬ (1 ≤ t ∧ t ≤ 20)) := by
      by_cases q9 : 1 ≤ t ∧ t ≤ 20
      · rw [if_pos q9] at hz9; exact Or.inl ⟨hz9, q9⟩
      · rw [if_neg q9] at hz9; exact Or.inr ⟨hz9, q9⟩
    clear hz9 hm9 hn9
    refine j_if_eq (tgt := 24) hx hb dX9_arePresses_17 (by decide) (fun c10 => ?_) (fun c10 => ?_) (by omega)
    · skip
      refine j_const hx hb dX9_arePresses_24 ?_
      subst hQ
      refine m_zret hx hb hr hlocks hH hS dX9_arePresses_25 ?_ (by omega)
      refine ⟨?_, rfl, rfl⟩
      split <;> omega
    · skip
      refine j_const hx hb dX9_arePresses_20 ?_
      refine lv_goto (tgt := 25) hx hb dX9_arePresses_21 (by decide) ?_
      subst hQ
      refine m_zret hx hb hr hlocks hH hS dX9_arePresses_25 ?_ (by omega)
      refine ⟨?_, rfl, rfl⟩
      split <;> omega

abbrev rm_c_X9_monthDays : Room := { frames := 0, cells := 0, slots := 0, locals := 0 }
set_option maxHeartbeats 4000000 in
set_option maxRecDepth 100000 in
theorem c_X9_monthDays (l : Launch) (G : wG) (μ : hM) (n : Nat) (k yv : Int) (hk : -1000 ≤ k ∧ k ≤ 1000) (hyv : 0 ≤ yv ∧ yv ≤ 1000) : Met l yX9_monthDays wsX9_monthDays rm_c_X9_monthDays (mPc G μ n [.int (iv k), .int (iv yv)]) (mQi G (fun z μ1 n1 => z = mlen k yv ∧ μ1 = μ ∧ n1 = n)) 0 0 (gA G) := by
  refine Met.ofW (cc := cX9_monthDays) (maxL := 2) (ret := (some .int)) (by decide) rfl ?_
  intro p e s m args below meth c s₁ B hml hv
  obtain ⟨hav, hK, hH⟩ := hv
  have hx := B.exec
  have hb := B.bytes
  have hr := B.returns
  have hts := atoms_spec (ws := wsX9_monthDays) B.pre
  have hown : s.vm.findClass RX9 = some m.cls := findClass_of_methodNamed B.named
  have hlocks := B.notSynchronized
  have hS : va_S (gA G) s.heap s.heap [] := va_S.rf
  have hl := lv_entry ([.int (iv k), .int (iv yv)]) (n := 2) (Nat.le_of_ble_eq_true rfl)
  have hfr : entryFrame m args 2 = entryFrame m ([.int (iv k), .int (iv yv)] : List Value).toArray 2 := by rw [hav]
  rw [hfr, lg_entry_eq]
  generalize (lg_sl ([.int (iv k), .int (iv yv)]) ++ List.replicate (2 - (lg_sl ([.int (iv k), .int (iv yv)])).length) Slot.unset).toArray = ls at hl ⊢
  have hl : lv_has ls 2 [(0, .int (iv k)), (1, .int (iv yv))] := hl
  generalize hQ : MQ below _ args s 0 0 (gA G) = Q
  show W p l e rm_c_X9_monthDays s m args below meth c s.heap [] 0 0 Q (F0 m 0 ls [])
  obtain ⟨H, hHe⟩ : ∃ H, H = s.heap := ⟨_, rfl⟩
  obtain ⟨locs, hlo⟩ : ∃ q : List Loc, q = [] := ⟨_, rfl⟩
  have hH : gP G μ n H := by rw [hHe]; exact hH
  have hS : va_S (gA G) s.heap H locs := by rw [hHe, hlo]; exact hS
  suffices hgo : W p l e rm_c_X9_monthDays s m args below meth c H locs 0 0 Q (F0 m 0 ls []) by rw [hHe, hlo] at hgo; exact hgo
  clear hHe hlo hfr hav
  refine lv_iload_n hx hb dX9_monthDays_0 rfl (lv_at hl 0 rfl) ?_
  refine j_const hx hb dX9_monthDays_1 ?_
  refine j_icmp_ne (tgt := 21) hx hb dX9_monthDays_2 (by decide) (fun c1 => ?_) (fun c1 => ?_) (by omega) (by omega)
  · skip
    refine lv_iload_n hx hb dX9_monthDays_21 rfl (lv_at hl 0 rfl) ?_
    refine j_const hx hb dX9_monthDays_22 ?_
    refine j_icmp_eq (tgt := 44) hx hb dX9_monthDays_23 (by decide) (fun c2 => ?_) (fun c2 => ?_) (by omega) (by omega)
    · skip
      refine j_bipush hx hb dX9_monthDays_44 ?_ (by decide)
      refine lv_goto (tgt := 51) hx hb dX9_monthDays_46 (by decide) ?_
      subst hQ
      refine m_iret hx hb hr hlocks hH hS dX9_monthDays_51 ?_ (by omega)
      refine ⟨?_, rfl, rfl⟩
      unfold mlen
      (repeat' split) <;> omega
    · skip
      refine lv_iload_n hx hb dX9_monthDays_26 rfl (lv_at hl 0 rfl) ?_
      refine j_bipush hx hb dX9_monthDays_27 ?_ (by decide)
      refine j_icmp_eq (tgt := 44) hx hb dX9_monthDays_29 (by decide) (fun c3 => ?_) (fun c3 => ?_) (by omega) (by omega)
      · skip
        refine j_bipush hx hb dX9_monthDays_44 ?_ (by decide)
        refine lv_goto (tgt := 51) hx hb dX9_monthDays_46 (by decide) ?_
        subst hQ
        refine m_iret hx hb hr hlocks hH hS dX9_monthDays_51 ?_ (by omega)
        refine ⟨?_, rfl, rfl⟩
        unfold mlen
        (repeat' split) <;> omega
      · skip
        refine lv_iload_n hx hb dX9_monthDays_32 rfl (lv_at hl 0 rfl) ?_
        refine j_bipush hx hb dX9_monthDays_33 ?_ (by decide)
        refine j_icmp_eq (tgt := 44) hx hb dX9_monthDays_35 (by decide) (fun c4 => ?_) (fun c4 => ?_) (by omega) (by omega)
        · skip
          refine j_bipush hx hb dX9_monthDays_44 ?_ (by decide)
          refine lv_goto (tgt := 51) hx hb dX9_monthDays_46 (by decide) ?_
          subst hQ
          refine m_iret hx hb hr hlocks hH hS dX9_monthDays_51 ?_ (by omega)
          refine ⟨?_, rfl, rfl⟩
          unfold mlen
          (repeat' split) <;> omega
        · skip
          refine lv_iload_n hx hb dX9_monthDays_38 rfl (lv_at hl 0 rfl) ?_
          refine j_bipush hx hb dX9_monthDays_39 ?_ (by decide)
          refine j_icmp_ne (tgt := 49) hx hb dX9_monthDays_41 (by decide) (fun c5 => ?_) (fun c5 => ?_) (by omega) (by omega)
          · skip
            refine j_bipush hx hb dX9_monthDays_49 ?_ (by decide)
            subst hQ
            refine m_iret hx hb hr hlocks hH hS dX9_monthDays_51 ?_ (by omega)
            refine ⟨?_, rfl, rfl⟩
            unfold mlen
            (repeat' split) <;> omega
          · skip
            refine j_bipush hx hb dX9_monthDays_44 ?_ (by decide)
            refine lv_goto (tgt := 51) hx hb dX9_monthDays_46 (by decide) ?_
            subst hQ
            refine m_iret hx hb hr hlocks hH hS dX9_monthDays_51 ?_ (by omega)
            refine ⟨?_, rfl, rfl⟩
            unfold mlen
            (repeat' split) <;> omega
  · skip
    refine lv_iload_n hx hb dX9_monthDays_5 rfl (lv_at hl 1 rfl) ?_
    refine j_const hx hb dX9_monthDays_6 ?_
    refine j_irem hx hb dX9_monthDays_7 ?_ (by omega) (by omega)
    refine j_if_ne (tgt := 16) hx hb dX9_monthDays_8 (by decide) (fun c6 => ?_) (fun c6 => ?_) (by omega)
    · skip
      refine j_bipush hx hb dX9_monthDays_16 ?_ (by decide)
      refine lv_goto (tgt := 51) hx hb dX9_monthDays_18 (by decide) ?_
      subst hQ
      refine m_iret hx hb hr hlocks hH hS dX9_monthDays_51 ?_ (by omega)
      refine ⟨?_, rfl, rfl⟩
      unfold mlen
      (repeat' split) <;> omega
    · skip
      refine j_bipush hx hb dX9_monthDays_11 ?_ (by decide)
      refine lv_goto (tgt := 51) hx hb dX9_monthDays_13 (by decide) ?_
      subst hQ
      refine m_iret hx hb hr hlocks hH hS dX9_monthDays_51 ?_ (by omega)
      refine ⟨?_, rfl, rfl⟩
      unfold mlen
      (repeat' split) <;> omega

abbrev rm_c_X9_yearStart : Room := { frames := 0, cells := 0, slots := 0, locals := 0 }
set_option maxHeartbeats 4000000 in
set_option maxRecDepth 100000 in
theorem c_X9_yearStart (l : Launch) (G : wG) (μ : hM) (n : Nat) (yv : Int) (hyv : 0 ≤ yv ∧ yv ≤ 1000) : Met l yX9_yearStart wsX9_yearStart rm_c_X9_yearStart (mPc G μ n [.int (iv yv)]) (mQi G (fun z μ1 n1 => z = ystart yv ∧ μ1 = μ ∧ n1 = n)) 0 0 (gA G) := by
  refine Met.ofW (cc := cX9_yearStart) (maxL := 1) (ret := (some .int)) (by decide) rfl ?_
  intro p e s m args below meth c s₁ B hml hv
  obtain ⟨hav, hK, hH⟩ := hv
  have hx := B.exec
  have hb := B.bytes
  have hr := B.returns
  have hts := atoms_spec (ws := wsX9_yearStart) B.pre
  have hown : s.vm.findClass RX9 = some m.cls := findClass_of_methodNamed B.named
  have hlocks := B.notSynchronized
  have hS : va_S (gA G) s.heap s.heap [] := va_S.rf
  have hl := lv_entry ([.int (iv yv)]) (n := 1) (Nat.le_of_ble_eq_true rfl)
  have hfr : entryFrame m args 1 = entryFrame m ([.int (iv yv)] : List Value).toArray 1 := by rw [hav]
  rw [hfr, lg_entry_eq]
  generalize (lg_sl ([.int (iv yv)]) ++ List.replicate (1 - (lg_sl ([.int (iv yv)])).length) Slot.unset).toArray = ls at hl ⊢
  have hl : lv_has ls 1 [(0, .int (iv yv))] := hl
  generalize hQ : MQ below _ args s 0 0 (gA G) = Q
  show W p l e rm_c_X9_yearStart s m args below meth c s.heap [] 0 0 Q (F0 m 0 ls [])
  obtain ⟨H, hHe⟩ : ∃ H, H = s.heap := ⟨_, rfl⟩
  obtain ⟨locs, hlo⟩ : ∃ q : List Loc, q = [] := ⟨_, rfl⟩
  have hH : gP G μ n H := by rw [hHe]; exact hH
  have hS : va_S (gA G) s.heap H locs := by rw [hHe, hlo]; exact hS
  suffices hgo : W p l e rm_c_X9_yearStart s m args below meth c H locs 0 0 Q (F0 m 0 ls []) by rw [hHe, hlo] at hgo; exact hgo
  clear hHe hlo hfr hav
  refine j_sipush hx hb dX9_yearStart_0 ?_ (by decide)
  refine lv_iload_n hx hb dX9_yearStart_3 rfl (lv_at hl 0 rfl) ?_
  refine j_imul hx hb dX9_yearStart_4 ?_
  refine lv_iload_n hx hb dX9_yearStart_5 rfl (lv_at hl 0 rfl) ?_
  refine j_const hx hb dX9_yearStart_6 ?_
  refine j_iadd hx hb dX9_yearStart_7 ?_
  refine j_const hx hb dX9_yearStart_8 ?_
  refine j_idiv hx hb dX9_yearStart_9 ?_ (by omega) (by omega)
  refine j_iadd hx hb dX9_yearStart_10 ?_
  subst hQ
  refine m_iret hx hb hr hlocks hH hS dX9_yearStart_11 ?_ (by omega)
  exact ⟨rfl, rfl, rfl⟩

abbrev rm_c_X9_digitsOf : Room := { frames := 1, cells := 0, slots := 0, locals := 21 }
set_option maxHeartbeats 4000000 in
set_option maxRecDepth 100000 in
theorem c_X9_digitsOf (l : Launch) (G : wG) (μ : hM) (n : Nat) (day : Int) (hd : 0 ≤ day ∧ day ≤ 36524) : Met l yX9_digitsOf wsX9_digitsOf rm_c_X9_digitsOf (mPc G μ n [.int (iv day)]) (mQi G (fun z μ1 n1 => z = dig day ∧ μ1 = μ ∧ n1 = n)) 0 0 (gA G) := by
  refine Met.ofW (cc := cX9_digitsOf) (maxL := 4) (ret := (some .int)) (by decide) rfl ?_
  intro p e s m args below meth c s₁ B hml hv
  obtain ⟨hav, hK, hH⟩ := hv
  have hx := B.exec
  have hb := B.bytes
  have hr := B.returns
  have hts := atoms_spec (ws := wsX9_digitsOf) B.pre
  have hown : s.vm.findClass RX9 = some m.cls := findClass_of_methodNamed B.named
  have hlocks := B.notSynchronized
  have hS : va_S (gA G) s.heap s.heap [] := va_S.rf
  have hl := lv_entry ([.int (iv day)]) (n := 4) (Nat.le_of_ble_eq_true rfl)
  have hfr : entryFrame m args 4 = entryFrame m ([.int (iv day)] : List Value).toArray 4 := by rw [hav]
  rw [hfr, lg_entry_eq]
  generalize (lg_sl ([.int (iv day)]) ++ List.replicate (4 - (lg_sl ([.int (iv day)])).length) Slot.unset).toArray = ls at hl ⊢
  have hl : lv_has ls 4 [(0, .int (iv day))] := hl
  generalize hQ : MQ below _ args s 0 0 (gA G) = Q
  show W p l e rm_c_X9_digitsOf s m args below meth c s.heap [] 0 0 Q (F0 m 0 ls [])
  obtain ⟨H, hHe⟩ : ∃ H, H = s.heap := ⟨_, rfl⟩
  obtain ⟨locs, hlo⟩ : ∃ q : List Loc, q = [] := ⟨_, rfl⟩
  have hH : gP G μ n H := by rw [hHe]; exact hH
  have hS : va_S (gA G) s.heap H locs := by rw [hHe, hlo]; exact hS
  suffices hgo : W p l e rm_c_X9_digitsOf s m args below meth c H locs 0 0 Q (F0 m 0 ls []) by rw [hHe, hlo] at hgo; exact hgo
  clear hHe hlo hfr hav
  refine lv_iload_n hx hb dX9_digitsOf_0 rfl (lv_at hl 0 rfl) ?_
  refine j_sipush hx hb dX9_digitsOf_1 ?_ (by decide)
  refine j_idiv hx hb dX9_digitsOf_4 ?_ (by omega) (by omega)
  refine lv_istore_n (lv' := [(1, .int (iv (day / 366))), (0, .int (iv day))]) hx hb dX9_digitsOf_5 rfl hl (by decide) rfl (fun ls hl => ?_)
  have lp6 : ∀ (fuel : Nat) (yv : Int) (hy0 : 0 ≤ yv ∧ yv ≤ 99) (hy1 : ystart yv ≤ day) (_ : (100 - yv).toNat < fuel) (H : Heap) (locs : List Loc) (ls : Array Slot) (_ : gP G μ n H) (_ : va_S (gA G) s.heap H locs) (_ : lv_has ls 4 [(0, .int (iv day)), (1, .int (iv yv))]), W p l e rm_c_X9_digitsOf s m args below meth c H locs 0 0 Q (F0 m 6 ls []) := by
    intro fuel
    induction fuel with
    | zero => intro _ _ _ hfuel; exact absurd hfuel (Nat.not_lt_zero _)
    | succ fuel ih =>
      intro yv hy0 hy1 hfuel H locs ls hH hS hl
      have ih1 := ih; clear ih
      refine lv_iload_n hx hb dX9_digitsOf_6 rfl (lv_at hl 1 rfl) ?_
      refine j_const hx hb dX9_digitsOf_7 ?_
      refine j_iadd hx hb dX9_digitsOf_8 ?_
      refine m_callSi (As := [.int (iv (yv + 1))]) (rest := []) ⟨hx, hb, hml, hown, hts⟩ hK hH hS (c_X9_yearStart l G μ n (yv + 1) (by omega)) (va_cwS 1 hts gX9_digitsOf_X9_yearStart rfl rfl rfl (by decide +kernel) ⟨(Nat.le_of_ble_eq_true rfl), (Nat.le_of_ble_eq_true rfl)⟩) rfl rfl hl.1 (Nat.le_of_ble_eq_true rfl) dX9_digitsOf_9 ⟨Nat.zero_le _, Nat.zero_le _⟩ (fun z5 μ2 n3 H locs hz5 hp4 hH hS => ?_)
      obtain ⟨hz2, hm2, hn2⟩ := hp4; rw [hz2]; rw [hm2, hn2] at hH; clear hz2 hm2 hn2
      have hys : 0 ≤ ystart (yv + 1) ∧ ystart (yv + 1) ≤ 40000 := by unfold ystart; omega
      refine lv_iload_n hx hb dX9_digitsOf_12 rfl (lv_at hl 0 rfl) ?_
      refine j_icmp_gt (tgt := 22) hx hb dX9_digitsOf_13 (by decide) (fun c6 => ?_) (fun c6 => ?_) (by omega) (by omega)
      · skip
        have hy2 : yv = yearOf day := (year_eq hy1 (by omega)).symm
        refine lv_iload_n hx hb dX9_digitsOf_22 rfl (lv_at hl 0 rfl) ?_
        refine lv_iload_n hx hb dX9_digitsOf_23 rfl (lv_at hl 1 rfl) ?_
        refine m_callSi (As := [.int (iv yv)]) (rest := [.int (iv day)]) ⟨hx, hb, hml, hown, hts⟩ hK hH hS (c_X9_yearStart l G μ n yv (by omega)) (va_cwS 1 hts gX9_digitsOf_X9_yearStart rfl rfl rfl (by decide +kernel) ⟨(Nat.le_of_ble_eq_true rfl), (Nat.le_of_ble_eq_true rfl)⟩) rfl rfl hl.1 (Nat.le_of_ble_eq_true rfl) dX9_digitsOf_24 ⟨Nat.zero_le _, Nat.zero_le _⟩ (fun z10 μ7 n8 H locs hz10 hp9 hH hS => ?_)
        obtain ⟨hz2, hm2, hn2⟩ := hp9; rw [hz2]; rw [hm2, hn2] at hH; clear hz2 hm2 hn2
        refine j_isub hx hb dX9_digitsOf_27 ?_
        refine j_top (fun rv hrv => ?_)
        have hr2 : rv = restOf day := by rw [hrv, hy2]; rfl
        have hr3 := restOf_rng day
        rw [← hr2, ← hy2] at hr3
        have hfb := feb_rng yv
        have hf2 : 28 ≤ feb yv ∧ feb yv ≤ 29 := by rw [hfb]; split <;> omega
        refine lv_istore_n (lv' := [(2, .int (iv rv)), (0, .int (iv day)), (1, .int (iv yv))]) hx hb dX9_digitsOf_28 rfl hl (by decide) rfl (fun ls hl => ?_)
        refine j_const hx hb dX9_digitsOf_29 ?_
        refine lv_istore_n (lv' := [(3, .int (iv 1)), (2, .int (iv rv)), (0, .int (iv day)), (1, .int (iv yv))]) hx hb dX9_digitsOf_30 rfl hl (by decide) rfl (fun ls hl => ?_)
        have lp31 : ∀ (fuel : Nat) (rr : Int) (mo : Int) (hmo : 1 ≤ mo ∧ mo ≤ 12) (hrr : rr = rv - cum mo yv) (hr0 : 0 ≤ rr) (_ : (12 - mo).toNat < fuel) (H : Heap) (locs : List Loc) (ls : Array Slot) (_ : gP G μ n H) (_ : va_S (gA G) s.heap H locs) (_ : lv_has ls 4 [(0, .int (iv day)), (1, .int (iv yv)), (2, .int (iv rr)), (3, .int (iv mo))]), W p l e rm_c_X9_digitsOf s m args below meth c H locs 0 0 Q (F0 m 31 ls []) := by
          intro fuel
          induction fuel with
          | zero => intro _ _ _ _ _ hfuel; exact absurd hfuel (Nat.not_lt_zero _)
          | succ fuel ih =>
            intro rr mo hmo hrr hr0 hfuel H locs ls hH hS hl
            have ih11 := ih; clear ih
            refine lv_iload_n hx hb dX9_digitsOf_31 rfl (lv_at hl 2 rfl) ?_
            refine lv_iload_n hx hb dX9_digitsOf_32 rfl (lv_at hl 3 rfl) ?_
            refine lv_iload_n hx hb dX9_digitsOf_33 rfl (lv_at hl 1 rfl) ?_
            refine m_callSi (As := [.int (iv mo), .int (iv yv)]) (rest := [.int (iv rr)]) ⟨hx, hb, hml, hown, hts⟩ hK hH hS (c_X9_monthDays l G μ n mo yv (by omega) (by omega)) (va_cwS 2 hts gX9_digitsOf_X9_monthDays rfl rfl rfl (by decide +kernel) ⟨(Nat.le_of_ble_eq_true rfl), (Nat.le_of_ble_eq_true rfl)⟩) rfl rfl hl.1 (Nat.le_of_ble_eq_true rfl) dX9_digitsOf_34 ⟨Nat.zero_le _, Nat.zero_le _⟩ (fun z15 μ12 n13 H locs hz15 hp14 hH hS => ?_)
            obtain ⟨hz2, hm2, hn2⟩ := hp14; rw [hz2]; rw [hm2, hn2] at hH; clear hz2 hm2 hn2
            have hmL := mlen_rng mo yv
            have hcm := cum13 hmo (y := yv)
            have h12 : mo = 12 → cum mo yv = feb yv + 306 ∧ mlen mo yv = 31 := by intro e; subst e; exact ⟨by simp [cum], by simp [mlen]⟩
            refine j_icmp_lt (tgt := 54) hx hb dX9_digitsOf_37 (by decide) (fun c16 => ?_) (fun c16 => ?_) (by omega) (by omega)
            · skip
              have hq := cum_mono (m := mo) (y := yv) (r := rv) hmo (by omega) (by omega) (Or.inr (by omega))
              refine j_sipush hx hb dX9_digitsOf_54 ?_ (by decide)
              refine lv_iload_n hx hb dX9_digitsOf_57 rfl (lv_at hl 2 rfl) ?_
              refine j_const hx hb dX9_digitsOf_58 ?_
              refine j_iadd hx hb dX9_digitsOf_59 ?_
              refine j_imul hx hb dX9_digitsOf_60 ?_
              refine j_bipush hx hb dX9_digitsOf_61 ?_ (by decide)
              refine lv_iload_n hx hb dX9_digitsOf_63 rfl (lv_at hl 3 rfl) ?_
              refine j_imul hx hb dX9_digitsOf_64 ?_
              refine j_iadd hx hb dX9_digitsOf_65 ?_
              refine lv_iload_n hx hb dX9_digitsOf_66 rfl (lv_at hl 1 rfl) ?_
              refine j_iadd hx hb dX9_digitsOf_67 ?_
              subst hQ
              refine m_iret hx hb hr hlocks hH hS dX9_digitsOf_68 ?_ (by omega)
              refine ⟨?_, rfl, rfl⟩
              unfold dig
              rw [← hr2, ← hy2, hq.1]
              omega
            · skip
              refine lv_iload_n hx hb dX9_digitsOf_40 rfl (lv_at hl 2 rfl) ?_
              refine lv_iload_n hx hb dX9_digitsOf_41 rfl (lv_at hl 3 rfl) ?_
              refine lv_iload_n hx hb dX9_digitsOf_42 rfl (lv_at hl 1 rfl) ?_
              refine m_callSi (As := [.int (iv mo), .int (iv yv)]) (rest := [.int (iv rr)]) ⟨hx, hb, hml, hown, hts⟩ hK hH hS (c_X9_monthDays l G μ n mo yv (by omega) (by omega)) (va_cwS 2 hts gX9_digitsOf_X9_monthDays rfl rfl rfl (by decide +kernel) ⟨(Nat.le_of_ble_eq_true rfl), (Nat.le_of_ble_eq_true rfl)⟩) rfl rfl hl.1 (Nat.le_of_ble_eq_true rfl) dX9_digitsOf_43 ⟨Nat.zero_le _, Nat.zero_le _⟩ (fun z20 μ17 n18 H locs hz20 hp19 hH hS => ?_)
              obtain ⟨hz2, hm2, hn2⟩ := hp19; rw [hz2]; rw [hm2, hn2] at hH; clear hz2 hm2 hn2
              refine j_isub hx hb dX9_digitsOf_46 ?_
              refine lv_istore_n (lv' := [(2, .int (iv (rr - (mlen mo yv)))), (0, .int (iv day)), (1, .int (iv yv)), (3, .int (iv mo))]) hx hb dX9_digitsOf_47 rfl hl (by decide) rfl (fun ls hl => ?_)
              refine j_iinc (lv' := [(3, .int (iv (mo + 1))), (2, .int (iv (rr - (mlen mo yv)))), (0, .int (iv day)), (1, .int (iv yv))]) hx hb dX9_digitsOf_48 hl (k := 3) rfl (by decide) rfl (fun ls hl => ?_)
              refine lv_goto (tgt := 31) hx hb dX9_digitsOf_51 (by decide) ?_
              exact ih11 (rr - (mlen mo yv)) (mo + 1) (by omega) (by rw [cum_s hmo yv]; omega) (by omega) (by omega) H locs ls hH hS (lv_sub hl [2, 3, 1, 0] rfl)
        exact lp31 (13) rv 1 (by omega) (by rw [cum_1]; omega) (by omega) (by omega) H locs ls hH hS (lv_sub hl [2, 3, 1, 0] rfl)
      · skip
        have hys2 : ystart (yv + 1) ≤ day := by omega
        refine j_iinc (lv' := [(1, .int (iv (yv + 1))), (0, .int (iv day))]) hx hb dX9_digitsOf_16 hl (k := 1) rfl (by decide) rfl (fun ls hl => ?_)
        refine lv_goto (tgt := 6) hx hb dX9_digitsOf_19 (by decide) ?_
        exact ih1 (yv + 1) (by have q1 := hys2; unfold ystart at q1; omega) (by omega) (by omega) H locs ls hH hS (lv_sub hl [1, 0] rfl)
  exact lp6 (101) (day / 366) (by omega) (by unfold ystart; omega) (by omega) H locs ls hH hS (lv_sub hl [1, 0] rfl)

abbrev rm_c_X9_dayOf : Room := { frames := 1, cells := 0, slots := 0, locals := 22 }
set_option maxHeartbeats 4000000 in
set_option maxRecDepth 100000 in
theorem c_X9_dayOf (l : Launch) (G : wG) (μ : hM) (n : Nat) (D : Int) (hD : 0 ≤ D ∧ D ≤ 999999) : Met l yX9_dayOf wsX9_dayOf rm_c_X9_dayOf (mPc G μ n [.int (iv D)]) (mQi G (fun z μ1 n1 => z = dday D ∧ μ1 = μ ∧ n1 = n)) 0 0 (gA G) := by
  refine Met.ofW (cc := cX9_dayOf) (maxL := 6) (ret := (some .int)) (by decide) rfl ?_
  intro p e s m args below meth c s₁ B hml hv
  obtain ⟨hav, hK, hH⟩ := hv
  have hx := B.exec
  have hb := B.bytes
  have hr := B.returns
  have hts := atoms_spec (ws := wsX9_dayOf) B.pre
  have hown : s.vm.findClass RX9 = some m.cls := findClass_of_methodNamed B.named
  have hlocks := B.notSynchronized
  have hS : va_S (gA G) s.heap s.heap [] := va_S.rf
  have hl := lv_entry ([.int (iv D)]) (n := 6) (Nat.le_of_ble_eq_true rfl)
  have hfr : entryFrame m args 6 = entryFrame m ([.int (iv D)] : List Value).toArray 6 := by rw [hav]
  rw [hfr, lg_entry_eq]
  generalize (lg_sl ([.int (iv D)]) ++ List.replicate (6 - (lg_sl ([.int (iv D)])).length) Slot.unset).toArray = ls at hl ⊢
  have hl : lv_has ls 6 [(0, .int (iv D))] := hl
  generalize hQ : MQ below _ args s 0 0 (gA G) = Q
  show W p l e rm_c_X9_dayOf s m args below meth c s.heap [] 0 0 Q (F0 m 0 ls [])
  obtain ⟨H, hHe⟩ : ∃ H, H = s.heap := ⟨_, rfl⟩
  obtain ⟨locs, hlo⟩ : ∃ q : List Loc, q = [] := ⟨_, rfl⟩
  have hH : gP G μ n H := by rw [hHe]; exact hH
  have hS : va_S (gA G) s.heap H locs := by rw [hHe, hlo]; exact hS
  suffices hgo : W p l e rm_c_X9_dayOf s m args below meth c H locs 0 0 Q (F0 m 0 ls []) by rw [hHe, hlo] at hgo; exact hgo
  clear hHe hlo hfr hav
  refine lv_iload_n hx hb dX9_dayOf_0 rfl (lv_at hl 0 rfl) ?_
  refine j_bipush hx hb dX9_dayOf_1 ?_ (by decide)
  refine j_irem hx hb dX9_dayOf_3 ?_ (by omega) (by omega)
  refine j_top (fun yv hyv => ?_)
  refine lv_istore_n (lv' := [(1, .int (iv yv)), (0, .int (iv D))]) hx hb dX9_dayOf_4 rfl hl (by decide) rfl (fun ls hl => ?_)
  refine lv_iload_n hx hb dX9_dayOf_5 rfl (lv_at hl 1 rfl) ?_
  refine j_bipush hx hb dX9_dayOf_6 ?_ (by decide)
  refine j_idiv hx hb dX9_dayOf_8 ?_ (by omega) (by omega)
  refine j_bipush hx hb dX9_dayOf_9 ?_ (by decide)
  refine j_irem hx hb dX9_dayOf_11 ?_ (by omega) (by omega)
  refine j_top (fun mv hmv => ?_)
  refine lv_istore_n (lv' := [(2, .int (iv mv)), (1, .int (iv yv)), (0, .int (iv D))]) hx hb dX9_dayOf_12 rfl hl (by decide) rfl (fun ls hl => ?_)
  refine lv_iload_n hx hb dX9_dayOf_13 rfl (lv_at hl 2 rfl) ?_
  refine j_sipush hx hb dX9_dayOf_14 ?_ (by decide)
  refine j_idiv hx hb dX9_dayOf_17 ?_ (by omega) (by omega)
  refine j_top (fun dv hdv => ?_)
  refine lv_istore_n (lv' := [(3, .int (iv dv)), (2, .int (iv mv)), (1, .int (iv yv)), (0, .int (iv D))]) hx hb dX9_dayOf_18 rfl hl (by decide) rfl (fun ls hl => ?_)
  refine lv_iload_n hx hb dX9_dayOf_19 rfl (lv_at hl 1 rfl) ?_
  refine j_const hx hb dX9_dayOf_20 ?_
  refine j_bipush hx hb dX9_dayOf_21 ?_ (by decide)
  refine m_callSi (As := [.int (iv mv), .int (iv 1), .int (iv 12)]) (rest := []) ⟨hx, hb, hml, hown, hts⟩ hK hH hS (c_X9_in l G μ n mv 1 12 (by omega) (by omega) (by omega)) (va_cwS 3 hts gX9_dayOf_X9_in rfl rfl rfl (by decide +kernel) ⟨(Nat.le_of_ble_eq_true rfl), (Nat.le_of_ble_eq_true rfl)⟩) rfl rfl hl.1 (Nat.le_of_ble_eq_true rfl) dX9_dayOf_23 ⟨Nat.zero_le _, Nat.zero_le _⟩ (fun z4 μ1 n2 H locs hz4 hp3 hH hS => ?_)
  obtain ⟨hz9, hm9, hn9⟩ := hp3
  rw [hm9, hn9] at hH
  have hz4c : (z4 = 1 ∧ (1 ≤ mv ∧ mv ≤ 12)) ∨ (z4 = 0 ∧ ¬ (1 ≤ mv ∧ mv ≤ 12)) := by
    by_cases q9 : 1 ≤ mv ∧ mv ≤ 12
    · rw [if_pos q9] at hz9; exact Or.inl ⟨hz9, q9⟩
    · rw [if_neg q9] at hz9; exact Or.inr ⟨hz9, q9⟩
  clear hz9 hm9 hn9
  refine j_if_eq (tgt := 42) hx hb dX9_dayOf_26 (by decide) (fun c5 => ?_) (fun c5 => ?_) (by omega)
  · skip
    refine j_bipush hx hb dX9_dayOf_42 ?_ (by decide)
    subst hQ
    refine m_iret hx hb hr hlocks hH hS dX9_dayOf_44 ?_ (by omega)
    refine ⟨?_, rfl, rfl⟩
    unfold dday
    rw [← hyv, ← hmv, ← hdv]
    rw [if_neg (by omega)]
  · skip
    refine lv_iload_n hx hb dX9_dayOf_29 rfl (lv_at hl 0 rfl) ?_
    refine j_const hx hb dX9_dayOf_30 ?_
    refine lv_iload_n hx hb dX9_dayOf_31 rfl (lv_at hl 1 rfl) ?_
    refine lv_iload_n hx hb dX9_dayOf_32 rfl (lv_at hl 2 rfl) ?_
    refine m_callSi (As := [.int (iv mv), .int (iv yv)]) (rest := [.int (iv 1), .int (iv dv)]) ⟨hx, hb, hml, hown, hts⟩ hK hH hS (c_X9_monthDays l G μ n mv yv (by omega) (by omega)) (va_cwS 2 hts gX9_dayOf_X9_monthDays rfl rfl rfl (by decide +kernel) ⟨(Nat.le_of_ble_eq_true rfl), (Nat.le_of_ble_eq_true rfl)⟩) rfl rfl hl.1 (Nat.le_of_ble_eq_true rfl) dX9_dayOf_33 ⟨Nat.zero_le _, Nat.zero_le _⟩ (fun z9 μ6 n7 H locs hz9 hp8 hH hS => ?_)
    obtain ⟨hz2, hm2, hn2⟩ := hp8; rw [hz2]; rw [hm2, hn2] at hH; clear hz2 hm2 hn2
    have hmL := mlen_rng mv yv
    refine m_callSi (As := [.int (iv dv), .int (iv 1), .int (iv (mlen mv yv))]) (rest := []) ⟨hx, hb, hml, hown, hts⟩ hK hH hS (c_X9_in l G μ n dv 1 (mlen mv yv) (by omega) (by omega) (by omega)) (va_cwS 3 hts gX9_dayOf_X9_in rfl rfl rfl (by decide +kernel) ⟨(Nat.le_of_ble_eq_true rfl), (Nat.le_of_ble_eq_true rfl)⟩) rfl rfl hl.1 (Nat.le_of_ble_eq_true rfl) dX9_dayOf_36 ⟨Nat.zero_le _, Nat.zero_le _⟩ (fun z13 μ10 n11 H locs hz13 hp12 hH hS => ?_)
    obtain ⟨hz9, hm9, hn9⟩ := hp12
    rw [hm9, hn9] at hH
    have hz13c : (z13 = 1 ∧ (1 ≤ dv ∧ dv ≤ (mlen mv yv))) ∨ (z13 = 0 ∧ ¬ (1 ≤ dv ∧ dv ≤ (mlen mv yv))) := by
      by_cases q9 : 1 ≤ dv ∧ dv ≤ (mlen mv yv)
      · rw [if_pos q9] at hz9; exact Or.inl ⟨hz9, q9⟩
      · rw [if_neg q9] at hz9; exact Or.inr ⟨hz9, q9⟩
    clear hz9 hm9 hn9
    refine j_if_ne (tgt := 45) hx hb dX9_dayOf_39 (by decide) (fun c14 => ?_) (fun c14 => ?_) (by omega)
    · skip
      refine lv_iload_n hx hb dX9_dayOf_45 rfl (lv_at hl 2 rfl) ?_
      refine m_callSi (As := [.int (iv yv)]) (rest := []) ⟨hx, hb, hml, hown, hts⟩ hK hH hS (c_X9_yearStart l G μ n yv (by omega)) (va_cwS 1 hts gX9_dayOf_X9_yearStart rfl rfl rfl (by decide +kernel) ⟨(Nat.le_of_ble_eq_true rfl), (Nat.le_of_ble_eq_true rfl)⟩) rfl rfl hl.1 (Nat.le_of_ble_eq_true rfl) dX9_dayOf_46 ⟨Nat.zero_le _, Nat.zero_le _⟩ (fun z18 μ15 n16 H locs hz18 hp17 hH hS => ?_)
      obtain ⟨hz2, hm2, hn2⟩ := hp17; rw [hz2]; rw [hm2, hn2] at hH; clear hz2 hm2 hn2
      refine lv_iload_n hx hb dX9_dayOf_49 rfl (lv_at hl 0 rfl) ?_
      refine j_iadd hx hb dX9_dayOf_50 ?_
      refine j_const hx hb dX9_dayOf_51 ?_
      refine j_isub hx hb dX9_dayOf_52 ?_
      refine lv_istore (lv' := [(4, .int (iv (((ystart yv) + dv) - 1))), (3, .int (iv dv)), (2, .int (iv mv)), (1, .int (iv yv)), (0, .int (iv D))]) hx hb dX9_dayOf_53 hl (by decide) rfl (fun ls hl => ?_)
      refine j_const hx hb dX9_dayOf_55 ?_
      refine lv_istore (lv' := [(5, .int (iv 1)), (4, .int (iv (((ystart yv) + dv) - 1))), (3, .int (iv dv)), (2, .int (iv mv)), (1, .int (iv yv)), (0, .int (iv D))]) hx hb dX9_dayOf_56 hl (by decide) rfl (fun ls hl => ?_)
      have lp58 : ∀ (fuel : Nat) (dd : Int) (ee : Int) (he : 1 ≤ ee ∧ ee ≤ mv) (hdd : dd = ystart yv + dv - 1 + cum ee yv) (_ : (12 - ee).toNat < fuel) (H : Heap) (locs : List Loc) (ls : Array Slot) (_ : gP G μ n H) (_ : va_S (gA G) s.heap H locs) (_ : lv_has ls 6 [(1, .int (iv yv)), (2, .int (iv mv)), (3, .int (iv dv)), (4, .int (iv dd)), (5, .int (iv ee))]), W p l e rm_c_X9_dayOf s m args below meth c H locs 0 0 Q (F0 m 58 ls []) := by
        intro fuel
        induction fuel with
        | zero => intro _ _ _ _ hfuel; exact absurd hfuel (Nat.not_lt_zero _)
        | succ fuel ih =>
          intro dd ee he hdd hfuel H locs ls hH hS hl
          have ih19 := ih; clear ih
          refine lv_iload hx hb dX9_dayOf_58 (lv_at hl 4 rfl) ?_
          refine lv_iload_n hx hb dX9_dayOf_60 rfl (lv_at hl 1 rfl) ?_
          refine j_icmp_ge (tgt := 81) hx hb dX9_dayOf_61 (by decide) (fun c20 => ?_) (fun c20 => ?_) (by omega) (by omega)
          · skip
            have hys : 0 ≤ ystart yv ∧ ystart yv ≤ 40000 := by unfold ystart; omega
            have hcu := cum_rng ee yv
            have hmlr := mlen_rng mv yv
            refine lv_iload hx hb dX9_dayOf_81 (lv_at hl 3 rfl) ?_
            subst hQ
            refine m_iret hx hb hr hlocks hH hS dX9_dayOf_83 ?_ (by omega)
            refine ⟨?_, rfl, rfl⟩
            unfold dday
            rw [← hyv, ← hmv, ← hdv]
            rw [if_pos (by omega), hdd, show ee = mv by omega]
            omega
          · skip
            refine lv_iload hx hb dX9_dayOf_64 (lv_at hl 3 rfl) ?_
            refine lv_iload hx hb dX9_dayOf_66 (lv_at hl 4 rfl) ?_
            refine lv_iload_n hx hb dX9_dayOf_68 rfl (lv_at hl 0 rfl) ?_
            refine m_callSi (As := [.int (iv ee), .int (iv yv)]) (rest := [.int (iv dd)]) ⟨hx, hb, hml, hown, hts⟩ hK hH hS (c_X9_monthDays l G μ n ee yv (by omega) (by omega)) (va_cwS 2 hts gX9_dayOf_X9_monthDays rfl rfl rfl (by decide +kernel) ⟨(Nat.le_of_ble_eq_true rfl), (Nat.le_of_ble_eq_true rfl)⟩) rfl rfl hl.1 (Nat.le_of_ble_eq_true rfl) dX9_dayOf_69 ⟨Nat.zero_le _, Nat.zero_le _⟩ (fun z24 μ21 n22 H locs hz24 hp23 hH hS => ?_)
            obtain ⟨hz2, hm2, hn2⟩ := hp23; rw [hz2]; rw [hm2, hn2] at hH; clear hz2 hm2 hn2
            refine j_iadd hx hb dX9_dayOf_72 ?_
            refine lv_istore (lv' := [(4, .int (iv (dd + (mlen ee yv)))), (1, .int (iv yv)), (2, .int (iv mv)), (3, .int (iv dv)), (5, .int (iv ee))]) hx hb dX9_dayOf_73 hl (by decide) rfl (fun ls hl => ?_)
            refine j_iinc (lv' := [(5, .int (iv (ee + 1))), (4, .int (iv (dd + (mlen ee yv)))), (1, .int (iv yv)), (2, .int (iv mv)), (3, .int (iv dv))]) hx hb dX9_dayOf_75 hl (k := 4) rfl (by decide) rfl (fun ls hl => ?_)
            refine lv_goto (tgt := 58) hx hb dX9_dayOf_78 (by decide) ?_
            exact ih19 (dd + (mlen ee yv)) (ee + 1) (by omega) (by rw [cum_s (by omega) yv]; omega) (by omega) H locs ls hH hS (lv_sub hl [2, 3, 4, 1, 0] rfl)
      exact lp58 (13) (((ystart yv) + dv) - 1) 1 (by omega) (by rw [cum_1]; omega) (by omega) H locs ls hH hS (lv_sub hl [4, 3, 2, 1, 0] rfl)
    · skip
      refine j_bipush hx hb dX9_dayOf_42 ?_ (by decide)
      subst hQ
      refine m_iret hx hb hr hlocks hH hS dX9_dayOf_44 ?_ (by omega)
      refine ⟨?_, rfl, rfl⟩
      unfold dday
      rw [← hyv, ← hmv, ← hdv]
      rw [if_neg (by omega)]

abbrev rm_c_X9_digitAt : Room := { frames := 0, cells := 0, slots := 0, locals := 0 }
set_option maxHeartbeats 4000000 in
set_option maxRecDepth 100000 in
theorem c_X9_digitAt (l : Launch) (G : wG) (μ : hM) (n : Nat) (D q : Int) (hD : 0 ≤ D ∧ D ≤ 999999) (hq : 0 ≤ q ∧ q ≤ 5) : Met l yX9_digitAt wsX9_digitAt rm_c_X9_digitAt (mPc G μ n [.int (iv D), .int (iv q)]) (mQi G (fun z μ1 n1 => z = dAt D q.toNat ∧ μ1 = μ ∧ n1 = n)) 0 0 (gA G) := by
  refine Met.ofW (cc := cX9_digitAt) (maxL := 4) (ret := (some .int)) (by decide) rfl ?_
  intro p e s m args below meth c s₁ B hml hv
  obtain ⟨hav, hK, hH⟩ := hv
  have hx := B.exec
  have hb := B.bytes
  have hr := B.returns
  have hts := atoms_spec (ws := wsX9_digitAt) B.pre
  have hown : s.vm.findClass RX9 = some m.cls := findClass_of_methodNamed B.named
  have hlocks := B.notSynchronized
  have hS : va_S (gA G) s.heap s.heap [] := va_S.rf
  have hl := lv_entry ([.int (iv D), .int (iv q)]) (n := 4) (Nat.le_of_ble_eq_true rfl)
  have hfr : entryFrame m args 4 = entryFrame m ([.int (iv D), .int (iv q)] : List Value).toArray 4 := by rw [hav]
  rw [hfr, lg_entry_eq]
  generalize (lg_sl ([.int (iv D), .int (iv q)]) ++ List.replicate (4 - (lg_sl ([.int (iv D), .int (iv q)])).length) Slot.unset).toArray = ls at hl ⊢
  have hl : lv_has ls 4 [(0, .int (iv D)), (1, .int (iv q))] := hl
  generalize hQ : MQ below _ args s 0 0 (gA G) = Q
  show W p l e rm_c_X9_digitAt s m args below meth c s.heap [] 0 0 Q (F0 m 0 ls [])
  obtain ⟨H, hHe⟩ : ∃ H, H = s.heap := ⟨_, rfl⟩
  obtain ⟨locs, hlo⟩ : ∃ q : List Loc, q = [] := ⟨_, rfl⟩
  have hH : gP G μ n H := by rw [hHe]; exact hH
  have hS : va_S (gA G) s.heap H locs := by rw [hHe, hlo]; exact hS
  suffices hgo : W p l e rm_c_X9_digitAt s m args below meth c H locs 0 0 Q (F0 m 0 ls []) by rw [hHe, hlo] at hgo; exact hgo
  clear hHe hlo hfr hav
  refine lv_iload_n hx hb dX9_digitAt_0 rfl (lv_at hl 0 rfl) ?_
  refine lv_istore_n (lv' := [(2, .int (iv D)), (0, .int (iv D)), (1, .int (iv q))]) hx hb dX9_digitAt_1 rfl hl (by decide) rfl (fun ls hl => ?_)
  refine j_const hx hb dX9_digitAt_2 ?_
  refine lv_istore_n (lv' := [(3, .int (iv 5)), (2, .int (iv D)), (0, .int (iv D)), (1, .int (iv q))]) hx hb dX9_digitAt_3 rfl hl (by decide) rfl (fun ls hl => ?_)
  have lp4 : ∀ (fuel : Nat) (rr : Int) (k : Int) (hk : q ≤ k ∧ k ≤ 5) (hrr : rr = dRest D k) (_ : k.toNat < fuel) (H : Heap) (locs : List Loc) (ls : Array Slot) (_ : gP G μ n H) (_ : va_S (gA G) s.heap H locs) (_ : lv_has ls 4 [(0, .int (iv D)), (1, .int (iv q)), (2, .int (iv rr)), (3, .int (iv k))]), W p l e rm_c_X9_digitAt s m args below meth c H locs 0 0 Q (F0 m 4 ls []) := by
    intro fuel
    induction fuel with
    | zero => intro _ _ _ _ hfuel; exact absurd hfuel (Nat.not_lt_zero _)
    | succ fuel ih =>
      intro rr k hk hrr hfuel H locs ls hH hS hl
      have hdr := dRest_rng (D := D) (i := k) hD
      have ih1 := ih; clear ih
      refine lv_iload_n hx hb dX9_digitAt_4 rfl (lv_at hl 3 rfl) ?_
      refine lv_iload_n hx hb dX9_digitAt_5 rfl (lv_at hl 1 rfl) ?_
      refine j_icmp_le (tgt := 20) hx hb dX9_digitAt_6 (by decide) (fun c2 => ?_) (fun c2 => ?_) (by omega) (by omega)
      · skip
        refine lv_iload_n hx hb dX9_digitAt_20 rfl (lv_at hl 2 rfl) ?_
        refine j_bipush hx hb dX9_digitAt_21 ?_ (by decide)
        refine j_irem hx hb dX9_digitAt_23 ?_ (by omega) (by omega)
        subst hQ
        refine m_iret hx hb hr hlocks hH hS dX9_digitAt_24 ?_ (by omega)
        refine ⟨?_, rfl, rfl⟩
        rw [hrr, show k = q by omega]
        exact dRest_d hq
      · skip
        refine lv_iload_n hx hb dX9_digitAt_9 rfl (lv_at hl 2 rfl) ?_
        refine j_bipush hx hb dX9_digitAt_10 ?_ (by decide)
        refine j_idiv hx hb dX9_digitAt_12 ?_ (by omega) (by omega)
        refine lv_istore_n (lv' := [(2, .int (iv (rr / 10))), (0, .int (iv D)), (1, .int (iv q)), (3, .int (iv k))]) hx hb dX9_digitAt_13 rfl hl (by decide) rfl (fun ls hl => ?_)
        refine j_iinc (lv' := [(3, .int (iv (k + -1))), (2, .int (iv (rr / 10))), (0, .int (iv D)), (1, .int (iv q))]) hx hb dX9_digitAt_14 hl (k := 3) rfl (by decide) rfl (fun ls hl => ?_)
        refine lv_goto (tgt := 4) hx hb dX9_digitAt_17 (by decide) ?_
        exact ih1 (rr / 10) (k + -1) (by omega) (by rw [hrr, dRest_s (by omega)]; rfl) (by omega) H locs ls hH hS (lv_sub hl [2, 3, 1, 0] rfl)
  exact lp4 (6) D 5 (by omega) rfl (by omega) H locs ls hH hS (lv_sub hl [2, 3, 1, 0] rfl)

abbrev rm_c_X9_places : Room := { frames := 0, cells := 0, slots := 0, locals := 0 }
set_option maxHeartbeats 4000000 in
set_option maxRecDepth 100000 in
theorem c_X9_places (l : Launch) (G : wG) (μ : hM) (n : Nat) (P : Nat) (hP : P < 64) : Met l yX9_places wsX9_places rm_c_X9_places (mPc G μ n [.int (iv ((P : Nat) : Int))]) (mQi G (fun z μ1 n1 => z = ((pc6 P : Nat) : Int) ∧ μ1 = μ ∧ n1 = n)) 0 0 (gA G) := by
  refine Met.ofW (cc := cX9_places) (maxL := 3) (ret := (some .int)) (by decide) rfl ?_
  intro p e s m args below meth c s₁ B hml hv
  obtain ⟨hav, hK, hH⟩ := hv
  have hx := B.exec
  have hb := B.bytes
  have hr := B.returns
  have hts := atoms_spec (ws := wsX9_places) B.pre
  have hown : s.vm.findClass RX9 = some m.cls := findClass_of_methodNamed B.named
  have hlocks := B.notSynchronized
  have hS : va_S (gA G) s.heap s.heap [] := va_S.rf
  have hl := lv_entry ([.int (iv ((P : Nat) : Int))]) (n := 3) (Nat.le_of_ble_eq_true rfl)
  have hfr : entryFrame m args 3 = entryFrame m ([.int (iv ((P : Nat) : Int))] : List Value).toArray 3 := by rw [hav]
  rw [hfr, lg_entry_eq]
  generalize (lg_sl ([.int (iv ((P : Nat) : Int))]) ++ List.replicate (3 - (lg_sl ([.int (iv ((P : Nat) : Int))])).length) Slot.unset).toArray = ls at hl ⊢
  have hl : lv_has ls 3 [(0, .int (iv ((P : Nat) : Int)))] := hl
  generalize hQ : MQ below _ args s 0 0 (gA G) = Q
  show W p l e rm_c_X9_places s m args below meth c s.heap [] 0 0 Q (F0 m 0 ls [])
  obtain ⟨H, hHe⟩ : ∃ H, H = s.heap := ⟨_, rfl⟩
  obtain ⟨locs, hlo⟩ : ∃ q : List Loc, q = [] := ⟨_, rfl⟩
  have hH : gP G μ n H := by rw [hHe]; exact hH
  have hS : va_S (gA G) s.heap H locs := by rw [hHe, hlo]; exact hS
  suffices hgo : W p l e rm_c_X9_places s m args below meth c H locs 0 0 Q (F0 m 0 ls []) by rw [hHe, hlo] at hgo; exact hgo
  clear hHe hlo hfr hav
  refine j_const hx hb dX9_places_0 ?_
  refine lv_istore_n (lv' := [(1, .int (iv 0)), (0, .int (iv ((P : Nat) : Int)))]) hx hb dX9_places_1 rfl hl (by decide) rfl (fun ls hl => ?_)
  refine j_const hx hb dX9_places_2 ?_
  refine lv_istore_n (lv' := [(2, .int (iv 0)), (1, .int (iv 0)), (0, .int (iv ((P : Nat) : Int)))]) hx hb dX9_places_3 rfl hl (by decide) rfl (fun ls hl => ?_)
  refine lv_iload_n hx hb dX9_places_4 rfl (lv_at hl 0 rfl) ?_
  refine j_bipush hx hb dX9_places_5 ?_ (by decide)
  refine j_icmp_ge (tgt := 24) hx hb dX9_places_7 (by decide) (fun c1 => absurd c1 (by omega)) (fun c1 => ?_) (by omega) (by omega)
  refine lv_iload_n hx hb dX9_places_10 rfl (lv_at hl 1 rfl) ?_
  refine lv_iload_n hx hb dX9_places_11 rfl (lv_at hl 2 rfl) ?_
  refine lv_iload_n hx hb dX9_places_12 rfl (lv_at hl 0 rfl) ?_
  refine j_ishr (v := ((P / 1 : Nat) : Int)) hx hb dX9_places_13 (bit_shk 0 (by omega) P hP) ?_
  refine j_const hx hb dX9_places_14 ?_
  refine j_iand (v := ((P / 1 % 2 : Nat) : Int)) hx hb dX9_places_15 (bit_and1 (P / 1) (by omega)) ?_
  refine j_iadd hx hb dX9_places_16 ?_
  refine lv_istore_n (lv' := [(1, .int (iv (0 + ((P / 1 % 2 : Nat) : Int)))), (2, .int (iv 0)), (0, .int (iv ((P : Nat) : Int)))]) hx hb dX9_places_17 rfl hl (by decide) rfl (fun ls hl => ?_)
  refine j_iinc (lv' := [(2, .int (iv 1)), (1, .int (iv (0 + ((P / 1 % 2 : Nat) : Int)))), (0, .int (iv ((P : Nat) : Int)))]) hx hb dX9_places_18 hl (k := 1) rfl (by decide) rfl (fun ls hl => ?_)
  refine lv_goto (tgt := 4) hx hb dX9_places_21 (by decide) ?_
  refine lv_iload_n hx hb dX9_places_4 rfl (lv_at hl 0 rfl) ?_
  refine j_bipush hx hb dX9_places_5 ?_ (by decide)
  refine j_icmp_ge (tgt := 24) hx hb dX9_places_7 (by decide) (fun c2 => absurd c2 (by omega)) (fun c2 => ?_) (by omega) (by omega)
  refine lv_iload_n hx hb dX9_places_10 rfl (lv_at hl 1 rfl) ?_
  refine lv_iload_n hx hb dX9_places_11 rfl (lv_at hl 2 rfl) ?_
  refine lv_iload_n hx hb dX9_places_12 rfl (lv_at hl 0 rfl) ?_
  refine j_ishr (v := ((P / 2 : Nat) : Int)) hx hb dX9_places_13 (bit_shk 1 (by omega) P hP) ?_
  refine j_const hx hb dX9_places_14 ?_
  refine j_iand (v := ((P / 2 % 2 : Nat) : Int)) hx hb dX9_places_15 (bit_and1 (P / 2) (by omega)) ?_
  refine j_iadd hx hb dX9_places_16 ?_
  refine lv_istore_n (lv' := [(1, .int (iv ((0 + ((P / 1 % 2 : Nat) : Int)) + ((P / 2 % 2 : Nat) : Int)))), (2, .int (iv 1)), (0, .int (iv ((P : Nat) : Int)))]) hx hb dX9_places_17 rfl hl (by decide) rfl (fun ls hl => ?_)
  refine j_iinc (lv' := [(2, .int (iv 2)), (1, .int (iv ((0 + ((P / 1 % 2 : Nat) : Int)) + ((P / 2 % 2 : Nat) : Int)))), (0, .int (iv ((P : Nat) : Int)))]) hx hb dX9_places_18 hl (k := 1) rfl (by decide) rfl (fun ls hl => ?_)
  refine lv_goto (tgt := 4) hx hb dX9_places_21 (by decide) ?_
  refine lv_iload_n hx hb dX9_places_4 rfl (lv_at hl 0 rfl) ?_
  refine j_bipush hx hb dX9_places_5 ?_ (by decide)
  refine j_icmp_ge (tgt := 24) hx hb dX9_places_7 (by decide) (fun c3 => absurd c3 (by omega)) (fun c3 => ?_) (by omega) (by omega)
  refine lv_iload_n hx hb dX9_places_10 rfl (lv_at hl 1 rfl) ?_
  refine lv_iload_n hx hb dX9_places_11 rfl (lv_at hl 2 rfl) ?_
  refine lv_iload_n hx hb dX9_places_12 rfl (lv_at hl 0 rfl) ?_
  refine j_ishr (v := ((P / 4 : Nat) : Int)) hx hb dX9_places_13 (bit_shk 2 (by omega) P hP) ?_
  refine j_const hx hb dX9_places_14 ?_
  refine j_iand (v := ((P / 4 % 2 : Nat) : Int)) hx hb dX9_places_15 (bit_and1 (P / 4) (by omega)) ?_
  refine j_iadd hx hb dX9_places_16 ?_
  refine lv_istore_n (lv' := [(1, .int (iv (((0 + ((P / 1 % 2 : Nat) : Int)) + ((P / 2 % 2 : Nat) : Int)) + ((P / 4 % 2 : Nat) : Int)))), (2, .int (iv 2)), (0, .int (iv ((P : Nat) : Int)))]) hx hb dX9_places_17 rfl hl (by decide) rfl (fun ls hl => ?_)
  refine j_iinc (lv' := [(2, .int (iv 3)), (1, .int (iv (((0 + ((P / 1 % 2 : Nat) : Int)) + ((P / 2 % 2 : Nat) : Int)) + ((P / 4 % 2 : Nat) : Int)))), (0, .int (iv ((P : Nat) : Int)))]) hx hb dX9_places_18 hl (k := 1) rfl (by decide) rfl (fun ls hl => ?_)
  refine lv_goto (tgt := 4) hx hb dX9_places_21 (by decide) ?_
  refine lv_iload_n hx hb dX9_places_4 rfl (lv_at hl 0 rfl) ?_
  refine j_bipush hx hb dX9_places_5 ?_ (by decide)
  refine j_icmp_ge (tgt := 24) hx hb dX9_places_7 (by decide) (fun c4 => absurd c4 (by omega)) (fun c4 => ?_) (by omega) (by omega)
  refine lv_iload_n hx hb dX9_places_10 rfl (lv_at hl 1 rfl) ?_
  refine lv_iload_n hx hb dX9_places_11 rfl (lv_at hl 2 rfl) ?_
  refine lv_iload_n hx hb dX9_places_12 rfl (lv_at hl 0 rfl) ?_
  refine j_ishr (v := ((P / 8 : Nat) : Int)) hx hb dX9_places_13 (bit_shk 3 (by omega) P hP) ?_
  refine j_const hx hb dX9_places_14 ?_
  refine j_iand (v := ((P / 8 % 2 : Nat) : Int)) hx hb dX9_places_15 (bit_and1 (P / 8) (by omega)) ?_
  refine j_iadd hx hb dX9_places_16 ?_
  refine lv_istore_n (lv' := [(1, .int (iv ((((0 + ((P / 1 % 2 : Nat) : Int)) + ((P / 2 % 2 : Nat) : Int)) + ((P / 4 % 2 : Nat) : Int)) + ((P / 8 % 2 : Nat) : Int)))), (2, .int (iv 3)), (0, .int (iv ((P : Nat) : Int)))]) hx hb dX9_places_17 rfl hl (by decide) rfl (fun ls hl => ?_)
  refine j_iinc (lv' := [(2, .int (iv 4)), (1, .int (iv ((((0 + ((P / 1 % 2 : Nat) : Int)) + ((P / 2 % 2 : Nat) : Int)) + ((P / 4 % 2 : Nat) : Int)) + ((P / 8 % 2 : Nat) : Int)))), (0, .int (iv ((P : Nat) : Int)))]) hx hb dX9_places_18 hl (k := 1) rfl (by decide) rfl (fun ls hl => ?_)
  refine lv_goto (tgt := 4) hx hb dX9_places_21 (by decide) ?_
  refine lv_iload_n hx hb dX9_places_4 rfl (lv_at hl 0 rfl) ?_
  refine j_bipush hx hb dX9_places_5 ?_ (by decide)
  refine j_icmp_ge (tgt := 24) hx hb dX9_places_7 (by decide) (fun c5 => absurd c5 (by omega)) (fun c5 => ?_) (by omega) (by omega)
  refine lv_iload_n hx hb dX9_places_10 rfl (lv_at hl 1 rfl) ?_
  refine lv_iload_n hx hb dX9_places_11 rfl (lv_at hl 2 rfl) ?_
  refine lv_iload_n hx hb dX9_places_12 rfl (lv_at hl 0 rfl) ?_
  refine j_ishr (v := ((P / 16 : Nat) : Int)) hx hb dX9_places_13 (bit_shk 4 (by omega) P hP) ?_
  refine j_const hx hb dX9_places_14 ?_
  refine j_iand (v := ((P / 16 % 2 : Nat) : Int)) hx hb dX9_places_15 (bit_and1 (P / 16) (by omega)) ?_
  refine j_iadd hx hb dX9_places_16 ?_
  refine lv_istore_n (lv' := [(1, .int (iv (((((0 + ((P / 1 % 2 : Nat) : Int)) + ((P / 2 % 2 : Nat) : Int)) + ((P / 4 % 2 : Nat) : Int)) + ((P / 8 % 2 : Nat) : Int)) + ((P / 16 % 2 : Nat) : Int)))), (2, .int (iv 4)), (0, .int (iv ((P : Nat) : Int)))]) hx hb dX9_places_17 rfl hl (by decide) rfl (fun ls hl => ?_)
  refine j_iinc (lv' := [(2, .int (iv 5)), (1, .int (iv (((((0 + ((P / 1 % 2 : Nat) : Int)) + ((P / 2 % 2 : Nat) : Int)) + ((P / 4 % 2 : Nat) : Int)) + ((P / 8 % 2 : Nat) : Int)) + ((P / 16 % 2 : Nat) : Int)))), (0, .int (iv ((P : Nat) : Int)))]) hx hb dX9_places_18 hl (k := 1) rfl (by decide) rfl (fun ls hl => ?_)
  refine lv_goto (tgt := 4) hx hb dX9_places_21 (by decide) ?_
  refine lv_iload_n hx hb dX9_places_4 rfl (lv_at hl 0 rfl) ?_
  refine j_bipush hx hb dX9_places_5 ?_ (by decide)
  refine j_icmp_ge (tgt := 24) hx hb dX9_places_7 (by decide) (fun c6 => absurd c6 (by omega)) (fun c6 => ?_) (by omega) (by omega)
  refine lv_iload_n hx hb dX9_places_10 rfl (lv_at hl 1 rfl) ?_
  refine lv_iload_n hx hb dX9_places_11 rfl (lv_at hl 2 rfl) ?_
  refine lv_iload_n hx hb dX9_places_12 rfl (lv_at hl 0 rfl) ?_
  refine j_ishr (v := ((P / 32 : Nat) : Int)) hx hb dX9_places_13 (bit_shk 5 (by omega) P hP) ?_
  refine j_const hx hb dX9_places_14 ?_
  refine j_iand (v := ((P / 32 % 2 : Nat) : Int)) hx hb dX9_places_15 (bit_and1 (P / 32) (by omega)) ?_
  refine j_iadd hx hb dX9_places_16 ?_
  refine lv_istore_n (lv' := [(1, .int (iv ((((((0 + ((P / 1 % 2 : Nat) : Int)) + ((P / 2 % 2 : Nat) : Int)) + ((P / 4 % 2 : Nat) : Int)) + ((P / 8 % 2 : Nat) : Int)) + ((P / 16 % 2 : Nat) : Int)) + ((P / 32 % 2 : Nat) : Int)))), (2, .int (iv 5)), (0, .int (iv ((P : Nat) : Int)))]) hx hb dX9_places_17 rfl hl (by decide) rfl (fun ls hl => ?_)
  refine j_iinc (lv' := [(2, .int (iv 6)), (1, .int (iv ((((((0 + ((P / 1 % 2 : Nat) : Int)) + ((P / 2 % 2 : Nat) : Int)) + ((P / 4 % 2 : Nat) : Int)) + ((P / 8 % 2 : Nat) : Int)) + ((P / 16 % 2 : Nat) : Int)) + ((P / 32 % 2 : Nat) : Int)))), (0, .int (iv ((P : Nat) : Int)))]) hx hb dX9_places_18 hl (k := 1) rfl (by decide) rfl (fun ls hl => ?_)
  refine lv_goto (tgt := 4) hx hb dX9_places_21 (by decide) ?_
  refine lv_iload_n hx hb dX9_places_4 rfl (lv_at hl 0 rfl) ?_
  refine j_bipush hx hb dX9_places_5 ?_ (by decide)
  refine j_icmp_ge (tgt := 24) hx hb dX9_places_7 (by decide) (fun c7 => ?_) (fun c7 => absurd c7 (by omega)) (by omega) (by omega)
  refine lv_iload_n hx hb dX9_places_24 rfl (lv_at hl 1 rfl) ?_
  subst hQ
  refine m_iret hx hb hr hlocks hH hS dX9_places_25 ?_ (by omega)
  refine ⟨?_, rfl, rfl⟩
  unfold pc6
  omega
