abbrev rm_c_X8_isWithin : Room := { frames := 0, cells := 0, slots := 0, locals := 0 }
set_option maxHeartbeats 4000000 in
set_option maxRecDepth 100000 in
theorem c_X8_isWithin (l : Launch) (G : wG) (μ : hM) (n : Nat) (v lo hi : Int) (hv1 : -2147483648 ≤ v ∧ v ≤ 2147483647) (hlo : -2147483648 ≤ lo ∧ lo ≤ 2147483647) (hhi : -2147483648 ≤ hi ∧ hi ≤ 2147483647) : Met l yX8_isWithin wsX8_isWithin rm_c_X8_isWithin (mPc G μ n [.int (iv v), .int (iv lo), .int (iv hi)]) (mQi G (fun z μ1 n1 => z = (if lo ≤ v ∧ v ≤ hi then 1 else 0) ∧ μ1 = μ ∧ n1 = n)) 0 0 (gA G) := by
  refine Met.ofW (cc := cX8_isWithin) (maxL := 3) (ret := (some .boolean)) (by decide) rfl ?_
  intro p e s m args below meth c s₁ B hml hv
  obtain ⟨hav, hK, hH⟩ := hv
  have hx := B.exec
  have hb := B.bytes
  have hr := B.returns
  have hts := atoms_spec (ws := wsX8_isWithin) B.pre
  have hown : s.vm.findClass RX8 = some m.cls := findClass_of_methodNamed B.named
  have hlocks := B.notSynchronized
  have hS : va_S (gA G) s.heap s.heap [] := va_S.rf
  have hl := lv_entry ([.int (iv v), .int (iv lo), .int (iv hi)]) (n := 3) (Nat.le_of_ble_eq_true rfl)
  have hfr : entryFrame m args 3 = entryFrame m ([.int (iv v), .int (iv lo), .int (iv hi)] : List Value).toArray 3 := by rw [hav]
  rw [hfr, lg_entry_eq]
  generalize (lg_sl ([.int (iv v), .int (iv lo), .int (iv hi)]) ++ List.replicate (3 - (lg_sl ([.int (iv v), .int (iv lo), .int (iv hi)])).length) Slot.unset).toArray = ls at hl ⊢
  have hl : lv_has ls 3 [(0, .int (iv v)), (1, .int (iv lo)), (2, .int (iv hi))] := hl
  generalize hQ : MQ below _ args s 0 0 (gA G) = Q
  show W p l e rm_c_X8_isWithin s m args below meth c s.heap [] 0 0 Q (F0 m 0 ls [])
  obtain ⟨H, hHe⟩ : ∃ H, H = s.heap := ⟨_, rfl⟩
  obtain ⟨locs, hlo⟩ : ∃ q : List Loc, q = [] := ⟨_, rfl⟩
  have hH : gP G μ n H := by rw [hHe]; exact hH
  have hS : va_S (gA G) s.heap H locs := by rw [hHe, hlo]; exact hS
  suffices hgo : W p l e rm_c_X8_isWithin s m args below meth c H locs 0 0 Q (F0 m 0 ls []) by rw [hHe, hlo] at hgo; exact hgo
  clear hHe hlo hfr hav
  refine lv_iload_n hx hb dX8_isWithin_0 rfl (lv_at hl 0 rfl) ?_
  refine lv_iload_n hx hb dX8_isWithin_1 rfl (lv_at hl 1 rfl) ?_
  refine j_icmp_lt (tgt := 14) hx hb dX8_isWithin_2 (by decide) (fun c1 => ?_) (fun c1 => ?_) (by omega) (by omega)
  · skip
    refine j_const hx hb dX8_isWithin_14 ?_
    subst hQ
    refine m_zret hx hb hr hlocks hH hS dX8_isWithin_15 ?_ (by omega)
    refine ⟨?_, rfl, rfl⟩
    split <;> omega
  · skip
    refine lv_iload_n hx hb dX8_isWithin_5 rfl (lv_at hl 0 rfl) ?_
    refine lv_iload_n hx hb dX8_isWithin_6 rfl (lv_at hl 2 rfl) ?_
    refine j_icmp_gt (tgt := 14) hx hb dX8_isWithin_7 (by decide) (fun c2 => ?_) (fun c2 => ?_) (by omega) (by omega)
    · skip
      refine j_const hx hb dX8_isWithin_14 ?_
      subst hQ
      refine m_zret hx hb hr hlocks hH hS dX8_isWithin_15 ?_ (by omega)
      refine ⟨?_, rfl, rfl⟩
      split <;> omega
    · skip
      refine j_const hx hb dX8_isWithin_10 ?_
      refine lv_goto (tgt := 15) hx hb dX8_isWithin_11 (by decide) ?_
      subst hQ
      refine m_zret hx hb hr hlocks hH hS dX8_isWithin_15 ?_ (by omega)
      refine ⟨?_, rfl, rfl⟩
      split <;> omega

abbrev rm_c_X8_isPlace : Room := { frames := 1, cells := 0, slots := 0, locals := 22 }
set_option maxHeartbeats 4000000 in
set_option maxRecDepth 100000 in
theorem c_X8_isPlace (l : Launch) (G : wG) (μ : hM) (n : Nat) (v : Int) (hv1 : -2147483648 ≤ v ∧ v ≤ 2147483647) : Met l yX8_isPlace wsX8_isPlace rm_c_X8_isPlace (mPc G μ n [.int (iv v)]) (mQi G (fun z μ1 n1 => z = (if 0 ≤ v ∧ v ≤ 5 then 1 else 0) ∧ μ1 = μ ∧ n1 = n)) 0 0 (gA G) := by
  refine Met.ofW (cc := cX8_isPlace) (maxL := 1) (ret := (some .boolean)) (by decide) rfl ?_
  intro p e s m args below meth c s₁ B hml hv
  obtain ⟨hav, hK, hH⟩ := hv
  have hx := B.exec
  have hb := B.bytes
  have hr := B.returns
  have hts := atoms_spec (ws := wsX8_isPlace) B.pre
  have hown : s.vm.findClass RX8 = some m.cls := findClass_of_methodNamed B.named
  have hlocks := B.notSynchronized
  have hS : va_S (gA G) s.heap s.heap [] := va_S.rf
  have hl := lv_entry ([.int (iv v)]) (n := 1) (Nat.le_of_ble_eq_true rfl)
  have hfr : entryFrame m args 1 = entryFrame m ([.int (iv v)] : List Value).toArray 1 := by rw [hav]
  rw [hfr, lg_entry_eq]
  generalize (lg_sl ([.int (iv v)]) ++ List.replicate (1 - (lg_sl ([.int (iv v)])).length) Slot.unset).toArray = ls at hl ⊢
  have hl : lv_has ls 1 [(0, .int (iv v))] := hl
  generalize hQ : MQ below _ args s 0 0 (gA G) = Q
  show W p l e rm_c_X8_isPlace s m args below meth c s.heap [] 0 0 Q (F0 m 0 ls [])
  obtain ⟨H, hHe⟩ : ∃ H, H = s.heap := ⟨_, rfl⟩
  obtain ⟨locs, hlo⟩ : ∃ q : List Loc, q = [] := ⟨_, rfl⟩
  have hH : gP G μ n H := by rw [hHe]; exact hH
  have hS : va_S (gA G) s.heap H locs := by rw [hHe, hlo]; exact hS
  suffices hgo : W p l e rm_c_X8_isPlace s m args below meth c H locs 0 0 Q (F0 m 0 ls []) by rw [hHe, hlo] at hgo; exact hgo
  clear hHe hlo hfr hav
  refine lv_iload_n hx hb dX8_isPlace_0 rfl (lv_at hl 0 rfl) ?_
  refine j_const hx hb dX8_isPlace_1 ?_
  refine j_const hx hb dX8_isPlace_2 ?_
  refine m_callSi (As := [.int (iv v), .int (iv 0), .int (iv 5)]) (rest := []) ⟨hx, hb, hml, hown, hts⟩ hK hH hS (c_X8_isWithin l G μ n v 0 5 (by omega) (by omega) (by omega)) (va_cwS 3 hts gX8_isPlace_X8_isWithin rfl rfl rfl (by decide +kernel) ⟨(Nat.le_of_ble_eq_true rfl), (Nat.le_of_ble_eq_true rfl)⟩) rfl rfl hl.1 (Nat.le_of_ble_eq_true rfl) dX8_isPlace_3 ⟨Nat.zero_le _, Nat.zero_le _⟩ (fun z4 μ1 n2 H locs hz4 hp3 hH hS => ?_)
  obtain ⟨hz2, hm2, hn2⟩ := hp3; rw [hz2]; rw [hm2, hn2] at hH; clear hz2 hm2 hn2
  refine j_top (fun rv hrv => ?_)
  have hr1 : 0 ≤ rv ∧ rv ≤ 1 := by rw [hrv]; split <;> omega
  subst hQ
  refine m_zret hx hb hr hlocks hH hS dX8_isPlace_6 ?_ (by omega)
  exact ⟨hrv, rfl, rfl⟩

abbrev rm_c_X5_isFaint : Room := { frames := 0, cells := 0, slots := 0, locals := 0 }
set_option maxHeartbeats 4000000 in
set_option maxRecDepth 100000 in
theorem c_X5_isFaint (l : Launch) (G : wG) (μ : hM) (n : Nat) (st : Nat) (π : Nat → Nat) (σ : Nat → Int) (fp sp : Int) (x : Int) (hI : IsSt G μ st π σ fp sp) (hOk : OkS σ) (hx1 : -1000 ≤ x ∧ x ≤ 1000) : Met l yX5_isFaint wsX5_isFaint rm_c_X5_isFaint (mPc G μ n [.ref st, .int (iv x)]) (mQi G (fun z μ1 n1 => z = (if x < σ 0 then 1 else 0) ∧ μ1 = μ ∧ n1 = n)) 0 0 (gA G) := by
  refine Met.ofW (cc := cX5_isFaint) (maxL := 2) (ret := (some .boolean)) (by decide) rfl ?_
  intro p e s m args below meth c s₁ B hml hv
  obtain ⟨hav, hK, hH⟩ := hv
  have hx := B.exec
  have hb := B.bytes
  have hr := B.returns
  have hts := atoms_spec (ws := wsX5_isFaint) B.pre
  have hown : s.vm.findClass RX5 = some m.cls := findClass_of_methodNamed B.named
  have hlocks := B.notSynchronized
  have hS : va_S (gA G) s.heap s.heap [] := va_S.rf
  have hl := lv_entry ([.ref st, .int (iv x)]) (n := 2) (Nat.le_of_ble_eq_true rfl)
  have hfr : entryFrame m args 2 = entryFrame m ([.ref st, .int (iv x)] : List Value).toArray 2 := by rw [hav]
  rw [hfr, lg_entry_eq]
  generalize (lg_sl ([.ref st, .int (iv x)]) ++ List.replicate (2 - (lg_sl ([.ref st, .int (iv x)])).length) Slot.unset).toArray = ls at hl ⊢
  have hl : lv_has ls 2 [(0, .ref st), (1, .int (iv x))] := hl
  generalize hQ : MQ below _ args s 0 0 (gA G) = Q
  show W p l e rm_c_X5_isFaint s m args below meth c s.heap [] 0 0 Q (F0 m 0 ls [])
  obtain ⟨H, hHe⟩ : ∃ H, H = s.heap := ⟨_, rfl⟩
  obtain ⟨locs, hlo⟩ : ∃ q : List Loc, q = [] := ⟨_, rfl⟩
  have hH : gP G μ n H := by rw [hHe]; exact hH
  have hS : va_S (gA G) s.heap H locs := by rw [hHe, hlo]; exact hS
  suffices hgo : W p l e rm_c_X5_isFaint s m args below meth c H locs 0 0 Q (F0 m 0 ls []) by rw [hHe, hlo] at hgo; exact hgo
  clear hHe hlo hfr hav
  have f_0 := hts (.fieldLink RX5 20 "StampDater$Stamp" "settings" "[I") (List.mem_of_getElem? (i := 1) rfl)
  have i_X5 : ∀ w ∈ u_ws RX5 TX5 7, w ∈ wsX5_isFaint := by decide +kernel
  have hfr : ∀ q, (q < st ∨ st + 15 ≤ q) → μ q = μ q := fun q hq => rfl
  refine lv_iload_n hx hb dX5_isFaint_0 rfl (lv_at hl 1 rfl) ?_
  refine lv_aload_n hx hb dX5_isFaint_1 rfl (lv_at hl 0 rfl) ?_
  refine m_get (C := RX5) (T := TX5) (N := 7) (ci := 4) hx hb hts i_X5 hown hK hH hI.1 rfl 1 (by decide) f_0 rfl dX5_isFaint_2 ?_
  refine j_const hx hb dX5_isFaint_5 ?_
  refine m_iald (nA := 3) (f := (row3 σ)) hx hb hK hH hI.2.2.1 dX5_isFaint_6 ?_ (by omega) (by omega)
  have hs0 : row3 σ ((0 : Int)).toNat = σ 0 := rfl
  rw [hs0]
  have hk0 := hOk.1; have hk1 := hOk.2.1
  refine j_icmp_ge (tgt := 14) hx hb dX5_isFaint_7 (by decide) (fun c1 => ?_) (fun c1 => ?_) (by omega) (by omega)
  · skip
    refine j_const hx hb dX5_isFaint_14 ?_
    subst hQ
    refine m_zret hx hb hr hlocks hH hS dX5_isFaint_15 ?_ (by omega)
    refine ⟨?_, rfl, rfl⟩
    split <;> omega
  · skip
    refine j_const hx hb dX5_isFaint_10 ?_
    refine lv_goto (tgt := 15) hx hb dX5_isFaint_11 (by decide) ?_
    subst hQ
    refine m_zret hx hb hr hlocks hH hS dX5_isFaint_15 ?_ (by omega)
    refine ⟨?_, rfl, rfl⟩
    split <;> omega

abbrev rm_c_X5_isSmudged : Room := { frames := 0, cells := 0, slots := 0, locals := 0 }
set_option maxHeartbeats 4000000 in
set_option maxRecDepth 100000 in
theorem c_X5_isSmudged (l : Launch) (G : wG) (μ : hM) (n : Nat) (st : Nat) (π : Nat → Nat) (σ : Nat → Int) (fp sp : Int) (x : Int) (hI : IsSt G μ st π σ fp sp) (hOk : OkS σ) (hx1 : -1000 ≤ x ∧ x ≤ 1000) : Met l yX5_isSmudged wsX5_isSmudged rm_c_X5_isSmudged (mPc G μ n [.ref st, .int (iv x)]) (mQi G (fun z μ1 n1 => z = (if σ 1 < x then 1 else 0) ∧ μ1 = μ ∧ n1 = n)) 0 0 (gA G) := by
  refine Met.ofW (cc := cX5_isSmudged) (maxL := 2) (ret := (some .boolean)) (by decide) rfl ?_
  intro p e s m args below meth c s₁ B hml hv
  obtain ⟨hav, hK, hH⟩ := hv
  have hx := B.exec
  have hb := B.bytes
  have hr := B.returns
  have hts := atoms_spec (ws := wsX5_isSmudged) B.pre
  have hown : s.vm.findClass RX5 = some m.cls := findClass_of_methodNamed B.named
  have hlocks := B.notSynchronized
  have hS : va_S (gA G) s.heap s.heap [] := va_S.rf
  have hl := lv_entry ([.ref st, .int (iv x)]) (n := 2) (Nat.le_of_ble_eq_true rfl)
  have hfr : entryFrame m args 2 = entryFrame m ([.ref st, .int (iv x)] : List Value).toArray 2 := by rw [hav]
  rw [hfr, lg_entry_eq]
  generalize (lg_sl ([.ref st, .int (iv x)]) ++ List.replicate (2 - (lg_sl ([.ref st, .int (iv x)])).length) Slot.unset).toArray = ls at hl ⊢
  have hl : lv_has ls 2 [(0, .ref st), (1, .int (iv x))] := hl
  generalize hQ : MQ below _ args s 0 0 (gA G) = Q
  show W p l e rm_c_X5_isSmudged s m args below meth c s.heap [] 0 0 Q (F0 m 0 ls [])
  obtain ⟨H, hHe⟩ : ∃ H, H = s.heap := ⟨_, rfl⟩
  obtain ⟨locs, hlo⟩ : ∃ q : List Loc, q = [] := ⟨_, rfl⟩
  have hH : gP G μ n H := by rw [hHe]; exact hH
  have hS : va_S (gA G) s.heap H locs := by rw [hHe, hlo]; exact hS
  suffices hgo : W p l e rm_c_X5_isSmudged s m args below meth c H locs 0 0 Q (F0 m 0 ls []) by rw [hHe, hlo] at hgo; exact hgo
  clear hHe hlo hfr hav
  have f_0 := hts (.fieldLink RX5 20 "StampDater$Stamp" "settings" "[I") (List.mem_of_getElem? (i := 1) rfl)
  have i_X5 : ∀ w ∈ u_ws RX5 TX5 7, w ∈ wsX5_isSmudged := by decide +kernel
  have hfr : ∀ q, (q < st ∨ st + 15 ≤ q) → μ q = μ q := fun q hq => rfl
  refine lv_iload_n hx hb dX5_isSmudged_0 rfl (lv_at hl 1 rfl) ?_
  refine lv_aload_n hx hb dX5_isSmudged_1 rfl (lv_at hl 0 rfl) ?_
  refine m_get (C := RX5) (T := TX5) (N := 7) (ci := 4) hx hb hts i_X5 hown hK hH hI.1 rfl 1 (by decide) f_0 rfl dX5_isSmudged_2 ?_
  refine j_const hx hb dX5_isSmudged_5 ?_
  refine m_iald (nA := 3) (f := (row3 σ)) hx hb hK hH hI.2.2.1 dX5_isSmudged_6 ?_ (by omega) (by omega)
  have hs1 : row3 σ ((1 : Int)).toNat = σ 1 := rfl
  rw [hs1]
  have hk0 := hOk.1; have hk1 := hOk.2.1
  refine j_icmp_le (tgt := 14) hx hb dX5_isSmudged_7 (by decide) (fun c1 => ?_) (fun c1 => ?_) (by omega) (by omega)
  · skip
    refine j_const hx hb dX5_isSmudged_14 ?_
    subst hQ
    refine m_zret hx hb hr hlocks hH hS dX5_isSmudged_15 ?_ (by omega)
    refine ⟨?_, rfl, rfl⟩
    split <;> omega
  · skip
    refine j_const hx hb dX5_isSmudged_10 ?_
    refine lv_goto (tgt := 15) hx hb dX5_isSmudged_11 (by decide) ?_
    subst hQ
    refine m_zret hx hb hr hlocks hH hS dX5_isSmudged_15 ?_ (by omega)
    refine ⟨?_, rfl, rfl⟩
    split <;> omega

abbrev rm_c_X5_darkness : Room := { frames := 1, cells := 0, slots := 0, locals := 21 }
set_option maxHeartbeats 4000000 in
set_option maxRecDepth 100000 in
theorem c_X5_darkness (l : Launch) (G : wG) (μ : hM) (n : Nat) (st : Nat) (π : Nat → Nat) (σ : Nat → Int) (fp sp : Int) (pa : Nat) (k : Int) (hI : IsSt G μ st π σ fp sp) (hOk : OkS σ) (hp : pa < 6) (hk : 0 ≤ k ∧ k ≤ 9) : Met l yX5_darkness wsX5_darkness rm_c_X5_darkness (mPc G μ n [.ref st, .ref (st + 2 + 2 * π pa), .int (iv k)]) (mQi G (fun z μ1 n1 => z = drk σ pa k ∧ μ1 = μ ∧ n1 = n)) 0 0 (gA G) := by
  refine Met.ofW (cc := cX5_darkness) (maxL := 3) (ret := (some .int)) (by decide) rfl ?_
  intro p e s m args below meth c s₁ B hml hv
  obtain ⟨hav, hK, hH⟩ := hv
  have hx := B.exec
  have hb := B.bytes
  have hr := B.returns
  have hts := atoms_spec (ws := wsX5_darkness) B.pre
  have hown : s.vm.findClass RX5 = some m.cls := findClass_of_methodNamed B.named
  have hlocks := B.notSynchronized
  have hS : va_S (gA G) s.heap s.heap [] := va_S.rf
  have hl := lv_entry ([.ref st, .ref (st + 2 + 2 * π pa), .int (iv k)]) (n := 3) (Nat.le_of_ble_eq_true rfl)
  have hfr : entryFrame m args 3 = entryFrame m ([.ref st, .ref (st + 2 + 2 * π pa), .int (iv k)] : List Value).toArray 3 := by rw [hav]
  rw [hfr, lg_entry_eq]
  generalize (lg_sl ([.ref st, .ref (st + 2 + 2 * π pa), .int (iv k)]) ++ List.replicate (3 - (lg_sl ([.ref st, .ref (st + 2 + 2 * π pa), .int (iv k)])).length) Slot.unset).toArray = ls at hl ⊢
  have hl : lv_has ls 3 [(0, .ref st), (1, .ref (st + 2 + 2 * π pa)), (2, .int (iv k))] := hl
  generalize hQ : MQ below _ args s 0 0 (gA G) = Q
  show W p l e rm_c_X5_darkness s m args below meth c s.heap [] 0 0 Q (F0 m 0 ls [])
  obtain ⟨H, hHe⟩ : ∃ H, H = s.heap := ⟨_, rfl⟩
  obtain ⟨locs, hlo⟩ : ∃ q : List Loc, q = [] := ⟨_, rfl⟩
  have hH : gP G μ n H := by rw [hHe]; exact hH
  have hS : va_S (gA G) s.heap H locs := by rw [hHe, hlo]; exact hS
  suffices hgo : W p l e rm_c_X5_darkness s m args below meth c H locs 0 0 Q (F0 m 0 ls []) by rw [hHe, hlo] at hgo; exact hgo
  clear hHe hlo hfr hav
  have f_0 := hts (.fieldLink RX5 24 "StampDater$Stamp" "ink" "I") (List.mem_of_getElem? (i := 1) rfl)
  have i_X5 : ∀ w ∈ u_ws RX5 TX5 7, w ∈ wsX5_darkness := by decide +kernel
  have f_2 := hts (.fieldLink RX5 44 "StampDater$Band" "shown" "I") (List.mem_of_getElem? (i := 2) rfl)
  have i_X0 : ∀ w ∈ u_ws RX0 TX0 4, w ∈ wsX5_darkness := by decide +kernel
  have hdr := drk_rng hOk hp hk
  have hbp := hOk.2.2.2.2 pa hp
  have h4 := hOk.2.2.2.1
  have hwp := hOk.w hp
  refine j_bipush hx hb dX5_darkness_0 ?_ (by decide)
  refine lv_iload_n hx hb dX5_darkness_2 rfl (lv_at hl 2 rfl) ?_
  refine j_imul hx hb dX5_darkness_3 ?_
  refine lv_aload_n hx hb dX5_darkness_4 rfl (lv_at hl 0 rfl) ?_
  refine m_get (C := RX5) (T := TX5) (N := 7) (ci := 4) hx hb hts i_X5 hown hK hH hI.1 rfl 2 (by decide) f_0 rfl dX5_darkness_5 ?_
  refine j_const hx hb dX5_darkness_8 ?_
  refine j_idiv hx hb dX5_darkness_9 ?_ (by omega) (by omega)
  refine j_iadd hx hb dX5_darkness_10 ?_
  refine lv_aload_n hx hb dX5_darkness_11 rfl (lv_at hl 1 rfl) ?_
  refine lv_aload_n hx hb dX5_darkness_12 rfl (lv_at hl 1 rfl) ?_
  refine m_get (C := RX0) (T := TX0) (N := 4) (ci := 0) hx hb hts i_X0 hown hK hH (hI.2.2.2.1 pa (by omega)) rfl 1 (by decide) f_2 rfl dX5_darkness_13 ?_
  refine m_callVi (As := [.int (iv (σ (86 + 13 * pa)))]) (rest := [.int (iv ((8 * k) + ((σ 4) / 4)))]) ⟨hx, hb, hml, hown, hts⟩ hK hH hS (c_X0_wearOf l G μ n (st + 2 + 2 * π pa) (st + 3 + 2 * π pa) (σ (85 + 13 * pa)) (σ (86 + 13 * pa)) (σ (87 + 13 * pa)) (roww σ pa) (σ (86 + 13 * pa)) (hI.2.2.2.1 pa (by omega)) (hI.2.2.2.2.1 pa (by omega)) (by omega) (hwp _ (by omega))) (cwV 1 hts gX5_darkness_X0_wearOf rfl rfl rfl (by decide +kernel) ⟨(Nat.le_of_ble_eq_true rfl), (Nat.le_of_ble_eq_true rfl)⟩) (hI.2.2.2.1 pa (by omega)) rfl rfl rfl rfl hl.1 (Nat.le_of_ble_eq_true rfl) dX5_darkness_16 ⟨Nat.zero_le _, Nat.zero_le _⟩ (fun z4 μ1 n2 H locs hz4 hp3 hH hS => ?_)
  obtain ⟨hz2, hm2, hn2⟩ := hp3; rw [hz2]; rw [hm2, hn2] at hH; clear hz2 hm2 hn2
  refine j_isub hx hb dX5_darkness_19 ?_
  have he : 8 * k + σ 4 / 4 - roww σ pa (σ (86 + 13 * pa)).toNat = drk σ pa k := by rw [roww_at (by omega)]; rfl
  rw [he]
  subst hQ
  refine m_iret hx hb hr hlocks hH hS dX5_darkness_20 ?_ (by omega)
  exact ⟨rfl, rfl, rfl⟩

abbrev rm_c_X5_addInk : Room := { frames := 1, cells := 0, slots := 0, locals := 22 }
set_option maxHeartbeats 4000000 in
set_option maxRecDepth 100000 in
theorem c_X5_addInk (l : Launch) (G : wG) (μ : hM) (n : Nat) (st : Nat) (π : Nat → Nat) (σ : Nat → Int) (fp sp : Int) (k : Int) (hI : IsSt G μ st π σ fp sp) (hOk : OkS σ) (hk : 0 ≤ k ∧ k ≤ 1000) : Met l yX5_addInk wsX5_addInk rm_c_X5_addInk (mPc G μ n [.ref st, .int (iv k)]) (mQv G (fun μ1 n1 => IsSt G μ1 st π (fu σ 4 (min 200 (σ 4 + k))) fp sp ∧ (∀ q, (q < st ∨ st + 15 ≤ q) → μ1 q = μ q))) 0 0 (gA G) := by
  refine Met.ofW (cc := cX5_addInk) (maxL := 2) (ret := none) (by decide) rfl ?_
  intro p e s m args below meth c s₁ B hml hv
  obtain ⟨hav, hK, hH⟩ := hv
  have hx := B.exec
  have hb := B.bytes
  have hr := B.returns
  have hts := atoms_spec (ws := wsX5_addInk) B.pre
  have hown : s.vm.findClass RX5 = some m.cls := findClass_of_methodNamed B.named
  have hlocks := B.notSynchronized
  have hS : va_S (gA G) s.heap s.heap [] := va_S.rf
  have hl := lv_entry ([.ref st, .int (iv k)]) (n := 2) (Nat.le_of_ble_eq_true rfl)
  have hfr : entryFrame m args 2 = entryFrame m ([.ref st, .int (iv k)] : List Value).toArray 2 := by rw [hav]
  rw [hfr, lg_entry_eq]
  generalize (lg_sl ([.ref st, .int (iv k)]) ++ List.replicate (2 - (lg_sl ([.ref st, .int (iv k)])).length) Slot.unset).toArray = ls at hl ⊢
  have hl : lv_has ls 2 [(0, .ref st), (1, .int (iv k))] := hl
  generalize hQ : MQ below _ args s 0 0 (gA G) = Q
  show W p l e rm_c_X5_addInk s m args below meth c s.heap [] 0 0 Q (F0 m 0 ls [])
  obtain ⟨H, hHe⟩ : ∃ H, H = s.heap := ⟨_, rfl⟩
  obtain ⟨locs, hlo⟩ : ∃ q : List Loc, q = [] := ⟨_, rfl⟩
  have hH : gP G μ n H := by rw [hHe]; exact hH
  have hS : va_S (gA G) s.heap H locs := by rw [hHe, hlo]; exact hS
  suffices hgo : W p l e rm_c_X5_addInk s m args below meth c H locs 0 0 Q (F0 m 0 ls []) by rw [hHe, hlo] at hgo; exact hgo
  clear hHe hlo hfr hav
  have f_0 := hts (.fieldLink RX5 24 "StampDater$Stamp" "ink" "I") (List.mem_of_getElem? (i := 1) rfl)
  have i_X5 : ∀ w ∈ u_ws RX5 TX5 7, w ∈ wsX5_addInk := by decide +kernel
  have f_2 := hts (.methodLink RX5 67 Lib.Math.min.name) (List.mem_of_getElem? (i := 2) rfl)
  have f_3 := hts (.static Lib.Math.min.name) (List.mem_of_getElem? (i := 3) rfl)
  have f_4 := hts (.initialized "java/lang/Math") (List.mem_of_getElem? (i := 4) rfl)
  have f_5 := hts (.code Lib.Math.min.name Lib.Math.min.code 2 (some .int)) (List.mem_of_getElem? (i := 5) rfl)
  have hfr : ∀ q, (q < st ∨ st + 15 ≤ q) → μ q = μ q := fun q hq => rfl
  have h4 := hOk.2.2.2.1
  refine lv_aload_n hx hb dX5_addInk_0 rfl (lv_at hl 0 rfl) ?_
  refine j_sipush hx hb dX5_addInk_1 ?_ (by decide)
  refine lv_aload_n hx hb dX5_addInk_4 rfl (lv_at hl 0 rfl) ?_
  refine m_get (C := RX5) (T := TX5) (N := 7) (ci := 4) hx hb hts i_X5 hown hK hH hI.1 rfl 2 (by decide) f_0 rfl dX5_addInk_5 ?_
  refine lv_iload_n hx hb dX5_addInk_8 rfl (lv_at hl 1 rfl) ?_
  refine j_iadd hx hb dX5_addInk_9 ?_
  refine m_min hx hb (hml.trans hl.1.symm) hown f_2 f_3 f_4 f_5 (Nat.le_of_ble_eq_true rfl) (Nat.le_of_ble_eq_true rfl) (Nat.le_of_ble_eq_true rfl) (Nat.le_of_ble_eq_true rfl) dX5_addInk_10 ?_ (by omega) (by omega)
  refine m_put (C := RX5) (T := TX5) (N := 7) (ci := 4) hx hb hts i_X5 tyX5 tyX5_ok nmX5 hown hK hH hS hI.1 rfl 2 (by decide) f_0 rfl rfl rfl (Nat.le_of_ble_eq_true rfl) dX5_addInk_13 (fun H locs hH hS => ?_)
  have hI : IsSt G (hu μ st (.inr (4, [.ref (st + 1), .ref (st + 14), .int (iv (min 200 ((σ 4) + k))), .int (iv (σ 9)), .int (iv (σ 10)), .int (iv fp), .int (iv sp)]))) st π (fu σ 4 (min 200 ((σ 4) + k))) fp sp := hI.st (fu σ 4 (min 200 ((σ 4) + k))) fp sp (fun j h1 h2 h3 => fu_n h1)
  have hfr : ∀ q, (q < st ∨ st + 15 ≤ q) → (hu μ st (.inr (4, [.ref (st + 1), .ref (st + 14), .int (iv (min 200 ((σ 4) + k))), .int (iv (σ 9)), .int (iv (σ 10)), .int (iv fp), .int (iv sp)]))) q = μ q := fun q hq => (hu_n (by omega)).trans (hfr q hq)
  have hH : gP G (hu μ st (.inr (4, [.ref (st + 1), .ref (st + 14), .int (iv (min 200 ((σ 4) + k))), .int (iv (σ 9)), .int (iv (σ 10)), .int (iv fp), .int (iv sp)]))) n H := hH
  subst hQ
  refine m_vret hx hb hr hlocks hH hS dX5_addInk_16 ?_
  exact ⟨hI, hfr⟩

abbrev rm_c_X5_turnBand : Room := { frames := 2, cells := 0, slots := 0, locals := 45 }
set_option maxHeartbeats 4000000 in
set_option maxRecDepth 100000 in
theorem c_X5_turnBand (l : Launch) (G : wG) (μ : hM) (n : Nat) (st : Nat) (π : Nat → Nat) (σ : Nat → Int) (fp sp : Int) (pa : Nat) (t : Int) (hI : IsSt G μ st π σ fp sp) (hOk : OkS σ) (hp : pa < 6) (ht : -9 ≤ t ∧ t ≤ 9) : Met l yX5_turnBand wsX5_turnBand rm_c_X5_turnBand (mPc G μ n [.ref st, .int (iv (pa : Int)), .int (iv t)]) (mQv G (fun μ1 n1 => IsSt G μ1 st π (trn σ pa t) fp sp ∧ (∀ q, (q < st ∨ st + 15 ≤ q) → μ1 q = μ q))) 0 0 (gA G) := by
  refine Met.ofW (cc := cX5_turnBand) (maxL := 3) (ret := none) (by decide) rfl ?_
  intro p e s m args below meth c s₁ B hml hv
  obtain ⟨hav, hK, hH⟩ := hv
  have hx := B.exec
  have hb := B.bytes
  have hr := B.returns
  have hts := atoms_spec (ws := wsX5_turnBand) B.pre
  have hown : s.vm.findClass RX5 = some m.cls := findClass_of_methodNamed B.named
  have hlocks := B.notSynchronized
  have hS : va_S (gA G) s.heap s.heap [] := va_S.rf
  have hl := lv_entry ([.ref st, .int (iv (pa : Int)), .int (iv t)]) (n := 3) (Nat.le_of_ble_eq_true rfl)
  have hfr : entryFrame m args 3 = entryFrame m ([.ref st, .int (iv (pa : Int)), .int (iv t)] : List Value).toArray 3 := by rw [hav]
  rw [hfr, lg_entry_eq]
  generalize (lg_sl ([.ref st, .int (iv (pa : Int)), .int (iv t)]) ++ List.replicate (3 - (lg_sl ([.ref st, .int (iv (pa : Int)), .int (iv t)])).length) Slot.unset).toArray = ls at hl ⊢
  have hl : lv_has ls 3 [(0, .ref st), (1, .int (iv (pa : Int))), (2, .int (iv t))] := hl
  generalize hQ : MQ below _ args s 0 0 (gA G) = Q
  show W p l e rm_c_X5_turnBand s m args below meth c s.heap [] 0 0 Q (F0 m 0 ls [])
  obtain ⟨H, hHe⟩ : ∃ H, H = s.heap := ⟨_, rfl⟩
  obtain ⟨locs, hlo⟩ : ∃ q : List Loc, q = [] := ⟨_, rfl⟩
  have hH : gP G μ n H := by rw [hHe]; exact hH
  have hS : va_S (gA G) s.heap H locs := by rw [hHe, hlo]; exact hS
  suffices hgo : W p l e rm_c_X5_turnBand s m args below meth c H locs 0 0 Q (F0 m 0 ls []) by rw [hHe, hlo] at hgo; exact hgo
  clear hHe hlo hfr hav
  have f_0 := hts (.initialized RX8) (List.mem_of_getElem? (i := 8) rfl)
  have f_1 := hts (.static yX8_isPlace) (List.mem_of_getElem? (i := 7) rfl)
  have f_2 := hts (.fieldLink RX5 11 "StampDater$Stamp" "bands" "[LStampDater$Band;") (List.mem_of_getElem? (i := 1) rfl)
  have i_X5 : ∀ w ∈ u_ws RX5 TX5 7, w ∈ wsX5_turnBand := by decide +kernel
  have f_4 := hts (.fieldLink RX5 38 "StampDater$Stamp" "steps" "I") (List.mem_of_getElem? (i := 2) rfl)
  have f_5 := hts (.methodLink RX5 55 Lib.Math.abs.name) (List.mem_of_getElem? (i := 3) rfl)
  have f_6 := hts (.static Lib.Math.abs.name) (List.mem_of_getElem? (i := 4) rfl)
  have f_7 := hts (.initialized "java/lang/Math") (List.mem_of_getElem? (i := 5) rfl)
  have f_8 := hts (.code Lib.Math.abs.name Lib.Math.abs.code 1 (some .int)) (List.mem_of_getElem? (i := 6) rfl)
  have hfr : ∀ q, (q < st ∨ st + 15 ≤ q) → μ q = μ q := fun q hq => rfl
  have hbp := hOk.2.2.2.2 pa hp
  have hpp := hI.2.2.2.2.2.1 pa hp
  have hpN : ((pa : Int)).toNat = pa := by omega
  refine lv_iload_n hx hb dX5_turnBand_0 rfl (lv_at hl 1 rfl) ?_
  refine m_callSNi (As := [.int (iv (pa : Int))]) (rest := []) ⟨hx, hb, hml, hown, hts⟩ hK hH hS (c_X8_isPlace l G μ n (pa : Int) (by omega)) ⟨va_cnB 1 hts gX5_turnBand_X8_isPlace_n60 rfl rfl rfl hK.2.2.2.2.1 f_0 (by decide +kernel) ⟨(Nat.le_of_ble_eq_true rfl), (Nat.le_of_ble_eq_true rfl)⟩, f_1, trivial⟩ rfl rfl hl.1 (Nat.le_of_ble_eq_true rfl) dX5_turnBand_1 ⟨Nat.zero_le _, Nat.zero_le _⟩ (fun z4 μ1 n2 H locs hz4 hp3 hH hS => ?_)
  obtain ⟨hz2, hm2, hn2⟩ := hp3; rw [hz2]; rw [hm2, hn2] at hH; clear hz2 hm2 hn2
  refine j_top (fun r4 hr4 => ?_)
  have hr1 : r4 = 1 := by rw [hr4, if_pos (by omega)]
  refine j_if_eq (tgt := 30) hx hb dX5_turnBand_4 (by decide) (fun c5 => absurd c5 (by omega)) (fun c5 => ?_) (by omega)
  refine lv_aload_n hx hb dX5_turnBand_7 rfl (lv_at hl 0 rfl) ?_
  refine m_get (C := RX5) (T := TX5) (N := 7) (ci := 4) hx hb hts i_X5 hown hK hH hI.1 rfl 0 (by decide) f_2 rfl dX5_turnBand_8 ?_
  refine lv_iload_n hx hb dX5_turnBand_11 rfl (lv_at hl 1 rfl) ?_
  refine m_aald (b := (st + 2 + 2 * π ((pa : Int)).toNat)) hx hb hK hH 2 hI.2.1 rfl rfl dX5_turnBand_12 ?_ (by omega) (by omega)
  rw [hpN]
  refine lv_iload_n hx hb dX5_turnBand_13 rfl (lv_at hl 2 rfl) ?_
  refine m_callVv (As := [.int (iv t)]) (rest := []) ⟨hx, hb, hml, hown, hts⟩ hK hH hS (c_X0_turnBy l G μ n (st + 2 + 2 * π pa) (st + 3 + 2 * π pa) (σ (85 + 13 * pa)) (σ (86 + 13 * pa)) (σ (87 + 13 * pa)) (roww σ pa) t (hI.2.2.2.1 pa (by omega)) (hI.2.2.2.2.1 pa (by omega)) (by omega) (by omega) ht) (cwV 1 hts gX5_turnBand_X0_turnBy rfl rfl rfl (by decide +kernel) ⟨(Nat.le_of_ble_eq_true rfl), (Nat.le_of_ble_eq_true rfl)⟩) (hI.2.2.2.1 pa (by omega)) rfl rfl rfl rfl hl.1 (Nat.le_of_ble_eq_true rfl) dX5_turnBand_14 ⟨Nat.zero_le _, Nat.zero_le _⟩ (fun μ6 n7 H locs hp8 hH hS => ?_)
  obtain ⟨hm2, hn2⟩ := hp8; rw [hm2, hn2] at hH; clear hm2 hn2
  have hI : IsSt G (hu μ (st + 2 + 2 * π pa) (.inr (0, [.int (iv (σ (85 + 13 * pa))), .int (iv ((σ (86 + 13 * pa) + t) % 10)), .int (iv (min 99 (σ (87 + 13 * pa) + (if 0 ≤ t then t else -t)))), .ref (st + 3 + 2 * π pa)]))) st π (bset σ pa (σ (85 + 13 * pa)) ((σ (86 + 13 * pa) + t) % 10) (min 99 (σ (87 + 13 * pa) + (if 0 ≤ t then t else -t)))) fp sp := hI.bs hp (σ (85 + 13 * pa)) ((σ (86 + 13 * pa) + t) % 10) (min 99 (σ (87 + 13 * pa) + (if 0 ≤ t then t else -t)))
  have hfr : ∀ q, (q < st ∨ st + 15 ≤ q) → (hu μ (st + 2 + 2 * π pa) (.inr (0, [.int (iv (σ (85 + 13 * pa))), .int (iv ((σ (86 + 13 * pa) + t) % 10)), .int (iv (min 99 (σ (87 + 13 * pa) + (if 0 ≤ t then t else -t)))), .ref (st + 3 + 2 * π pa)]))) q = μ q := fun q hq => (hu_n (by omega)).trans (hfr q hq)
  refine lv_aload_n hx hb dX5_turnBand_17 rfl (lv_at hl 0 rfl) ?_
  refine lv_dup hx hb dX5_turnBand_18 rfl ?_
  refine m_get (C := RX5) (T := TX5) (N := 7) (ci := 4) hx hb hts i_X5 hown hK hH hI.1 rfl 3 (by decide) f_4 rfl dX5_turnBand_19 ?_
  refine lv_iload_n hx hb dX5_turnBand_22 rfl (lv_at hl 2 rfl) ?_
  refine m_abs hx hb (hml.trans hl.1.symm) hown f_5 f_6 f_7 f_8 (Nat.le_of_ble_eq_true rfl) (Nat.le_of_ble_eq_true rfl) (Nat.le_of_ble_eq_true rfl) (Nat.le_of_ble_eq_true rfl) dX5_turnBand_23 ?_ (by omega)
  refine j_top (fun ab1 hab1 => ?_)
  refine j_iadd hx hb dX5_turnBand_26 ?_
  refine m_put (C := RX5) (T := TX5) (N := 7) (ci := 4) hx hb hts i_X5 tyX5 tyX5_ok nmX5 hown hK hH hS hI.1 rfl 3 (by decide) f_4 rfl rfl rfl (Nat.le_of_ble_eq_true rfl) dX5_turnBand_27 (fun H locs hH hS => ?_)
  have hI : IsSt G (hu (hu μ (st + 2 + 2 * π pa) (.inr (0, [.int (iv (σ (85 + 13 * pa))), .int (iv ((σ (86 + 13 * pa) + t) % 10)), .int (iv (min 99 (σ (87 + 13 * pa) + (if 0 ≤ t then t else -t)))), .ref (st + 3 + 2 * π pa)]))) st (.inr (4, [.ref (st + 1), .ref (st + 14), .int (iv ((bset σ pa (σ (85 + 13 * pa)) ((σ (86 + 13 * pa) + t) % 10) (min 99 (σ (87 + 13 * pa) + (if 0 ≤ t then t else -t)))) 4)), .int (iv (((bset σ pa (σ (85 + 13 * pa)) ((σ (86 + 13 * pa) + t) % 10) (min 99 (σ (87 + 13 * pa) + (if 0 ≤ t then t else -t)))) 9) + ab1)), .int (iv ((bset σ pa (σ (85 + 13 * pa)) ((σ (86 + 13 * pa) + t) % 10) (min 99 (σ (87 + 13 * pa) + (if 0 ≤ t then t else -t)))) 10)), .int (iv fp), .int (iv sp)]))) st π (fu (bset σ pa (σ (85 + 13 * pa)) ((σ (86 + 13 * pa) + t) % 10) (min 99 (σ (87 + 13 * pa) + (if 0 ≤ t then t else -t)))) 9 (((bset σ pa (σ (85 + 13 * pa)) ((σ (86 + 13 * pa) + t) % 10) (min 99 (σ (87 + 13 * pa) + (if 0 ≤ t then t else -t)))) 9) + ab1)) fp sp := hI.st (fu (bset σ pa (σ (85 + 13 * pa)) ((σ (86 + 13 * pa) + t) % 10) (min 99 (σ (87 + 13 * pa) + (if 0 ≤ t then t else -t)))) 9 (((bset σ pa (σ (85 + 13 * pa)) ((σ (86 + 13 * pa) + t) % 10) (min 99 (σ (87 + 13 * pa) + (if 0 ≤ t then t else -t)))) 9) + ab1)) fp sp (fun j h1 h2 h3 => fu_n h2)
  have hfr : ∀ q, (q < st ∨ st + 15 ≤ q) → (hu (hu μ (st + 2 + 2 * π pa) (.inr (0, [.int (iv (σ (85 + 13 * pa))), .int (iv ((σ (86 + 13 * pa) + t) % 10)), .int (iv (min 99 (σ (87 + 13 * pa) + (if 0 ≤ t then t else -t)))), .ref (st + 3 + 2 * π pa)]))) st (.inr (4, [.ref (st + 1), .ref (st + 14), .int (iv ((bset σ pa (σ (85 + 13 * pa)) ((σ (86 + 13 * pa) + t) % 10) (min 99 (σ (87 + 13 * pa) + (if 0 ≤ t then t else -t)))) 4)), .int (iv (((bset σ pa (σ (85 + 13 * pa)) ((σ (86 + 13 * pa) + t) % 10) (min 99 (σ (87 + 13 * pa) + (if 0 ≤ t then t else -t)))) 9) + ab1)), .int (iv ((bset σ pa (σ (85 + 13 * pa)) ((σ (86 + 13 * pa) + t) % 10) (min 99 (σ (87 + 13 * pa) + (if 0 ≤ t then t else -t)))) 10)), .int (iv fp), .int (iv sp)]))) q = μ q := fun q hq => (hu_n (by omega)).trans (hfr q hq)
  have hH : gP G (hu (hu μ (st + 2 + 2 * π pa) (.inr (0, [.int (iv (σ (85 + 13 * pa))), .int (iv ((σ (86 + 13 * pa) + t) % 10)), .int (iv (min 99 (σ (87 + 13 * pa) + (if 0 ≤ t then t else -t)))), .ref (st + 3 + 2 * π pa)]))) st (.inr (4, [.ref (st + 1), .ref (st + 14), .int (iv ((bset σ pa (σ (85 + 13 * pa)) ((σ (86 + 13 * pa) + t) % 10) (min 99 (σ (87 + 13 * pa) + (if 0 ≤ t then t else -t)))) 4)), .int (iv (((bset σ pa (σ (85 + 13 * pa)) ((σ (86 + 13 * pa) + t) % 10) (min 99 (σ (87 + 13 * pa) + (if 0 ≤ t then t else -t)))) 9) + ab1)), .int (iv ((bset σ pa (σ (85 + 13 * pa)) ((σ (86 + 13 * pa) + t) % 10) (min 99 (σ (87 + 13 * pa) + (if 0 ≤ t then t else -t)))) 10)), .int (iv fp), .int (iv sp)]))) n H := hH
  subst hQ
  refine m_vret hx hb hr hlocks hH hS dX5_turnBand_30 ?_
  subst hab1
  have e9 := trn_eq (σ := σ) (p := pa) (t := t) (x := if 0 ≤ t then t else -t) rfl hp
  rw [e9] at hI
  exact ⟨hI, hfr⟩

abbrev rm_c_X5_shownDigits : Room := { frames := 0, cells := 0, slots := 0, locals := 0 }
set_option maxHeartbeats 4000000 in
set_option maxRecDepth 100000 in
theorem c_X5_shownDigits (l : Launch) (G : wG) (μ : hM) (n : Nat) (st : Nat) (π : Nat → Nat) (σ : Nat → Int) (fp sp : Int) (hI : IsSt G μ st π σ fp sp) (hOk : OkS σ) : Met l yX5_shownDigits wsX5_shownDigits rm_c_X5_shownDigits (mPc G μ n [.ref st]) (mQi G (fun z μ1 n1 => z = shw σ 6 ∧ μ1 = μ ∧ n1 = n)) 0 0 (gA G) := by
  refine Met.ofW (cc := cX5_shownDigits) (maxL := 6) (ret := (some .int)) (by decide) rfl ?_
  intro p e s m args below meth c s₁ B hml hv
  obtain ⟨hav, hK, hH⟩ := hv
  have hx := B.exec
  have hb := B.bytes
  have hr := B.returns
  have hts := atoms_spec (ws := wsX5_shownDigits) B.pre
  have hown : s.vm.findClass RX5 = some m.cls := findClass_of_methodNamed B.named
  have hlocks := B.notSynchronized
  have hS : va_S (gA G) s.heap s.heap [] := va_S.rf
  have hl := lv_entry ([.ref st]) (n := 6) (Nat.le_of_ble_eq_true rfl)
  have hfr : entryFrame m args 6 = entryFrame m ([.ref st] : List Value).toArray 6 := by rw [hav]
  rw [hfr, lg_entry_eq]
  generalize (lg_sl ([.ref st]) ++ List.replicate (6 - (lg_sl ([.ref st])).length) Slot.unset).toArray = ls at hl ⊢
  have hl : lv_has ls 6 [(0, .ref st)] := hl
  generalize hQ : MQ below _ args s 0 0 (gA G) = Q
  show W p l e rm_c_X5_shownDigits s m args below meth c s.heap [] 0 0 Q (F0 m 0 ls [])
  obtain ⟨H, hHe⟩ : ∃ H, H = s.heap := ⟨_, rfl⟩
  obtain ⟨locs, hlo⟩ : ∃ q : List Loc, q = [] := ⟨_, rfl⟩
  have hH : gP G μ n H := by rw [hHe]; exact hH
  have hS : va_S (gA G) s.heap H locs := by rw [hHe, hlo]; exact hS
  suffices hgo : W p l e rm_c_X5_shownDigits s m args below meth c H locs 0 0 Q (F0 m 0 ls []) by rw [hHe, hlo] at hgo; exact hgo
  clear hHe hlo hfr hav
  have f_0 := hts (.fieldLink RX5 11 "StampDater$Stamp" "bands" "[LStampDater$Band;") (List.mem_of_getElem? (i := 1) rfl)
  have i_X5 : ∀ w ∈ u_ws RX5 TX5 7, w ∈ wsX5_shownDigits := by decide +kernel
  have f_2 := hts (.fieldLink RX5 44 "StampDater$Band" "shown" "I") (List.mem_of_getElem? (i := 2) rfl)
  have i_X0 : ∀ w ∈ u_ws RX0 TX0 4, w ∈ wsX5_shownDigits := by decide +kernel
  have hfr : ∀ q, (q < st ∨ st + 15 ≤ q) → μ q = μ q := fun q hq => rfl
  have hs6 := shw_6 hOk
  refine j_const hx hb dX5_shownDigits_0 ?_
  refine lv_istore_n (lv' := [(1, .int (iv 0)), (0, .ref st)]) hx hb dX5_shownDigits_1 rfl hl (by decide) rfl (fun ls hl => ?_)
  refine lv_aload_n hx hb dX5_shownDigits_2 rfl (lv_at hl 1 rfl) ?_
  refine m_get (C := RX5) (T := TX5) (N := 7) (ci := 4) hx hb hts i_X5 hown hK hH hI.1 rfl 0 (by decide) f_0 rfl dX5_shownDigits_3 ?_
  refine lv_astore_n (lv' := [(2, .ref (st + 1)), (1, .int (iv 0)), (0, .ref st)]) hx hb dX5_shownDigits_6 rfl hl (by decide) rfl (fun ls hl => ?_)
  refine lv_aload_n hx hb dX5_shownDigits_7 rfl (lv_at hl 0 rfl) ?_
  refine m_alen hx hb hK hH 2 hI.2.1 rfl dX5_shownDigits_8 ?_
  refine j_norm (y := 6) (by rfl) ?_
  refine lv_istore_n (lv' := [(3, .int (iv 6)), (2, .ref (st + 1)), (1, .int (iv 0)), (0, .ref st)]) hx hb dX5_shownDigits_9 rfl hl (by decide) rfl (fun ls hl => ?_)
  refine j_const hx hb dX5_shownDigits_10 ?_
  refine lv_istore (lv' := [(4, .int (iv 0)), (3, .int (iv 6)), (2, .ref (st + 1)), (1, .int (iv 0)), (0, .ref st)]) hx hb dX5_shownDigits_11 hl (by decide) rfl (fun ls hl => ?_)
  have lp13 : ∀ (k : Nat) (i : Int) (a : Int) (hi : 0 ≤ i ∧ i ≤ 6) (ha : a = shw σ i.toNat) (_ : (6 - i).toNat < k) (H : Heap) (locs : List Loc) (ls : Array Slot) (_ : gP G μ n H) (_ : va_S (gA G) s.heap H locs) (_ : lv_has ls 6 [(1, .int (iv a)), (2, .ref (st + 1)), (3, .int (iv 6)), (4, .int (iv i))]), W p l e rm_c_X5_shownDigits s m args below meth c H locs 0 0 Q (F0 m 13 ls []) := by
    intro k
    induction k with
    | zero => intro _ _ _ _ hk; exact absurd hk (Nat.not_lt_zero _)
    | succ k ih =>
      intro i a hi ha hk H locs ls hH hS hl
      have ih1 := ih; clear ih
      refine lv_iload hx hb dX5_shownDigits_13 (lv_at hl 3 rfl) ?_
      refine lv_iload_n hx hb dX5_shownDigits_15 rfl (lv_at hl 2 rfl) ?_
      refine j_icmp_ge (tgt := 42) hx hb dX5_shownDigits_16 (by decide) (fun c2 => ?_) (fun c2 => ?_) (by omega) (by omega)
      · skip
        have hi6 : i.toNat = 6 := by omega
        rw [hi6] at ha
        refine lv_iload_n hx hb dX5_shownDigits_42 rfl (lv_at hl 0 rfl) ?_
        subst hQ
        refine m_iret hx hb hr hlocks hH hS dX5_shownDigits_43 ?_ (by omega)
        exact ⟨ha, rfl, rfl⟩
      · skip
        refine lv_aload_n hx hb dX5_shownDigits_19 rfl (lv_at hl 1 rfl) ?_
        refine lv_iload hx hb dX5_shownDigits_20 (lv_at hl 3 rfl) ?_
        refine m_aald (b := (st + 2 + 2 * π (i).toNat)) hx hb hK hH 2 hI.2.1 rfl rfl dX5_shownDigits_22 ?_ (by omega) (by omega)
        refine lv_astore (lv' := [(5, .ref (st + 2 + 2 * π (i).toNat)), (1, .int (iv a)), (2, .ref (st + 1)), (3, .int (iv 6)), (4, .int (iv i))]) hx hb dX5_shownDigits_23 hl (by decide) rfl (fun ls hl => ?_)
        refine j_bipush hx hb dX5_shownDigits_25 ?_ (by decide)
        refine lv_iload_n hx hb dX5_shownDigits_27 rfl (lv_at hl 1 rfl) ?_
        refine j_imul hx hb dX5_shownDigits_28 ?_
        refine lv_aload hx hb dX5_shownDigits_29 (lv_at hl 0 rfl) ?_
        refine m_get (C := RX0) (T := TX0) (N := 4) (ci := 0) hx hb hts i_X0 hown hK hH (hI.2.2.2.1 (i).toNat (by omega)) rfl 1 (by decide) f_2 rfl dX5_shownDigits_31 ?_
        refine j_iadd hx hb dX5_shownDigits_34 ?_
        refine lv_istore_n (lv' := [(1, .int (iv ((10 * a) + (σ (86 + 13 * (i).toNat))))), (5, .ref (st + 2 + 2 * π (i).toNat)), (2, .ref (st + 1)), (3, .int (iv 6)), (4, .int (iv i))]) hx hb dX5_shownDigits_35 rfl hl (by decide) rfl (fun ls hl => ?_)
        refine j_iinc (lv' := [(4, .int (iv (i + 1))), (1, .int (iv ((10 * a) + (σ (86 + 13 * (i).toNat))))), (5, .ref (st + 2 + 2 * π (i).toNat)), (2, .ref (st + 1)), (3, .int (iv 6))]) hx hb dX5_shownDigits_36 hl (k := 4) rfl (by decide) rfl (fun ls hl => ?_)
        refine lv_goto (tgt := 13) hx hb dX5_shownDigits_39 (by decide) ?_
        exact ih1 (i + 1) ((10 * a) + (σ (86 + 13 * (i).toNat))) (by omega) (by rw [tN1 hi.1, ha]; rfl) (by omega) H locs ls hH hS (lv_sub hl [1, 3, 4, 0] rfl)
  exact lp13 (7) 0 0 (by omega) rfl (by omega) H locs ls hH hS (lv_sub hl [3, 2, 1, 0] rfl)

abbrev rm_c_X5_stepsToDigits : Room := { frames := 2, cells := 0, slots := 0, locals := 44 }
set_option maxHeartbeats 4000000 in
set_option maxRecDepth 100000 in
theorem c_X5_stepsToDigits (l : Launch) (G : wG) (μ : hM) (n : Nat) (st : Nat) (π : Nat → Nat) (σ : Nat → Int) (fp sp : Int) (D : Int) (hI : IsSt G μ st π σ fp sp) (hOk : OkS σ) (hD : 0 ≤ D ∧ D ≤ 999999) : Met l yX5_stepsToDigits wsX5_stepsToDigits rm_c_X5_stepsToDigits (mPc G μ n [.ref st, .int (iv D)]) (mQi G (fun z μ1 n1 => z = wsm σ D 0 6 ∧ μ1 = μ ∧ n1 = n)) 0 0 (gA G) := by
  refine Met.ofW (cc := cX5_stepsToDigits) (maxL := 5) (ret := (some .int)) (by decide) rfl ?_
  intro p e s m args below meth c s₁ B hml hv
  obtain ⟨hav, hK, hH⟩ := hv
  have hx := B.exec
  have hb := B.bytes
  have hr := B.returns
  have hts := atoms_spec (ws := wsX5_stepsToDigits) B.pre
  have hown : s.vm.findClass RX5 = some m.cls := findClass_of_methodNamed B.named
  have hlocks := B.notSynchronized
  have hS : va_S (gA G) s.heap s.heap [] := va_S.rf
  have hl := lv_entry ([.ref st, .int (iv D)]) (n := 5) (Nat.le_of_ble_eq_true rfl)
  have hfr : entryFrame m args 5 = entryFrame m ([.ref st, .int (iv D)] : List Value).toArray 5 := by rw [hav]
  rw [hfr, lg_entry_eq]
  generalize (lg_sl ([.ref st, .int (iv D)]) ++ List.replicate (5 - (lg_sl ([.ref st, .int (iv D)])).length) Slot.unset).toArray = ls at hl ⊢
  have hl : lv_has ls 5 [(0, .ref st), (1, .int (iv D))] := hl
  generalize hQ : MQ below _ args s 0 0 (gA G) = Q
  show W p l e rm_c_X5_stepsToDigits s m args below meth c s.heap [] 0 0 Q (F0 m 0 ls [])
  obtain ⟨H, hHe⟩ : ∃ H, H = s.heap := ⟨_, rfl⟩
  obtain ⟨locs, hlo⟩ : ∃ q : List Loc, q = [] := ⟨_, rfl⟩
  have hH : gP G μ n H := by rw [hHe]; exact hH
  have hS : va_S (gA G) s.heap H locs := by rw [hHe, hlo]; exact hS
  suffices hgo : W p l e rm_c_X5_stepsToDigits s m args below meth c H locs 0 0 Q (F0 m 0 ls []) by rw [hHe, hlo] at hgo; exact hgo
  clear hHe hlo hfr hav
  have f_0 := hts (.fieldLink RX5 11 "StampDater$Stamp" "bands" "[LStampDater$Band;") (List.mem_of_getElem? (i := 1) rfl)
  have i_X5 : ∀ w ∈ u_ws RX5 TX5 7, w ∈ wsX5_stepsToDigits := by decide +kernel
  have f_2 := hts (.methodLink RX5 55 Lib.Math.abs.name) (List.mem_of_getElem? (i := 2) rfl)
  have f_3 := hts (.static Lib.Math.abs.name) (List.mem_of_getElem? (i := 3) rfl)
  have f_4 := hts (.initialized "java/lang/Math") (List.mem_of_getElem? (i := 4) rfl)
  have f_5 := hts (.code Lib.Math.abs.name Lib.Math.abs.code 1 (some .int)) (List.mem_of_getElem? (i := 5) rfl)
  have hfr : ∀ q, (q < st ∨ st + 15 ≤ q) → μ q = μ q := fun q hq => rfl
  refine j_const hx hb dX5_stepsToDigits_0 ?_
  refine lv_istore_n (lv' := [(2, .int (iv 0)), (0, .ref st), (1, .int (iv D))]) hx hb dX5_stepsToDigits_1 rfl hl (by decide) rfl (fun ls hl => ?_)
  refine lv_iload_n hx hb dX5_stepsToDigits_2 rfl (lv_at hl 2 rfl) ?_
  refine lv_istore_n (lv' := [(3, .int (iv D)), (2, .int (iv 0)), (0, .ref st), (1, .int (iv D))]) hx hb dX5_stepsToDigits_3 rfl hl (by decide) rfl (fun ls hl => ?_)
  refine j_const hx hb dX5_stepsToDigits_4 ?_
  refine lv_istore (lv' := [(4, .int (iv 5)), (3, .int (iv D)), (2, .int (iv 0)), (0, .ref st), (1, .int (iv D))]) hx hb dX5_stepsToDigits_5 hl (by decide) rfl (fun ls hl => ?_)
  have lp7 : ∀ (k : Nat) (i : Int) (a : Int) (rs : Int) (hi : -1 ≤ i ∧ i ≤ 5) (ha : a = wsm σ D (i + 1) 6) (hrs : rs = dRest D i) (_ : (i + 1).toNat < k) (H : Heap) (locs : List Loc) (ls : Array Slot) (_ : gP G μ n H) (_ : va_S (gA G) s.heap H locs) (_ : lv_has ls 5 [(0, .ref st), (2, .int (iv a)), (3, .int (iv rs)), (4, .int (iv i))]), W p l e rm_c_X5_stepsToDigits s m args below meth c H locs 0 0 Q (F0 m 7 ls []) := by
    intro k
    induction k with
    | zero => intro _ _ _ _ _ _ hk; exact absurd hk (Nat.not_lt_zero _)
    | succ k ih =>
      intro i a rs hi ha hrs hk H locs ls hH hS hl
      have ih1 := ih; clear ih
      refine lv_iload hx hb dX5_stepsToDigits_7 (lv_at hl 3 rfl) ?_
      refine j_if_lt (tgt := 43) hx hb dX5_stepsToDigits_9 (by decide) (fun c2 => ?_) (fun c2 => ?_) (by omega)
      · skip
        have hw := wsm_rng σ D (i + 1) 6
        refine lv_iload_n hx hb dX5_stepsToDigits_43 rfl (lv_at hl 1 rfl) ?_
        subst hQ
        refine m_iret hx hb hr hlocks hH hS dX5_stepsToDigits_44 ?_ (by omega)
        refine ⟨?_, rfl, rfl⟩
        rw [ha, show i + 1 = 0 by omega]
      · skip
        refine lv_iload_n hx hb dX5_stepsToDigits_12 rfl (lv_at hl 1 rfl) ?_
        refine lv_aload_n hx hb dX5_stepsToDigits_13 rfl (lv_at hl 0 rfl) ?_
        refine m_get (C := RX5) (T := TX5) (N := 7) (ci := 4) hx hb hts i_X5 hown hK hH hI.1 rfl 0 (by decide) f_0 rfl dX5_stepsToDigits_14 ?_
        refine lv_iload hx hb dX5_stepsToDigits_17 (lv_at hl 3 rfl) ?_
        refine m_aald (b := (st + 2 + 2 * π (i).toNat)) hx hb hK hH 2 hI.2.1 rfl rfl dX5_stepsToDigits_19 ?_ (by omega) (by omega)
        have hrr := dRest_rng (i := i) hD
        rw [← hrs] at hrr
        have hbp := hOk.2.2.2.2 i.toNat (by omega)
        refine lv_iload_n hx hb dX5_stepsToDigits_20 rfl (lv_at hl 2 rfl) ?_
        refine j_bipush hx hb dX5_stepsToDigits_21 ?_ (by decide)
        refine j_irem hx hb dX5_stepsToDigits_23 ?_ (by omega) (by omega)
        have hdd := dRest_d (D := D) (i := i) (by omega)
        rw [← hrs] at hdd
        rw [hdd]
        have hda := dAt_rng D i.toNat
        refine m_callVi (As := [.int (iv (dAt D i.toNat))]) (rest := [.int (iv a)]) ⟨hx, hb, hml, hown, hts⟩ hK hH hS (c_X0_wayTo l G μ n (st + 2 + 2 * π (i).toNat) (st + 3 + 2 * π (i).toNat) (σ (85 + 13 * (i).toNat)) (σ (86 + 13 * (i).toNat)) (σ (87 + 13 * (i).toNat)) (roww σ (i).toNat) (dAt D i.toNat) (hI.2.2.2.1 (i).toNat (by omega)) (hI.2.2.2.2.1 (i).toNat (by omega)) (by omega) (by omega)) (cwV 1 hts gX5_stepsToDigits_X0_wayTo rfl rfl rfl (by decide +kernel) ⟨(Nat.le_of_ble_eq_true rfl), (Nat.le_of_ble_eq_true rfl)⟩) (hI.2.2.2.1 (i).toNat (by omega)) rfl rfl rfl rfl hl.1 (Nat.le_of_ble_eq_true rfl) dX5_stepsToDigits_24 ⟨Nat.zero_le _, Nat.zero_le _⟩ (fun z6 μ3 n4 H locs hz6 hp5 hH hS => ?_)
        obtain ⟨hz2, hm2, hn2⟩ := hp5; rw [hz2]; rw [hm2, hn2] at hH; clear hz2 hm2 hn2
        have hwr := wayf_rng (σ (86 + 13 * i.toNat)) (dAt D i.toNat)
        refine m_abs hx hb (hml.trans hl.1.symm) hown f_2 f_3 f_4 f_5 (Nat.le_of_ble_eq_true rfl) (Nat.le_of_ble_eq_true rfl) (Nat.le_of_ble_eq_true rfl) (Nat.le_of_ble_eq_true rfl) dX5_stepsToDigits_27 ?_ (by omega)
        have ha2 : a + (if 0 ≤ wayf (σ (86 + 13 * i.toNat)) (dAt D i.toNat) then wayf (σ (86 + 13 * i.toNat)) (dAt D i.toNat) else -(wayf (σ (86 + 13 * i.toNat)) (dAt D i.toNat))) = wsm σ D (i + -1 + 1) 6 := by
          have e1 := wsm_lo (σ := σ) (D := D) (p := i.toNat) (by omega)
          rw [show ((i.toNat : Nat) : Int) = i by omega] at e1
          rw [show i + -1 + 1 = i by omega, ← e1, ha]
          rfl
        refine j_iadd hx hb dX5_stepsToDigits_30 ?_
        refine lv_istore_n (lv' := [(2, .int (iv (a + (if 0 ≤ (wayf (σ (86 + 13 * (i).toNat)) (dAt D i.toNat)) then (wayf (σ (86 + 13 * (i).toNat)) (dAt D i.toNat)) else -(wayf (σ (86 + 13 * (i).toNat)) (dAt D i.toNat)))))), (0, .ref st), (3, .int (iv rs)), (4, .int (iv i))]) hx hb dX5_stepsToDigits_31 rfl hl (by decide) rfl (fun ls hl => ?_)
        refine lv_iload_n hx hb dX5_stepsToDigits_32 rfl (lv_at hl 2 rfl) ?_
        refine j_bipush hx hb dX5_stepsToDigits_33 ?_ (by decide)
        refine j_idiv hx hb dX5_stepsToDigits_35 ?_ (by omega) (by omega)
        refine lv_istore_n (lv' := [(3, .int (iv (rs / 10))), (2, .int (iv (a + (if 0 ≤ (wayf (σ (86 + 13 * (i).toNat)) (dAt D i.toNat)) then (wayf (σ (86 + 13 * (i).toNat)) (dAt D i.toNat)) else -(wayf (σ (86 + 13 * (i).toNat)) (dAt D i.toNat)))))), (0, .ref st), (4, .int (iv i))]) hx hb dX5_stepsToDigits_36 rfl hl (by decide) rfl (fun ls hl => ?_)
        refine j_iinc (lv' := [(4, .int (iv (i + -1))), (3, .int (iv (rs / 10))), (2, .int (iv (a + (if 0 ≤ (wayf (σ (86 + 13 * (i).toNat)) (dAt D i.toNat)) then (wayf (σ (86 + 13 * (i).toNat)) (dAt D i.toNat)) else -(wayf (σ (86 + 13 * (i).toNat)) (dAt D i.toNat)))))), (0, .ref st)]) hx hb dX5_stepsToDigits_37 hl (k := 3) rfl (by decide) rfl (fun ls hl => ?_)
        refine lv_goto (tgt := 7) hx hb dX5_stepsToDigits_40 (by decide) ?_
        exact ih1 (i + -1) (a + (if 0 ≤ (wayf (σ (86 + 13 * (i).toNat)) (dAt D i.toNat)) then (wayf (σ (86 + 13 * (i).toNat)) (dAt D i.toNat)) else -(wayf (σ (86 + 13 * (i).toNat)) (dAt D i.toNat)))) (rs / 10) (by omega) ha2 (by rw [hrs]; exact dRest_s (by omega)) (by omega) H locs ls hH hS (lv_sub hl [3, 2, 1, 0] rfl)
  exact lp7 (7) 5 0 D (by omega) (wsm_no (by omega)).symm rfl (by omega) H locs ls hH hS (lv_sub hl [3, 2, 1, 0] rfl)

abbrev rm_c_X5_showDigits : Room := { frames := 3, cells := 0, slots := 0, locals := 67 }
set_option maxHeartbeats 4000000 in
set_option maxRecDepth 100000 in
theorem c_X5_showDigits (l : Launch) (G : wG) (μ : hM) (n : Nat) (st : Nat) (π : Nat → Nat) (σ : Nat → Int) (fp sp : Int) (D : Int) (hI : IsSt G μ st π σ fp sp) (hOk : OkS σ) (hD : 0 ≤ D ∧ D ≤ 999999) : Met l yX5_showDigits wsX5_showDigits rm_c_X5_showDigits (mPc G μ n [.ref st, .int (iv D)]) (mQi G (fun z μ1 n1 => z = wsm σ D 0 6 ∧ IsSt G μ1 st π (adj σ D) fp sp ∧ (∀ q, (q < st ∨ st + 15 ≤ q) → μ1 q = μ q))) 0 0 (gA G) := by
  refine Met.ofW (cc := cX5_showDigits) (maxL := 5) (ret := (some .int)) (by decide) rfl ?_
  intro p e s m args below meth c s₁ B hml hv
  obtain ⟨hav, hK, hH⟩ := hv
  have hx := B.exec
  have hb := B.bytes
  have hr := B.returns
  have hts := atoms_spec (ws := wsX5_showDigits) B.pre
  have hown : s.vm.findClass RX5 = some m.cls := findClass_of_methodNamed B.named
  have hlocks := B.notSynchronized
  have hS : va_S (gA G) s.heap s.heap [] := va_S.rf
  have hl := lv_entry ([.ref st, .int (iv D)]) (n := 5) (Nat.le_of_ble_eq_true rfl)
  have hfr : entryFrame m args 5 = entryFrame m ([.ref st, .int (iv D)] : List Value).toArray 5 := by rw [hav]
  rw [hfr, lg_entry_eq]
  generalize (lg_sl ([.ref st, .int (iv D)]) ++ List.replicate (5 - (lg_sl ([.ref st, .int (iv D)])).length) Slot.unset).toArray = ls at hl ⊢
  have hl : lv_has ls 5 [(0, .ref st), (1, .int (iv D))] := hl
  generalize hQ : MQ below _ args s 0 0 (gA G) = Q
  show W p l e rm_c_X5_showDigits s m args below meth c s.heap [] 0 0 Q (F0 m 0 ls [])
  obtain ⟨H, hHe⟩ : ∃ H, H = s.heap := ⟨_, rfl⟩
  obtain ⟨locs, hlo⟩ : ∃ q : List Loc, q = [] := ⟨_, rfl⟩
  have hH : gP G μ n H := by rw [hHe]; exact hH
  have hS : va_S (gA G) s.heap H locs := by rw [hHe, hlo]; exact hS
  suffices hgo : W p l e rm_c_X5_showDigits s m args below meth c H locs 0 0 Q (F0 m 0 ls []) by rw [hHe, hlo] at hgo; exact hgo
  clear hHe hlo hfr hav
  have f_0 := hts (.fieldLink RX5 38 "StampDater$Stamp" "steps" "I") (List.mem_of_getElem? (i := 1) rfl)
  have i_X5 : ∀ w ∈ u_ws RX5 TX5 7, w ∈ wsX5_showDigits := by decide +kernel
  have f_2 := hts (.fieldLink RX5 11 "StampDater$Stamp" "bands" "[LStampDater$Band;") (List.mem_of_getElem? (i := 2) rfl)
  have hfr : ∀ q, (q < st ∨ st + 15 ≤ q) → μ q = μ q := fun q hq => rfl
  refine lv_aload_n hx hb dX5_showDigits_0 rfl (lv_at hl 0 rfl) ?_
  refine m_get (C := RX5) (T := TX5) (N := 7) (ci := 4) hx hb hts i_X5 hown hK hH hI.1 rfl 3 (by decide) f_0 rfl dX5_showDigits_1 ?_
  refine lv_istore_n (lv' := [(2, .int (iv (σ 9))), (0, .ref st), (1, .int (iv D))]) hx hb dX5_showDigits_4 rfl hl (by decide) rfl (fun ls hl => ?_)
  refine lv_iload_n hx hb dX5_showDigits_5 rfl (lv_at hl 2 rfl) ?_
  refine lv_istore_n (lv' := [(3, .int (iv D)), (2, .int (iv (σ 9))), (0, .ref st), (1, .int (iv D))]) hx hb dX5_showDigits_6 rfl hl (by decide) rfl (fun ls hl => ?_)
  refine j_const hx hb dX5_showDigits_7 ?_
  refine lv_istore (lv' := [(4, .int (iv 5)), (3, .int (iv D)), (2, .int (iv (σ 9))), (0, .ref st), (1, .int (iv D))]) hx hb dX5_showDigits_8 hl (by decide) rfl (fun ls hl => ?_)
  have lp10 : ∀ (k : Nat) (i : Int) (rs : Int) (ν : hM) (ν0 : Nat) (hi : -1 ≤ i ∧ i ≤ 5) (hI : IsSt G ν st π (adjF σ D (i + 1) 6) fp sp) (hrs : rs = dRest D i) (hfr : ∀ q, (q < st ∨ st + 15 ≤ q) → ν q = μ q) (_ : (i + 1).toNat < k) (H : Heap) (locs : List Loc) (ls : Array Slot) (_ : gP G ν ν0 H) (_ : va_S (gA G) s.heap H locs) (_ : lv_has ls 5 [(0, .ref st), (2, .int (iv (σ 9))), (3, .int (iv rs)), (4, .int (iv i))]), W p l e rm_c_X5_showDigits s m args below meth c H locs 0 0 Q (F0 m 10 ls []) := by
    intro k
    induction k with
    | zero => intro _ _ _ _ _ _ _ _ hk; exact absurd hk (Nat.not_lt_zero _)
    | succ k ih =>
      intro i rs ν ν0 hi hI hrs hfr hk H locs ls hH hS hl
      have ih1 := ih; clear ih
      refine lv_iload hx hb dX5_showDigits_10 (lv_at hl 3 rfl) ?_
      refine j_if_lt (tgt := 46) hx hb dX5_showDigits_12 (by decide) (fun c2 => ?_) (fun c2 => ?_) (by omega)
      · skip
        have hi0 : i + 1 = 0 := by omega
        rw [hi0] at hI
        have hwz := wsm_rng σ D 0 6
        refine lv_aload_n hx hb dX5_showDigits_46 rfl (lv_at hl 0 rfl) ?_
        refine m_get (C := RX5) (T := TX5) (N := 7) (ci := 4) hx hb hts i_X5 hown hK hH hI.1 rfl 3 (by decide) f_0 rfl dX5_showDigits_47 ?_
        refine lv_iload_n hx hb dX5_showDigits_50 rfl (lv_at hl 1 rfl) ?_
        refine j_isub hx hb dX5_showDigits_51 ?_
        have h9 : adjF σ D 0 6 9 - σ 9 = wsm σ D 0 6 := by show σ 9 + wsm σ D 0 6 - σ 9 = _; omega
        rw [h9]
        subst hQ
        refine m_iret hx hb hr hlocks hH hS dX5_showDigits_52 ?_ (by omega)
        exact ⟨rfl, hI, hfr⟩
      · skip
        refine lv_aload_n hx hb dX5_showDigits_15 rfl (lv_at hl 0 rfl) ?_
        refine lv_iload hx hb dX5_showDigits_16 (lv_at hl 3 rfl) ?_
        refine j_norm (y := ((i.toNat : Nat) : Int)) (by omega) ?_
        refine lv_aload_n hx hb dX5_showDigits_18 rfl (lv_at hl 0 rfl) ?_
        refine m_get (C := RX5) (T := TX5) (N := 7) (ci := 4) hx hb hts i_X5 hown hK hH hI.1 rfl 0 (by decide) f_2 rfl dX5_showDigits_19 ?_
        refine lv_iload hx hb dX5_showDigits_22 (lv_at hl 3 rfl) ?_
        refine m_aald (b := (st + 2 + 2 * π (i).toNat)) hx hb hK hH 2 hI.2.1 rfl rfl dX5_showDigits_24 ?_ (by omega) (by omega)
        have hrr := dRest_rng (i := i) hD
        rw [← hrs] at hrr
        have hbp := hOk.2.2.2.2 i.toNat (by omega)
        have hsh := adj_at (σ := σ) (D := D) (lo := i + 1) (hi := 6) (p := i.toNat) (by omega)
        rw [if_neg (by omega)] at hsh
        refine lv_iload_n hx hb dX5_showDigits_25 rfl (lv_at hl 2 rfl) ?_
        refine j_bipush hx hb dX5_showDigits_26 ?_ (by decide)
        refine j_irem hx hb dX5_showDigits_28 ?_ (by omega) (by omega)
        have hdd := dRest_d (D := D) (i := i) (by omega)
        rw [← hrs] at hdd
        rw [hdd]
        have hda := dAt_rng D i.toNat
        refine m_callVi (As := [.int (iv (dAt D i.toNat))]) (rest := [.int (iv ((i.toNat : Nat) : Int)), .ref st]) ⟨hx, hb, hml, hown, hts⟩ hK hH hS (c_X0_wayTo l G ν ν0 (st + 2 + 2 * π (i).toNat) (st + 3 + 2 * π (i).toNat) ((adjF σ D (i + 1) 6) (85 + 13 * (i).toNat)) ((adjF σ D (i + 1) 6) (86 + 13 * (i).toNat)) ((adjF σ D (i + 1) 6) (87 + 13 * (i).toNat)) (roww (adjF σ D (i + 1) 6) (i).toNat) (dAt D i.toNat) (hI.2.2.2.1 (i).toNat (by omega)) (hI.2.2.2.2.1 (i).toNat (by omega)) (by omega) (by omega)) (cwV 1 hts gX5_showDigits_X0_wayTo rfl rfl rfl (by decide +kernel) ⟨(Nat.le_of_ble_eq_true rfl), (Nat.le_of_ble_eq_true rfl)⟩) (hI.2.2.2.1 (i).toNat (by omega)) rfl rfl rfl rfl hl.1 (Nat.le_of_ble_eq_true rfl) dX5_showDigits_29 ⟨Nat.zero_le _, Nat.zero_le _⟩ (fun z6 μ3 n4 H locs hz6 hp5 hH hS => ?_)
        obtain ⟨hz2, hm2, hn2⟩ := hp5; rw [hz2]; rw [hm2, hn2] at hH; clear hz2 hm2 hn2
        rw [hsh]
        have hwr := wayf_rng (σ (86 + 13 * i.toNat)) (dAt D i.toNat)
        refine m_callVv (As := [.int (iv ((i.toNat : Nat) : Int)), .int (iv (wayf (σ (86 + 13 * i.toNat)) (dAt D i.toNat)))]) (rest := []) ⟨hx, hb, hml, hown, hts⟩ hK hH hS (c_X5_turnBand l G ν ν0 st π (adjF σ D (i + 1) 6) fp sp i.toNat (wayf (σ (86 + 13 * i.toNat)) (dAt D i.toNat)) hI (okS_adj hOk _ _ _) (by omega) hwr) (cwV 2 hts gX5_showDigits_X5_turnBand rfl rfl rfl (by decide +kernel) ⟨(Nat.le_of_ble_eq_true rfl), (Nat.le_of_ble_eq_true rfl)⟩) hI.1 rfl rfl rfl rfl hl.1 (Nat.le_of_ble_eq_true rfl) dX5_showDigits_32 ⟨Nat.zero_le _, Nat.zero_le _⟩ (fun μ7 n8 H locs hp9 hH hS => ?_)
        obtain ⟨hI, hfr1⟩ := hp9
        have e0 : ((i.toNat : Nat) : Int) = i := by omega
        have e1 := adj_lo (σ := σ) (D := D) (p := i.toNat) (by omega) hbp.2.1
        rw [e0] at e1
        have hI : IsSt G μ7 st π (adjF σ D i 6) fp sp := by rw [← e1]; exact hI
        have hfr : ∀ q, (q < st ∨ st + 15 ≤ q) → μ7 q = μ q := fun q hq => (hfr1 q hq).trans (hfr q hq)
        have hI : IsSt G μ7 st π (adjF σ D (i + -1 + 1) 6) fp sp := by rw [show i + -1 + 1 = i by omega]; exact hI
        refine lv_iload_n hx hb dX5_showDigits_35 rfl (lv_at hl 2 rfl) ?_
        refine j_bipush hx hb dX5_showDigits_36 ?_ (by decide)
        refine j_idiv hx hb dX5_showDigits_38 ?_ (by omega) (by omega)
        refine lv_istore_n (lv' := [(3, .int (iv (rs / 10))), (0, .ref st), (2, .int (iv (σ 9))), (4, .int (iv i))]) hx hb dX5_showDigits_39 rfl hl (by decide) rfl (fun ls hl => ?_)
        refine j_iinc (lv' := [(4, .int (iv (i + -1))), (3, .int (iv (rs / 10))), (0, .ref st), (2, .int (iv (σ 9)))]) hx hb dX5_showDigits_40 hl (k := 3) rfl (by decide) rfl (fun ls hl => ?_)
        refine lv_goto (tgt := 10) hx hb dX5_showDigits_43 (by decide) ?_
        exact ih1 (i + -1) (rs / 10) μ7 n8 (by omega) hI (by rw [hrs]; exact dRest_s (by omega)) hfr (by omega) H locs ls hH hS (lv_sub hl [2, 3, 1, 0] rfl)
  exact lp10 (7) 5 D μ n (by omega) (by rw [adj_no (by omega)]; exact hI) rfl hfr (by omega) H locs ls hH hS (lv_sub hl [3, 2, 1, 0] rfl)
