abbrev rm_c_J9_floorMod_7cf53 : Room := { frames := 0, cells := 0, slots := 0, locals := 0 }
set_option maxHeartbeats 4000000 in
set_option maxRecDepth 100000 in
/-- Math.floorMod, y above 0 -/
theorem c_J9_floorMod_7cf53 (l : Launch) (G : wG) (μ : hM) (n : Nat) (x y : Int) (hx1 : -2147483648 ≤ x ∧ x ≤ 2147483647) (hy : y = 10 ∨ y = 12) : Met l yJ9_floorMod_7cf53 wsJ9_floorMod_7cf53 rm_c_J9_floorMod_7cf53 (mPc G μ n [.int (iv x), .int (iv y)]) (mQi G (fun z μ1 n1 => z = x % y ∧ μ1 = μ ∧ n1 = n)) 0 0 (gA G) := by
  refine Met.ofWF (cc := cJ9_floorMod_7cf53) (maxL := 3) (ret := (some .int)) (by decide +kernel) rfl ?_
  intro p e s m args below meth c s₁ B hml hv
  obtain ⟨hav, hK, hH⟩ := hv
  have hx := B.exec
  have hb := B.bytes
  have hr := B.returns
  have hts := atoms_spec (ws := wsJ9_floorMod_7cf53) B.pre
  have hown : s.vm.findClass RJ9 = some m.cls := findClass_of_methodNamed B.named
  have hlocks := B.notSynchronized
  have hS : va_S (gA G) s.heap s.heap [] := va_S.rf
  have hl := lv_entry ([.int (iv x), .int (iv y)]) (n := 3) (Nat.le_of_ble_eq_true rfl)
  have hfr : entryFrame m args 3 = entryFrame m ([.int (iv x), .int (iv y)] : List Value).toArray 3 := by rw [hav]
  rw [hfr, lg_entry_eq]
  generalize (lg_sl ([.int (iv x), .int (iv y)]) ++ List.replicate (3 - (lg_sl ([.int (iv x), .int (iv y)])).length) Slot.unset).toArray = ls at hl ⊢
  have hl : lv_has ls 3 [(0, .int (iv x)), (1, .int (iv y))] := hl
  generalize hQ : MQ below _ args s 0 0 (gA G) = Q
  show W p l e rm_c_J9_floorMod_7cf53 s m args below meth c s.heap [] 0 0 Q (F0 m 0 ls [])
  obtain ⟨H, hHe⟩ : ∃ H, H = s.heap := ⟨_, rfl⟩
  obtain ⟨locs, hlo⟩ : ∃ q : List Loc, q = [] := ⟨_, rfl⟩
  have hH : gP G μ n H := by rw [hHe]; exact hH
  have hS : va_S (gA G) s.heap H locs := by rw [hHe, hlo]; exact hS
  suffices hgo : W p l e rm_c_J9_floorMod_7cf53 s m args below meth c H locs 0 0 Q (F0 m 0 ls []) by rw [hHe, hlo] at hgo; exact hgo
  clear hHe hlo hfr hav
  refine lv_iload_n hx hb dJ9_floorMod_7cf53_0 rfl (lv_at hl 0 rfl) ?_
  refine lv_iload_n hx hb dJ9_floorMod_7cf53_1 rfl (lv_at hl 1 rfl) ?_
  refine j_iremT hx hb dJ9_floorMod_7cf53_2 ?_
  refine j_top (fun tm htm => ?_)
  refine lv_istore_n (lv' := [(2, .int (iv tm)), (0, .int (iv x)), (1, .int (iv y))]) hx hb dJ9_floorMod_7cf53_3 rfl hl (by decide) rfl (fun ls hl => ?_)
  have htb := tmod_of (x := x) hy
  rw [← htm] at htb
  have htr : -1000 ≤ tm ∧ tm ≤ 1000 := by rcases hy with rfl | rfl <;> (split at htb <;> omega)
  refine lv_iload_n hx hb dJ9_floorMod_7cf53_4 rfl (lv_at hl 1 rfl) ?_
  refine lv_iload_n hx hb dJ9_floorMod_7cf53_5 rfl (lv_at hl 2 rfl) ?_
  refine lv_ixor hx hb dJ9_floorMod_7cf53_6 ?_
  rw [← iv_of (iv x ^^^ iv y)]
  have hxs := iv_xor_neg (a := x) (b := y) hx1 (by omega)
  have hxr := iv_rng (iv x ^^^ iv y)
  generalize (iv x ^^^ iv y).toInt = xv at hxs hxr ⊢
  refine j_if_ge (tgt := 18) hx hb dJ9_floorMod_7cf53_7 (by decide) (fun c1 => ?_) (fun c1 => ?_) (by omega)
  · skip
    refine lv_iload_n hx hb dJ9_floorMod_7cf53_18 rfl (lv_at hl 0 rfl) ?_
    subst hQ
    refine m_iret hx hb hr hlocks hH hS dJ9_floorMod_7cf53_19 ?_ (by omega)
    refine ⟨?_, rfl, rfl⟩
    rcases hy with rfl | rfl <;> (split at htb <;> omega)
  · skip
    refine lv_iload_n hx hb dJ9_floorMod_7cf53_10 rfl (lv_at hl 0 rfl) ?_
    refine j_if_eq (tgt := 18) hx hb dJ9_floorMod_7cf53_11 (by decide) (fun c2 => ?_) (fun c2 => ?_) (by omega)
    · skip
      refine lv_iload_n hx hb dJ9_floorMod_7cf53_18 rfl (lv_at hl 0 rfl) ?_
      subst hQ
      refine m_iret hx hb hr hlocks hH hS dJ9_floorMod_7cf53_19 ?_ (by omega)
      refine ⟨?_, rfl, rfl⟩
      rcases hy with rfl | rfl <;> (split at htb <;> omega)
    · skip
      refine lv_iload_n hx hb dJ9_floorMod_7cf53_14 rfl (lv_at hl 0 rfl) ?_
      refine lv_iload_n hx hb dJ9_floorMod_7cf53_15 rfl (lv_at hl 2 rfl) ?_
      refine j_iadd hx hb dJ9_floorMod_7cf53_16 ?_
      subst hQ
      refine m_iret hx hb hr hlocks hH hS dJ9_floorMod_7cf53_17 ?_ (by omega)
      refine ⟨?_, rfl, rfl⟩
      rcases hy with rfl | rfl <;> (split at htb <;> omega)

abbrev rm_c_X0_wearOf : Room := { frames := 0, cells := 0, slots := 0, locals := 0 }
set_option maxHeartbeats 4000000 in
set_option maxRecDepth 100000 in
theorem c_X0_wearOf (l : Launch) (G : wG) (μ : hM) (n : Nat) (b w : Nat) (nu sh sl : Int) (f : Nat → Int) (d : Int) (hB : μ b = some (.inr (0, [.int (iv nu), .int (iv sh), .int (iv sl), .ref w]))) (hW : μ w = some (.inl (G.2.1 0, 10, .inl (fun j => iv (f j))))) (hd : 0 ≤ d ∧ d ≤ 9) (hf : 0 ≤ f d.toNat ∧ f d.toNat ≤ 99) : Met l yX0_wearOf wsX0_wearOf rm_c_X0_wearOf (mPc G μ n [.ref b, .int (iv d)]) (mQi G (fun z μ1 n1 => z = f d.toNat ∧ μ1 = μ ∧ n1 = n)) 0 0 (gA G) := by
  refine Met.ofW (cc := cX0_wearOf) (maxL := 2) (ret := (some .int)) (by decide) rfl ?_
  intro p e s m args below meth c s₁ B hml hv
  obtain ⟨hav, hK, hH⟩ := hv
  have hx := B.exec
  have hb := B.bytes
  have hr := B.returns
  have hts := atoms_spec (ws := wsX0_wearOf) B.pre
  have hown : s.vm.findClass RX0 = some m.cls := findClass_of_methodNamed B.named
  have hlocks := B.notSynchronized
  have hS : va_S (gA G) s.heap s.heap [] := va_S.rf
  have hl := lv_entry ([.ref b, .int (iv d)]) (n := 2) (Nat.le_of_ble_eq_true rfl)
  have hfr : entryFrame m args 2 = entryFrame m ([.ref b, .int (iv d)] : List Value).toArray 2 := by rw [hav]
  rw [hfr, lg_entry_eq]
  generalize (lg_sl ([.ref b, .int (iv d)]) ++ List.replicate (2 - (lg_sl ([.ref b, .int (iv d)])).length) Slot.unset).toArray = ls at hl ⊢
  have hl : lv_has ls 2 [(0, .ref b), (1, .int (iv d))] := hl
  generalize hQ : MQ below _ args s 0 0 (gA G) = Q
  show W p l e rm_c_X0_wearOf s m args below meth c s.heap [] 0 0 Q (F0 m 0 ls [])
  obtain ⟨H, hHe⟩ : ∃ H, H = s.heap := ⟨_, rfl⟩
  obtain ⟨locs, hlo⟩ : ∃ q : List Loc, q = [] := ⟨_, rfl⟩
  have hH : gP G μ n H := by rw [hHe]; exact hH
  have hS : va_S (gA G) s.heap H locs := by rw [hHe, hlo]; exact hS
  suffices hgo : W p l e rm_c_X0_wearOf s m args below meth c H locs 0 0 Q (F0 m 0 ls []) by rw [hHe, hlo] at hgo; exact hgo
  clear hHe hlo hfr hav
  have f_0 := hts (.fieldLink RX0 15 "StampDater$Band" "wears" "[I") (List.mem_of_getElem? (i := 1) rfl)
  have i_X0 : ∀ w ∈ u_ws RX0 TX0 4, w ∈ wsX0_wearOf := by decide +kernel
  have hne := ne_oa hB hW
  refine lv_iload_n hx hb dX0_wearOf_0 rfl (lv_at hl 1 rfl) ?_
  refine j_if_lt (tgt := 13) hx hb dX0_wearOf_1 (by decide) (fun c1 => absurd c1 (by omega)) (fun c1 => ?_) (by omega)
  refine lv_iload_n hx hb dX0_wearOf_4 rfl (lv_at hl 1 rfl) ?_
  refine lv_aload_n hx hb dX0_wearOf_5 rfl (lv_at hl 0 rfl) ?_
  refine m_get (C := RX0) (T := TX0) (N := 4) (ci := 0) hx hb hts i_X0 hown hK hH hB rfl 3 (by decide) f_0 rfl dX0_wearOf_6 ?_
  refine m_alen hx hb hK hH 0 hW rfl dX0_wearOf_9 ?_
  refine j_norm (y := 10) (by rfl) ?_
  refine j_icmp_lt (tgt := 17) hx hb dX0_wearOf_10 (by decide) (fun c2 => ?_) (fun c2 => absurd c2 (by omega)) (by omega) (by omega)
  refine lv_aload_n hx hb dX0_wearOf_17 rfl (lv_at hl 0 rfl) ?_
  refine m_get (C := RX0) (T := TX0) (N := 4) (ci := 0) hx hb hts i_X0 hown hK hH hB rfl 3 (by decide) f_0 rfl dX0_wearOf_18 ?_
  refine lv_iload_n hx hb dX0_wearOf_21 rfl (lv_at hl 1 rfl) ?_
  refine m_iald (nA := 10) (f := f) hx hb hK hH hW dX0_wearOf_22 ?_ (by omega) (by omega)
  refine j_top (fun v hv => ?_)
  subst hQ
  refine m_iret hx hb hr hlocks hH hS dX0_wearOf_23 ?_ (by omega)
  exact ⟨hv, rfl, rfl⟩

abbrev rm_c_X0_turnBy : Room := { frames := 1, cells := 0, slots := 0, locals := 24 }
set_option maxHeartbeats 4000000 in
set_option maxRecDepth 100000 in
theorem c_X0_turnBy (l : Launch) (G : wG) (μ : hM) (n : Nat) (b w : Nat) (nu sh sl : Int) (f : Nat → Int) (t : Int) (hB : μ b = some (.inr (0, [.int (iv nu), .int (iv sh), .int (iv sl), .ref w]))) (hW : μ w = some (.inl (G.2.1 0, 10, .inl (fun j => iv (f j))))) (hsh : 0 ≤ sh ∧ sh ≤ 9) (hsl : 0 ≤ sl ∧ sl ≤ 99) (ht : -9 ≤ t ∧ t ≤ 9) : Met l yX0_turnBy wsX0_turnBy rm_c_X0_turnBy (mPc G μ n [.ref b, .int (iv t)]) (mQv G (fun μ1 n1 => μ1 = hu μ b (.inr (0, [.int (iv nu), .int (iv ((sh + t) % 10)), .int (iv (min 99 (sl + (if 0 ≤ t then t else -t)))), .ref w])) ∧ n1 = n)) 0 0 (gA G) := by
  refine Met.ofW (cc := cX0_turnBy) (maxL := 2) (ret := none) (by decide) rfl ?_
  intro p e s m args below meth c s₁ B hml hv
  obtain ⟨hav, hK, hH⟩ := hv
  have hx := B.exec
  have hb := B.bytes
  have hr := B.returns
  have hts := atoms_spec (ws := wsX0_turnBy) B.pre
  have hown : s.vm.findClass RX0 = some m.cls := findClass_of_methodNamed B.named
  have hlocks := B.notSynchronized
  have hS : va_S (gA G) s.heap s.heap [] := va_S.rf
  have hl := lv_entry ([.ref b, .int (iv t)]) (n := 2) (Nat.le_of_ble_eq_true rfl)
  have hfr : entryFrame m args 2 = entryFrame m ([.ref b, .int (iv t)] : List Value).toArray 2 := by rw [hav]
  rw [hfr, lg_entry_eq]
  generalize (lg_sl ([.ref b, .int (iv t)]) ++ List.replicate (2 - (lg_sl ([.ref b, .int (iv t)])).length) Slot.unset).toArray = ls at hl ⊢
  have hl : lv_has ls 2 [(0, .ref b), (1, .int (iv t))] := hl
  generalize hQ : MQ below _ args s 0 0 (gA G) = Q
  show W p l e rm_c_X0_turnBy s m args below meth c s.heap [] 0 0 Q (F0 m 0 ls [])
  obtain ⟨H, hHe⟩ : ∃ H, H = s.heap := ⟨_, rfl⟩
  obtain ⟨locs, hlo⟩ : ∃ q : List Loc, q = [] := ⟨_, rfl⟩
  have hH : gP G μ n H := by rw [hHe]; exact hH
  have hS : va_S (gA G) s.heap H locs := by rw [hHe, hlo]; exact hS
  suffices hgo : W p l e rm_c_X0_turnBy s m args below meth c H locs 0 0 Q (F0 m 0 ls []) by rw [hHe, hlo] at hgo; exact hgo
  clear hHe hlo hfr hav
  have f_0 := hts (.fieldLink RX0 19 "StampDater$Band" "shown" "I") (List.mem_of_getElem? (i := 1) rfl)
  have i_X0 : ∀ w ∈ u_ws RX0 TX0 4, w ∈ wsX0_turnBy := by decide +kernel
  have f_2 := hts (.fieldLink RX0 22 "StampDater$Band" "slack" "I") (List.mem_of_getElem? (i := 2) rfl)
  have f_3 := hts (.methodLink RX0 37 Lib.Math.abs.name) (List.mem_of_getElem? (i := 3) rfl)
  have f_4 := hts (.static Lib.Math.abs.name) (List.mem_of_getElem? (i := 4) rfl)
  have f_5 := hts (.initialized "java/lang/Math") (List.mem_of_getElem? (i := 5) rfl)
  have f_6 := hts (.code Lib.Math.abs.name Lib.Math.abs.code 1 (some .int)) (List.mem_of_getElem? (i := 6) rfl)
  have f_7 := hts (.methodLink RX0 41 Lib.Math.min.name) (List.mem_of_getElem? (i := 7) rfl)
  have f_8 := hts (.static Lib.Math.min.name) (List.mem_of_getElem? (i := 8) rfl)
  have f_9 := hts (.code Lib.Math.min.name Lib.Math.min.code 2 (some .int)) (List.mem_of_getElem? (i := 9) rfl)
  have hne := ne_oa hB hW
  refine lv_aload_n hx hb dX0_turnBy_0 rfl (lv_at hl 0 rfl) ?_
  refine lv_aload_n hx hb dX0_turnBy_1 rfl (lv_at hl 0 rfl) ?_
  refine m_get (C := RX0) (T := TX0) (N := 4) (ci := 0) hx hb hts i_X0 hown hK hH hB rfl 1 (by decide) f_0 rfl dX0_turnBy_2 ?_
  refine lv_iload_n hx hb dX0_turnBy_5 rfl (lv_at hl 1 rfl) ?_
  refine j_iadd hx hb dX0_turnBy_6 ?_
  refine j_bipush hx hb dX0_turnBy_7 ?_ (by decide)
  refine m_callSi (As := [.int (iv (sh + t)), .int (iv 10)]) (rest := [.ref b]) ⟨hx, hb, hml, hown, hts⟩ hK hH hS (c_J9_floorMod_7cf53 l G μ n (sh + t) 10 (by omega) (by omega)) (va_cwS 2 hts gX0_turnBy_J9_floorMod_7cf53 rfl rfl rfl (by decide +kernel) ⟨(Nat.le_of_ble_eq_true rfl), (Nat.le_of_ble_eq_true rfl)⟩) rfl rfl hl.1 (Nat.le_of_ble_eq_true rfl) dX0_turnBy_9 ⟨Nat.zero_le _, Nat.zero_le _⟩ (fun z4 μ1 n2 H locs hz4 hp3 hH hS => ?_)
  obtain ⟨hz2, hm2, hn2⟩ := hp3; rw [hz2]; rw [hm2, hn2] at hH; clear hz2 hm2 hn2
  refine m_put (C := RX0) (T := TX0) (N := 4) (ci := 0) hx hb hts i_X0 tyX0 tyX0_ok nmX0 hown hK hH hS hB rfl 1 (by decide) f_0 rfl rfl rfl (Nat.le_of_ble_eq_true rfl) dX0_turnBy_12 (fun H locs hH hS => ?_)
  have hW := hu_n' (a := b) (e := (.inr (0, [.int (iv nu), .int (iv ((sh + t) % 10)), .int (iv sl), .ref w]))) (by omega) hW
  have hB : (hu μ b (.inr (0, [.int (iv nu), .int (iv ((sh + t) % 10)), .int (iv sl), .ref w]))) b = some (.inr (0, [.int (iv nu), .int (iv ((sh + t) % 10)), .int (iv sl), .ref w])) := hu_s
  have hH : gP G (hu μ b (.inr (0, [.int (iv nu), .int (iv ((sh + t) % 10)), .int (iv sl), .ref w]))) n H := hH
  refine lv_aload_n hx hb dX0_turnBy_15 rfl (lv_at hl 0 rfl) ?_
  refine j_bipush hx hb dX0_turnBy_16 ?_ (by decide)
  refine lv_aload_n hx hb dX0_turnBy_18 rfl (lv_at hl 0 rfl) ?_
  refine m_get (C := RX0) (T := TX0) (N := 4) (ci := 0) hx hb hts i_X0 hown hK hH hB rfl 2 (by decide) f_2 rfl dX0_turnBy_19 ?_
  refine lv_iload_n hx hb dX0_turnBy_22 rfl (lv_at hl 1 rfl) ?_
  refine m_abs hx hb (hml.trans hl.1.symm) hown f_3 f_4 f_5 f_6 (Nat.le_of_ble_eq_true rfl) (Nat.le_of_ble_eq_true rfl) (Nat.le_of_ble_eq_true rfl) (Nat.le_of_ble_eq_true rfl) dX0_turnBy_23 ?_ (by omega)
  refine j_top (fun ab hab => ?_)
  have habr : 0 ≤ ab ∧ ab ≤ 9 := by rw [hab]; split <;> omega
  refine j_iadd hx hb dX0_turnBy_26 ?_
  refine j_top (fun s2 hs2 => ?_)
  refine m_min hx hb (hml.trans hl.1.symm) hown f_7 f_8 f_5 f_9 (Nat.le_of_ble_eq_true rfl) (Nat.le_of_ble_eq_true rfl) (Nat.le_of_ble_eq_true rfl) (Nat.le_of_ble_eq_true rfl) dX0_turnBy_27 ?_ (by omega) (by omega)
  refine m_put (C := RX0) (T := TX0) (N := 4) (ci := 0) hx hb hts i_X0 tyX0 tyX0_ok nmX0 hown hK hH hS hB rfl 2 (by decide) f_2 rfl rfl rfl (Nat.le_of_ble_eq_true rfl) dX0_turnBy_30 (fun H locs hH hS => ?_)
  have hW := hu_n' (a := b) (e := (.inr (0, [.int (iv nu), .int (iv ((sh + t) % 10)), .int (iv (min 99 s2)), .ref w]))) (by omega) hW
  have hB : (hu (hu μ b (.inr (0, [.int (iv nu), .int (iv ((sh + t) % 10)), .int (iv sl), .ref w]))) b (.inr (0, [.int (iv nu), .int (iv ((sh + t) % 10)), .int (iv (min 99 s2)), .ref w]))) b = some (.inr (0, [.int (iv nu), .int (iv ((sh + t) % 10)), .int (iv (min 99 s2)), .ref w])) := hu_s
  have hH : gP G (hu (hu μ b (.inr (0, [.int (iv nu), .int (iv ((sh + t) % 10)), .int (iv sl), .ref w]))) b (.inr (0, [.int (iv nu), .int (iv ((sh + t) % 10)), .int (iv (min 99 s2)), .ref w]))) n H := hH
  subst hQ
  refine m_vret hx hb hr hlocks hH hS dX0_turnBy_33 ?_
  subst hs2
  subst hab
  exact ⟨hu_uu, rfl⟩

abbrev rm_c_X0_slip : Room := { frames := 1, cells := 0, slots := 0, locals := 22 }
set_option maxHeartbeats 4000000 in
set_option maxRecDepth 100000 in
theorem c_X0_slip (l : Launch) (G : wG) (μ : hM) (n : Nat) (b w : Nat) (nu sh sl : Int) (f : Nat → Int) (hB : μ b = some (.inr (0, [.int (iv nu), .int (iv sh), .int (iv sl), .ref w]))) (hW : μ w = some (.inl (G.2.1 0, 10, .inl (fun j => iv (f j))))) (hsh : 0 ≤ sh ∧ sh ≤ 9) : Met l yX0_slip wsX0_slip rm_c_X0_slip (mPc G μ n [.ref b]) (mQv G (fun μ1 n1 => μ1 = hu μ b (.inr (0, [.int (iv nu), .int (iv ((sh + 1) % 10)), .int (iv 0), .ref w])) ∧ n1 = n)) 0 0 (gA G) := by
  refine Met.ofW (cc := cX0_slip) (maxL := 1) (ret := none) (by decide) rfl ?_
  intro p e s m args below meth c s₁ B hml hv
  obtain ⟨hav, hK, hH⟩ := hv
  have hx := B.exec
  have hb := B.bytes
  have hr := B.returns
  have hts := atoms_spec (ws := wsX0_slip) B.pre
  have hown : s.vm.findClass RX0 = some m.cls := findClass_of_methodNamed B.named
  have hlocks := B.notSynchronized
  have hS : va_S (gA G) s.heap s.heap [] := va_S.rf
  have hl := lv_entry ([.ref b]) (n := 1) (Nat.le_of_ble_eq_true rfl)
  have hfr : entryFrame m args 1 = entryFrame m ([.ref b] : List Value).toArray 1 := by rw [hav]
  rw [hfr, lg_entry_eq]
  generalize (lg_sl ([.ref b]) ++ List.replicate (1 - (lg_sl ([.ref b])).length) Slot.unset).toArray = ls at hl ⊢
  have hl : lv_has ls 1 [(0, .ref b)] := hl
  generalize hQ : MQ below _ args s 0 0 (gA G) = Q
  show W p l e rm_c_X0_slip s m args below meth c s.heap [] 0 0 Q (F0 m 0 ls [])
  obtain ⟨H, hHe⟩ : ∃ H, H = s.heap := ⟨_, rfl⟩
  obtain ⟨locs, hlo⟩ : ∃ q : List Loc, q = [] := ⟨_, rfl⟩
  have hH : gP G μ n H := by rw [hHe]; exact hH
  have hS : va_S (gA G) s.heap H locs := by rw [hHe, hlo]; exact hS
  suffices hgo : W p l e rm_c_X0_slip s m args below meth c H locs 0 0 Q (F0 m 0 ls []) by rw [hHe, hlo] at hgo; exact hgo
  clear hHe hlo hfr hav
  have f_0 := hts (.fieldLink RX0 19 "StampDater$Band" "shown" "I") (List.mem_of_getElem? (i := 1) rfl)
  have i_X0 : ∀ w ∈ u_ws RX0 TX0 4, w ∈ wsX0_slip := by decide +kernel
  have f_2 := hts (.fieldLink RX0 22 "StampDater$Band" "slack" "I") (List.mem_of_getElem? (i := 2) rfl)
  have hne := ne_oa hB hW
  refine lv_aload_n hx hb dX0_slip_0 rfl (lv_at hl 0 rfl) ?_
  refine lv_aload_n hx hb dX0_slip_1 rfl (lv_at hl 0 rfl) ?_
  refine m_get (C := RX0) (T := TX0) (N := 4) (ci := 0) hx hb hts i_X0 hown hK hH hB rfl 1 (by decide) f_0 rfl dX0_slip_2 ?_
  refine j_const hx hb dX0_slip_5 ?_
  refine j_iadd hx hb dX0_slip_6 ?_
  refine j_bipush hx hb dX0_slip_7 ?_ (by decide)
  refine m_callSi (As := [.int (iv (sh + 1)), .int (iv 10)]) (rest := [.ref b]) ⟨hx, hb, hml, hown, hts⟩ hK hH hS (c_J9_floorMod_7cf53 l G μ n (sh + 1) 10 (by omega) (by omega)) (va_cwS 2 hts gX0_slip_J9_floorMod_7cf53 rfl rfl rfl (by decide +kernel) ⟨(Nat.le_of_ble_eq_true rfl), (Nat.le_of_ble_eq_true rfl)⟩) rfl rfl hl.1 (Nat.le_of_ble_eq_true rfl) dX0_slip_9 ⟨Nat.zero_le _, Nat.zero_le _⟩ (fun z4 μ1 n2 H locs hz4 hp3 hH hS => ?_)
  obtain ⟨hz2, hm2, hn2⟩ := hp3; rw [hz2]; rw [hm2, hn2] at hH; clear hz2 hm2 hn2
  refine m_put (C := RX0) (T := TX0) (N := 4) (ci := 0) hx hb hts i_X0 tyX0 tyX0_ok nmX0 hown hK hH hS hB rfl 1 (by decide) f_0 rfl rfl rfl (Nat.le_of_ble_eq_true rfl) dX0_slip_12 (fun H locs hH hS => ?_)
  have hW := hu_n' (a := b) (e := (.inr (0, [.int (iv nu), .int (iv ((sh + 1) % 10)), .int (iv sl), .ref w]))) (by omega) hW
  have hB : (hu μ b (.inr (0, [.int (iv nu), .int (iv ((sh + 1) % 10)), .int (iv sl), .ref w]))) b = some (.inr (0, [.int (iv nu), .int (iv ((sh + 1) % 10)), .int (iv sl), .ref w])) := hu_s
  have hH : gP G (hu μ b (.inr (0, [.int (iv nu), .int (iv ((sh + 1) % 10)), .int (iv sl), .ref w]))) n H := hH
  refine lv_aload_n hx hb dX0_slip_15 rfl (lv_at hl 0 rfl) ?_
  refine j_const hx hb dX0_slip_16 ?_
  refine m_put (C := RX0) (T := TX0) (N := 4) (ci := 0) hx hb hts i_X0 tyX0 tyX0_ok nmX0 hown hK hH hS hB rfl 2 (by decide) f_2 rfl rfl rfl (Nat.le_of_ble_eq_true rfl) dX0_slip_17 (fun H locs hH hS => ?_)
  have hW := hu_n' (a := b) (e := (.inr (0, [.int (iv nu), .int (iv ((sh + 1) % 10)), .int (iv 0), .ref w]))) (by omega) hW
  have hB : (hu (hu μ b (.inr (0, [.int (iv nu), .int (iv ((sh + 1) % 10)), .int (iv sl), .ref w]))) b (.inr (0, [.int (iv nu), .int (iv ((sh + 1) % 10)), .int (iv 0), .ref w]))) b = some (.inr (0, [.int (iv nu), .int (iv ((sh + 1) % 10)), .int (iv 0), .ref w])) := hu_s
  have hH : gP G (hu (hu μ b (.inr (0, [.int (iv nu), .int (iv ((sh + 1) % 10)), .int (iv sl), .ref w]))) b (.inr (0, [.int (iv nu), .int (iv ((sh + 1) % 10)), .int (iv 0), .ref w]))) n H := hH
  subst hQ
  refine m_vret hx hb hr hlocks hH hS dX0_slip_20 ?_
  exact ⟨hu_uu, rfl⟩

abbrev rm_c_X0_wearShown : Room := { frames := 1, cells := 0, slots := 0, locals := 23 }
set_option maxHeartbeats 4000000 in
set_option maxRecDepth 100000 in
theorem c_X0_wearShown (l : Launch) (G : wG) (μ : hM) (n : Nat) (b w : Nat) (nu sh sl : Int) (f : Nat → Int) (mo : Int) (hB : μ b = some (.inr (0, [.int (iv nu), .int (iv sh), .int (iv sl), .ref w]))) (hW : μ w = some (.inl (G.2.1 0, 10, .inl (fun j => iv (f j))))) (hsh : 0 ≤ sh ∧ sh ≤ 9) (hf : 0 ≤ f sh.toNat ∧ f sh.toNat ≤ 99) (hmo : 0 ≤ mo ∧ mo ≤ 99) : Met l yX0_wearShown wsX0_wearShown rm_c_X0_wearShown (mPc G μ n [.ref b, .int (iv mo)]) (mQv G (fun μ1 n1 => μ1 = hu μ w (.inl (G.2.1 0, 10, .inl (fun j => iv (fu f sh.toNat (min 99 (f sh.toNat + mo)) j)))) ∧ n1 = n)) 0 0 (gA G) := by
  refine Met.ofW (cc := cX0_wearShown) (maxL := 2) (ret := none) (by decide) rfl ?_
  intro p e s m args below meth c s₁ B hml hv
  obtain ⟨hav, hK, hH⟩ := hv
  have hx := B.exec
  have hb := B.bytes
  have hr := B.returns
  have hts := atoms_spec (ws := wsX0_wearShown) B.pre
  have hown : s.vm.findClass RX0 = some m.cls := findClass_of_methodNamed B.named
  have hlocks := B.notSynchronized
  have hS : va_S (gA G) s.heap s.heap [] := va_S.rf
  have hl := lv_entry ([.ref b, .int (iv mo)]) (n := 2) (Nat.le_of_ble_eq_true rfl)
  have hfr : entryFrame m args 2 = entryFrame m ([.ref b, .int (iv mo)] : List Value).toArray 2 := by rw [hav]
  rw [hfr, lg_entry_eq]
  generalize (lg_sl ([.ref b, .int (iv mo)]) ++ List.replicate (2 - (lg_sl ([.ref b, .int (iv mo)])).length) Slot.unset).toArray = ls at hl ⊢
  have hl : lv_has ls 2 [(0, .ref b), (1, .int (iv mo))] := hl
  generalize hQ : MQ below _ args s 0 0 (gA G) = Q
  show W p l e rm_c_X0_wearShown s m args below meth c s.heap [] 0 0 Q (F0 m 0 ls [])
  obtain ⟨H, hHe⟩ : ∃ H, H = s.heap := ⟨_, rfl⟩
  obtain ⟨locs, hlo⟩ : ∃ q : List Loc, q = [] := ⟨_, rfl⟩
  have hH : gP G μ n H := by rw [hHe]; exact hH
  have hS : va_S (gA G) s.heap H locs := by rw [hHe, hlo]; exact hS
  suffices hgo : W p l e rm_c_X0_wearShown s m args below meth c H locs 0 0 Q (F0 m 0 ls []) by rw [hHe, hlo] at hgo; exact hgo
  clear hHe hlo hfr hav
  have f_0 := hts (.fieldLink RX0 19 "StampDater$Band" "shown" "I") (List.mem_of_getElem? (i := 1) rfl)
  have i_X0 : ∀ w ∈ u_ws RX0 TX0 4, w ∈ wsX0_wearShown := by decide +kernel
  have f_2 := hts (.fieldLink RX0 15 "StampDater$Band" "wears" "[I") (List.mem_of_getElem? (i := 2) rfl)
  have f_3 := hts (.methodLink RX0 41 Lib.Math.min.name) (List.mem_of_getElem? (i := 3) rfl)
  have f_4 := hts (.static Lib.Math.min.name) (List.mem_of_getElem? (i := 4) rfl)
  have f_5 := hts (.initialized "java/lang/Math") (List.mem_of_getElem? (i := 5) rfl)
  have f_6 := hts (.code Lib.Math.min.name Lib.Math.min.code 2 (some .int)) (List.mem_of_getElem? (i := 6) rfl)
  have hne := ne_oa hB hW
  refine lv_aload_n hx hb dX0_wearShown_0 rfl (lv_at hl 0 rfl) ?_
  refine m_get (C := RX0) (T := TX0) (N := 4) (ci := 0) hx hb hts i_X0 hown hK hH hB rfl 1 (by decide) f_0 rfl dX0_wearShown_1 ?_
  refine j_if_lt (tgt := 44) hx hb dX0_wearShown_4 (by decide) (fun c1 => absurd c1 (by omega)) (fun c1 => ?_) (by omega)
  refine lv_aload_n hx hb dX0_wearShown_7 rfl (lv_at hl 0 rfl) ?_
  refine m_get (C := RX0) (T := TX0) (N := 4) (ci := 0) hx hb hts i_X0 hown hK hH hB rfl 1 (by decide) f_0 rfl dX0_wearShown_8 ?_
  refine lv_aload_n hx hb dX0_wearShown_11 rfl (lv_at hl 0 rfl) ?_
  refine m_get (C := RX0) (T := TX0) (N := 4) (ci := 0) hx hb hts i_X0 hown hK hH hB rfl 3 (by decide) f_2 rfl dX0_wearShown_12 ?_
  refine m_alen hx hb hK hH 0 hW rfl dX0_wearShown_15 ?_
  refine j_norm (y := 10) (by rfl) ?_
  refine j_icmp_ge (tgt := 44) hx hb dX0_wearShown_16 (by decide) (fun c2 => absurd c2 (by omega)) (fun c2 => ?_) (by omega) (by omega)
  refine lv_aload_n hx hb dX0_wearShown_19 rfl (lv_at hl 0 rfl) ?_
  refine m_get (C := RX0) (T := TX0) (N := 4) (ci := 0) hx hb hts i_X0 hown hK hH hB rfl 3 (by decide) f_2 rfl dX0_wearShown_20 ?_
  refine lv_aload_n hx hb dX0_wearShown_23 rfl (lv_at hl 0 rfl) ?_
  refine m_get (C := RX0) (T := TX0) (N := 4) (ci := 0) hx hb hts i_X0 hown hK hH hB rfl 1 (by decide) f_0 rfl dX0_wearShown_24 ?_
  refine j_bipush hx hb dX0_wearShown_27 ?_ (by decide)
  refine lv_aload_n hx hb dX0_wearShown_29 rfl (lv_at hl 0 rfl) ?_
  refine m_get (C := RX0) (T := TX0) (N := 4) (ci := 0) hx hb hts i_X0 hown hK hH hB rfl 3 (by decide) f_2 rfl dX0_wearShown_30 ?_
  refine lv_aload_n hx hb dX0_wearShown_33 rfl (lv_at hl 0 rfl) ?_
  refine m_get (C := RX0) (T := TX0) (N := 4) (ci := 0) hx hb hts i_X0 hown hK hH hB rfl 1 (by decide) f_0 rfl dX0_wearShown_34 ?_
  refine m_iald (nA := 10) (f := f) hx hb hK hH hW dX0_wearShown_37 ?_ (by omega) (by omega)
  refine lv_iload_n hx hb dX0_wearShown_38 rfl (lv_at hl 1 rfl) ?_
  refine j_iadd hx hb dX0_wearShown_39 ?_
  refine m_min hx hb (hml.trans hl.1.symm) hown f_3 f_4 f_5 f_6 (Nat.le_of_ble_eq_true rfl) (Nat.le_of_ble_eq_true rfl) (Nat.le_of_ble_eq_true rfl) (Nat.le_of_ble_eq_true rfl) dX0_wearShown_40 ?_ (by omega) (by omega)
  refine m_iast (nA := 10) (f := f) hx hb hK hH hS hW dX0_wearShown_43 (fun H locs hH hS => ?_) (by omega) (by omega)
  have hB := hu_n' (a := w) (e := (.inl (G.2.1 0, 10, .inl (fun j => iv ((fu f (sh).toNat (min 99 ((f (sh).toNat) + mo))) j))))) (by omega) hB
  have hW : (hu μ w (.inl (G.2.1 0, 10, .inl (fun j => iv ((fu f (sh).toNat (min 99 ((f (sh).toNat) + mo))) j))))) w = some (.inl (G.2.1 0, 10, .inl (fun j => iv ((fu f (sh).toNat (min 99 ((f (sh).toNat) + mo))) j)))) := hu_s
  have hH : gP G (hu μ w (.inl (G.2.1 0, 10, .inl (fun j => iv ((fu f (sh).toNat (min 99 ((f (sh).toNat) + mo))) j))))) n H := hH
  subst hQ
  refine m_vret hx hb hr hlocks hH hS dX0_wearShown_44 ?_
  exact ⟨rfl, rfl⟩

abbrev rm_c_X0_wayTo : Room := { frames := 1, cells := 0, slots := 0, locals := 22 }
set_option maxHeartbeats 4000000 in
set_option maxRecDepth 100000 in
theorem c_X0_wayTo (l : Launch) (G : wG) (μ : hM) (n : Nat) (b w : Nat) (nu sh sl : Int) (f : Nat → Int) (d : Int) (hB : μ b = some (.inr (0, [.int (iv nu), .int (iv sh), .int (iv sl), .ref w]))) (hW : μ w = some (.inl (G.2.1 0, 10, .inl (fun j => iv (f j))))) (hsh : 0 ≤ sh ∧ sh ≤ 9) (hd : 0 ≤ d ∧ d ≤ 9) : Met l yX0_wayTo wsX0_wayTo rm_c_X0_wayTo (mPc G μ n [.ref b, .int (iv d)]) (mQi G (fun z μ1 n1 => z = wayf sh d ∧ μ1 = μ ∧ n1 = n)) 0 0 (gA G) := by
  refine Met.ofW (cc := cX0_wayTo) (maxL := 3) (ret := (some .int)) (by decide) rfl ?_
  intro p e s m args below meth c s₁ B hml hv
  obtain ⟨hav, hK, hH⟩ := hv
  have hx := B.exec
  have hb := B.bytes
  have hr := B.returns
  have hts := atoms_spec (ws := wsX0_wayTo) B.pre
  have hown : s.vm.findClass RX0 = some m.cls := findClass_of_methodNamed B.named
  have hlocks := B.notSynchronized
  have hS : va_S (gA G) s.heap s.heap [] := va_S.rf
  have hl := lv_entry ([.ref b, .int (iv d)]) (n := 3) (Nat.le_of_ble_eq_true rfl)
  have hfr : entryFrame m args 3 = entryFrame m ([.ref b, .int (iv d)] : List Value).toArray 3 := by rw [hav]
  rw [hfr, lg_entry_eq]
  generalize (lg_sl ([.ref b, .int (iv d)]) ++ List.replicate (3 - (lg_sl ([.ref b, .int (iv d)])).length) Slot.unset).toArray = ls at hl ⊢
  have hl : lv_has ls 3 [(0, .ref b), (1, .int (iv d))] := hl
  generalize hQ : MQ below _ args s 0 0 (gA G) = Q
  show W p l e rm_c_X0_wayTo s m args below meth c s.heap [] 0 0 Q (F0 m 0 ls [])
  obtain ⟨H, hHe⟩ : ∃ H, H = s.heap := ⟨_, rfl⟩
  obtain ⟨locs, hlo⟩ : ∃ q : List Loc, q = [] := ⟨_, rfl⟩
  have hH : gP G μ n H := by rw [hHe]; exact hH
  have hS : va_S (gA G) s.heap H locs := by rw [hHe, hlo]; exact hS
  suffices hgo : W p l e rm_c_X0_wayTo s m args below meth c H locs 0 0 Q (F0 m 0 ls []) by rw [hHe, hlo] at hgo; exact hgo
  clear hHe hlo hfr hav
  have f_0 := hts (.fieldLink RX0 19 "StampDater$Band" "shown" "I") (List.mem_of_getElem? (i := 1) rfl)
  have i_X0 : ∀ w ∈ u_ws RX0 TX0 4, w ∈ wsX0_wayTo := by decide +kernel
  have hne := ne_oa hB hW
  refine lv_iload_n hx hb dX0_wayTo_0 rfl (lv_at hl 1 rfl) ?_
  refine lv_aload_n hx hb dX0_wayTo_1 rfl (lv_at hl 0 rfl) ?_
  refine m_get (C := RX0) (T := TX0) (N := 4) (ci := 0) hx hb hts i_X0 hown hK hH hB rfl 1 (by decide) f_0 rfl dX0_wayTo_2 ?_
  refine j_isub hx hb dX0_wayTo_5 ?_
  refine j_bipush hx hb dX0_wayTo_6 ?_ (by decide)
  refine m_callSi (As := [.int (iv (d - sh)), .int (iv 10)]) (rest := []) ⟨hx, hb, hml, hown, hts⟩ hK hH hS (c_J9_floorMod_7cf53 l G μ n (d - sh) 10 (by omega) (by omega)) (va_cwS 2 hts gX0_wayTo_J9_floorMod_7cf53 rfl rfl rfl (by decide +kernel) ⟨(Nat.le_of_ble_eq_true rfl), (Nat.le_of_ble_eq_true rfl)⟩) rfl rfl hl.1 (Nat.le_of_ble_eq_true rfl) dX0_wayTo_8 ⟨Nat.zero_le _, Nat.zero_le _⟩ (fun z4 μ1 n2 H locs hz4 hp3 hH hS => ?_)
  obtain ⟨hz2, hm2, hn2⟩ := hp3; rw [hz2]; rw [hm2, hn2] at hH; clear hz2 hm2 hn2
  refine j_top (fun fw hfw => ?_)
  refine lv_istore_n (lv' := [(2, .int (iv fw)), (0, .ref b), (1, .int (iv d))]) hx hb dX0_wayTo_11 rfl hl (by decide) rfl (fun ls hl => ?_)
  refine lv_iload_n hx hb dX0_wayTo_12 rfl (lv_at hl 0 rfl) ?_
  refine j_const hx hb dX0_wayTo_13 ?_
  refine j_icmp_gt (tgt := 21) hx hb dX0_wayTo_14 (by decide) (fun c5 => ?_) (fun c5 => ?_) (by omega) (by omega)
  · skip
    refine lv_iload_n hx hb dX0_wayTo_21 rfl (lv_at hl 0 rfl) ?_
    refine j_bipush hx hb dX0_wayTo_22 ?_ (by decide)
    refine j_isub hx hb dX0_wayTo_24 ?_
    subst hQ
    refine m_iret hx hb hr hlocks hH hS dX0_wayTo_25 ?_ (by omega)
    refine ⟨?_, rfl, rfl⟩
    unfold wayf
    split <;> omega
  · skip
    refine lv_iload_n hx hb dX0_wayTo_17 rfl (lv_at hl 0 rfl) ?_
    refine lv_goto (tgt := 25) hx hb dX0_wayTo_18 (by decide) ?_
    subst hQ
    refine m_iret hx hb hr hlocks hH hS dX0_wayTo_25 ?_ (by omega)
    refine ⟨?_, rfl, rfl⟩
    unfold wayf
    split <;> omega

abbrev rm_c_X0_copyBand : Room := { frames := 1, cells := 0, slots := 0, locals := 27 }
set_option maxHeartbeats 4000000 in
set_option maxRecDepth 100000 in
theorem c_X0_copyBand (l : Launch) (G : wG) (μ : hM) (n : Nat) (b w : Nat) (nu sh sl : Int) (f : Nat → Int) (b2 w2 : Nat) (nu2 sh2 sl2 : Int) (f2 : Nat → Int) (hB : μ b = some (.inr (0, [.int (iv nu), .int (iv sh), .int (iv sl), .ref w]))) (hW : μ w = some (.inl (G.2.1 0, 10, .inl (fun j => iv (f j))))) (hB2 : μ b2 = some (.inr (0, [.int (iv nu2), .int (iv sh2), .int (iv sl2), .ref w2]))) (hW2 : μ w2 = some (.inl (G.2.1 0, 10, .inl (fun j => iv (f2 j))))) (hbb : b2 ≠ b) (hww : w2 ≠ w) : Met l yX0_copyBand wsX0_copyBand rm_c_X0_copyBand (mPc G μ n [.ref b, .ref b2]) (mQv G (fun μ1 n1 => μ1 b = some (.inr (0, [.int (iv nu2), .int (iv sh2), .int (iv sl2), .ref w])) ∧ μ1 w = some (.inl (G.2.1 0, 10, .inl (fun j => iv (if j < 10 then f2 j else f j)))) ∧ ∀ q, q ≠ b → q ≠ w → μ1 q = μ q)) 0 0 (gA G) := by
  refine Met.ofW (cc := cX0_copyBand) (maxL := 2) (ret := none) (by decide) rfl ?_
  intro p e s m args below meth c s₁ B hml hv
  obtain ⟨hav, hK, hH⟩ := hv
  have hx := B.exec
  have hb := B.bytes
  have hr := B.returns
  have hts := atoms_spec (ws := wsX0_copyBand) B.pre
  have hown : s.vm.findClass RX0 = some m.cls := findClass_of_methodNamed B.named
  have hlocks := B.notSynchronized
  have hS : va_S (gA G) s.heap s.heap [] := va_S.rf
  have hl := lv_entry ([.ref b, .ref b2]) (n := 2) (Nat.le_of_ble_eq_true rfl)
  have hfr : entryFrame m args 2 = entryFrame m ([.ref b, .ref b2] : List Value).toArray 2 := by rw [hav]
  rw [hfr, lg_entry_eq]
  generalize (lg_sl ([.ref b, .ref b2]) ++ List.replicate (2 - (lg_sl ([.ref b, .ref b2])).length) Slot.unset).toArray = ls at hl ⊢
  have hl : lv_has ls 2 [(0, .ref b), (1, .ref b2)] := hl
  generalize hQ : MQ below _ args s 0 0 (gA G) = Q
  show W p l e rm_c_X0_copyBand s m args below meth c s.heap [] 0 0 Q (F0 m 0 ls [])
  obtain ⟨H, hHe⟩ : ∃ H, H = s.heap := ⟨_, rfl⟩
  obtain ⟨locs, hlo⟩ : ∃ q : List Loc, q = [] := ⟨_, rfl⟩
  have hH : gP G μ n H := by rw [hHe]; exact hH
  have hS : va_S (gA G) s.heap H locs := by rw [hHe, hlo]; exact hS
  suffices hgo : W p l e rm_c_X0_copyBand s m args below meth c H locs 0 0 Q (F0 m 0 ls []) by rw [hHe, hlo] at hgo; exact hgo
  clear hHe hlo hfr hav
  have f_0 := hts (.fieldLink RX0 9 "StampDater$Band" "number" "I") (List.mem_of_getElem? (i := 1) rfl)
  have i_X0 : ∀ w ∈ u_ws RX0 TX0 4, w ∈ wsX0_copyBand := by decide +kernel
  have f_2 := hts (.fieldLink RX0 19 "StampDater$Band" "shown" "I") (List.mem_of_getElem? (i := 2) rfl)
  have f_3 := hts (.fieldLink RX0 22 "StampDater$Band" "slack" "I") (List.mem_of_getElem? (i := 3) rfl)
  have f_4 := hts (.fieldLink RX0 15 "StampDater$Band" "wears" "[I") (List.mem_of_getElem? (i := 4) rfl)
  have f_5 := hts (.methodLink RX0 25 arraycopyName) (List.mem_of_getElem? (i := 5) rfl)
  have f_6 := hts (.native arraycopyName) (List.mem_of_getElem? (i := 6) rfl)
  have f_7 := hts (.static arraycopyName) (List.mem_of_getElem? (i := 7) rfl)
  have f_8 := hts (.initialized "java/lang/System") (List.mem_of_getElem? (i := 8) rfl)
  have hne := ne_oa hB hW
  have hne2 := ne_oa hB2 hW2
  have hne3 := ne_oa hB hW2
  have hne4 := ne_oa hB2 hW
  refine lv_aload_n hx hb dX0_copyBand_0 rfl (lv_at hl 0 rfl) ?_
  refine lv_aload_n hx hb dX0_copyBand_1 rfl (lv_at hl 1 rfl) ?_
  refine m_get (C := RX0) (T := TX0) (N := 4) (ci := 0) hx hb hts i_X0 hown hK hH hB2 rfl 0 (by decide) f_0 rfl dX0_copyBand_2 ?_
  refine m_put (C := RX0) (T := TX0) (N := 4) (ci := 0) hx hb hts i_X0 tyX0 tyX0_ok nmX0 hown hK hH hS hB rfl 0 (by decide) f_0 rfl rfl rfl (Nat.le_of_ble_eq_true rfl) dX0_copyBand_5 (fun H locs hH hS => ?_)
  have hW := hu_n' (a := b) (e := (.inr (0, [.int (iv nu2), .int (iv sh), .int (iv sl), .ref w]))) (by omega) hW
  have hB2 := hu_n' (a := b) (e := (.inr (0, [.int (iv nu2), .int (iv sh), .int (iv sl), .ref w]))) (by omega) hB2
  have hW2 := hu_n' (a := b) (e := (.inr (0, [.int (iv nu2), .int (iv sh), .int (iv sl), .ref w]))) (by omega) hW2
  have hB : (hu μ b (.inr (0, [.int (iv nu2), .int (iv sh), .int (iv sl), .ref w]))) b = some (.inr (0, [.int (iv nu2), .int (iv sh), .int (iv sl), .ref w])) := hu_s
  have hH : gP G (hu μ b (.inr (0, [.int (iv nu2), .int (iv sh), .int (iv sl), .ref w]))) n H := hH
  refine lv_aload_n hx hb dX0_copyBand_8 rfl (lv_at hl 0 rfl) ?_
  refine lv_aload_n hx hb dX0_copyBand_9 rfl (lv_at hl 1 rfl) ?_
  refine m_get (C := RX0) (T := TX0) (N := 4) (ci := 0) hx hb hts i_X0 hown hK hH hB2 rfl 1 (by decide) f_2 rfl dX0_copyBand_10 ?_
  refine m_put (C := RX0) (T := TX0) (N := 4) (ci := 0) hx hb hts i_X0 tyX0 tyX0_ok nmX0 hown hK hH hS hB rfl 1 (by decide) f_2 rfl rfl rfl (Nat.le_of_ble_eq_true rfl) dX0_copyBand_13 (fun H locs hH hS => ?_)
  have hW := hu_n' (a := b) (e := (.inr (0, [.int (iv nu2), .int (iv sh2), .int (iv sl), .ref w]))) (by omega) hW
  have hB2 := hu_n' (a := b) (e := (.inr (0, [.int (iv nu2), .int (iv sh2), .int (iv sl), .ref w]))) (by omega) hB2
  have hW2 := hu_n' (a := b) (e := (.inr (0, [.int (iv nu2), .int (iv sh2), .int (iv sl), .ref w]))) (by omega) hW2
  have hB : (hu (hu μ b (.inr (0, [.int (iv nu2), .int (iv sh), .int (iv sl), .ref w]))) b (.inr (0, [.int (iv nu2), .int (iv sh2), .int (iv sl), .ref w]))) b = some (.inr (0, [.int (iv nu2), .int (iv sh2), .int (iv sl), .ref w])) := hu_s
  have hH : gP G (hu (hu μ b (.inr (0, [.int (iv nu2), .int (iv sh), .int (iv sl), .ref w]))) b (.inr (0, [.int (iv nu2), .int (iv sh2), .int (iv sl), .ref w]))) n H := hH
  refine lv_aload_n hx hb dX0_copyBand_16 rfl (lv_at hl 0 rfl) ?_
  refine lv_aload_n hx hb dX0_copyBand_17 rfl (lv_at hl 1 rfl) ?_
  refine m_get (C := RX0) (T := TX0) (N := 4) (ci := 0) hx hb hts i_X0 hown hK hH hB2 rfl 2 (by decide) f_3 rfl dX0_copyBand_18 ?_
  refine m_put (C := RX0) (T := TX0) (N := 4) (ci := 0) hx hb hts i_X0 tyX0 tyX0_ok nmX0 hown hK hH hS hB rfl 2 (by decide) f_3 rfl rfl rfl (Nat.le_of_ble_eq_true rfl) dX0_copyBand_21 (fun H locs hH hS => ?_)
  have hW := hu_n' (a := b) (e := (.inr (0, [.int (iv nu2), .int (iv sh2), .int (iv sl2), .ref w]))) (by omega) hW
  have hB2 := hu_n' (a := b) (e := (.inr (0, [.int (iv nu2), .int (iv sh2), .int (iv sl2), .ref w]))) (by omega) hB2
  have hW2 := hu_n' (a := b) (e := (.inr (0, [.int (iv nu2), .int (iv sh2), .int (iv sl2), .ref w]))) (by omega) hW2
  have hB : (hu (hu (hu μ b (.inr (0, [.int (iv nu2), .int (iv sh), .int (iv sl), .ref w]))) b (.inr (0, [.int (iv nu2), .int (iv sh2), .int (iv sl), .ref w]))) b (.inr (0, [.int (iv nu2), .int (iv sh2), .int (iv sl2), .ref w]))) b = some (.inr (0, [.int (iv nu2), .int (iv sh2), .int (iv sl2), .ref w])) := hu_s
  have hH : gP G (hu (hu (hu μ b (.inr (0, [.int (iv nu2), .int (iv sh), .int (iv sl), .ref w]))) b (.inr (0, [.int (iv nu2), .int (iv sh2), .int (iv sl), .ref w]))) b (.inr (0, [.int (iv nu2), .int (iv sh2), .int (iv sl2), .ref w]))) n H := hH
  refine lv_aload_n hx hb dX0_copyBand_24 rfl (lv_at hl 1 rfl) ?_
  refine m_get (C := RX0) (T := TX0) (N := 4) (ci := 0) hx hb hts i_X0 hown hK hH hB2 rfl 3 (by decide) f_4 rfl dX0_copyBand_25 ?_
  refine j_const hx hb dX0_copyBand_28 ?_
  refine lv_aload_n hx hb dX0_copyBand_29 rfl (lv_at hl 0 rfl) ?_
  refine m_get (C := RX0) (T := TX0) (N := 4) (ci := 0) hx hb hts i_X0 hown hK hH hB rfl 3 (by decide) f_4 rfl dX0_copyBand_30 ?_
  refine j_const hx hb dX0_copyBand_33 ?_
  refine j_bipush hx hb dX0_copyBand_34 ?_ (by decide)
  refine m_copy hx hb (hml.trans hl.1.symm) hown f_5 f_6 f_7 f_8 hK hH hS hW2 hW (nA := 10) rfl (by decide) (Nat.le_of_ble_eq_true rfl) (Nat.le_of_ble_eq_true rfl) dX0_copyBand_36 (fun n1 H locs hH hS => ?_)
  obtain ⟨n1, hn1⟩ : ∃ q, q = n1 := ⟨_, rfl⟩; rw [← hn1] at hH; clear hn1
  have hB := hu_n' (a := w) (e := (.inl (G.2.1 0, 10, .inl (fun j => iv ((fun j => if j < 10 then f2 j else f j) j))))) (by omega) hB
  have hB2 := hu_n' (a := w) (e := (.inl (G.2.1 0, 10, .inl (fun j => iv ((fun j => if j < 10 then f2 j else f j) j))))) (by omega) hB2
  have hW2 := hu_n' (a := w) (e := (.inl (G.2.1 0, 10, .inl (fun j => iv ((fun j => if j < 10 then f2 j else f j) j))))) (by omega) hW2
  have hW : (hu (hu (hu (hu μ b (.inr (0, [.int (iv nu2), .int (iv sh), .int (iv sl), .ref w]))) b (.inr (0, [.int (iv nu2), .int (iv sh2), .int (iv sl), .ref w]))) b (.inr (0, [.int (iv nu2), .int (iv sh2), .int (iv sl2), .ref w]))) w (.inl (G.2.1 0, 10, .inl (fun j => iv ((fun j => if j < 10 then f2 j else f j) j))))) w = some (.inl (G.2.1 0, 10, .inl (fun j => iv ((fun j => if j < 10 then f2 j else f j) j)))) := hu_s
  have hH : gP G (hu (hu (hu (hu μ b (.inr (0, [.int (iv nu2), .int (iv sh), .int (iv sl), .ref w]))) b (.inr (0, [.int (iv nu2), .int (iv sh2), .int (iv sl), .ref w]))) b (.inr (0, [.int (iv nu2), .int (iv sh2), .int (iv sl2), .ref w]))) w (.inl (G.2.1 0, 10, .inl (fun j => iv ((fun j => if j < 10 then f2 j else f j) j))))) n1 H := hH
  subst hQ
  refine m_vret hx hb hr hlocks hH hS dX0_copyBand_39 ?_
  exact ⟨hB, hW, fun q q1 q2 => by rw [hu_n q2, hu_n q1, hu_n q1, hu_n q1]⟩

abbrev rm_c_X0_renew : Room := { frames := 0, cells := 0, slots := 0, locals := 0 }
set_option maxHeartbeats 4000000 in
set_option maxRecDepth 100000 in
theorem c_X0_renew (l : Launch) (G : wG) (μ : hM) (n : Nat) (b w : Nat) (nu sh sl : Int) (f : Nat → Int) (hB : μ b = some (.inr (0, [.int (iv nu), .int (iv sh), .int (iv sl), .ref w]))) (hW : μ w = some (.inl (G.2.1 0, 10, .inl (fun j => iv (f j))))) : Met l yX0_renew wsX0_renew rm_c_X0_renew (mPc G μ n [.ref b]) (mQv G (fun μ1 n1 => μ1 b = some (.inr (0, [.int (iv nu), .int (iv 0), .int (iv 0), .ref w])) ∧ (∃ g : Nat → Int, μ1 w = some (.inl (G.2.1 0, 10, .inl (fun j => iv (g j)))) ∧ ∀ j, j < 10 → g j = 0) ∧ n1 = n ∧ ∀ q, q ≠ b → q ≠ w → μ1 q = μ q)) 0 0 (gA G) := by
  refine Met.ofW (cc := cX0_renew) (maxL := 2) (ret := none) (by decide) rfl ?_
  intro p e s m args below meth c s₁ B hml hv
  obtain ⟨hav, hK, hH⟩ := hv
  have hx := B.exec
  have hb := B.bytes
  have hr := B.returns
  have hts := atoms_spec (ws := wsX0_renew) B.pre
  have hown : s.vm.findClass RX0 = some m.cls := findClass_of_methodNamed B.named
  have hlocks := B.notSynchronized
  have hS : va_S (gA G) s.heap s.heap [] := va_S.rf
  have hl := lv_entry ([.ref b]) (n := 2) (Nat.le_of_ble_eq_true rfl)
  have hfr : entryFrame m args 2 = entryFrame m ([.ref b] : List Value).toArray 2 := by rw [hav]
  rw [hfr, lg_entry_eq]
  generalize (lg_sl ([.ref b]) ++ List.replicate (2 - (lg_sl ([.ref b])).length) Slot.unset).toArray = ls at hl ⊢
  have hl : lv_has ls 2 [(0, .ref b)] := hl
  generalize hQ : MQ below _ args s 0 0 (gA G) = Q
  show W p l e rm_c_X0_renew s m args below meth c s.heap [] 0 0 Q (F0 m 0 ls [])
  obtain ⟨H, hHe⟩ : ∃ H, H = s.heap := ⟨_, rfl⟩
  obtain ⟨locs, hlo⟩ : ∃ q : List Loc, q = [] := ⟨_, rfl⟩
  have hH : gP G μ n H := by rw [hHe]; exact hH
  have hS : va_S (gA G) s.heap H locs := by rw [hHe, hlo]; exact hS
  suffices hgo : W p l e rm_c_X0_renew s m args below meth c H locs 0 0 Q (F0 m 0 ls []) by rw [hHe, hlo] at hgo; exact hgo
  clear hHe hlo hfr hav
  have f_0 := hts (.fieldLink RX0 19 "StampDater$Band" "shown" "I") (List.mem_of_getElem? (i := 1) rfl)
  have i_X0 : ∀ w ∈ u_ws RX0 TX0 4, w ∈ wsX0_renew := by decide +kernel
  have f_2 := hts (.fieldLink RX0 22 "StampDater$Band" "slack" "I") (List.mem_of_getElem? (i := 2) rfl)
  have f_3 := hts (.fieldLink RX0 15 "StampDater$Band" "wears" "[I") (List.mem_of_getElem? (i := 3) rfl)
  have hne := ne_oa hB hW
  refine lv_aload_n hx hb dX0_renew_0 rfl (lv_at hl 0 rfl) ?_
  refine j_const hx hb dX0_renew_1 ?_
  refine m_put (C := RX0) (T := TX0) (N := 4) (ci := 0) hx hb hts i_X0 tyX0 tyX0_ok nmX0 hown hK hH hS hB rfl 1 (by decide) f_0 rfl rfl rfl (Nat.le_of_ble_eq_true rfl) dX0_renew_2 (fun H locs hH hS => ?_)
  have hW := hu_n' (a := b) (e := (.inr (0, [.int (iv nu), .int (iv 0), .int (iv sl), .ref w]))) (by omega) hW
  have hB : (hu μ b (.inr (0, [.int (iv nu), .int (iv 0), .int (iv sl), .ref w]))) b = some (.inr (0, [.int (iv nu), .int (iv 0), .int (iv sl), .ref w])) := hu_s
  have hH : gP G (hu μ b (.inr (0, [.int (iv nu), .int (iv 0), .int (iv sl), .ref w]))) n H := hH
  refine lv_aload_n hx hb dX0_renew_5 rfl (lv_at hl 0 rfl) ?_
  refine j_const hx hb dX0_renew_6 ?_
  refine m_put (C := RX0) (T := TX0) (N := 4) (ci := 0) hx hb hts i_X0 tyX0 tyX0_ok nmX0 hown hK hH hS hB rfl 2 (by decide) f_2 rfl rfl rfl (Nat.le_of_ble_eq_true rfl) dX0_renew_7 (fun H locs hH hS => ?_)
  have hW := hu_n' (a := b) (e := (.inr (0, [.int (iv nu), .int (iv 0), .int (iv 0), .ref w]))) (by omega) hW
  have hB : (hu (hu μ b (.inr (0, [.int (iv nu), .int (iv 0), .int (iv sl), .ref w]))) b (.inr (0, [.int (iv nu), .int (iv 0), .int (iv 0), .ref w]))) b = some (.inr (0, [.int (iv nu), .int (iv 0), .int (iv 0), .ref w])) := hu_s
  have hH : gP G (hu (hu μ b (.inr (0, [.int (iv nu), .int (iv 0), .int (iv sl), .ref w]))) b (.inr (0, [.int (iv nu), .int (iv 0), .int (iv 0), .ref w]))) n H := hH
  refine j_const hx hb dX0_renew_10 ?_
  refine lv_istore_n (lv' := [(1, .int (iv 0)), (0, .ref b)]) hx hb dX0_renew_11 rfl hl (by decide) rfl (fun ls hl => ?_)
  have lp12 : ∀ (k : Nat) (i : Int) (ν : hM) (g : Nat → Int) (hi : 0 ≤ i ∧ i ≤ 10) (hB : ν b = some (.inr (0, [.int (iv nu), .int (iv 0), .int (iv 0), .ref w]))) (hW : ν w = some (.inl (G.2.1 0, 10, .inl (fun j => iv (g j))))) (hg : ∀ j : Nat, (j : Int) < i → g j = 0) (hq : ∀ q, q ≠ b → q ≠ w → ν q = μ q) (_ : (10 - i).toNat < k) (H : Heap) (locs : List Loc) (ls : Array Slot) (_ : gP G ν n H) (_ : va_S (gA G) s.heap H locs) (_ : lv_has ls 2 [(0, .ref b), (1, .int (iv i))]), W p l e rm_c_X0_renew s m args below meth c H locs 0 0 Q (F0 m 12 ls []) := by
    intro k
    induction k with
    | zero => intro _ _ _ _ _ _ _ _ hk; exact absurd hk (Nat.not_lt_zero _)
    | succ k ih =>
      intro i ν g hi hB hW hg hq hk H locs ls hH hS hl
      have ih1 := ih; clear ih
      refine lv_iload_n hx hb dX0_renew_12 rfl (lv_at hl 1 rfl) ?_
      refine lv_aload_n hx hb dX0_renew_13 rfl (lv_at hl 0 rfl) ?_
      refine m_get (C := RX0) (T := TX0) (N := 4) (ci := 0) hx hb hts i_X0 hown hK hH hB rfl 3 (by decide) f_3 rfl dX0_renew_14 ?_
      refine m_alen hx hb hK hH 0 hW rfl dX0_renew_17 ?_
      refine j_norm (y := 10) (by rfl) ?_
      refine j_icmp_ge (tgt := 34) hx hb dX0_renew_18 (by decide) (fun c2 => ?_) (fun c2 => ?_) (by omega) (by omega)
      · skip
        subst hQ
        refine m_vret hx hb hr hlocks hH hS dX0_renew_34 ?_
        exact ⟨hB, ⟨g, hW, fun j hj => hg j (by omega)⟩, rfl, hq⟩
      · skip
        refine lv_aload_n hx hb dX0_renew_21 rfl (lv_at hl 0 rfl) ?_
        refine m_get (C := RX0) (T := TX0) (N := 4) (ci := 0) hx hb hts i_X0 hown hK hH hB rfl 3 (by decide) f_3 rfl dX0_renew_22 ?_
        refine lv_iload_n hx hb dX0_renew_25 rfl (lv_at hl 1 rfl) ?_
        refine j_const hx hb dX0_renew_26 ?_
        refine m_iast (nA := 10) (f := g) hx hb hK hH hS hW dX0_renew_27 (fun H locs hH hS => ?_) (by omega) (by omega)
        have hB := hu_n' (a := w) (e := (.inl (G.2.1 0, 10, .inl (fun j => iv ((fu g (i).toNat 0) j))))) (by omega) hB
        have hW : (hu ν w (.inl (G.2.1 0, 10, .inl (fun j => iv ((fu g (i).toNat 0) j))))) w = some (.inl (G.2.1 0, 10, .inl (fun j => iv ((fu g (i).toNat 0) j)))) := hu_s
        have hH : gP G (hu ν w (.inl (G.2.1 0, 10, .inl (fun j => iv ((fu g (i).toNat 0) j))))) n H := hH
        refine j_iinc (lv' := [(1, .int (iv (i + 1))), (0, .ref b)]) hx hb dX0_renew_28 hl (k := 1) rfl (by decide) rfl (fun ls hl => ?_)
        refine lv_goto (tgt := 12) hx hb dX0_renew_31 (by decide) ?_
        exact ih1 (i + 1) (hu ν w (.inl (G.2.1 0, 10, .inl (fun j => iv ((fu g (i).toNat 0) j))))) (fu g i.toNat 0) (by omega) hB hW (fun j hj => (Decidable.em (j = i.toNat)).elim (fun h => by rw [h, fu_s]) (fun h => by rw [fu_n h]; exact hg j (by omega))) (fun q q1 q2 => by rw [hu_n q2]; exact hq q q1 q2) (by omega) H locs ls hH hS (lv_sub hl [1, 0] rfl)
  exact lp12 (11) 0 (hu (hu μ b (.inr (0, [.int (iv nu), .int (iv 0), .int (iv sl), .ref w]))) b (.inr (0, [.int (iv nu), .int (iv 0), .int (iv 0), .ref w]))) f (by omega) hB hW (fun j hj => by omega) (fun q q1 q2 => by rw [hu_n q1, hu_n q1]) (by omega) H locs ls hH hS (lv_sub hl [1, 0] rfl)

abbrev rm_c_X0_allWear : Room := { frames := 0, cells := 0, slots := 0, locals := 0 }
set_option maxHeartbeats 4000000 in
set_option maxRecDepth 100000 in
theorem c_X0_allWear (l : Launch) (G : wG) (μ : hM) (n : Nat) (b w : Nat) (nu sh sl : Int) (f : Nat → Int) (hB : μ b = some (.inr (0, [.int (iv nu), .int (iv sh), .int (iv sl), .ref w]))) (hW : μ w = some (.inl (G.2.1 0, 10, .inl (fun j => iv (f j))))) (hf : ∀ j, j < 10 → 0 ≤ f j ∧ f j ≤ 99) : Met l yX0_allWear wsX0_allWear rm_c_X0_allWear (mPc G μ n [.ref b]) (mQi G (fun z μ1 n1 => z = bsum f 10 ∧ μ1 = μ ∧ n1 = n)) 0 0 (gA G) := by
  refine Met.ofW (cc := cX0_allWear) (maxL := 6) (ret := (some .int)) (by decide) rfl ?_
  intro p e s m args below meth c s₁ B hml hv
  obtain ⟨hav, hK, hH⟩ := hv
  have hx := B.exec
  have hb := B.bytes
  have hr := B.returns
  have hts := atoms_spec (ws := wsX0_allWear) B.pre
  have hown : s.vm.findClass RX0 = some m.cls := findClass_of_methodNamed B.named
  have hlocks := B.notSynchronized
  have hS : va_S (gA G) s.heap s.heap [] := va_S.rf
  have hl := lv_entry ([.ref b]) (n := 6) (Nat.le_of_ble_eq_true rfl)
  have hfr : entryFrame m args 6 = entryFrame m ([.ref b] : List Value).toArray 6 := by rw [hav]
  rw [hfr, lg_entry_eq]
  generalize (lg_sl ([.ref b]) ++ List.replicate (6 - (lg_sl ([.ref b])).length) Slot.unset).toArray = ls at hl ⊢
  have hl : lv_has ls 6 [(0, .ref b)] := hl
  generalize hQ : MQ below _ args s 0 0 (gA G) = Q
  show W p l e rm_c_X0_allWear s m args below meth c s.heap [] 0 0 Q (F0 m 0 ls [])
  obtain ⟨H, hHe⟩ : ∃ H, H = s.heap := ⟨_, rfl⟩
  obtain ⟨locs, hlo⟩ : ∃ q : List Loc, q = [] := ⟨_, rfl⟩
  have hH : gP G μ n H := by rw [hHe]; exact hH
  have hS : va_S (gA G) s.heap H locs := by rw [hHe, hlo]; exact hS
  suffices hgo : W p l e rm_c_X0_allWear s m args below meth c H locs 0 0 Q (F0 m 0 ls []) by rw [hHe, hlo] at hgo; exact hgo
  clear hHe hlo hfr hav
  have f_0 := hts (.fieldLink RX0 15 "StampDater$Band" "wears" "[I") (List.mem_of_getElem? (i := 1) rfl)
  have i_X0 : ∀ w ∈ u_ws RX0 TX0 4, w ∈ wsX0_allWear := by decide +kernel
  have hne := ne_oa hB hW
  refine j_const hx hb dX0_allWear_0 ?_
  refine lv_istore_n (lv' := [(1, .int (iv 0)), (0, .ref b)]) hx hb dX0_allWear_1 rfl hl (by decide) rfl (fun ls hl => ?_)
  refine lv_aload_n hx hb dX0_allWear_2 rfl (lv_at hl 1 rfl) ?_
  refine m_get (C := RX0) (T := TX0) (N := 4) (ci := 0) hx hb hts i_X0 hown hK hH hB rfl 3 (by decide) f_0 rfl dX0_allWear_3 ?_
  refine lv_astore_n (lv' := [(2, .ref w), (1, .int (iv 0)), (0, .ref b)]) hx hb dX0_allWear_6 rfl hl (by decide) rfl (fun ls hl => ?_)
  refine lv_aload_n hx hb dX0_allWear_7 rfl (lv_at hl 0 rfl) ?_
  refine m_alen hx hb hK hH 0 hW rfl dX0_allWear_8 ?_
  refine j_norm (y := 10) (by rfl) ?_
  refine lv_istore_n (lv' := [(3, .int (iv 10)), (2, .ref w), (1, .int (iv 0)), (0, .ref b)]) hx hb dX0_allWear_9 rfl hl (by decide) rfl (fun ls hl => ?_)
  refine j_const hx hb dX0_allWear_10 ?_
  refine lv_istore (lv' := [(4, .int (iv 0)), (3, .int (iv 10)), (2, .ref w), (1, .int (iv 0)), (0, .ref b)]) hx hb dX0_allWear_11 hl (by decide) rfl (fun ls hl => ?_)
  have lp13 : ∀ (k : Nat) (i : Int) (a : Int) (hi : 0 ≤ i ∧ i ≤ 10) (ha : a = bsum f i.toNat) (_ : (10 - i).toNat < k) (H : Heap) (locs : List Loc) (ls : Array Slot) (_ : gP G μ n H) (_ : va_S (gA G) s.heap H locs) (_ : lv_has ls 6 [(0, .ref b), (1, .int (iv a)), (2, .ref w), (3, .int (iv 10)), (4, .int (iv i))]), W p l e rm_c_X0_allWear s m args below meth c H locs 0 0 Q (F0 m 13 ls []) := by
    intro k
    induction k with
    | zero => intro _ _ _ _ hk; exact absurd hk (Nat.not_lt_zero _)
    | succ k ih =>
      intro i a hi ha hk H locs ls hH hS hl
      have ih1 := ih; clear ih
      refine lv_iload hx hb dX0_allWear_13 (lv_at hl 4 rfl) ?_
      refine lv_iload_n hx hb dX0_allWear_15 rfl (lv_at hl 3 rfl) ?_
      refine j_icmp_ge (tgt := 36) hx hb dX0_allWear_16 (by decide) (fun c2 => ?_) (fun c2 => ?_) (by omega) (by omega)
      · skip
        have hbr := bsum_rng (M := 99) (f := f) i.toNat (fun j hj => hf j (by omega))
        refine lv_iload_n hx hb dX0_allWear_36 rfl (lv_at hl 1 rfl) ?_
        subst hQ
        refine m_iret hx hb hr hlocks hH hS dX0_allWear_37 ?_ (by omega)
        have hi10 : i.toNat = 10 := by omega
        rw [hi10] at ha
        exact ⟨ha, rfl, rfl⟩
      · skip
        refine lv_aload_n hx hb dX0_allWear_19 rfl (lv_at hl 2 rfl) ?_
        refine lv_iload hx hb dX0_allWear_20 (lv_at hl 4 rfl) ?_
        refine m_iald (nA := 10) (f := f) hx hb hK hH hW dX0_allWear_22 ?_ (by omega) (by omega)
        refine j_top (fun q5 hq5 => ?_)
        refine lv_istore (lv' := [(5, .int (iv q5)), (0, .ref b), (1, .int (iv a)), (2, .ref w), (3, .int (iv 10)), (4, .int (iv i))]) hx hb dX0_allWear_23 hl (by decide) rfl (fun ls hl => ?_)
        refine lv_iload_n hx hb dX0_allWear_25 rfl (lv_at hl 2 rfl) ?_
        refine lv_iload hx hb dX0_allWear_26 (lv_at hl 0 rfl) ?_
        refine j_iadd hx hb dX0_allWear_28 ?_
        refine lv_istore_n (lv' := [(1, .int (iv (a + q5))), (5, .int (iv q5)), (0, .ref b), (2, .ref w), (3, .int (iv 10)), (4, .int (iv i))]) hx hb dX0_allWear_29 rfl hl (by decide) rfl (fun ls hl => ?_)
        refine j_iinc (lv' := [(4, .int (iv (i + 1))), (1, .int (iv (a + q5))), (5, .int (iv q5)), (0, .ref b), (2, .ref w), (3, .int (iv 10))]) hx hb dX0_allWear_30 hl (k := 5) rfl (by decide) rfl (fun ls hl => ?_)
        refine lv_goto (tgt := 13) hx hb dX0_allWear_33 (by decide) ?_
        exact ih1 (i + 1) (a + q5) (by omega) (by rw [tN1 hi.1, ha, hq5]; rfl) (by omega) H locs ls hH hS (lv_sub hl [3, 1, 4, 5, 0] rfl)
  exact lp13 (11) 0 0 (by omega) rfl (by omega) H locs ls hH hS (lv_sub hl [4, 3, 2, 1, 0] rfl)

abbrev rm_c_X0_leastWear : Room := { frames := 1, cells := 0, slots := 0, locals := 21 }
set_option maxHeartbeats 4000000 in
set_option maxRecDepth 100000 in
theorem c_X0_leastWear (l : Launch) (G : wG) (μ : hM) (n : Nat) (b w : Nat) (nu sh sl : Int) (f : Nat → Int) (hB : μ b = some (.inr (0, [.int (iv nu), .int (iv sh), .int (iv sl), .ref w]))) (hW : μ w = some (.inl (G.2.1 0, 10, .inl (fun j => iv (f j))))) (hf : ∀ j, j < 10 → 0 ≤ f j ∧ f j ≤ 99) : Met l yX0_leastWear wsX0_leastWear rm_c_X0_leastWear (mPc G μ n [.ref b]) (mQi G (fun z μ1 n1 => z = bleast f 10 ∧ μ1 = μ ∧ n1 = n)) 0 0 (gA G) := by
  refine Met.ofW (cc := cX0_leastWear) (maxL := 6) (ret := (some .int)) (by decide) rfl ?_
  intro p e s m args below meth c s₁ B hml hv
  obtain ⟨hav, hK, hH⟩ := hv
  have hx := B.exec
  have hb := B.bytes
  have hr := B.returns
  have hts := atoms_spec (ws := wsX0_leastWear) B.pre
  have hown : s.vm.findClass RX0 = some m.cls := findClass_of_methodNamed B.named
  have hlocks := B.notSynchronized
  have hS : va_S (gA G) s.heap s.heap [] := va_S.rf
  have hl := lv_entry ([.ref b]) (n := 6) (Nat.le_of_ble_eq_true rfl)
  have hfr : entryFrame m args 6 = entryFrame m ([.ref b] : List Value).toArray 6 := by rw [hav]
  rw [hfr, lg_entry_eq]
  generalize (lg_sl ([.ref b]) ++ List.replicate (6 - (lg_sl ([.ref b])).length) Slot.unset).toArray = ls at hl ⊢
  have hl : lv_has ls 6 [(0, .ref b)] := hl
  generalize hQ : MQ below _ args s 0 0 (gA G) = Q
  show W p l e rm_c_X0_leastWear s m args below meth c s.heap [] 0 0 Q (F0 m 0 ls [])
  obtain ⟨H, hHe⟩ : ∃ H, H = s.heap := ⟨_, rfl⟩
  obtain ⟨locs, hlo⟩ : ∃ q : List Loc, q = [] := ⟨_, rfl⟩
  have hH : gP G μ n H := by rw [hHe]; exact hH
  have hS : va_S (gA G) s.heap H locs := by rw [hHe, hlo]; exact hS
  suffices hgo : W p l e rm_c_X0_leastWear s m args below meth c H locs 0 0 Q (F0 m 0 ls []) by rw [hHe, hlo] at hgo; exact hgo
  clear hHe hlo hfr hav
  have f_0 := hts (.fieldLink RX0 15 "StampDater$Band" "wears" "[I") (List.mem_of_getElem? (i := 1) rfl)
  have i_X0 : ∀ w ∈ u_ws RX0 TX0 4, w ∈ wsX0_leastWear := by decide +kernel
  have f_2 := hts (.methodLink RX0 41 Lib.Math.min.name) (List.mem_of_getElem? (i := 2) rfl)
  have f_3 := hts (.static Lib.Math.min.name) (List.mem_of_getElem? (i := 3) rfl)
  have f_4 := hts (.initialized "java/lang/Math") (List.mem_of_getElem? (i := 4) rfl)
  have f_5 := hts (.code Lib.Math.min.name Lib.Math.min.code 2 (some .int)) (List.mem_of_getElem? (i := 5) rfl)
  have hne := ne_oa hB hW
  refine j_bipush hx hb dX0_leastWear_0 ?_ (by decide)
  refine lv_istore_n (lv' := [(1, .int (iv 99)), (0, .ref b)]) hx hb dX0_leastWear_2 rfl hl (by decide) rfl (fun ls hl => ?_)
  refine lv_aload_n hx hb dX0_leastWear_3 rfl (lv_at hl 1 rfl) ?_
  refine m_get (C := RX0) (T := TX0) (N := 4) (ci := 0) hx hb hts i_X0 hown hK hH hB rfl 3 (by decide) f_0 rfl dX0_leastWear_4 ?_
  refine lv_astore_n (lv' := [(2, .ref w), (1, .int (iv 99)), (0, .ref b)]) hx hb dX0_leastWear_7 rfl hl (by decide) rfl (fun ls hl => ?_)
  refine lv_aload_n hx hb dX0_leastWear_8 rfl (lv_at hl 0 rfl) ?_
  refine m_alen hx hb hK hH 0 hW rfl dX0_leastWear_9 ?_
  refine j_norm (y := 10) (by rfl) ?_
  refine lv_istore_n (lv' := [(3, .int (iv 10)), (2, .ref w), (1, .int (iv 99)), (0, .ref b)]) hx hb dX0_leastWear_10 rfl hl (by decide) rfl (fun ls hl => ?_)
  refine j_const hx hb dX0_leastWear_11 ?_
  refine lv_istore (lv' := [(4, .int (iv 0)), (3, .int (iv 10)), (2, .ref w), (1, .int (iv 99)), (0, .ref b)]) hx hb dX0_leastWear_12 hl (by decide) rfl (fun ls hl => ?_)
  have lp14 : ∀ (k : Nat) (i : Int) (a : Int) (hi : 0 ≤ i ∧ i ≤ 10) (ha : a = bleast f i.toNat) (hra : 0 ≤ a ∧ a ≤ 99) (_ : (10 - i).toNat < k) (H : Heap) (locs : List Loc) (ls : Array Slot) (_ : gP G μ n H) (_ : va_S (gA G) s.heap H locs) (_ : lv_has ls 6 [(0, .ref b), (1, .int (iv a)), (2, .ref w), (3, .int (iv 10)), (4, .int (iv i))]), W p l e rm_c_X0_leastWear s m args below meth c H locs 0 0 Q (F0 m 14 ls []) := by
    intro k
    induction k with
    | zero => intro _ _ _ _ _ hk; exact absurd hk (Nat.not_lt_zero _)
    | succ k ih =>
      intro i a hi ha hra hk H locs ls hH hS hl
      have ih1 := ih; clear ih
      refine lv_iload hx hb dX0_leastWear_14 (lv_at hl 4 rfl) ?_
      refine lv_iload_n hx hb dX0_leastWear_16 rfl (lv_at hl 3 rfl) ?_
      refine j_icmp_ge (tgt := 39) hx hb dX0_leastWear_17 (by decide) (fun c2 => ?_) (fun c2 => ?_) (by omega) (by omega)
      · skip
        refine lv_iload_n hx hb dX0_leastWear_39 rfl (lv_at hl 1 rfl) ?_
        subst hQ
        refine m_iret hx hb hr hlocks hH hS dX0_leastWear_40 ?_ (by omega)
        have hi10 : i.toNat = 10 := by omega
        rw [hi10] at ha
        exact ⟨ha, rfl, rfl⟩
      · skip
        refine lv_aload_n hx hb dX0_leastWear_20 rfl (lv_at hl 2 rfl) ?_
        refine lv_iload hx hb dX0_leastWear_21 (lv_at hl 4 rfl) ?_
        refine m_iald (nA := 10) (f := f) hx hb hK hH hW dX0_leastWear_23 ?_ (by omega) (by omega)
        refine j_top (fun q5 hq5 => ?_)
        have hfi := hf i.toNat (by omega)
        rw [← hq5] at hfi
        refine lv_istore (lv' := [(5, .int (iv q5)), (0, .ref b), (1, .int (iv a)), (2, .ref w), (3, .int (iv 10)), (4, .int (iv i))]) hx hb dX0_leastWear_24 hl (by decide) rfl (fun ls hl => ?_)
        refine lv_iload_n hx hb dX0_leastWear_26 rfl (lv_at hl 2 rfl) ?_
        refine lv_iload hx hb dX0_leastWear_27 (lv_at hl 0 rfl) ?_
        refine m_min hx hb (hml.trans hl.1.symm) hown f_2 f_3 f_4 f_5 (Nat.le_of_ble_eq_true rfl) (Nat.le_of_ble_eq_true rfl) (Nat.le_of_ble_eq_true rfl) (Nat.le_of_ble_eq_true rfl) dX0_leastWear_29 ?_ (by omega) (by omega)
        refine lv_istore_n (lv' := [(1, .int (iv (min a q5))), (5, .int (iv q5)), (0, .ref b), (2, .ref w), (3, .int (iv 10)), (4, .int (iv i))]) hx hb dX0_leastWear_32 rfl hl (by decide) rfl (fun ls hl => ?_)
        refine j_iinc (lv' := [(4, .int (iv (i + 1))), (1, .int (iv (min a q5))), (5, .int (iv q5)), (0, .ref b), (2, .ref w), (3, .int (iv 10))]) hx hb dX0_leastWear_33 hl (k := 5) rfl (by decide) rfl (fun ls hl => ?_)
        refine lv_goto (tgt := 14) hx hb dX0_leastWear_36 (by decide) ?_
        exact ih1 (i + 1) (min a q5) (by omega) (by rw [tN1 hi.1, ha, hq5]; rfl) (by have := hf i.toNat (by omega); omega) (by omega) H locs ls hH hS (lv_sub hl [3, 1, 4, 5, 0] rfl)
  exact lp14 (11) 0 99 (by omega) rfl (by omega) (by omega) H locs ls hH hS (lv_sub hl [4, 3, 2, 1, 0] rfl)

abbrev rm_c_X0_mostWornDigit : Room := { frames := 1, cells := 0, slots := 0, locals := 21 }
set_option maxHeartbeats 4000000 in
set_option maxRecDepth 100000 in
theorem c_X0_mostWornDigit (l : Launch) (G : wG) (μ : hM) (n : Nat) (b w : Nat) (nu sh sl : Int) (f : Nat → Int) (hB : μ b = some (.inr (0, [.int (iv nu), .int (iv sh), .int (iv sl), .ref w]))) (hW : μ w = some (.inl (G.2.1 0, 10, .inl (fun j => iv (f j))))) (hf : ∀ j, j < 10 → 0 ≤ f j ∧ f j ≤ 99) : Met l yX0_mostWornDigit wsX0_mostWornDigit rm_c_X0_mostWornDigit (mPc G μ n [.ref b]) (mQi G (fun z μ1 n1 => z = (bmost f 9 : Int) ∧ μ1 = μ ∧ n1 = n)) 0 0 (gA G) := by
  refine Met.ofW (cc := cX0_mostWornDigit) (maxL := 3) (ret := (some .int)) (by decide) rfl ?_
  intro p e s m args below meth c s₁ B hml hv
  obtain ⟨hav, hK, hH⟩ := hv
  have hx := B.exec
  have hb := B.bytes
  have hr := B.returns
  have hts := atoms_spec (ws := wsX0_mostWornDigit) B.pre
  have hown : s.vm.findClass RX0 = some m.cls := findClass_of_methodNamed B.named
  have hlocks := B.notSynchronized
  have hS : va_S (gA G) s.heap s.heap [] := va_S.rf
  have hl := lv_entry ([.ref b]) (n := 3) (Nat.le_of_ble_eq_true rfl)
  have hfr : entryFrame m args 3 = entryFrame m ([.ref b] : List Value).toArray 3 := by rw [hav]
  rw [hfr, lg_entry_eq]
  generalize (lg_sl ([.ref b]) ++ List.replicate (3 - (lg_sl ([.ref b])).length) Slot.unset).toArray = ls at hl ⊢
  have hl : lv_has ls 3 [(0, .ref b)] := hl
  generalize hQ : MQ below _ args s 0 0 (gA G) = Q
  show W p l e rm_c_X0_mostWornDigit s m args below meth c s.heap [] 0 0 Q (F0 m 0 ls [])
  obtain ⟨H, hHe⟩ : ∃ H, H = s.heap := ⟨_, rfl⟩
  obtain ⟨locs, hlo⟩ : ∃ q : List Loc, q = [] := ⟨_, rfl⟩
  have hH : gP G μ n H := by rw [hHe]; exact hH
  have hS : va_S (gA G) s.heap H locs := by rw [hHe, hlo]; exact hS
  suffices hgo : W p l e rm_c_X0_mostWornDigit s m args below meth c H locs 0 0 Q (F0 m 0 ls []) by rw [hHe, hlo] at hgo; exact hgo
  clear hHe hlo hfr hav
  have f_0 := hts (.fieldLink RX0 15 "StampDater$Band" "wears" "[I") (List.mem_of_getElem? (i := 1) rfl)
  have i_X0 : ∀ w ∈ u_ws RX0 TX0 4, w ∈ wsX0_mostWornDigit := by decide +kernel
  have hne := ne_oa hB hW
  refine j_const hx hb dX0_mostWornDigit_0 ?_
  refine lv_istore_n (lv' := [(1, .int (iv 0)), (0, .ref b)]) hx hb dX0_mostWornDigit_1 rfl hl (by decide) rfl (fun ls hl => ?_)
  refine j_const hx hb dX0_mostWornDigit_2 ?_
  refine lv_istore_n (lv' := [(2, .int (iv 1)), (1, .int (iv 0)), (0, .ref b)]) hx hb dX0_mostWornDigit_3 rfl hl (by decide) rfl (fun ls hl => ?_)
  have lp4 : ∀ (k : Nat) (i : Int) (a : Int) (hi : 1 ≤ i ∧ i ≤ 10) (ha : a = (bmost f (i - 1).toNat : Int)) (_ : (10 - i).toNat < k) (H : Heap) (locs : List Loc) (ls : Array Slot) (_ : gP G μ n H) (_ : va_S (gA G) s.heap H locs) (_ : lv_has ls 3 [(0, .ref b), (1, .int (iv a)), (2, .int (iv i))]), W p l e rm_c_X0_mostWornDigit s m args below meth c H locs 0 0 Q (F0 m 4 ls []) := by
    intro k
    induction k with
    | zero => intro _ _ _ _ hk; exact absurd hk (Nat.not_lt_zero _)
    | succ k ih =>
      intro i a hi ha hk H locs ls hH hS hl
      have ih1 := ih; clear ih
      refine lv_iload_n hx hb dX0_mostWornDigit_4 rfl (lv_at hl 2 rfl) ?_
      refine lv_aload_n hx hb dX0_mostWornDigit_5 rfl (lv_at hl 0 rfl) ?_
      refine m_get (C := RX0) (T := TX0) (N := 4) (ci := 0) hx hb hts i_X0 hown hK hH hB rfl 3 (by decide) f_0 rfl dX0_mostWornDigit_6 ?_
      refine m_alen hx hb hK hH 0 hW rfl dX0_mostWornDigit_9 ?_
      refine j_norm (y := 10) (by rfl) ?_
      refine j_icmp_ge (tgt := 35) hx hb dX0_mostWornDigit_10 (by decide) (fun c2 => ?_) (fun c2 => ?_) (by omega) (by omega)
      · skip
        have hle := bmost_le f (i - 1).toNat
        refine lv_iload_n hx hb dX0_mostWornDigit_35 rfl (lv_at hl 1 rfl) ?_
        subst hQ
        refine m_iret hx hb hr hlocks hH hS dX0_mostWornDigit_36 ?_ (by omega)
        have hi10 : (i - 1).toNat = 9 := by omega
        rw [hi10] at ha
        exact ⟨ha, rfl, rfl⟩
      · skip
        have hle := bmost_le f (i - 1).toNat
        refine lv_aload_n hx hb dX0_mostWornDigit_13 rfl (lv_at hl 0 rfl) ?_
        refine m_get (C := RX0) (T := TX0) (N := 4) (ci := 0) hx hb hts i_X0 hown hK hH hB rfl 3 (by decide) f_0 rfl dX0_mostWornDigit_14 ?_
        refine lv_iload_n hx hb dX0_mostWornDigit_17 rfl (lv_at hl 2 rfl) ?_
        refine m_iald (nA := 10) (f := f) hx hb hK hH hW dX0_mostWornDigit_18 ?_ (by omega) (by omega)
        refine lv_aload_n hx hb dX0_mostWornDigit_19 rfl (lv_at hl 0 rfl) ?_
        refine lv_iload_n hx hb dX0_mostWornDigit_20 rfl (lv_at hl 1 rfl) ?_
        refine m_callVi (As := [.int (iv a)]) (rest := [.int (iv (f (i).toNat))]) ⟨hx, hb, hml, hown, hts⟩ hK hH hS (c_X0_wearOf l G μ n b w nu sh sl f a hB hW (by omega) (hf _ (by omega))) (cwV 1 hts gX0_mostWornDigit_X0_wearOf rfl rfl rfl (by decide +kernel) ⟨(Nat.le_of_ble_eq_true rfl), (Nat.le_of_ble_eq_true rfl)⟩) hB rfl rfl rfl rfl hl.1 (Nat.le_of_ble_eq_true rfl) dX0_mostWornDigit_21 ⟨Nat.zero_le _, Nat.zero_le _⟩ (fun z6 μ3 n4 H locs hz6 hp5 hH hS => ?_)
        obtain ⟨hz2, hm2, hn2⟩ := hp5; rw [hz2]; rw [hm2, hn2] at hH; clear hz2 hm2 hn2
        have hf1 := hf i.toNat (by omega)
        have hf2 := hf a.toNat (by omega)
        refine j_icmp_le (tgt := 29) hx hb dX0_mostWornDigit_24 (by decide) (fun c7 => ?_) (fun c7 => ?_) (by omega) (by omega)
        · skip
          refine j_iinc (lv' := [(2, .int (iv (i + 1))), (0, .ref b), (1, .int (iv a))]) hx hb dX0_mostWornDigit_29 hl (k := 2) rfl (by decide) rfl (fun ls hl => ?_)
          refine lv_goto (tgt := 4) hx hb dX0_mostWornDigit_32 (by decide) ?_
          exact ih1 (i + 1) a (by omega) (by rw [bmost_step hi.1]; have e2 : a.toNat = bmost f (i - 1).toNat := (by omega); rw [← e2]; split <;> omega) (by omega) H locs ls hH hS (lv_sub hl [1, 2, 0] rfl)
        · skip
          refine lv_iload_n hx hb dX0_mostWornDigit_27 rfl (lv_at hl 2 rfl) ?_
          refine lv_istore_n (lv' := [(1, .int (iv i)), (0, .ref b), (2, .int (iv i))]) hx hb dX0_mostWornDigit_28 rfl hl (by decide) rfl (fun ls hl => ?_)
          refine j_iinc (lv' := [(2, .int (iv (i + 1))), (1, .int (iv i)), (0, .ref b)]) hx hb dX0_mostWornDigit_29 hl (k := 2) rfl (by decide) rfl (fun ls hl => ?_)
          refine lv_goto (tgt := 4) hx hb dX0_mostWornDigit_32 (by decide) ?_
          exact ih1 (i + 1) i (by omega) (by rw [bmost_step hi.1]; have e2 : a.toNat = bmost f (i - 1).toNat := (by omega); rw [← e2]; split <;> omega) (by omega) H locs ls hH hS (lv_sub hl [2, 1, 0] rfl)
  exact lp4 (11) 1 0 (by omega) rfl (by omega) H locs ls hH hS (lv_sub hl [2, 1, 0] rfl)

abbrev rm_c_X0_init : Room := { frames := 1, cells := 1, slots := 10, locals := 20 }
set_option maxHeartbeats 4000000 in
set_option maxRecDepth 100000 in
theorem c_X0_init (l : Launch) (G : wG) (μ : hM) (n : Nat) (b : Nat) (k : Int) (hB : μ b = some (.inr (0, [.int (iv 0), .int (iv 0), .int (iv 0), .null]))) : Met l yX0_init wsX0_init rm_c_X0_init (mPc G μ n [.ref b, .int (iv k)]) (mQv G (fun μ1 n1 => μ1 b = some (.inr (0, [.int (iv k), .int (iv 0), .int (iv 0), .ref n])) ∧ μ1 n = some (.inl (G.2.1 0, 10, .inl (fun _ => iv 0))) ∧ n1 = n + 1 ∧ ∀ q, q ≠ b → q ≠ n → μ1 q = μ q)) 1 10 (gA G) := by
  refine Met.ofW (cc := cX0_init) (maxL := 2) (ret := none) (by decide) rfl ?_
  intro p e s m args below meth c s₁ B hml hv
  obtain ⟨hav, hK, hH⟩ := hv
  have hx := B.exec
  have hb := B.bytes
  have hr := B.returns
  have hts := atoms_spec (ws := wsX0_init) B.pre
  have hown : s.vm.findClass RX0 = some m.cls := findClass_of_methodNamed B.named
  have hlocks := B.notSynchronized
  have hin : meth.name = "<init>" := (name_of_methodNamed B.named B.method).1
  have hS : va_S (gA G) s.heap s.heap [] := va_S.rf
  have hl := lv_entry ([.ref b, .int (iv k)]) (n := 2) (Nat.le_of_ble_eq_true rfl)
  have hfr : entryFrame m args 2 = entryFrame m ([.ref b, .int (iv k)] : List Value).toArray 2 := by rw [hav]
  rw [hfr, lg_entry_eq]
  generalize (lg_sl ([.ref b, .int (iv k)]) ++ List.replicate (2 - (lg_sl ([.ref b, .int (iv k)])).length) Slot.unset).toArray = ls at hl ⊢
  have hl : lv_has ls 2 [(0, .ref b), (1, .int (iv k))] := hl
  generalize hQ : MQ below _ args s 1 10 (gA G) = Q
  show W p l e rm_c_X0_init s m args below meth c s.heap [] 0 0 Q (F0 m 0 ls [])
  obtain ⟨H, hHe⟩ : ∃ H, H = s.heap := ⟨_, rfl⟩
  obtain ⟨locs, hlo⟩ : ∃ q : List Loc, q = [] := ⟨_, rfl⟩
  have hH : gP G μ n H := by rw [hHe]; exact hH
  have hS : va_S (gA G) s.heap H locs := by rw [hHe, hlo]; exact hS
  suffices hgo : W p l e rm_c_X0_init s m args below meth c H locs 0 0 Q (F0 m 0 ls []) by rw [hHe, hlo] at hgo; exact hgo
  clear hHe hlo hfr hav
  have f_0 := hts (.methodLink RX0 3 objectInit) (List.mem_of_getElem? (i := 1) rfl)
  have f_1 := hts (.instanceMethod objectInit) (List.mem_of_getElem? (i := 2) rfl)
  have f_2 := hts (.code objectInit ⟨#[0xb1]⟩ 1 none) (List.mem_of_getElem? (i := 3) rfl)
  have f_3 := hts (.fieldLink RX0 9 "StampDater$Band" "number" "I") (List.mem_of_getElem? (i := 4) rfl)
  have i_X0 : ∀ w ∈ u_ws RX0 TX0 4, w ∈ wsX0_init := by decide +kernel
  have f_5 := hts (.arrayClass .int) (List.mem_of_getElem? (i := 5) rfl)
  have f_6 := hts (.fieldLink RX0 15 "StampDater$Band" "wears" "[I") (List.mem_of_getElem? (i := 6) rfl)
  refine lv_aload_n hx hb dX0_init_0 rfl (lv_at hl 0 rfl) ?_
  refine W.objInit hx hb hown f_0 f_1 f_2 rfl (hl.1.trans hml.symm) rfl dX0_init_1 (Nat.le_of_ble_eq_true rfl) (Nat.le_of_ble_eq_true rfl) ?_
  refine lv_aload_n hx hb dX0_init_4 rfl (lv_at hl 0 rfl) ?_
  refine lv_iload_n hx hb dX0_init_5 rfl (lv_at hl 1 rfl) ?_
  refine m_put (C := RX0) (T := TX0) (N := 4) (ci := 0) hx hb hts i_X0 tyX0 tyX0_ok nmX0 hown hK hH hS hB rfl 0 (by decide) f_3 rfl rfl rfl (Nat.le_of_ble_eq_true rfl) dX0_init_6 (fun H locs hH hS => ?_)
  have hB : (hu μ b (.inr (0, [.int (iv k), .int (iv 0), .int (iv 0), .null]))) b = some (.inr (0, [.int (iv k), .int (iv 0), .int (iv 0), .null])) := hu_s
  have hH : gP G (hu μ b (.inr (0, [.int (iv k), .int (iv 0), .int (iv 0), .null]))) n H := hH
  refine lv_aload_n hx hb dX0_init_9 rfl (lv_at hl 0 rfl) ?_
  refine j_bipush hx hb dX0_init_10 ?_ (by decide)
  refine m_newI hx hb f_5 hK hH hS 10 rfl (by decide) dX0_init_12 (Nat.le_of_ble_eq_true rfl) (Nat.le_of_ble_eq_true rfl) (fun H hH hS hnn => ?_)
  have ne_hB : b ≠ n := fun q => by rw [← q] at hnn; rw [hnn] at hB; cases hB
  have hB := hu_n' (a := n) (e := (.inl (G.2.1 0, 10, .inl (fun _ => iv 0)))) ne_hB hB
  have hN1 : (hu (hu μ b (.inr (0, [.int (iv k), .int (iv 0), .int (iv 0), .null]))) n (.inl (G.2.1 0, 10, .inl (fun _ => iv 0)))) n = some (.inl (G.2.1 0, 10, .inl (fun _ => iv 0))) := hu_s
  refine m_putF (C := RX0) (T := TX0) (N := 4) (ci := 0) hx hb hts i_X0 tyX0 tyX0_ok nmX0 hown hK hH hS hB rfl 3 (by decide) f_6 rfl hin rfl rfl rfl (Nat.le_of_ble_eq_true rfl) dX0_init_14 (fun H locs hH hS => ?_)
  have hN1 := hu_n' (a := b) (e := (.inr (0, [.int (iv k), .int (iv 0), .int (iv 0), .ref n]))) (by omega) hN1
  have hB : (hu (hu (hu μ b (.inr (0, [.int (iv k), .int (iv 0), .int (iv 0), .null]))) n (.inl (G.2.1 0, 10, .inl (fun _ => iv 0)))) b (.inr (0, [.int (iv k), .int (iv 0), .int (iv 0), .ref n]))) b = some (.inr (0, [.int (iv k), .int (iv 0), .int (iv 0), .ref n])) := hu_s
  have hH : gP G (hu (hu (hu μ b (.inr (0, [.int (iv k), .int (iv 0), .int (iv 0), .null]))) n (.inl (G.2.1 0, 10, .inl (fun _ => iv 0)))) b (.inr (0, [.int (iv k), .int (iv 0), .int (iv 0), .ref n]))) (n + 1) H := hH
  subst hQ
  refine m_vret hx hb hr hlocks hH hS dX0_init_17 ?_
  exact ⟨hB, (by rw [hu_n (Ne.symm ne_hB)]; exact hu_s), rfl, fun q q1 q2 => by rw [hu_n q1, hu_n q2, hu_n q1]⟩
