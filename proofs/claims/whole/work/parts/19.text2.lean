abbrev rm_c_X7_begin : Room := { frames := 0, cells := 0, slots := 0, locals := 0 }
set_option maxHeartbeats 4000000 in
set_option maxRecDepth 100000 in
theorem c_X7_begin (l : Launch) (G : wG) (μ : hM) (n : Nat) (tx : Nat) (cs : Nat → Int) (L o d ki nu ti a : Int) (hX : IsText G μ tx cs L o d ki nu ti a) : Met l yX7_begin wsX7_begin rm_c_X7_begin (mPc G μ n [.ref tx]) (mQv G (fun μ1 n1 => IsText G μ1 tx cs L o d ki nu ti 0 ∧ (∀ q, (q < tx ∨ tx + 2 ≤ q) → μ1 q = μ q))) 0 0 (gA G) := by
  refine Met.ofW (cc := cX7_begin) (maxL := 1) (ret := none) (by decide) rfl ?_
  intro p e s m args below meth c s₁ B hml hv
  obtain ⟨hav, hK, hH⟩ := hv
  have hx := B.exec
  have hb := B.bytes
  have hr := B.returns
  have hts := atoms_spec (ws := wsX7_begin) B.pre
  have hown : s.vm.findClass RX7 = some m.cls := findClass_of_methodNamed B.named
  have hlocks := B.notSynchronized
  have hS : va_S (gA G) s.heap s.heap [] := va_S.rf
  have hl := lv_entry ([.ref tx]) (n := 1) (Nat.le_of_ble_eq_true rfl)
  have hfr : entryFrame m args 1 = entryFrame m ([.ref tx] : List Value).toArray 1 := by rw [hav]
  rw [hfr, lg_entry_eq]
  generalize (lg_sl ([.ref tx]) ++ List.replicate (1 - (lg_sl ([.ref tx])).length) Slot.unset).toArray = ls at hl ⊢
  have hl : lv_has ls 1 [(0, .ref tx)] := hl
  generalize hQ : MQ below _ args s 0 0 (gA G) = Q
  show W p l e rm_c_X7_begin s m args below meth c s.heap [] 0 0 Q (F0 m 0 ls [])
  obtain ⟨H, hHe⟩ : ∃ H, H = s.heap := ⟨_, rfl⟩
  obtain ⟨locs, hlo⟩ : ∃ q : List Loc, q = [] := ⟨_, rfl⟩
  have hH : gP G μ n H := by rw [hHe]; exact hH
  have hS : va_S (gA G) s.heap H locs := by rw [hHe, hlo]; exact hS
  suffices hgo : W p l e rm_c_X7_begin s m args below meth c H locs 0 0 Q (F0 m 0 ls []) by rw [hHe, hlo] at hgo; exact hgo
  clear hHe hlo hfr hav
  have f_0 := hts (.fieldLink RX7 19 "StampDater$Text" "at" "I") (List.mem_of_getElem? (i := 1) rfl)
  have i_X7 : ∀ w ∈ u_ws RX7 TX7 8, w ∈ wsX7_begin := by decide +kernel
  have hfr : ∀ q, (q < tx ∨ tx + 2 ≤ q) → μ q = μ q := fun q _ => rfl
  refine lv_aload_n hx hb dX7_begin_0 rfl (lv_at hl 0 rfl) ?_
  refine j_const hx hb dX7_begin_1 ?_
  refine m_put (C := RX7) (T := TX7) (N := 8) (ci := 6) hx hb hts i_X7 tyX7 tyX7_ok nmX7 hown hK hH hS hX.1 rfl 7 (by decide) f_0 rfl rfl rfl (Nat.le_of_ble_eq_true rfl) dX7_begin_2 (fun H locs hH hS => ?_)
  have hX := hX.tx L o d ki nu ti 0
  have hfr : ∀ q, (q < tx ∨ tx + 2 ≤ q) → (hu μ tx (.inr (6, [.ref (tx + 1), .int (iv L), .int (iv o), .int (iv d), .int (iv ki), .int (iv nu), .int (iv ti), .int (iv 0)]))) q = μ q := fun q hq => (hu_n (by omega)).trans (hfr q hq)
  have hH : gP G (hu μ tx (.inr (6, [.ref (tx + 1), .int (iv L), .int (iv o), .int (iv d), .int (iv ki), .int (iv nu), .int (iv ti), .int (iv 0)]))) n H := hH
  subst hQ
  refine m_vret hx hb hr hlocks hH hS dX7_begin_5 ?_
  exact ⟨hX, hfr⟩

abbrev rm_c_X7_next : Room := { frames := 0, cells := 0, slots := 0, locals := 0 }
set_option maxHeartbeats 4000000 in
set_option maxRecDepth 100000 in
theorem c_X7_next (l : Launch) (G : wG) (μ : hM) (n : Nat) (tx : Nat) (cs : Nat → Int) (L o d ki nu ti a : Int) (hX : IsText G μ tx cs L o d ki nu ti a) (hOC : OkC cs L) (ha : 0 ≤ a ∧ a ≤ L) : Met l yX7_next wsX7_next rm_c_X7_next (mPc G μ n [.ref tx]) (mQi G (fun z μ1 n1 => z = nxt cs L a ∧ μ1 = μ ∧ n1 = n)) 0 0 (gA G) := by
  refine Met.ofW (cc := cX7_next) (maxL := 1) (ret := (some .int)) (by decide) rfl ?_
  intro p e s m args below meth c s₁ B hml hv
  obtain ⟨hav, hK, hH⟩ := hv
  have hx := B.exec
  have hb := B.bytes
  have hr := B.returns
  have hts := atoms_spec (ws := wsX7_next) B.pre
  have hown : s.vm.findClass RX7 = some m.cls := findClass_of_methodNamed B.named
  have hlocks := B.notSynchronized
  have hS : va_S (gA G) s.heap s.heap [] := va_S.rf
  have hl := lv_entry ([.ref tx]) (n := 1) (Nat.le_of_ble_eq_true rfl)
  have hfr : entryFrame m args 1 = entryFrame m ([.ref tx] : List Value).toArray 1 := by rw [hav]
  rw [hfr, lg_entry_eq]
  generalize (lg_sl ([.ref tx]) ++ List.replicate (1 - (lg_sl ([.ref tx])).length) Slot.unset).toArray = ls at hl ⊢
  have hl : lv_has ls 1 [(0, .ref tx)] := hl
  generalize hQ : MQ below _ args s 0 0 (gA G) = Q
  show W p l e rm_c_X7_next s m args below meth c s.heap [] 0 0 Q (F0 m 0 ls [])
  obtain ⟨H, hHe⟩ : ∃ H, H = s.heap := ⟨_, rfl⟩
  obtain ⟨locs, hlo⟩ : ∃ q : List Loc, q = [] := ⟨_, rfl⟩
  have hH : gP G μ n H := by rw [hHe]; exact hH
  have hS : va_S (gA G) s.heap H locs := by rw [hHe, hlo]; exact hS
  suffices hgo : W p l e rm_c_X7_next s m args below meth c H locs 0 0 Q (F0 m 0 ls []) by rw [hHe, hlo] at hgo; exact hgo
  clear hHe hlo hfr hav
  have f_0 := hts (.fieldLink RX7 19 "StampDater$Text" "at" "I") (List.mem_of_getElem? (i := 1) rfl)
  have i_X7 : ∀ w ∈ u_ws RX7 TX7 8, w ∈ wsX7_next := by decide +kernel
  have f_2 := hts (.fieldLink RX7 15 "StampDater$Text" "length" "I") (List.mem_of_getElem? (i := 2) rfl)
  have f_3 := hts (.fieldLink RX7 9 "StampDater$Text" "characters" "[C") (List.mem_of_getElem? (i := 3) rfl)
  have hL60 := hOC.1
  have hfr : ∀ q, (q < tx ∨ tx + 2 ≤ q) → μ q = μ q := fun q _ => rfl
  refine lv_aload_n hx hb dX7_next_0 rfl (lv_at hl 0 rfl) ?_
  refine m_get (C := RX7) (T := TX7) (N := 8) (ci := 6) hx hb hts i_X7 hown hK hH hX.1 rfl 7 (by decide) f_0 rfl dX7_next_1 ?_
  refine j_if_lt (tgt := 39) hx hb dX7_next_4 (by decide) (fun c1 => ?_) (fun c1 => ?_) (by omega)
  · skip
    refine j_const hx hb dX7_next_39 ?_
    have hcr := hOC.2 (a).toNat
    subst hQ
    refine m_iret hx hb hr hlocks hH hS dX7_next_40 ?_ (by omega)
    refine ⟨?_, rfl, rfl⟩
    unfold nxt
    rw [if_neg (by omega)]
  · skip
    refine lv_aload_n hx hb dX7_next_7 rfl (lv_at hl 0 rfl) ?_
    refine m_get (C := RX7) (T := TX7) (N := 8) (ci := 6) hx hb hts i_X7 hown hK hH hX.1 rfl 7 (by decide) f_0 rfl dX7_next_8 ?_
    refine lv_aload_n hx hb dX7_next_11 rfl (lv_at hl 0 rfl) ?_
    refine m_get (C := RX7) (T := TX7) (N := 8) (ci := 6) hx hb hts i_X7 hown hK hH hX.1 rfl 1 (by decide) f_2 rfl dX7_next_12 ?_
    refine j_icmp_ge (tgt := 39) hx hb dX7_next_15 (by decide) (fun c2 => ?_) (fun c2 => ?_) (by omega) (by omega)
    · skip
      refine j_const hx hb dX7_next_39 ?_
      have hcr := hOC.2 (a).toNat
      subst hQ
      refine m_iret hx hb hr hlocks hH hS dX7_next_40 ?_ (by omega)
      refine ⟨?_, rfl, rfl⟩
      unfold nxt
      rw [if_neg (by omega)]
    · skip
      refine lv_aload_n hx hb dX7_next_18 rfl (lv_at hl 0 rfl) ?_
      refine m_get (C := RX7) (T := TX7) (N := 8) (ci := 6) hx hb hts i_X7 hown hK hH hX.1 rfl 7 (by decide) f_0 rfl dX7_next_19 ?_
      refine j_bipush hx hb dX7_next_22 ?_ (by decide)
      refine j_icmp_ge (tgt := 39) hx hb dX7_next_24 (by decide) (fun c3 => ?_) (fun c3 => ?_) (by omega) (by omega)
      · skip
        refine j_const hx hb dX7_next_39 ?_
        have hcr := hOC.2 (a).toNat
        subst hQ
        refine m_iret hx hb hr hlocks hH hS dX7_next_40 ?_ (by omega)
        refine ⟨?_, rfl, rfl⟩
        unfold nxt
        rw [if_neg (by omega)]
      · skip
        refine lv_aload_n hx hb dX7_next_27 rfl (lv_at hl 0 rfl) ?_
        refine m_get (C := RX7) (T := TX7) (N := 8) (ci := 6) hx hb hts i_X7 hown hK hH hX.1 rfl 0 (by decide) f_3 rfl dX7_next_28 ?_
        refine lv_aload_n hx hb dX7_next_31 rfl (lv_at hl 0 rfl) ?_
        refine m_get (C := RX7) (T := TX7) (N := 8) (ci := 6) hx hb hts i_X7 hown hK hH hX.1 rfl 7 (by decide) f_0 rfl dX7_next_32 ?_
        refine m_cald (nA := 60) (f := cs) hx hb hK hH hX.2 dX7_next_35 ?_ (by omega) (by omega)
        refine lv_goto (tgt := 40) hx hb dX7_next_36 (by decide) ?_
        have hcr := hOC.2 (a).toNat
        subst hQ
        refine m_iret hx hb hr hlocks hH hS dX7_next_40 ?_ (by omega)
        refine ⟨?_, rfl, rfl⟩
        unfold nxt
        rw [if_pos (by omega)]

abbrev rm_c_X7_nextDigit : Room := { frames := 1, cells := 0, slots := 0, locals := 20 }
set_option maxHeartbeats 4000000 in
set_option maxRecDepth 100000 in
theorem c_X7_nextDigit (l : Launch) (G : wG) (μ : hM) (n : Nat) (tx : Nat) (cs : Nat → Int) (L o d ki nu ti a : Int) (hX : IsText G μ tx cs L o d ki nu ti a) (hOC : OkC cs L) (ha : 0 ≤ a ∧ a ≤ L) : Met l yX7_nextDigit wsX7_nextDigit rm_c_X7_nextDigit (mPc G μ n [.ref tx]) (mQi G (fun z μ1 n1 => z = dgt cs L a ∧ μ1 = μ ∧ n1 = n)) 0 0 (gA G) := by
  refine Met.ofW (cc := cX7_nextDigit) (maxL := 2) (ret := (some .int)) (by decide) rfl ?_
  intro p e s m args below meth c s₁ B hml hv
  obtain ⟨hav, hK, hH⟩ := hv
  have hx := B.exec
  have hb := B.bytes
  have hr := B.returns
  have hts := atoms_spec (ws := wsX7_nextDigit) B.pre
  have hown : s.vm.findClass RX7 = some m.cls := findClass_of_methodNamed B.named
  have hlocks := B.notSynchronized
  have hS : va_S (gA G) s.heap s.heap [] := va_S.rf
  have hl := lv_entry ([.ref tx]) (n := 2) (Nat.le_of_ble_eq_true rfl)
  have hfr : entryFrame m args 2 = entryFrame m ([.ref tx] : List Value).toArray 2 := by rw [hav]
  rw [hfr, lg_entry_eq]
  generalize (lg_sl ([.ref tx]) ++ List.replicate (2 - (lg_sl ([.ref tx])).length) Slot.unset).toArray = ls at hl ⊢
  have hl : lv_has ls 2 [(0, .ref tx)] := hl
  generalize hQ : MQ below _ args s 0 0 (gA G) = Q
  show W p l e rm_c_X7_nextDigit s m args below meth c s.heap [] 0 0 Q (F0 m 0 ls [])
  obtain ⟨H, hHe⟩ : ∃ H, H = s.heap := ⟨_, rfl⟩
  obtain ⟨locs, hlo⟩ : ∃ q : List Loc, q = [] := ⟨_, rfl⟩
  have hH : gP G μ n H := by rw [hHe]; exact hH
  have hS : va_S (gA G) s.heap H locs := by rw [hHe, hlo]; exact hS
  suffices hgo : W p l e rm_c_X7_nextDigit s m args below meth c H locs 0 0 Q (F0 m 0 ls []) by rw [hHe, hlo] at hgo; exact hgo
  clear hHe hlo hfr hav
  have hL60 := hOC.1
  have hfr : ∀ q, (q < tx ∨ tx + 2 ≤ q) → μ q = μ q := fun q _ => rfl
  refine lv_aload_n hx hb dX7_nextDigit_0 rfl (lv_at hl 0 rfl) ?_
  refine m_callVi (As := []) (rest := []) ⟨hx, hb, hml, hown, hts⟩ hK hH hS (c_X7_next l G μ n tx cs L o d ki nu ti a hX hOC (by omega)) (cwV 0 hts gX7_nextDigit_X7_next rfl rfl rfl (by decide +kernel) ⟨(Nat.le_of_ble_eq_true rfl), (Nat.le_of_ble_eq_true rfl)⟩) hX.1 rfl rfl rfl rfl hl.1 (Nat.le_of_ble_eq_true rfl) dX7_nextDigit_1 ⟨Nat.zero_le _, Nat.zero_le _⟩ (fun z4 μ1 n2 H locs hz4 hp3 hH hS => ?_)
  obtain ⟨hz2, hm2, hn2⟩ := hp3; rw [hz2]; rw [hm2, hn2] at hH; clear hz2 hm2 hn2
  have hnr := nxt_rng hOC a
  refine lv_istore_n (lv' := [(1, .int (iv (nxt cs L a))), (0, .ref tx)]) hx hb dX7_nextDigit_4 rfl hl (by decide) rfl (fun ls hl => ?_)
  refine lv_iload_n hx hb dX7_nextDigit_5 rfl (lv_at hl 0 rfl) ?_
  refine j_bipush hx hb dX7_nextDigit_6 ?_ (by decide)
  refine j_icmp_lt (tgt := 24) hx hb dX7_nextDigit_8 (by decide) (fun c5 => ?_) (fun c5 => ?_) (by omega) (by omega)
  · skip
    refine j_const hx hb dX7_nextDigit_24 ?_
    subst hQ
    refine m_iret hx hb hr hlocks hH hS dX7_nextDigit_25 ?_ (by omega)
    refine ⟨?_, rfl, rfl⟩
    unfold dgt
    rw [if_neg (by omega)]
  · skip
    refine lv_iload_n hx hb dX7_nextDigit_11 rfl (lv_at hl 0 rfl) ?_
    refine j_bipush hx hb dX7_nextDigit_12 ?_ (by decide)
    refine j_icmp_gt (tgt := 24) hx hb dX7_nextDigit_14 (by decide) (fun c6 => ?_) (fun c6 => ?_) (by omega) (by omega)
    · skip
      refine j_const hx hb dX7_nextDigit_24 ?_
      subst hQ
      refine m_iret hx hb hr hlocks hH hS dX7_nextDigit_25 ?_ (by omega)
      refine ⟨?_, rfl, rfl⟩
      unfold dgt
      rw [if_neg (by omega)]
    · skip
      refine lv_iload_n hx hb dX7_nextDigit_17 rfl (lv_at hl 0 rfl) ?_
      refine j_bipush hx hb dX7_nextDigit_18 ?_ (by decide)
      refine j_isub hx hb dX7_nextDigit_20 ?_
      refine lv_goto (tgt := 25) hx hb dX7_nextDigit_21 (by decide) ?_
      subst hQ
      refine m_iret hx hb hr hlocks hH hS dX7_nextDigit_25 ?_ (by omega)
      refine ⟨?_, rfl, rfl⟩
      unfold dgt
      rw [if_pos (by omega)]

abbrev rm_c_X7_readSign : Room := { frames := 1, cells := 0, slots := 0, locals := 20 }
set_option maxHeartbeats 4000000 in
set_option maxRecDepth 100000 in
theorem c_X7_readSign (l : Launch) (G : wG) (μ : hM) (n : Nat) (tx : Nat) (cs : Nat → Int) (L o d ki nu ti a : Int) (sg : Int) (hX : IsText G μ tx cs L o d ki nu ti a) (hOC : OkC cs L) (ha : 0 ≤ a ∧ a ≤ L) (hsg : 0 ≤ sg ∧ sg ≤ 65535) : Met l yX7_readSign wsX7_readSign rm_c_X7_readSign (mPc G μ n [.ref tx, .int (iv sg)]) (mQi G (fun z μ1 n1 => z = (if nxt cs L a = sg then 1 else 0) ∧ IsText G μ1 tx cs L o d ki nu ti (if nxt cs L a = sg then a + 1 else a) ∧ (∀ q, (q < tx ∨ tx + 2 ≤ q) → μ1 q = μ q))) 0 0 (gA G) := by
  refine Met.ofW (cc := cX7_readSign) (maxL := 2) (ret := (some .boolean)) (by decide) rfl ?_
  intro p e s m args below meth c s₁ B hml hv
  obtain ⟨hav, hK, hH⟩ := hv
  have hx := B.exec
  have hb := B.bytes
  have hr := B.returns
  have hts := atoms_spec (ws := wsX7_readSign) B.pre
  have hown : s.vm.findClass RX7 = some m.cls := findClass_of_methodNamed B.named
  have hlocks := B.notSynchronized
  have hS : va_S (gA G) s.heap s.heap [] := va_S.rf
  have hl := lv_entry ([.ref tx, .int (iv sg)]) (n := 2) (Nat.le_of_ble_eq_true rfl)
  have hfr : entryFrame m args 2 = entryFrame m ([.ref tx, .int (iv sg)] : List Value).toArray 2 := by rw [hav]
  rw [hfr, lg_entry_eq]
  generalize (lg_sl ([.ref tx, .int (iv sg)]) ++ List.replicate (2 - (lg_sl ([.ref tx, .int (iv sg)])).length) Slot.unset).toArray = ls at hl ⊢
  have hl : lv_has ls 2 [(0, .ref tx), (1, .int (iv sg))] := hl
  generalize hQ : MQ below _ args s 0 0 (gA G) = Q
  show W p l e rm_c_X7_readSign s m args below meth c s.heap [] 0 0 Q (F0 m 0 ls [])
  obtain ⟨H, hHe⟩ : ∃ H, H = s.heap := ⟨_, rfl⟩
  obtain ⟨locs, hlo⟩ : ∃ q : List Loc, q = [] := ⟨_, rfl⟩
  have hH : gP G μ n H := by rw [hHe]; exact hH
  have hS : va_S (gA G) s.heap H locs := by rw [hHe, hlo]; exact hS
  suffices hgo : W p l e rm_c_X7_readSign s m args below meth c H locs 0 0 Q (F0 m 0 ls []) by rw [hHe, hlo] at hgo; exact hgo
  clear hHe hlo hfr hav
  have f_0 := hts (.fieldLink RX7 19 "StampDater$Text" "at" "I") (List.mem_of_getElem? (i := 1) rfl)
  have i_X7 : ∀ w ∈ u_ws RX7 TX7 8, w ∈ wsX7_readSign := by decide +kernel
  have hL60 := hOC.1
  have hfr : ∀ q, (q < tx ∨ tx + 2 ≤ q) → μ q = μ q := fun q _ => rfl
  refine lv_aload_n hx hb dX7_readSign_0 rfl (lv_at hl 0 rfl) ?_
  refine m_callVi (As := []) (rest := []) ⟨hx, hb, hml, hown, hts⟩ hK hH hS (c_X7_next l G μ n tx cs L o d ki nu ti a hX hOC (by omega)) (cwV 0 hts gX7_readSign_X7_next rfl rfl rfl (by decide +kernel) ⟨(Nat.le_of_ble_eq_true rfl), (Nat.le_of_ble_eq_true rfl)⟩) hX.1 rfl rfl rfl rfl hl.1 (Nat.le_of_ble_eq_true rfl) dX7_readSign_1 ⟨Nat.zero_le _, Nat.zero_le _⟩ (fun z4 μ1 n2 H locs hz4 hp3 hH hS => ?_)
  obtain ⟨hz2, hm2, hn2⟩ := hp3; rw [hz2]; rw [hm2, hn2] at hH; clear hz2 hm2 hn2
  have hnr := nxt_rng hOC a
  refine lv_iload_n hx hb dX7_readSign_4 rfl (lv_at hl 1 rfl) ?_
  refine j_icmp_eq (tgt := 10) hx hb dX7_readSign_5 (by decide) (fun c5 => ?_) (fun c5 => ?_) (by omega) (by omega)
  · skip
    refine lv_aload_n hx hb dX7_readSign_10 rfl (lv_at hl 0 rfl) ?_
    refine lv_dup hx hb dX7_readSign_11 rfl ?_
    refine m_get (C := RX7) (T := TX7) (N := 8) (ci := 6) hx hb hts i_X7 hown hK hH hX.1 rfl 7 (by decide) f_0 rfl dX7_readSign_12 ?_
    refine j_const hx hb dX7_readSign_15 ?_
    refine j_iadd hx hb dX7_readSign_16 ?_
    refine m_put (C := RX7) (T := TX7) (N := 8) (ci := 6) hx hb hts i_X7 tyX7 tyX7_ok nmX7 hown hK hH hS hX.1 rfl 7 (by decide) f_0 rfl rfl rfl (Nat.le_of_ble_eq_true rfl) dX7_readSign_17 (fun H locs hH hS => ?_)
    have hX := hX.tx L o d ki nu ti (a + 1)
    have hfr : ∀ q, (q < tx ∨ tx + 2 ≤ q) → (hu μ tx (.inr (6, [.ref (tx + 1), .int (iv L), .int (iv o), .int (iv d), .int (iv ki), .int (iv nu), .int (iv ti), .int (iv (a + 1))]))) q = μ q := fun q hq => (hu_n (by omega)).trans (hfr q hq)
    have hH : gP G (hu μ tx (.inr (6, [.ref (tx + 1), .int (iv L), .int (iv o), .int (iv d), .int (iv ki), .int (iv nu), .int (iv ti), .int (iv (a + 1))]))) n H := hH
    refine j_const hx hb dX7_readSign_20 ?_
    subst hQ
    refine m_zret hx hb hr hlocks hH hS dX7_readSign_21 ?_ (by omega)
    rw [if_pos (by omega), if_pos (by omega)]
    exact ⟨rfl, hX, hfr⟩
  · skip
    refine j_const hx hb dX7_readSign_8 ?_
    subst hQ
    refine m_zret hx hb hr hlocks hH hS dX7_readSign_9 ?_ (by omega)
    rw [if_neg (by omega), if_neg (by omega)]
    exact ⟨rfl, hX, hfr⟩

abbrev rm_c_X7_readMore : Room := { frames := 2, cells := 0, slots := 0, locals := 41 }
set_option maxHeartbeats 4000000 in
set_option maxRecDepth 100000 in
theorem c_X7_readMore (l : Launch) (G : wG) (μ : hM) (n : Nat) (tx : Nat) (cs : Nat → Int) (L o d ki nu ti a : Int) (hX : IsText G μ tx cs L o d ki nu ti a) (hOC : OkC cs L) (ha : 0 ≤ a ∧ a ≤ L) : Met l yX7_readMore wsX7_readMore rm_c_X7_readMore (mPc G μ n [.ref tx]) (mQi G (fun z μ1 n1 => z = (if nxt cs L a = 59 then 1 else 0) ∧ IsText G μ1 tx cs L o d ki nu ti (if nxt cs L a = 59 then a + 1 else a) ∧ (∀ q, (q < tx ∨ tx + 2 ≤ q) → μ1 q = μ q))) 0 0 (gA G) := by
  refine Met.ofW (cc := cX7_readMore) (maxL := 1) (ret := (some .boolean)) (by decide) rfl ?_
  intro p e s m args below meth c s₁ B hml hv
  obtain ⟨hav, hK, hH⟩ := hv
  have hx := B.exec
  have hb := B.bytes
  have hr := B.returns
  have hts := atoms_spec (ws := wsX7_readMore) B.pre
  have hown : s.vm.findClass RX7 = some m.cls := findClass_of_methodNamed B.named
  have hlocks := B.notSynchronized
  have hS : va_S (gA G) s.heap s.heap [] := va_S.rf
  have hl := lv_entry ([.ref tx]) (n := 1) (Nat.le_of_ble_eq_true rfl)
  have hfr : entryFrame m args 1 = entryFrame m ([.ref tx] : List Value).toArray 1 := by rw [hav]
  rw [hfr, lg_entry_eq]
  generalize (lg_sl ([.ref tx]) ++ List.replicate (1 - (lg_sl ([.ref tx])).length) Slot.unset).toArray = ls at hl ⊢
  have hl : lv_has ls 1 [(0, .ref tx)] := hl
  generalize hQ : MQ below _ args s 0 0 (gA G) = Q
  show W p l e rm_c_X7_readMore s m args below meth c s.heap [] 0 0 Q (F0 m 0 ls [])
  obtain ⟨H, hHe⟩ : ∃ H, H = s.heap := ⟨_, rfl⟩
  obtain ⟨locs, hlo⟩ : ∃ q : List Loc, q = [] := ⟨_, rfl⟩
  have hH : gP G μ n H := by rw [hHe]; exact hH
  have hS : va_S (gA G) s.heap H locs := by rw [hHe, hlo]; exact hS
  suffices hgo : W p l e rm_c_X7_readMore s m args below meth c H locs 0 0 Q (F0 m 0 ls []) by rw [hHe, hlo] at hgo; exact hgo
  clear hHe hlo hfr hav
  have hL60 := hOC.1
  have hfr : ∀ q, (q < tx ∨ tx + 2 ≤ q) → μ q = μ q := fun q _ => rfl
  refine lv_aload_n hx hb dX7_readMore_0 rfl (lv_at hl 0 rfl) ?_
  refine j_bipush hx hb dX7_readMore_1 ?_ (by decide)
  refine m_callVi (As := [.int (iv 59)]) (rest := []) ⟨hx, hb, hml, hown, hts⟩ hK hH hS (c_X7_readSign l G μ n tx cs L o d ki nu ti a 59 hX hOC (by omega) (by omega)) (cwV 1 hts gX7_readMore_X7_readSign rfl rfl rfl (by decide +kernel) ⟨(Nat.le_of_ble_eq_true rfl), (Nat.le_of_ble_eq_true rfl)⟩) hX.1 rfl rfl rfl rfl hl.1 (Nat.le_of_ble_eq_true rfl) dX7_readMore_3 ⟨Nat.zero_le _, Nat.zero_le _⟩ (fun z4 μ1 n2 H locs hz4 hp3 hH hS => ?_)
  obtain ⟨hz3, hX, hfr1⟩ := hp3
  have hfr : ∀ q, (q < tx ∨ tx + 2 ≤ q) → μ1 q = μ q := fun q hq => (hfr1 q hq).trans (hfr q hq)
  have hzz : 0 ≤ z4 ∧ z4 ≤ 1 := by rw [hz3]; split <;> omega
  subst hQ
  refine m_zret hx hb hr hlocks hH hS dX7_readMore_6 ?_ (by omega)
  exact ⟨hz3, hX, hfr⟩

abbrev rm_c_X7_readNumber : Room := { frames := 2, cells := 0, slots := 0, locals := 41 }
set_option maxHeartbeats 4000000 in
set_option maxRecDepth 100000 in
theorem c_X7_readNumber (l : Launch) (G : wG) (μ : hM) (n : Nat) (tx : Nat) (cs : Nat → Int) (L o d ki nu ti a : Int) (mx : Int) (hX : IsText G μ tx cs L o d ki nu ti a) (hOC : OkC cs L) (ha : 0 ≤ a ∧ a ≤ L) (hmx : 1 ≤ mx ∧ mx ≤ 1000) : Met l yX7_readNumber wsX7_readNumber rm_c_X7_readNumber (mPc G μ n [.ref tx, .int (iv mx)]) (mQi G (fun z μ1 n1 => z = (if 0 < (rnum cs L mx 60 0 a).1 then 1 else 0) ∧ IsText G μ1 tx cs L o d ki (rnum cs L mx 60 0 a).1 ti (rnum cs L mx 60 0 a).2 ∧ (∀ q, (q < tx ∨ tx + 2 ≤ q) → μ1 q = μ q))) 0 0 (gA G) := by
  refine Met.ofW (cc := cX7_readNumber) (maxL := 5) (ret := (some .boolean)) (by decide) rfl ?_
  intro p e s m args below meth c s₁ B hml hv
  obtain ⟨hav, hK, hH⟩ := hv
  have hx := B.exec
  have hb := B.bytes
  have hr := B.returns
  have hts := atoms_spec (ws := wsX7_readNumber) B.pre
  have hown : s.vm.findClass RX7 = some m.cls := findClass_of_methodNamed B.named
  have hlocks := B.notSynchronized
  have hS : va_S (gA G) s.heap s.heap [] := va_S.rf
  have hl := lv_entry ([.ref tx, .int (iv mx)]) (n := 5) (Nat.le_of_ble_eq_true rfl)
  have hfr : entryFrame m args 5 = entryFrame m ([.ref tx, .int (iv mx)] : List Value).toArray 5 := by rw [hav]
  rw [hfr, lg_entry_eq]
  generalize (lg_sl ([.ref tx, .int (iv mx)]) ++ List.replicate (5 - (lg_sl ([.ref tx, .int (iv mx)])).length) Slot.unset).toArray = ls at hl ⊢
  have hl : lv_has ls 5 [(0, .ref tx), (1, .int (iv mx))] := hl
  generalize hQ : MQ below _ args s 0 0 (gA G) = Q
  show W p l e rm_c_X7_readNumber s m args below meth c s.heap [] 0 0 Q (F0 m 0 ls [])
  obtain ⟨H, hHe⟩ : ∃ H, H = s.heap := ⟨_, rfl⟩
  obtain ⟨locs, hlo⟩ : ∃ q : List Loc, q = [] := ⟨_, rfl⟩
  have hH : gP G μ n H := by rw [hHe]; exact hH
  have hS : va_S (gA G) s.heap H locs := by rw [hHe, hlo]; exact hS
  suffices hgo : W p l e rm_c_X7_readNumber s m args below meth c H locs 0 0 Q (F0 m 0 ls []) by rw [hHe, hlo] at hgo; exact hgo
  clear hHe hlo hfr hav
  have f_0 := hts (.fieldLink RX7 38 "StampDater$Text" "number" "I") (List.mem_of_getElem? (i := 1) rfl)
  have i_X7 : ∀ w ∈ u_ws RX7 TX7 8, w ∈ wsX7_readNumber := by decide +kernel
  have f_2 := hts (.fieldLink RX7 19 "StampDater$Text" "at" "I") (List.mem_of_getElem? (i := 2) rfl)
  have hL60 := hOC.1
  have hfr : ∀ q, (q < tx ∨ tx + 2 ≤ q) → μ q = μ q := fun q _ => rfl
  refine lv_aload_n hx hb dX7_readNumber_0 rfl (lv_at hl 0 rfl) ?_
  refine j_const hx hb dX7_readNumber_1 ?_
  refine m_put (C := RX7) (T := TX7) (N := 8) (ci := 6) hx hb hts i_X7 tyX7 tyX7_ok nmX7 hown hK hH hS hX.1 rfl 5 (by decide) f_0 rfl rfl rfl (Nat.le_of_ble_eq_true rfl) dX7_readNumber_2 (fun H locs hH hS => ?_)
  have hX := hX.tx L o d ki 0 ti a
  have hfr : ∀ q, (q < tx ∨ tx + 2 ≤ q) → (hu μ tx (.inr (6, [.ref (tx + 1), .int (iv L), .int (iv o), .int (iv d), .int (iv ki), .int (iv 0), .int (iv ti), .int (iv a)]))) q = μ q := fun q hq => (hu_n (by omega)).trans (hfr q hq)
  have hH : gP G (hu μ tx (.inr (6, [.ref (tx + 1), .int (iv L), .int (iv o), .int (iv d), .int (iv ki), .int (iv 0), .int (iv ti), .int (iv a)]))) n H := hH
  refine j_const hx hb dX7_readNumber_5 ?_
  refine lv_istore_n (lv' := [(2, .int (iv 0)), (0, .ref tx), (1, .int (iv mx))]) hx hb dX7_readNumber_6 rfl hl (by decide) rfl (fun ls hl => ?_)
  have lp7 : ∀ (fuel : Nat) (i : Int) (v : Int) (b : Int) (ν : hM) (ν0 : Nat) (hi : 0 ≤ i ∧ i ≤ 60) (hX : IsText G ν tx cs L o d ki v ti b) (hfr : ∀ q, (q < tx ∨ tx + 2 ≤ q) → ν q = μ q) (hv : 0 ≤ v ∧ v ≤ mx) (hb0 : 0 ≤ b ∧ b ≤ L) (he : rnum cs L mx 60 0 a = rnum cs L mx (60 - i).toNat v b) (_ : (60 - i).toNat < fuel) (H : Heap) (locs : List Loc) (ls : Array Slot) (_ : gP G ν ν0 H) (_ : va_S (gA G) s.heap H locs) (_ : lv_has ls 5 [(0, .ref tx), (1, .int (iv mx)), (2, .int (iv i))]), W p l e rm_c_X7_readNumber s m args below meth c H locs 0 0 Q (F0 m 7 ls []) := by
    intro fuel
    induction fuel with
    | zero => intro _ _ _ _ _ _ _ _ _ _ _ hfuel; exact absurd hfuel (Nat.not_lt_zero _)
    | succ fuel ih =>
      intro i v b ν ν0 hi hX hfr hv hb0 he hfuel H locs ls hH hS hl
      have ih1 := ih; clear ih
      refine lv_iload_n hx hb dX7_readNumber_7 rfl (lv_at hl 2 rfl) ?_
      refine j_bipush hx hb dX7_readNumber_8 ?_ (by decide)
      refine j_icmp_ge (tgt := 91) hx hb dX7_readNumber_10 (by decide) (fun c2 => ?_) (fun c2 => ?_) (by omega) (by omega)
      · skip
        have hfin : rnum cs L mx 60 0 a = (v, b) := by
          rw [he]
          by_cases h60 : i = 60
          · rw [h60]; rfl
          · exact rnum_n (by omega)
        refine lv_aload_n hx hb dX7_readNumber_91 rfl (lv_at hl 0 rfl) ?_
        refine m_get (C := RX7) (T := TX7) (N := 8) (ci := 6) hx hb hts i_X7 hown hK hH hX.1 rfl 5 (by decide) f_0 rfl dX7_readNumber_92 ?_
        refine j_if_le (tgt := 102) hx hb dX7_readNumber_95 (by decide) (fun c3 => ?_) (fun c3 => ?_) (by omega)
        · skip
          refine j_const hx hb dX7_readNumber_102 ?_
          subst hQ
          refine m_zret hx hb hr hlocks hH hS dX7_readNumber_103 ?_ (by omega)
          rw [hfin]
          dsimp only
          rw [if_neg (by omega)]
          exact ⟨rfl, hX, hfr⟩
        · skip
          refine j_const hx hb dX7_readNumber_98 ?_
          refine lv_goto (tgt := 103) hx hb dX7_readNumber_99 (by decide) ?_
          subst hQ
          refine m_zret hx hb hr hlocks hH hS dX7_readNumber_103 ?_ (by omega)
          rw [hfin]
          dsimp only
          rw [if_pos (by omega)]
          exact ⟨rfl, hX, hfr⟩
      · skip
        refine lv_aload_n hx hb dX7_readNumber_13 rfl (lv_at hl 0 rfl) ?_
        refine m_callVi (As := []) (rest := []) ⟨hx, hb, hml, hown, hts⟩ hK hH hS (c_X7_nextDigit l G ν ν0 tx cs L o d ki v ti b hX hOC (by omega)) (cwV 0 hts gX7_readNumber_X7_nextDigit rfl rfl rfl (by decide +kernel) ⟨(Nat.le_of_ble_eq_true rfl), (Nat.le_of_ble_eq_true rfl)⟩) hX.1 rfl rfl rfl rfl hl.1 (Nat.le_of_ble_eq_true rfl) dX7_readNumber_14 ⟨Nat.zero_le _, Nat.zero_le _⟩ (fun z7 μ4 n5 H locs hz7 hp6 hH hS => ?_)
        obtain ⟨hz2, hm2, hn2⟩ := hp6; rw [hz2]; rw [hm2, hn2] at hH; clear hz2 hm2 hn2
        have hdr := dgt_rng cs L b
        have hdi : 0 ≤ dgt cs L b → 0 ≤ b ∧ b < L := dgt_in
        refine lv_istore_n (lv' := [(3, .int (iv (dgt cs L b))), (0, .ref tx), (1, .int (iv mx)), (2, .int (iv i))]) hx hb dX7_readNumber_17 rfl hl (by decide) rfl (fun ls hl => ?_)
        refine lv_iload_n hx hb dX7_readNumber_18 rfl (lv_at hl 0 rfl) ?_
        refine j_if_ne (tgt := 33) hx hb dX7_readNumber_19 (by decide) (fun c8 => ?_) (fun c8 => ?_) (by omega)
        · skip
          refine j_const hx hb dX7_readNumber_33 ?_
          refine lv_istore (lv' := [(4, .int (iv 0)), (3, .int (iv (dgt cs L b))), (0, .ref tx), (1, .int (iv mx)), (2, .int (iv i))]) hx hb dX7_readNumber_34 hl (by decide) rfl (fun ls hl => ?_)
          refine lv_iload_n hx hb dX7_readNumber_36 rfl (lv_at hl 1 rfl) ?_
          refine j_const hx hb dX7_readNumber_37 ?_
          refine j_icmp_eq (tgt := 91) hx hb dX7_readNumber_38 (by decide) (fun c9 => ?_) (fun c9 => ?_) (by omega) (by omega)
          · skip
            have hfin : rnum cs L mx 60 0 a = (v, b) := by
              rw [he]
              by_cases h60 : i = 60
              · rw [h60]; rfl
              · exact rnum_n (by omega)
            refine lv_aload_n hx hb dX7_readNumber_91 rfl (lv_at hl 2 rfl) ?_
            refine m_get (C := RX7) (T := TX7) (N := 8) (ci := 6) hx hb hts i_X7 hown hK hH hX.1 rfl 5 (by decide) f_0 rfl dX7_readNumber_92 ?_
            refine j_if_le (tgt := 102) hx hb dX7_readNumber_95 (by decide) (fun c10 => ?_) (fun c10 => ?_) (by omega)
            · skip
              refine j_const hx hb dX7_readNumber_102 ?_
              subst hQ
              refine m_zret hx hb hr hlocks hH hS dX7_readNumber_103 ?_ (by omega)
              rw [hfin]
              dsimp only
              rw [if_neg (by omega)]
              exact ⟨rfl, hX, hfr⟩
            · skip
              refine j_const hx hb dX7_readNumber_98 ?_
              refine lv_goto (tgt := 103) hx hb dX7_readNumber_99 (by decide) ?_
              subst hQ
              refine m_zret hx hb hr hlocks hH hS dX7_readNumber_103 ?_ (by omega)
              rw [hfin]
              dsimp only
              rw [if_pos (by omega)]
              exact ⟨rfl, hX, hfr⟩
          · skip
            refine lv_iload hx hb dX7_readNumber_41 (lv_at hl 0 rfl) ?_
            refine j_if_ne (tgt := 91) hx hb dX7_readNumber_43 (by decide) (fun c11 => absurd c11 (by omega)) (fun c11 => ?_) (by omega)
            refine j_bipush hx hb dX7_readNumber_46 ?_ (by decide)
            refine lv_aload_n hx hb dX7_readNumber_48 rfl (lv_at hl 2 rfl) ?_
            refine m_get (C := RX7) (T := TX7) (N := 8) (ci := 6) hx hb hts i_X7 hown hK hH hX.1 rfl 5 (by decide) f_0 rfl dX7_readNumber_49 ?_
            refine j_imul hx hb dX7_readNumber_52 ?_
            refine lv_iload_n hx hb dX7_readNumber_53 rfl (lv_at hl 1 rfl) ?_
            refine j_iadd hx hb dX7_readNumber_54 ?_
            refine lv_iload_n hx hb dX7_readNumber_55 rfl (lv_at hl 3 rfl) ?_
            refine j_icmp_le (tgt := 62) hx hb dX7_readNumber_56 (by decide) (fun c12 => ?_) (fun c12 => ?_) (by omega) (by omega)
            · skip
              refine lv_aload_n hx hb dX7_readNumber_62 rfl (lv_at hl 2 rfl) ?_
              refine j_bipush hx hb dX7_readNumber_63 ?_ (by decide)
              refine lv_aload_n hx hb dX7_readNumber_65 rfl (lv_at hl 2 rfl) ?_
              refine m_get (C := RX7) (T := TX7) (N := 8) (ci := 6) hx hb hts i_X7 hown hK hH hX.1 rfl 5 (by decide) f_0 rfl dX7_readNumber_66 ?_
              refine j_imul hx hb dX7_readNumber_69 ?_
              refine lv_iload_n hx hb dX7_readNumber_70 rfl (lv_at hl 1 rfl) ?_
              refine j_iadd hx hb dX7_readNumber_71 ?_
              refine m_put (C := RX7) (T := TX7) (N := 8) (ci := 6) hx hb hts i_X7 tyX7 tyX7_ok nmX7 hown hK hH hS hX.1 rfl 5 (by decide) f_0 rfl rfl rfl (Nat.le_of_ble_eq_true rfl) dX7_readNumber_72 (fun H locs hH hS => ?_)
              have hX := hX.tx L o d ki ((10 * v) + (dgt cs L b)) ti b
              have hfr : ∀ q, (q < tx ∨ tx + 2 ≤ q) → (hu ν tx (.inr (6, [.ref (tx + 1), .int (iv L), .int (iv o), .int (iv d), .int (iv ki), .int (iv ((10 * v) + (dgt cs L b))), .int (iv ti), .int (iv b)]))) q = μ q := fun q hq => (hu_n (by omega)).trans (hfr q hq)
              have hH : gP G (hu ν tx (.inr (6, [.ref (tx + 1), .int (iv L), .int (iv o), .int (iv d), .int (iv ki), .int (iv ((10 * v) + (dgt cs L b))), .int (iv ti), .int (iv b)]))) ν0 H := hH
              refine lv_aload_n hx hb dX7_readNumber_75 rfl (lv_at hl 2 rfl) ?_
              refine lv_dup hx hb dX7_readNumber_76 rfl ?_
              refine m_get (C := RX7) (T := TX7) (N := 8) (ci := 6) hx hb hts i_X7 hown hK hH hX.1 rfl 7 (by decide) f_2 rfl dX7_readNumber_77 ?_
              refine j_const hx hb dX7_readNumber_80 ?_
              refine j_iadd hx hb dX7_readNumber_81 ?_
              refine m_put (C := RX7) (T := TX7) (N := 8) (ci := 6) hx hb hts i_X7 tyX7 tyX7_ok nmX7 hown hK hH hS hX.1 rfl 7 (by decide) f_2 rfl rfl rfl (Nat.le_of_ble_eq_true rfl) dX7_readNumber_82 (fun H locs hH hS => ?_)
              have hX := hX.tx L o d ki ((10 * v) + (dgt cs L b)) ti (b + 1)
              have hfr : ∀ q, (q < tx ∨ tx + 2 ≤ q) → (hu (hu ν tx (.inr (6, [.ref (tx + 1), .int (iv L), .int (iv o), .int (iv d), .int (iv ki), .int (iv ((10 * v) + (dgt cs L b))), .int (iv ti), .int (iv b)]))) tx (.inr (6, [.ref (tx + 1), .int (iv L), .int (iv o), .int (iv d), .int (iv ki), .int (iv ((10 * v) + (dgt cs L b))), .int (iv ti), .int (iv (b + 1))]))) q = μ q := fun q hq => (hu_n (by omega)).trans (hfr q hq)
              have hH : gP G (hu (hu ν tx (.inr (6, [.ref (tx + 1), .int (iv L), .int (iv o), .int (iv d), .int (iv ki), .int (iv ((10 * v) + (dgt cs L b))), .int (iv ti), .int (iv b)]))) tx (.inr (6, [.ref (tx + 1), .int (iv L), .int (iv o), .int (iv d), .int (iv ki), .int (iv ((10 * v) + (dgt cs L b))), .int (iv ti), .int (iv (b + 1))]))) ν0 H := hH
              refine j_iinc (lv' := [(2, .int (iv (i + 1))), (4, .int (iv 0)), (3, .int (iv (dgt cs L b))), (0, .ref tx), (1, .int (iv mx))]) hx hb dX7_readNumber_85 hl (k := 4) rfl (by decide) rfl (fun ls hl => ?_)
              refine lv_goto (tgt := 7) hx hb dX7_readNumber_88 (by decide) ?_
              exact ih1 (i + 1) (10 * v + dgt cs L b) (b + 1) (hu (hu ν tx (.inr (6, [.ref (tx + 1), .int (iv L), .int (iv o), .int (iv d), .int (iv ki), .int (iv ((10 * v) + (dgt cs L b))), .int (iv ti), .int (iv b)]))) tx (.inr (6, [.ref (tx + 1), .int (iv L), .int (iv o), .int (iv d), .int (iv ki), .int (iv ((10 * v) + (dgt cs L b))), .int (iv ti), .int (iv (b + 1))]))) ν0 (by omega) hX hfr (by omega) (by omega) (by rw [he, show (60 - i).toNat = (60 - (i + 1)).toNat + 1 by omega]; exact rnum_y (by omega)) (by omega) H locs ls hH hS (lv_sub hl [3, 4, 0] rfl)
            · skip
              refine lv_goto (tgt := 91) hx hb dX7_readNumber_59 (by decide) ?_
              have hfin : rnum cs L mx 60 0 a = (v, b) := by
                rw [he]
                by_cases h60 : i = 60
                · rw [h60]; rfl
                · exact rnum_n (by omega)
              refine lv_aload_n hx hb dX7_readNumber_91 rfl (lv_at hl 2 rfl) ?_
              refine m_get (C := RX7) (T := TX7) (N := 8) (ci := 6) hx hb hts i_X7 hown hK hH hX.1 rfl 5 (by decide) f_0 rfl dX7_readNumber_92 ?_
              refine j_if_le (tgt := 102) hx hb dX7_readNumber_95 (by decide) (fun c13 => ?_) (fun c13 => ?_) (by omega)
              · skip
                refine j_const hx hb dX7_readNumber_102 ?_
                subst hQ
                refine m_zret hx hb hr hlocks hH hS dX7_readNumber_103 ?_ (by omega)
                rw [hfin]
                dsimp only
                rw [if_neg (by omega)]
                exact ⟨rfl, hX, hfr⟩
              · skip
                refine j_const hx hb dX7_readNumber_98 ?_
                refine lv_goto (tgt := 103) hx hb dX7_readNumber_99 (by decide) ?_
                subst hQ
                refine m_zret hx hb hr hlocks hH hS dX7_readNumber_103 ?_ (by omega)
                rw [hfin]
                dsimp only
                rw [if_pos (by omega)]
                exact ⟨rfl, hX, hfr⟩
        · skip
          refine lv_aload_n hx hb dX7_readNumber_22 rfl (lv_at hl 1 rfl) ?_
          refine m_get (C := RX7) (T := TX7) (N := 8) (ci := 6) hx hb hts i_X7 hown hK hH hX.1 rfl 5 (by decide) f_0 rfl dX7_readNumber_23 ?_
          refine j_if_ne (tgt := 33) hx hb dX7_readNumber_26 (by decide) (fun c14 => ?_) (fun c14 => ?_) (by omega)
          · skip
            refine j_const hx hb dX7_readNumber_33 ?_
            refine lv_istore (lv' := [(4, .int (iv 0)), (3, .int (iv (dgt cs L b))), (0, .ref tx), (1, .int (iv mx)), (2, .int (iv i))]) hx hb dX7_readNumber_34 hl (by decide) rfl (fun ls hl => ?_)
            refine lv_iload_n hx hb dX7_readNumber_36 rfl (lv_at hl 1 rfl) ?_
            refine j_const hx hb dX7_readNumber_37 ?_
            refine j_icmp_eq (tgt := 91) hx hb dX7_readNumber_38 (by decide) (fun c15 => ?_) (fun c15 => ?_) (by omega) (by omega)
            · skip
              have hfin : rnum cs L mx 60 0 a = (v, b) := by
                rw [he]
                by_cases h60 : i = 60
                · rw [h60]; rfl
                · exact rnum_n (by omega)
              refine lv_aload_n hx hb dX7_readNumber_91 rfl (lv_at hl 2 rfl) ?_
              refine m_get (C := RX7) (T := TX7) (N := 8) (ci := 6) hx hb hts i_X7 hown hK hH hX.1 rfl 5 (by decide) f_0 rfl dX7_readNumber_92 ?_
              refine j_if_le (tgt := 102) hx hb dX7_readNumber_95 (by decide) (fun c16 => ?_) (fun c16 => ?_) (by omega)
              · skip
                refine j_const hx hb dX7_readNumber_102 ?_
                subst hQ
                refine m_zret hx hb hr hlocks hH hS dX7_readNumber_103 ?_ (by omega)
                rw [hfin]
                dsimp only
                rw [if_neg (by omega)]
                exact ⟨rfl, hX, hfr⟩
              · skip
                refine j_const hx hb dX7_readNumber_98 ?_
                refine lv_goto (tgt := 103) hx hb dX7_readNumber_99 (by decide) ?_
                subst hQ
                refine m_zret hx hb hr hlocks hH hS dX7_readNumber_103 ?_ (by omega)
                rw [hfin]
                dsimp only
                rw [if_pos (by omega)]
                exact ⟨rfl, hX, hfr⟩
            · skip
              refine lv_iload hx hb dX7_readNumber_41 (lv_at hl 0 rfl) ?_
              refine j_if_ne (tgt := 91) hx hb dX7_readNumber_43 (by decide) (fun c17 => absurd c17 (by omega)) (fun c17 => ?_) (by omega)
              refine j_bipush hx hb dX7_readNumber_46 ?_ (by decide)
              refine lv_aload_n hx hb dX7_readNumber_48 rfl (lv_at hl 2 rfl) ?_
              refine m_get (C := RX7) (T := TX7) (N := 8) (ci := 6) hx hb hts i_X7 hown hK hH hX.1 rfl 5 (by decide) f_0 rfl dX7_readNumber_49 ?_
              refine j_imul hx hb dX7_readNumber_52 ?_
              refine lv_iload_n hx hb dX7_readNumber_53 rfl (lv_at hl 1 rfl) ?_
              refine j_iadd hx hb dX7_readNumber_54 ?_
              refine lv_iload_n hx hb dX7_readNumber_55 rfl (lv_at hl 3 rfl) ?_
              refine j_icmp_le (tgt := 62) hx hb dX7_readNumber_56 (by decide) (fun c18 => ?_) (fun c18 => ?_) (by omega) (by omega)
              · skip
                refine lv_aload_n hx hb dX7_readNumber_62 rfl (lv_at hl 2 rfl) ?_
                refine j_bipush hx hb dX7_readNumber_63 ?_ (by decide)
                refine lv_aload_n hx hb dX7_readNumber_65 rfl (lv_at hl 2 rfl) ?_
                refine m_get (C := RX7) (T := TX7) (N := 8) (ci := 6) hx hb hts i_X7 hown hK hH hX.1 rfl 5 (by decide) f_0 rfl dX7_readNumber_66 ?_
                refine j_imul hx hb dX7_readNumber_69 ?_
                refine lv_iload_n hx hb dX7_readNumber_70 rfl (lv_at hl 1 rfl) ?_
                refine j_iadd hx hb dX7_readNumber_71 ?_
                refine m_put (C := RX7) (T := TX7) (N := 8) (ci := 6) hx hb hts i_X7 tyX7 tyX7_ok nmX7 hown hK hH hS hX.1 rfl 5 (by decide) f_0 rfl rfl rfl (Nat.le_of_ble_eq_true rfl) dX7_readNumber_72 (fun H locs hH hS => ?_)
                have hX := hX.tx L o d ki ((10 * v) + (dgt cs L b)) ti b
                have hfr : ∀ q, (q < tx ∨ tx + 2 ≤ q) → (hu ν tx (.inr (6, [.ref (tx + 1), .int (iv L), .int (iv o), .int (iv d), .int (iv ki), .int (iv ((10 * v) + (dgt cs L b))), .int (iv ti), .int (iv b)]))) q = μ q := fun q hq => (hu_n (by omega)).trans (hfr q hq)
                have hH : gP G (hu ν tx (.inr (6, [.ref (tx + 1), .int (iv L), .int (iv o), .int (iv d), .int (iv ki), .int (iv ((10 * v) + (dgt cs L b))), .int (iv ti), .int (iv b)]))) ν0 H := hH
                refine lv_aload_n hx hb dX7_readNumber_75 rfl (lv_at hl 2 rfl) ?_
                refine lv_dup hx hb dX7_readNumber_76 rfl ?_
                refine m_get (C := RX7) (T := TX7) (N := 8) (ci := 6) hx hb hts i_X7 hown hK hH hX.1 rfl 7 (by decide) f_2 rfl dX7_readNumber_77 ?_
                refine j_const hx hb dX7_readNumber_80 ?_
                refine j_iadd hx hb dX7_readNumber_81 ?_
                refine m_put (C := RX7) (T := TX7) (N := 8) (ci := 6) hx hb hts i_X7 tyX7 tyX7_ok nmX7 hown hK hH hS hX.1 rfl 7 (by decide) f_2 rfl rfl rfl (Nat.le_of_ble_eq_true rfl) dX7_readNumber_82 (fun H locs hH hS => ?_)
                have hX := hX.tx L o d ki ((10 * v) + (dgt cs L b)) ti (b + 1)
                have hfr : ∀ q, (q < tx ∨ tx + 2 ≤ q) → (hu (hu ν tx (.inr (6, [.ref (tx + 1), .int (iv L), .int (iv o), .int (iv d), .int (iv ki), .int (iv ((10 * v) + (dgt cs L b))), .int (iv ti), .int (iv b)]))) tx (.inr (6, [.ref (tx + 1), .int (iv L), .int (iv o), .int (iv d), .int (iv ki), .int (iv ((10 * v) + (dgt cs L b))), .int (iv ti), .int (iv (b + 1))]))) q = μ q := fun q hq => (hu_n (by omega)).trans (hfr q hq)
                have hH : gP G (hu (hu ν tx (.inr (6, [.ref (tx + 1), .int (iv L), .int (iv o), .int (iv d), .int (iv ki), .int (iv ((10 * v) + (dgt cs L b))), .int (iv ti), .int (iv b)]))) tx (.inr (6, [.ref (tx + 1), .int (iv L), .int (iv o), .int (iv d), .int (iv ki), .int (iv ((10 * v) + (dgt cs L b))), .int (iv ti), .int (iv (b + 1))]))) ν0 H := hH
                refine j_iinc (lv' := [(2, .int (iv (i + 1))), (4, .int (iv 0)), (3, .int (iv (dgt cs L b))), (0, .ref tx), (1, .int (iv mx))]) hx hb dX7_readNumber_85 hl (k := 4) rfl (by decide) rfl (fun ls hl => ?_)
                refine lv_goto (tgt := 7) hx hb dX7_readNumber_88 (by decide) ?_
                exact ih1 (i + 1) (10 * v + dgt cs L b) (b + 1) (hu (hu ν tx (.inr (6, [.ref (tx + 1), .int (iv L), .int (iv o), .int (iv d), .int (iv ki), .int (iv ((10 * v) + (dgt cs L b))), .int (iv ti), .int (iv b)]))) tx (.inr (6, [.ref (tx + 1), .int (iv L), .int (iv o), .int (iv d), .int (iv ki), .int (iv ((10 * v) + (dgt cs L b))), .int (iv ti), .int (iv (b + 1))]))) ν0 (by omega) hX hfr (by omega) (by omega) (by rw [he, show (60 - i).toNat = (60 - (i + 1)).toNat + 1 by omega]; exact rnum_y (by omega)) (by omega) H locs ls hH hS (lv_sub hl [3, 4, 0] rfl)
              · skip
                refine lv_goto (tgt := 91) hx hb dX7_readNumber_59 (by decide) ?_
                have hfin : rnum cs L mx 60 0 a = (v, b) := by
                  rw [he]
                  by_cases h60 : i = 60
                  · rw [h60]; rfl
                  · exact rnum_n (by omega)
                refine lv_aload_n hx hb dX7_readNumber_91 rfl (lv_at hl 2 rfl) ?_
                refine m_get (C := RX7) (T := TX7) (N := 8) (ci := 6) hx hb hts i_X7 hown hK hH hX.1 rfl 5 (by decide) f_0 rfl dX7_readNumber_92 ?_
                refine j_if_le (tgt := 102) hx hb dX7_readNumber_95 (by decide) (fun c19 => ?_) (fun c19 => ?_) (by omega)
                · skip
                  refine j_const hx hb dX7_readNumber_102 ?_
                  subst hQ
                  refine m_zret hx hb hr hlocks hH hS dX7_readNumber_103 ?_ (by omega)
                  rw [hfin]
                  dsimp only
                  rw [if_neg (by omega)]
                  exact ⟨rfl, hX, hfr⟩
                · skip
                  refine j_const hx hb dX7_readNumber_98 ?_
                  refine lv_goto (tgt := 103) hx hb dX7_readNumber_99 (by decide) ?_
                  subst hQ
                  refine m_zret hx hb hr hlocks hH hS dX7_readNumber_103 ?_ (by omega)
                  rw [hfin]
                  dsimp only
                  rw [if_pos (by omega)]
                  exact ⟨rfl, hX, hfr⟩
          · skip
            refine j_const hx hb dX7_readNumber_29 ?_
            refine lv_goto (tgt := 34) hx hb dX7_readNumber_30 (by decide) ?_
            refine lv_istore (lv' := [(4, .int (iv 1)), (3, .int (iv (dgt cs L b))), (0, .ref tx), (1, .int (iv mx)), (2, .int (iv i))]) hx hb dX7_readNumber_34 hl (by decide) rfl (fun ls hl => ?_)
            refine lv_iload_n hx hb dX7_readNumber_36 rfl (lv_at hl 1 rfl) ?_
            refine j_const hx hb dX7_readNumber_37 ?_
            refine j_icmp_eq (tgt := 91) hx hb dX7_readNumber_38 (by decide) (fun c20 => ?_) (fun c20 => ?_) (by omega) (by omega)
            · skip
              have hfin : rnum cs L mx 60 0 a = (v, b) := by
                rw [he]
                by_cases h60 : i = 60
                · rw [h60]; rfl
                · exact rnum_n (by omega)
              refine lv_aload_n hx hb dX7_readNumber_91 rfl (lv_at hl 2 rfl) ?_
              refine m_get (C := RX7) (T := TX7) (N := 8) (ci := 6) hx hb hts i_X7 hown hK hH hX.1 rfl 5 (by decide) f_0 rfl dX7_readNumber_92 ?_
              refine j_if_le (tgt := 102) hx hb dX7_readNumber_95 (by decide) (fun c21 => ?_) (fun c21 => ?_) (by omega)
              · skip
                refine j_const hx hb dX7_readNumber_102 ?_
                subst hQ
                refine m_zret hx hb hr hlocks hH hS dX7_readNumber_103 ?_ (by omega)
                rw [hfin]
                dsimp only
                rw [if_neg (by omega)]
                exact ⟨rfl, hX, hfr⟩
              · skip
                refine j_const hx hb dX7_readNumber_98 ?_
                refine lv_goto (tgt := 103) hx hb dX7_readNumber_99 (by decide) ?_
                subst hQ
                refine m_zret hx hb hr hlocks hH hS dX7_readNumber_103 ?_ (by omega)
                rw [hfin]
                dsimp only
                rw [if_pos (by omega)]
                exact ⟨rfl, hX, hfr⟩
            · skip
              refine lv_iload hx hb dX7_readNumber_41 (lv_at hl 0 rfl) ?_
              refine j_if_ne (tgt := 91) hx hb dX7_readNumber_43 (by decide) (fun c22 => ?_) (fun c22 => absurd c22 (by omega)) (by omega)
              have hfin : rnum cs L mx 60 0 a = (v, b) := by
                rw [he]
                by_cases h60 : i = 60
                · rw [h60]; rfl
                · exact rnum_n (by omega)
              refine lv_aload_n hx hb dX7_readNumber_91 rfl (lv_at hl 2 rfl) ?_
              refine m_get (C := RX7) (T := TX7) (N := 8) (ci := 6) hx hb hts i_X7 hown hK hH hX.1 rfl 5 (by decide) f_0 rfl dX7_readNumber_92 ?_
              refine j_if_le (tgt := 102) hx hb dX7_readNumber_95 (by decide) (fun c23 => ?_) (fun c23 => ?_) (by omega)
              · skip
                refine j_const hx hb dX7_readNumber_102 ?_
                subst hQ
                refine m_zret hx hb hr hlocks hH hS dX7_readNumber_103 ?_ (by omega)
                rw [hfin]
                dsimp only
                rw [if_neg (by omega)]
                exact ⟨rfl, hX, hfr⟩
              · skip
                refine j_const hx hb dX7_readNumber_98 ?_
                refine lv_goto (tgt := 103) hx hb dX7_readNumber_99 (by decide) ?_
                subst hQ
                refine m_zret hx hb hr hlocks hH hS dX7_readNumber_103 ?_ (by omega)
                rw [hfin]
                dsimp only
                rw [if_pos (by omega)]
                exact ⟨rfl, hX, hfr⟩
  exact lp7 (61) 0 0 a (hu μ tx (.inr (6, [.ref (tx + 1), .int (iv L), .int (iv o), .int (iv d), .int (iv ki), .int (iv 0), .int (iv ti), .int (iv a)]))) n (by omega) hX hfr (by omega) (by omega) rfl (by omega) H locs ls hH hS (lv_sub hl [1, 2, 0] rfl)

abbrev rm_c_X7_readDate : Room := { frames := 3, cells := 0, slots := 0, locals := 62 }
set_option maxHeartbeats 4000000 in
set_option maxRecDepth 100000 in
theorem c_X7_readDate (l : Launch) (G : wG) (μ : hM) (n : Nat) (tx : Nat) (cs : Nat → Int) (L o d ki nu ti a : Int) (hX : IsText G μ tx cs L o d ki nu ti a) (hOC : OkC cs L) (ha : 0 ≤ a ∧ a ≤ L) : Met l yX7_readDate wsX7_readDate rm_c_X7_readDate (mPc G μ n [.ref tx]) (mQi G (fun z μ1 n1 => z = (rdat cs L 6 1 0 a).1 ∧ IsText G μ1 tx cs L o d ki (rdat cs L 6 1 0 a).2.1 ti (rdat cs L 6 1 0 a).2.2 ∧ (∀ q, (q < tx ∨ tx + 2 ≤ q) → μ1 q = μ q))) 0 0 (gA G) := by
  refine Met.ofW (cc := cX7_readDate) (maxL := 3) (ret := (some .boolean)) (by decide) rfl ?_
  intro p e s m args below meth c s₁ B hml hv
  obtain ⟨hav, hK, hH⟩ := hv
  have hx := B.exec
  have hb := B.bytes
  have hr := B.returns
  have hts := atoms_spec (ws := wsX7_readDate) B.pre
  have hown : s.vm.findClass RX7 = some m.cls := findClass_of_methodNamed B.named
  have hlocks := B.notSynchronized
  have hS : va_S (gA G) s.heap s.heap [] := va_S.rf
  have hl := lv_entry ([.ref tx]) (n := 3) (Nat.le_of_ble_eq_true rfl)
  have hfr : entryFrame m args 3 = entryFrame m ([.ref tx] : List Value).toArray 3 := by rw [hav]
  rw [hfr, lg_entry_eq]
  generalize (lg_sl ([.ref tx]) ++ List.replicate (3 - (lg_sl ([.ref tx])).length) Slot.unset).toArray = ls at hl ⊢
  have hl : lv_has ls 3 [(0, .ref tx)] := hl
  generalize hQ : MQ below _ args s 0 0 (gA G) = Q
  show W p l e rm_c_X7_readDate s m args below meth c s.heap [] 0 0 Q (F0 m 0 ls [])
  obtain ⟨H, hHe⟩ : ∃ H, H = s.heap := ⟨_, rfl⟩
  obtain ⟨locs, hlo⟩ : ∃ q : List Loc, q = [] := ⟨_, rfl⟩
  have hH : gP G μ n H := by rw [hHe]; exact hH
  have hS : va_S (gA G) s.heap H locs := by rw [hHe, hlo]; exact hS
  suffices hgo : W p l e rm_c_X7_readDate s m args below meth c H locs 0 0 Q (F0 m 0 ls []) by rw [hHe, hlo] at hgo; exact hgo
  clear hHe hlo hfr hav
  have f_0 := hts (.fieldLink RX7 38 "StampDater$Text" "number" "I") (List.mem_of_getElem? (i := 1) rfl)
  have i_X7 : ∀ w ∈ u_ws RX7 TX7 8, w ∈ wsX7_readDate := by decide +kernel
  have f_2 := hts (.fieldLink RX7 19 "StampDater$Text" "at" "I") (List.mem_of_getElem? (i := 2) rfl)
  have hL60 := hOC.1
  have hfr : ∀ q, (q < tx ∨ tx + 2 ≤ q) → μ q = μ q := fun q _ => rfl
  refine lv_aload_n hx hb dX7_readDate_0 rfl (lv_at hl 0 rfl) ?_
  refine j_const hx hb dX7_readDate_1 ?_
  refine m_put (C := RX7) (T := TX7) (N := 8) (ci := 6) hx hb hts i_X7 tyX7 tyX7_ok nmX7 hown hK hH hS hX.1 rfl 5 (by decide) f_0 rfl rfl rfl (Nat.le_of_ble_eq_true rfl) dX7_readDate_2 (fun H locs hH hS => ?_)
  have hX := hX.tx L o d ki 0 ti a
  have hfr : ∀ q, (q < tx ∨ tx + 2 ≤ q) → (hu μ tx (.inr (6, [.ref (tx + 1), .int (iv L), .int (iv o), .int (iv d), .int (iv ki), .int (iv 0), .int (iv ti), .int (iv a)]))) q = μ q := fun q hq => (hu_n (by omega)).trans (hfr q hq)
  have hH : gP G (hu μ tx (.inr (6, [.ref (tx + 1), .int (iv L), .int (iv o), .int (iv d), .int (iv ki), .int (iv 0), .int (iv ti), .int (iv a)]))) n H := hH
  refine j_const hx hb dX7_readDate_5 ?_
  refine lv_istore_n (lv' := [(1, .int (iv 1)), (0, .ref tx)]) hx hb dX7_readDate_6 rfl hl (by decide) rfl (fun ls hl => ?_)
  have lp7 : ∀ (fuel : Nat) (i : Int) (v : Int) (b : Int) (ν : hM) (ν0 : Nat) (hi : 1 ≤ i ∧ i ≤ 7) (hX : IsText G ν tx cs L o d ki v ti b) (hfr : ∀ q, (q < tx ∨ tx + 2 ≤ q) → ν q = μ q) (hv : 0 ≤ v ∧ v ≤ lim i) (hb0 : 0 ≤ b ∧ b ≤ L) (he : rdat cs L 6 1 0 a = rdat cs L (7 - i).toNat i v b) (_ : (7 - i).toNat < fuel) (H : Heap) (locs : List Loc) (ls : Array Slot) (_ : gP G ν ν0 H) (_ : va_S (gA G) s.heap H locs) (_ : lv_has ls 3 [(0, .ref tx), (1, .int (iv i))]), W p l e rm_c_X7_readDate s m args below meth c H locs 0 0 Q (F0 m 7 ls []) := by
    intro fuel
    induction fuel with
    | zero => intro _ _ _ _ _ _ _ _ _ _ _ hfuel; exact absurd hfuel (Nat.not_lt_zero _)
    | succ fuel ih =>
      intro i v b ν ν0 hi hX hfr hv hb0 he hfuel H locs ls hH hS hl
      have ih1 := ih; clear ih
      refine lv_iload_n hx hb dX7_readDate_7 rfl (lv_at hl 1 rfl) ?_
      refine j_bipush hx hb dX7_readDate_8 ?_ (by decide)
      refine j_icmp_gt (tgt := 70) hx hb dX7_readDate_10 (by decide) (fun c2 => ?_) (fun c2 => ?_) (by omega) (by omega)
      · skip
        refine j_const hx hb dX7_readDate_70 ?_
        subst hQ
        refine m_zret hx hb hr hlocks hH hS dX7_readDate_71 ?_ (by omega)
        have hfin : rdat cs L 6 1 0 a = (1, v, b) := by
          rw [he]
          rw [show (7 - i).toNat = 0 by omega]
          rfl
        rw [hfin]
        exact ⟨rfl, hX, hfr⟩
      · skip
        refine lv_aload_n hx hb dX7_readDate_13 rfl (lv_at hl 0 rfl) ?_
        refine m_callVi (As := []) (rest := []) ⟨hx, hb, hml, hown, hts⟩ hK hH hS (c_X7_nextDigit l G ν ν0 tx cs L o d ki v ti b hX hOC (by omega)) (cwV 0 hts gX7_readDate_X7_nextDigit rfl rfl rfl (by decide +kernel) ⟨(Nat.le_of_ble_eq_true rfl), (Nat.le_of_ble_eq_true rfl)⟩) hX.1 rfl rfl rfl rfl hl.1 (Nat.le_of_ble_eq_true rfl) dX7_readDate_14 ⟨Nat.zero_le _, Nat.zero_le _⟩ (fun z6 μ3 n4 H locs hz6 hp5 hH hS => ?_)
        obtain ⟨hz2, hm2, hn2⟩ := hp5; rw [hz2]; rw [hm2, hn2] at hH; clear hz2 hm2 hn2
        have hdr := dgt_rng cs L b
        have hdi : 0 ≤ dgt cs L b → 0 ≤ b ∧ b < L := dgt_in
        refine lv_istore_n (lv' := [(2, .int (iv (dgt cs L b))), (0, .ref tx), (1, .int (iv i))]) hx hb dX7_readDate_17 rfl hl (by decide) rfl (fun ls hl => ?_)
        refine lv_iload_n hx hb dX7_readDate_18 rfl (lv_at hl 0 rfl) ?_
        refine j_const hx hb dX7_readDate_19 ?_
        refine j_icmp_eq (tgt := 39) hx hb dX7_readDate_20 (by decide) (fun c7 => ?_) (fun c7 => ?_) (by omega) (by omega)
        · skip
          refine j_const hx hb dX7_readDate_39 ?_
          subst hQ
          refine m_zret hx hb hr hlocks hH hS dX7_readDate_40 ?_ (by omega)
          have hfin : rdat cs L 6 1 0 a = (0, v, b) := by
            rw [he]
            rw [show (7 - i).toNat = (7 - (i + 1)).toNat + 1 by omega]
            exact rdat_n (by omega)
          rw [hfin]
          exact ⟨rfl, hX, hfr⟩
        · skip
          refine j_bipush hx hb dX7_readDate_23 ?_ (by decide)
          refine lv_aload_n hx hb dX7_readDate_25 rfl (lv_at hl 1 rfl) ?_
          refine m_get (C := RX7) (T := TX7) (N := 8) (ci := 6) hx hb hts i_X7 hown hK hH hX.1 rfl 5 (by decide) f_0 rfl dX7_readDate_26 ?_
          refine j_imul hx hb dX7_readDate_29 ?_
          refine lv_iload_n hx hb dX7_readDate_30 rfl (lv_at hl 0 rfl) ?_
          refine j_iadd hx hb dX7_readDate_31 ?_
          refine lv_iload_n hx hb dX7_readDate_32 rfl (lv_at hl 2 rfl) ?_
          have hls := lim_s (i := i) (by omega) hv (d := dgt cs L b) (by omega)
          refine m_callSi (As := [.int (iv ((10 * v) + (dgt cs L b))), .int (iv i)]) (rest := []) ⟨hx, hb, hml, hown, hts⟩ hK hH hS (c_X1_someBegins l G ν ν0 ((10 * v) + (dgt cs L b)) i (by omega) (by omega)) (va_cwS 2 hts gX7_readDate_X1_someBegins rfl rfl rfl (by decide +kernel) ⟨(Nat.le_of_ble_eq_true rfl), (Nat.le_of_ble_eq_true rfl)⟩) rfl rfl hl.1 (Nat.le_of_ble_eq_true rfl) dX7_readDate_33 ⟨Nat.zero_le _, Nat.zero_le _⟩ (fun z11 μ8 n9 H locs hz11 hp10 hH hS => ?_)
          obtain ⟨hz2, hm2, hn2⟩ := hp10; rw [hz2]; rw [hm2, hn2] at hH; clear hz2 hm2 hn2
          have hsb := sbg_rng (10 * v + dgt cs L b) i
          refine j_if_ne (tgt := 41) hx hb dX7_readDate_36 (by decide) (fun c12 => ?_) (fun c12 => ?_) (by omega)
          · skip
            refine lv_aload_n hx hb dX7_readDate_41 rfl (lv_at hl 1 rfl) ?_
            refine j_bipush hx hb dX7_readDate_42 ?_ (by decide)
            refine lv_aload_n hx hb dX7_readDate_44 rfl (lv_at hl 1 rfl) ?_
            refine m_get (C := RX7) (T := TX7) (N := 8) (ci := 6) hx hb hts i_X7 hown hK hH hX.1 rfl 5 (by decide) f_0 rfl dX7_readDate_45 ?_
            refine j_imul hx hb dX7_readDate_48 ?_
            refine lv_iload_n hx hb dX7_readDate_49 rfl (lv_at hl 0 rfl) ?_
            refine j_iadd hx hb dX7_readDate_50 ?_
            refine m_put (C := RX7) (T := TX7) (N := 8) (ci := 6) hx hb hts i_X7 tyX7 tyX7_ok nmX7 hown hK hH hS hX.1 rfl 5 (by decide) f_0 rfl rfl rfl (Nat.le_of_ble_eq_true rfl) dX7_readDate_51 (fun H locs hH hS => ?_)
            have hX := hX.tx L o d ki ((10 * v) + (dgt cs L b)) ti b
            have hfr : ∀ q, (q < tx ∨ tx + 2 ≤ q) → (hu ν tx (.inr (6, [.ref (tx + 1), .int (iv L), .int (iv o), .int (iv d), .int (iv ki), .int (iv ((10 * v) + (dgt cs L b))), .int (iv ti), .int (iv b)]))) q = μ q := fun q hq => (hu_n (by omega)).trans (hfr q hq)
            have hH : gP G (hu ν tx (.inr (6, [.ref (tx + 1), .int (iv L), .int (iv o), .int (iv d), .int (iv ki), .int (iv ((10 * v) + (dgt cs L b))), .int (iv ti), .int (iv b)]))) ν0 H := hH
            refine lv_aload_n hx hb dX7_readDate_54 rfl (lv_at hl 1 rfl) ?_
            refine lv_dup hx hb dX7_readDate_55 rfl ?_
            refine m_get (C := RX7) (T := TX7) (N := 8) (ci := 6) hx hb hts i_X7 hown hK hH hX.1 rfl 7 (by decide) f_2 rfl dX7_readDate_56 ?_
            refine j_const hx hb dX7_readDate_59 ?_
            refine j_iadd hx hb dX7_readDate_60 ?_
            refine m_put (C := RX7) (T := TX7) (N := 8) (ci := 6) hx hb hts i_X7 tyX7 tyX7_ok nmX7 hown hK hH hS hX.1 rfl 7 (by decide) f_2 rfl rfl rfl (Nat.le_of_ble_eq_true rfl) dX7_readDate_61 (fun H locs hH hS => ?_)
            have hX := hX.tx L o d ki ((10 * v) + (dgt cs L b)) ti (b + 1)
            have hfr : ∀ q, (q < tx ∨ tx + 2 ≤ q) → (hu (hu ν tx (.inr (6, [.ref (tx + 1), .int (iv L), .int (iv o), .int (iv d), .int (iv ki), .int (iv ((10 * v) + (dgt cs L b))), .int (iv ti), .int (iv b)]))) tx (.inr (6, [.ref (tx + 1), .int (iv L), .int (iv o), .int (iv d), .int (iv ki), .int (iv ((10 * v) + (dgt cs L b))), .int (iv ti), .int (iv (b + 1))]))) q = μ q := fun q hq => (hu_n (by omega)).trans (hfr q hq)
            have hH : gP G (hu (hu ν tx (.inr (6, [.ref (tx + 1), .int (iv L), .int (iv o), .int (iv d), .int (iv ki), .int (iv ((10 * v) + (dgt cs L b))), .int (iv ti), .int (iv b)]))) tx (.inr (6, [.ref (tx + 1), .int (iv L), .int (iv o), .int (iv d), .int (iv ki), .int (iv ((10 * v) + (dgt cs L b))), .int (iv ti), .int (iv (b + 1))]))) ν0 H := hH
            refine j_iinc (lv' := [(1, .int (iv (i + 1))), (2, .int (iv (dgt cs L b))), (0, .ref tx)]) hx hb dX7_readDate_64 hl (k := 2) rfl (by decide) rfl (fun ls hl => ?_)
            refine lv_goto (tgt := 7) hx hb dX7_readDate_67 (by decide) ?_
            exact ih1 (i + 1) (10 * v + dgt cs L b) (b + 1) (hu (hu ν tx (.inr (6, [.ref (tx + 1), .int (iv L), .int (iv o), .int (iv d), .int (iv ki), .int (iv ((10 * v) + (dgt cs L b))), .int (iv ti), .int (iv b)]))) tx (.inr (6, [.ref (tx + 1), .int (iv L), .int (iv o), .int (iv d), .int (iv ki), .int (iv ((10 * v) + (dgt cs L b))), .int (iv ti), .int (iv (b + 1))]))) ν0 (by omega) hX hfr (by have := lim_s (i := i) (by omega) hv (d := dgt cs L b) (by omega); omega) (by omega) (by rw [he, show (7 - i).toNat = (7 - (i + 1)).toNat + 1 by omega]; exact rdat_y (by omega)) (by omega) H locs ls hH hS (lv_sub hl [2, 0] rfl)
          · skip
            refine j_const hx hb dX7_readDate_39 ?_
            subst hQ
            refine m_zret hx hb hr hlocks hH hS dX7_readDate_40 ?_ (by omega)
            have hfin : rdat cs L 6 1 0 a = (0, v, b) := by
              rw [he]
              rw [show (7 - i).toNat = (7 - (i + 1)).toNat + 1 by omega]
              exact rdat_n (by omega)
            rw [hfin]
            exact ⟨rfl, hX, hfr⟩
  exact lp7 (8) 1 0 a (hu μ tx (.inr (6, [.ref (tx + 1), .int (iv L), .int (iv o), .int (iv d), .int (iv ki), .int (iv 0), .int (iv ti), .int (iv a)]))) n (by omega) hX hfr ⟨Int.le_refl _, Int.le_refl _⟩ (by omega) rfl (by omega) H locs ls hH hS (lv_sub hl [1, 0] rfl)

abbrev rm_c_X7_readPress : Room := { frames := 3, cells := 0, slots := 0, locals := 65 }
set_option maxHeartbeats 4000000 in
set_option maxRecDepth 100000 in
theorem c_X7_readPress (l : Launch) (G : wG) (μ : hM) (n : Nat) (tx : Nat) (cs : Nat → Int) (L o d ki nu ti a : Int) (hX : IsText G μ tx cs L o d ki nu ti a) (hOC : OkC cs L) (ha : 0 ≤ a ∧ a ≤ L) : Met l yX7_readPress wsX7_readPress rm_c_X7_readPress (mPc G μ n [.ref tx]) (mQi G (fun z μ1 n1 => ∃ nu1 ti1 : Int, z = (if 0 < (rnum cs L 9 60 0 a).1 then (if nxt cs L (rnum cs L 9 60 0 a).2 = 120 then (if 0 < (rnum cs L 99 60 0 ((rnum cs L 9 60 0 a).2 + 1)).1 then 1 else 0) else 1) else 0) ∧ IsText G μ1 tx cs L o d ki nu1 ti1 (if 0 < (rnum cs L 9 60 0 a).1 then (if nxt cs L (rnum cs L 9 60 0 a).2 = 120 then (rnum cs L 99 60 0 ((rnum cs L 9 60 0 a).2 + 1)).2 else (rnum cs L 9 60 0 a).2) else (rnum cs L 9 60 0 a).2) ∧ (z = 1 → nu1 = (rnum cs L 9 60 0 a).1 ∧ ti1 = (if nxt cs L (rnum cs L 9 60 0 a).2 = 120 then (rnum cs L 99 60 0 ((rnum cs L 9 60 0 a).2 + 1)).1 else 1)) ∧ (∀ q, (q < tx ∨ tx + 2 ≤ q) → μ1 q = μ q))) 0 0 (gA G) := by
  refine Met.ofW (cc := cX7_readPress) (maxL := 3) (ret := (some .boolean)) (by decide) rfl ?_
  intro p e s m args below meth c s₁ B hml hv
  obtain ⟨hav, hK, hH⟩ := hv
  have hx := B.exec
  have hb := B.bytes
  have hr := B.returns
  have hts := atoms_spec (ws := wsX7_readPress) B.pre
  have hown : s.vm.findClass RX7 = some m.cls := findClass_of_methodNamed B.named
  have hlocks := B.notSynchronized
  have hS : va_S (gA G) s.heap s.heap [] := va_S.rf
  have hl := lv_entry ([.ref tx]) (n := 3) (Nat.le_of_ble_eq_true rfl)
  have hfr : entryFrame m args 3 = entryFrame m ([.ref tx] : List Value).toArray 3 := by rw [hav]
  rw [hfr, lg_entry_eq]
  generalize (lg_sl ([.ref tx]) ++ List.replicate (3 - (lg_sl ([.ref tx])).length) Slot.unset).toArray = ls at hl ⊢
  have hl : lv_has ls 3 [(0, .ref tx)] := hl
  generalize hQ : MQ below _ args s 0 0 (gA G) = Q
  show W p l e rm_c_X7_readPress s m args below meth c s.heap [] 0 0 Q (F0 m 0 ls [])
  obtain ⟨H, hHe⟩ : ∃ H, H = s.heap := ⟨_, rfl⟩
  obtain ⟨locs, hlo⟩ : ∃ q : List Loc, q = [] := ⟨_, rfl⟩
  have hH : gP G μ n H := by rw [hHe]; exact hH
  have hS : va_S (gA G) s.heap H locs := by rw [hHe, hlo]; exact hS
  suffices hgo : W p l e rm_c_X7_readPress s m args below meth c H locs 0 0 Q (F0 m 0 ls []) by rw [hHe, hlo] at hgo; exact hgo
  clear hHe hlo hfr hav
  have f_0 := hts (.fieldLink RX7 62 "StampDater$Text" "times" "I") (List.mem_of_getElem? (i := 1) rfl)
  have i_X7 : ∀ w ∈ u_ws RX7 TX7 8, w ∈ wsX7_readPress := by decide +kernel
  have f_2 := hts (.fieldLink RX7 38 "StampDater$Text" "number" "I") (List.mem_of_getElem? (i := 2) rfl)
  have hL60 := hOC.1
  have hfr : ∀ q, (q < tx ∨ tx + 2 ≤ q) → μ q = μ q := fun q _ => rfl
  refine lv_aload_n hx hb dX7_readPress_0 rfl (lv_at hl 0 rfl) ?_
  refine j_const hx hb dX7_readPress_1 ?_
  refine m_put (C := RX7) (T := TX7) (N := 8) (ci := 6) hx hb hts i_X7 tyX7 tyX7_ok nmX7 hown hK hH hS hX.1 rfl 6 (by decide) f_0 rfl rfl rfl (Nat.le_of_ble_eq_true rfl) dX7_readPress_2 (fun H locs hH hS => ?_)
  have hX := hX.tx L o d ki nu 1 a
  have hfr : ∀ q, (q < tx ∨ tx + 2 ≤ q) → (hu μ tx (.inr (6, [.ref (tx + 1), .int (iv L), .int (iv o), .int (iv d), .int (iv ki), .int (iv nu), .int (iv 1), .int (iv a)]))) q = μ q := fun q hq => (hu_n (by omega)).trans (hfr q hq)
  have hH : gP G (hu μ tx (.inr (6, [.ref (tx + 1), .int (iv L), .int (iv o), .int (iv d), .int (iv ki), .int (iv nu), .int (iv 1), .int (iv a)]))) n H := hH
  refine lv_aload_n hx hb dX7_readPress_5 rfl (lv_at hl 0 rfl) ?_
  refine j_bipush hx hb dX7_readPress_6 ?_ (by decide)
  have hrn9 := rnum_rng (c := cs) (L := L) (mx := 9) 60 0 a (by omega) (by omega) (by omega)
  refine m_callVi (As := [.int (iv 9)]) (rest := []) ⟨hx, hb, hml, hown, hts⟩ hK hH hS (c_X7_readNumber l G (hu μ tx (.inr (6, [.ref (tx + 1), .int (iv L), .int (iv o), .int (iv d), .int (iv ki), .int (iv nu), .int (iv 1), .int (iv a)]))) n tx cs L o d ki nu 1 a 9 hX hOC (by omega) (by omega)) (cwV 1 hts gX7_readPress_X7_readNumber rfl rfl rfl (by decide +kernel) ⟨(Nat.le_of_ble_eq_true rfl), (Nat.le_of_ble_eq_true rfl)⟩) hX.1 rfl rfl rfl rfl hl.1 (Nat.le_of_ble_eq_true rfl) dX7_readPress_8 ⟨Nat.zero_le _, Nat.zero_le _⟩ (fun z4 μ1 n2 H locs hz4 hp3 hH hS => ?_)
  obtain ⟨hzn9, hX, hfr1⟩ := hp3
  have hzr9 : 0 ≤ z4 ∧ z4 ≤ 1 := by rw [hzn9]; split <;> omega
  have hfr : ∀ q, (q < tx ∨ tx + 2 ≤ q) → μ1 q = μ q := fun q hq => (hfr1 q hq).trans (hfr q hq)
  refine j_if_ne (tgt := 16) hx hb dX7_readPress_11 (by decide) (fun c5 => ?_) (fun c5 => ?_) (by omega)
  · skip
    refine lv_aload_n hx hb dX7_readPress_16 rfl (lv_at hl 0 rfl) ?_
    refine j_bipush hx hb dX7_readPress_17 ?_ (by decide)
    refine m_callVi (As := [.int (iv 120)]) (rest := []) ⟨hx, hb, hml, hown, hts⟩ hK hH hS (c_X7_readSign l G μ1 n2 tx cs L o d ki ((rnum cs L 9 60 0 a).1) 1 ((rnum cs L 9 60 0 a).2) 120 hX hOC (by omega) (by omega)) (cwV 1 hts gX7_readPress_X7_readSign rfl rfl rfl (by decide +kernel) ⟨(Nat.le_of_ble_eq_true rfl), (Nat.le_of_ble_eq_true rfl)⟩) hX.1 rfl rfl rfl rfl hl.1 (Nat.le_of_ble_eq_true rfl) dX7_readPress_19 ⟨Nat.zero_le _, Nat.zero_le _⟩ (fun z9 μ6 n7 H locs hz9 hp8 hH hS => ?_)
    obtain ⟨hz3, hX, hfr1⟩ := hp8
    have hfr : ∀ q, (q < tx ∨ tx + 2 ≤ q) → μ6 q = μ q := fun q hq => (hfr1 q hq).trans (hfr q hq)
    have hz31 : 0 ≤ z9 ∧ z9 ≤ 1 := by rw [hz3]; split <;> omega
    refine j_if_ne (tgt := 27) hx hb dX7_readPress_22 (by decide) (fun c10 => ?_) (fun c10 => ?_) (by omega)
    · skip
      have h120 : nxt cs L (rnum cs L 9 60 0 a).2 = 120 := by split at hz3; assumption; omega
      rw [if_pos h120] at hX
      have hin := nxt_in (c := cs) (L := L) (a := (rnum cs L 9 60 0 a).2) (by omega)
      refine lv_aload_n hx hb dX7_readPress_27 rfl (lv_at hl 0 rfl) ?_
      refine m_get (C := RX7) (T := TX7) (N := 8) (ci := 6) hx hb hts i_X7 hown hK hH hX.1 rfl 5 (by decide) f_2 rfl dX7_readPress_28 ?_
      refine lv_istore_n (lv' := [(1, .int (iv (rnum cs L 9 60 0 a).1)), (0, .ref tx)]) hx hb dX7_readPress_31 rfl hl (by decide) rfl (fun ls hl => ?_)
      refine lv_aload_n hx hb dX7_readPress_32 rfl (lv_at hl 1 rfl) ?_
      refine j_bipush hx hb dX7_readPress_33 ?_ (by decide)
      have hrn99 := rnum_rng (c := cs) (L := L) (mx := 99) 60 0 ((rnum cs L 9 60 0 a).2 + 1) (by omega) (by omega) (by omega)
      refine m_callVi (As := [.int (iv 99)]) (rest := []) ⟨hx, hb, hml, hown, hts⟩ hK hH hS (c_X7_readNumber l G μ6 n7 tx cs L o d ki ((rnum cs L 9 60 0 a).1) 1 ((rnum cs L 9 60 0 a).2 + 1) 99 hX hOC (by omega) (by omega)) (cwV 1 hts gX7_readPress_X7_readNumber rfl rfl rfl (by decide +kernel) ⟨(Nat.le_of_ble_eq_true rfl), (Nat.le_of_ble_eq_true rfl)⟩) hX.1 rfl rfl rfl rfl hl.1 (Nat.le_of_ble_eq_true rfl) dX7_readPress_35 ⟨Nat.zero_le _, Nat.zero_le _⟩ (fun z14 μ11 n12 H locs hz14 hp13 hH hS => ?_)
      obtain ⟨hzn99, hX, hfr1⟩ := hp13
      have hzr99 : 0 ≤ z14 ∧ z14 ≤ 1 := by rw [hzn99]; split <;> omega
      have hfr : ∀ q, (q < tx ∨ tx + 2 ≤ q) → μ11 q = μ q := fun q hq => (hfr1 q hq).trans (hfr q hq)
      refine lv_istore_n (lv' := [(2, .int (iv z14)), (1, .int (iv (rnum cs L 9 60 0 a).1)), (0, .ref tx)]) hx hb dX7_readPress_38 rfl hl (by decide) rfl (fun ls hl => ?_)
      refine lv_aload_n hx hb dX7_readPress_39 rfl (lv_at hl 2 rfl) ?_
      refine lv_aload_n hx hb dX7_readPress_40 rfl (lv_at hl 2 rfl) ?_
      refine m_get (C := RX7) (T := TX7) (N := 8) (ci := 6) hx hb hts i_X7 hown hK hH hX.1 rfl 5 (by decide) f_2 rfl dX7_readPress_41 ?_
      refine m_put (C := RX7) (T := TX7) (N := 8) (ci := 6) hx hb hts i_X7 tyX7 tyX7_ok nmX7 hown hK hH hS hX.1 rfl 6 (by decide) f_0 rfl rfl rfl (Nat.le_of_ble_eq_true rfl) dX7_readPress_44 (fun H locs hH hS => ?_)
      have hX := hX.tx L o d ki ((rnum cs L 99 60 0 ((rnum cs L 9 60 0 a).2 + 1)).1) ((rnum cs L 99 60 0 ((rnum cs L 9 60 0 a).2 + 1)).1) ((rnum cs L 99 60 0 ((rnum cs L 9 60 0 a).2 + 1)).2)
      have hfr : ∀ q, (q < tx ∨ tx + 2 ≤ q) → (hu μ11 tx (.inr (6, [.ref (tx + 1), .int (iv L), .int (iv o), .int (iv d), .int (iv ki), .int (iv (rnum cs L 99 60 0 ((rnum cs L 9 60 0 a).2 + 1)).1), .int (iv (rnum cs L 99 60 0 ((rnum cs L 9 60 0 a).2 + 1)).1), .int (iv (rnum cs L 99 60 0 ((rnum cs L 9 60 0 a).2 + 1)).2)]))) q = μ q := fun q hq => (hu_n (by omega)).trans (hfr q hq)
      have hH : gP G (hu μ11 tx (.inr (6, [.ref (tx + 1), .int (iv L), .int (iv o), .int (iv d), .int (iv ki), .int (iv (rnum cs L 99 60 0 ((rnum cs L 9 60 0 a).2 + 1)).1), .int (iv (rnum cs L 99 60 0 ((rnum cs L 9 60 0 a).2 + 1)).1), .int (iv (rnum cs L 99 60 0 ((rnum cs L 9 60 0 a).2 + 1)).2)]))) n12 H := hH
      refine lv_aload_n hx hb dX7_readPress_47 rfl (lv_at hl 2 rfl) ?_
      refine lv_iload_n hx hb dX7_readPress_48 rfl (lv_at hl 1 rfl) ?_
      refine m_put (C := RX7) (T := TX7) (N := 8) (ci := 6) hx hb hts i_X7 tyX7 tyX7_ok nmX7 hown hK hH hS hX.1 rfl 5 (by decide) f_2 rfl rfl rfl (Nat.le_of_ble_eq_true rfl) dX7_readPress_49 (fun H locs hH hS => ?_)
      have hX := hX.tx L o d ki ((rnum cs L 9 60 0 a).1) ((rnum cs L 99 60 0 ((rnum cs L 9 60 0 a).2 + 1)).1) ((rnum cs L 99 60 0 ((rnum cs L 9 60 0 a).2 + 1)).2)
      have hfr : ∀ q, (q < tx ∨ tx + 2 ≤ q) → (hu (hu μ11 tx (.inr (6, [.ref (tx + 1), .int (iv L), .int (iv o), .int (iv d), .int (iv ki), .int (iv (rnum cs L 99 60 0 ((rnum cs L 9 60 0 a).2 + 1)).1), .int (iv (rnum cs L 99 60 0 ((rnum cs L 9 60 0 a).2 + 1)).1), .int (iv (rnum cs L 99 60 0 ((rnum cs L 9 60 0 a).2 + 1)).2)]))) tx (.inr (6, [.ref (tx + 1), .int (iv L), .int (iv o), .int (iv d), .int (iv ki), .int (iv (rnum cs L 9 60 0 a).1), .int (iv (rnum cs L 99 60 0 ((rnum cs L 9 60 0 a).2 + 1)).1), .int (iv (rnum cs L 99 60 0 ((rnum cs L 9 60 0 a).2 + 1)).2)]))) q = μ q := fun q hq => (hu_n (by omega)).trans (hfr q hq)
      have hH : gP G (hu (hu μ11 tx (.inr (6, [.ref (tx + 1), .int (iv L), .int (iv o), .int (iv d), .int (iv ki), .int (iv (rnum cs L 99 60 0 ((rnum cs L 9 60 0 a).2 + 1)).1), .int (iv (rnum cs L 99 60 0 ((rnum cs L 9 60 0 a).2 + 1)).1), .int (iv (rnum cs L 99 60 0 ((rnum cs L 9 60 0 a).2 + 1)).2)]))) tx (.inr (6, [.ref (tx + 1), .int (iv L), .int (iv o), .int (iv d), .int (iv ki), .int (iv (rnum cs L 9 60 0 a).1), .int (iv (rnum cs L 99 60 0 ((rnum cs L 9 60 0 a).2 + 1)).1), .int (iv (rnum cs L 99 60 0 ((rnum cs L 9 60 0 a).2 + 1)).2)]))) n12 H := hH
      refine lv_iload_n hx hb dX7_readPress_52 rfl (lv_at hl 0 rfl) ?_
      subst hQ
      refine m_zret hx hb hr hlocks hH hS dX7_readPress_53 ?_ (by omega)
      have h0 : 0 < (rnum cs L 9 60 0 a).1 := by split at hzn9 <;> omega
      rw [if_pos h0, if_pos h0, if_pos h120, if_pos h120, if_pos h120]
      exact ⟨_, _, hzn99, hX, fun h9 => ⟨rfl, rfl⟩, hfr⟩
    · skip
      have h120 : ¬ nxt cs L (rnum cs L 9 60 0 a).2 = 120 := by split at hz3; omega; assumption
      rw [if_neg h120] at hX
      refine j_const hx hb dX7_readPress_25 ?_
      subst hQ
      refine m_zret hx hb hr hlocks hH hS dX7_readPress_26 ?_ (by omega)
      have h0 : 0 < (rnum cs L 9 60 0 a).1 := by split at hzn9 <;> omega
      rw [if_pos h0, if_pos h0, if_neg h120, if_neg h120, if_neg h120]
      exact ⟨_, _, rfl, hX, fun h9 => ⟨rfl, rfl⟩, hfr⟩
  · skip
    refine j_const hx hb dX7_readPress_14 ?_
    subst hQ
    refine m_zret hx hb hr hlocks hH hS dX7_readPress_15 ?_ (by omega)
    have h0 : ¬ 0 < (rnum cs L 9 60 0 a).1 := by split at hzn9 <;> omega
    rw [if_neg h0, if_neg h0]
    exact ⟨_, _, rfl, hX, fun h9 => by omega, hfr⟩

abbrev rm_c_X7_append : Room := { frames := 0, cells := 0, slots := 0, locals := 0 }
set_option maxHeartbeats 4000000 in
set_option maxRecDepth 100000 in
theorem c_X7_append (l : Launch) (G : wG) (μ : hM) (n : Nat) (tx : Nat) (cs : Nat → Int) (L o d ki nu ti a : Int) (k : Int) (hX : IsText G μ tx cs L o d ki nu ti a) (hOC : OkC cs L) (hk : 0 ≤ k ∧ k ≤ 65535) : Met l yX7_append wsX7_append rm_c_X7_append (mPc G μ n [.ref tx, .int (iv k)]) (mQi G (fun z μ1 n1 => z = (if L < 60 then 1 else 0) ∧ IsText G μ1 tx (if L < 60 then fu cs L.toNat k else cs) (if L < 60 then L + 1 else L) o d ki nu ti a ∧ (∀ q, (q < tx ∨ tx + 2 ≤ q) → μ1 q = μ q))) 0 0 (gA G) := by
  refine Met.ofW (cc := cX7_append) (maxL := 2) (ret := (some .boolean)) (by decide) rfl ?_
  intro p e s m args below meth c s₁ B hml hv
  obtain ⟨hav, hK, hH⟩ := hv
  have hx := B.exec
  have hb := B.bytes
  have hr := B.returns
  have hts := atoms_spec (ws := wsX7_append) B.pre
  have hown : s.vm.findClass RX7 = some m.cls := findClass_of_methodNamed B.named
  have hlocks := B.notSynchronized
  have hS : va_S (gA G) s.heap s.heap [] := va_S.rf
  have hl := lv_entry ([.ref tx, .int (iv k)]) (n := 2) (Nat.le_of_ble_eq_true rfl)
  have hfr : entryFrame m args 2 = entryFrame m ([.ref tx, .int (iv k)] : List Value).toArray 2 := by rw [hav]
  rw [hfr, lg_entry_eq]
  generalize (lg_sl ([.ref tx, .int (iv k)]) ++ List.replicate (2 - (lg_sl ([.ref tx, .int (iv k)])).length) Slot.unset).toArray = ls at hl ⊢
  have hl : lv_has ls 2 [(0, .ref tx), (1, .int (iv k))] := hl
  generalize hQ : MQ below _ args s 0 0 (gA G) = Q
  show W p l e rm_c_X7_append s m args below meth c s.heap [] 0 0 Q (F0 m 0 ls [])
  obtain ⟨H, hHe⟩ : ∃ H, H = s.heap := ⟨_, rfl⟩
  obtain ⟨locs, hlo⟩ : ∃ q : List Loc, q = [] := ⟨_, rfl⟩
  have hH : gP G μ n H := by rw [hHe]; exact hH
  have hS : va_S (gA G) s.heap H locs := by rw [hHe, hlo]; exact hS
  suffices hgo : W p l e rm_c_X7_append s m args below meth c H locs 0 0 Q (F0 m 0 ls []) by rw [hHe, hlo] at hgo; exact hgo
  clear hHe hlo hfr hav
  have f_0 := hts (.fieldLink RX7 15 "StampDater$Text" "length" "I") (List.mem_of_getElem? (i := 1) rfl)
  have i_X7 : ∀ w ∈ u_ws RX7 TX7 8, w ∈ wsX7_append := by decide +kernel
  have f_2 := hts (.fieldLink RX7 9 "StampDater$Text" "characters" "[C") (List.mem_of_getElem? (i := 2) rfl)
  have hL60 := hOC.1
  have hfr : ∀ q, (q < tx ∨ tx + 2 ≤ q) → μ q = μ q := fun q _ => rfl
  refine lv_aload_n hx hb dX7_append_0 rfl (lv_at hl 0 rfl) ?_
  refine m_get (C := RX7) (T := TX7) (N := 8) (ci := 6) hx hb hts i_X7 hown hK hH hX.1 rfl 1 (by decide) f_0 rfl dX7_append_1 ?_
  refine j_if_lt (tgt := 16) hx hb dX7_append_4 (by decide) (fun c1 => absurd c1 (by omega)) (fun c1 => ?_) (by omega)
  refine lv_aload_n hx hb dX7_append_7 rfl (lv_at hl 0 rfl) ?_
  refine m_get (C := RX7) (T := TX7) (N := 8) (ci := 6) hx hb hts i_X7 hown hK hH hX.1 rfl 1 (by decide) f_0 rfl dX7_append_8 ?_
  refine j_bipush hx hb dX7_append_11 ?_ (by decide)
  refine j_icmp_lt (tgt := 18) hx hb dX7_append_13 (by decide) (fun c2 => ?_) (fun c2 => ?_) (by omega) (by omega)
  · skip
    refine lv_aload_n hx hb dX7_append_18 rfl (lv_at hl 0 rfl) ?_
    refine m_get (C := RX7) (T := TX7) (N := 8) (ci := 6) hx hb hts i_X7 hown hK hH hX.1 rfl 0 (by decide) f_2 rfl dX7_append_19 ?_
    refine lv_aload_n hx hb dX7_append_22 rfl (lv_at hl 0 rfl) ?_
    refine m_get (C := RX7) (T := TX7) (N := 8) (ci := 6) hx hb hts i_X7 hown hK hH hX.1 rfl 1 (by decide) f_0 rfl dX7_append_23 ?_
    refine lv_iload_n hx hb dX7_append_26 rfl (lv_at hl 1 rfl) ?_
    refine m_cast (nA := 60) (f := cs) hx hb hK hH hS hX.2 (nar_c hk) dX7_append_27 (fun H locs hH hS => ?_) (by omega) (by omega)
    have hX : IsText G (hu μ (tx + 1) (.inl (G.2.1 1, 60, .inl (fun j => iv ((fu cs (L).toNat k) j))))) tx (fu cs L.toNat k) L o d ki nu ti a := ⟨hu_n' (by omega) hX.1, hu_s⟩
    have hfr : ∀ q, (q < tx ∨ tx + 2 ≤ q) → (hu μ (tx + 1) (.inl (G.2.1 1, 60, .inl (fun j => iv ((fu cs (L).toNat k) j))))) q = μ q := fun q hq => (hu_n (by omega)).trans (hfr q hq)
    have hH : gP G (hu μ (tx + 1) (.inl (G.2.1 1, 60, .inl (fun j => iv ((fu cs (L).toNat k) j))))) n H := hH
    refine lv_aload_n hx hb dX7_append_28 rfl (lv_at hl 0 rfl) ?_
    refine lv_dup hx hb dX7_append_29 rfl ?_
    refine m_get (C := RX7) (T := TX7) (N := 8) (ci := 6) hx hb hts i_X7 hown hK hH hX.1 rfl 1 (by decide) f_0 rfl dX7_append_30 ?_
    refine j_const hx hb dX7_append_33 ?_
    refine j_iadd hx hb dX7_append_34 ?_
    refine m_put (C := RX7) (T := TX7) (N := 8) (ci := 6) hx hb hts i_X7 tyX7 tyX7_ok nmX7 hown hK hH hS hX.1 rfl 1 (by decide) f_0 rfl rfl rfl (Nat.le_of_ble_eq_true rfl) dX7_append_35 (fun H locs hH hS => ?_)
    have hX := hX.tx (L + 1) o d ki nu ti a
    have hfr : ∀ q, (q < tx ∨ tx + 2 ≤ q) → (hu (hu μ (tx + 1) (.inl (G.2.1 1, 60, .inl (fun j => iv ((fu cs (L).toNat k) j))))) tx (.inr (6, [.ref (tx + 1), .int (iv (L + 1)), .int (iv o), .int (iv d), .int (iv ki), .int (iv nu), .int (iv ti), .int (iv a)]))) q = μ q := fun q hq => (hu_n (by omega)).trans (hfr q hq)
    have hH : gP G (hu (hu μ (tx + 1) (.inl (G.2.1 1, 60, .inl (fun j => iv ((fu cs (L).toNat k) j))))) tx (.inr (6, [.ref (tx + 1), .int (iv (L + 1)), .int (iv o), .int (iv d), .int (iv ki), .int (iv nu), .int (iv ti), .int (iv a)]))) n H := hH
    refine j_const hx hb dX7_append_38 ?_
    subst hQ
    refine m_zret hx hb hr hlocks hH hS dX7_append_39 ?_ (by omega)
    rw [if_pos (by omega), if_pos (by omega), if_pos (by omega)]
    exact ⟨rfl, hX, hfr⟩
  · skip
    refine j_const hx hb dX7_append_16 ?_
    subst hQ
    refine m_zret hx hb hr hlocks hH hS dX7_append_17 ?_ (by omega)
    rw [if_neg (by omega), if_neg (by omega), if_neg (by omega)]
    exact ⟨rfl, hX, hfr⟩

abbrev rm_c_X7_readOrder : Room := { frames := 4, cells := 0, slots := 0, locals := 87 }
set_option maxHeartbeats 4000000 in
set_option maxRecDepth 100000 in
theorem c_X7_readOrder (l : Launch) (G : wG) (μ : hM) (n : Nat) (tx : Nat) (cs : Nat → Int) (L o d ki nu ti a : Int) (hX : IsText G μ tx cs L o d ki nu ti a) (hOC : OkC cs L) (ha : 0 ≤ a ∧ a ≤ L) : Met l yX7_readOrder wsX7_readOrder rm_c_X7_readOrder (mPc G μ n [.ref tx]) (mQi G (fun z μ1 n1 => ∃ nu1 ti1 : Int, z = (ordF cs L a).1 ∧ IsText G μ1 tx cs L o d (nxt cs L a) nu1 ti1 (ordF cs L a).2.1 ∧ (z = 1 → (nxt cs L a ≠ 97 → nu1 = (ordF cs L a).2.2.1) ∧ (nxt cs L a = 112 → ti1 = (ordF cs L a).2.2.2)) ∧ (∀ q, (q < tx ∨ tx + 2 ≤ q) → μ1 q = μ q))) 0 0 (gA G) := by
  refine Met.ofW (cc := cX7_readOrder) (maxL := 1) (ret := (some .boolean)) (by decide) rfl ?_
  intro p e s m args below meth c s₁ B hml hv
  obtain ⟨hav, hK, hH⟩ := hv
  have hx := B.exec
  have hb := B.bytes
  have hr := B.returns
  have hts := atoms_spec (ws := wsX7_readOrder) B.pre
  have hown : s.vm.findClass RX7 = some m.cls := findClass_of_methodNamed B.named
  have hlocks := B.notSynchronized
  have hS : va_S (gA G) s.heap s.heap [] := va_S.rf
  have hl := lv_entry ([.ref tx]) (n := 1) (Nat.le_of_ble_eq_true rfl)
  have hfr : entryFrame m args 1 = entryFrame m ([.ref tx] : List Value).toArray 1 := by rw [hav]
  rw [hfr, lg_entry_eq]
  generalize (lg_sl ([.ref tx]) ++ List.replicate (1 - (lg_sl ([.ref tx])).length) Slot.unset).toArray = ls at hl ⊢
  have hl : lv_has ls 1 [(0, .ref tx)] := hl
  generalize hQ : MQ below _ args s 0 0 (gA G) = Q
  show W p l e rm_c_X7_readOrder s m args below meth c s.heap [] 0 0 Q (F0 m 0 ls [])
  obtain ⟨H, hHe⟩ : ∃ H, H = s.heap := ⟨_, rfl⟩
  obtain ⟨locs, hlo⟩ : ∃ q : List Loc, q = [] := ⟨_, rfl⟩
  have hH : gP G μ n H := by rw [hHe]; exact hH
  have hS : va_S (gA G) s.heap H locs := by rw [hHe, hlo]; exact hS
  suffices hgo : W p l e rm_c_X7_readOrder s m args below meth c H locs 0 0 Q (F0 m 0 ls []) by rw [hHe, hlo] at hgo; exact hgo
  clear hHe hlo hfr hav
  have f_0 := hts (.fieldLink RX7 35 "StampDater$Text" "kind" "I") (List.mem_of_getElem? (i := 1) rfl)
  have i_X7 : ∀ w ∈ u_ws RX7 TX7 8, w ∈ wsX7_readOrder := by decide +kernel
  have f_2 := hts (.fieldLink RX7 19 "StampDater$Text" "at" "I") (List.mem_of_getElem? (i := 2) rfl)
  have hL60 := hOC.1
  have hfr : ∀ q, (q < tx ∨ tx + 2 ≤ q) → μ q = μ q := fun q _ => rfl
  refine lv_aload_n hx hb dX7_readOrder_0 rfl (lv_at hl 0 rfl) ?_
  refine lv_aload_n hx hb dX7_readOrder_1 rfl (lv_at hl 0 rfl) ?_
  refine m_callVi (As := []) (rest := [.ref tx]) ⟨hx, hb, hml, hown, hts⟩ hK hH hS (c_X7_next l G μ n tx cs L o d ki nu ti a hX hOC (by omega)) (cwV 0 hts gX7_readOrder_X7_next rfl rfl rfl (by decide +kernel) ⟨(Nat.le_of_ble_eq_true rfl), (Nat.le_of_ble_eq_true rfl)⟩) hX.1 rfl rfl rfl rfl hl.1 (Nat.le_of_ble_eq_true rfl) dX7_readOrder_2 ⟨Nat.zero_le _, Nat.zero_le _⟩ (fun z4 μ1 n2 H locs hz4 hp3 hH hS => ?_)
  obtain ⟨hz2, hm2, hn2⟩ := hp3; rw [hz2]; rw [hm2, hn2] at hH; clear hz2 hm2 hn2
  have hnr := nxt_rng hOC a
  have hni : 0 ≤ nxt cs L a → 0 ≤ a ∧ a < L := nxt_in
  refine m_put (C := RX7) (T := TX7) (N := 8) (ci := 6) hx hb hts i_X7 tyX7 tyX7_ok nmX7 hown hK hH hS hX.1 rfl 4 (by decide) f_0 rfl rfl rfl (Nat.le_of_ble_eq_true rfl) dX7_readOrder_5 (fun H locs hH hS => ?_)
  have hX := hX.tx L o d (nxt cs L a) nu ti a
  have hfr : ∀ q, (q < tx ∨ tx + 2 ≤ q) → (hu μ tx (.inr (6, [.ref (tx + 1), .int (iv L), .int (iv o), .int (iv d), .int (iv (nxt cs L a)), .int (iv nu), .int (iv ti), .int (iv a)]))) q = μ q := fun q hq => (hu_n (by omega)).trans (hfr q hq)
  have hH : gP G (hu μ tx (.inr (6, [.ref (tx + 1), .int (iv L), .int (iv o), .int (iv d), .int (iv (nxt cs L a)), .int (iv nu), .int (iv ti), .int (iv a)]))) n H := hH
  refine lv_aload_n hx hb dX7_readOrder_8 rfl (lv_at hl 0 rfl) ?_
  refine m_get (C := RX7) (T := TX7) (N := 8) (ci := 6) hx hb hts i_X7 hown hK hH hX.1 rfl 4 (by decide) f_0 rfl dX7_readOrder_9 ?_
  by_cases k5_0 : (nxt cs L a) = 43
  · skip
    refine j_lookup (tgt := 106) (off := 94) hx hb dX7_readOrder_12 (by rw [k5_0]; rfl) (by decide) ?_ (by decide) (by omega)
    refine lv_aload_n hx hb dX7_readOrder_106 rfl (lv_at hl 0 rfl) ?_
    refine lv_dup hx hb dX7_readOrder_107 rfl ?_
    refine m_get (C := RX7) (T := TX7) (N := 8) (ci := 6) hx hb hts i_X7 hown hK hH hX.1 rfl 7 (by decide) f_2 rfl dX7_readOrder_108 ?_
    refine j_const hx hb dX7_readOrder_111 ?_
    refine j_iadd hx hb dX7_readOrder_112 ?_
    refine m_put (C := RX7) (T := TX7) (N := 8) (ci := 6) hx hb hts i_X7 tyX7 tyX7_ok nmX7 hown hK hH hS hX.1 rfl 7 (by decide) f_2 rfl rfl rfl (Nat.le_of_ble_eq_true rfl) dX7_readOrder_113 (fun H locs hH hS => ?_)
    have hX := hX.tx L o d (nxt cs L a) nu ti (a + 1)
    have hfr : ∀ q, (q < tx ∨ tx + 2 ≤ q) → (hu (hu μ tx (.inr (6, [.ref (tx + 1), .int (iv L), .int (iv o), .int (iv d), .int (iv (nxt cs L a)), .int (iv nu), .int (iv ti), .int (iv a)]))) tx (.inr (6, [.ref (tx + 1), .int (iv L), .int (iv o), .int (iv d), .int (iv (nxt cs L a)), .int (iv nu), .int (iv ti), .int (iv (a + 1))]))) q = μ q := fun q hq => (hu_n (by omega)).trans (hfr q hq)
    have hH : gP G (hu (hu μ tx (.inr (6, [.ref (tx + 1), .int (iv L), .int (iv o), .int (iv d), .int (iv (nxt cs L a)), .int (iv nu), .int (iv ti), .int (iv a)]))) tx (.inr (6, [.ref (tx + 1), .int (iv L), .int (iv o), .int (iv d), .int (iv (nxt cs L a)), .int (iv nu), .int (iv ti), .int (iv (a + 1))]))) n H := hH
    refine lv_aload_n hx hb dX7_readOrder_116 rfl (lv_at hl 0 rfl) ?_
    refine j_sipush hx hb dX7_readOrder_117 ?_ (by decide)
    have hrn999 := rnum_rng (c := cs) (L := L) (mx := 999) 60 0 (a + 1) (by omega) (by omega) (by omega)
    refine m_callVi (As := [.int (iv 999)]) (rest := []) ⟨hx, hb, hml, hown, hts⟩ hK hH hS (c_X7_readNumber l G (hu (hu μ tx (.inr (6, [.ref (tx + 1), .int (iv L), .int (iv o), .int (iv d), .int (iv (nxt cs L a)), .int (iv nu), .int (iv ti), .int (iv a)]))) tx (.inr (6, [.ref (tx + 1), .int (iv L), .int (iv o), .int (iv d), .int (iv (nxt cs L a)), .int (iv nu), .int (iv ti), .int (iv (a + 1))]))) n tx cs L o d (nxt cs L a) nu ti (a + 1) 999 hX hOC (by omega) (by omega)) (cwV 1 hts gX7_readOrder_X7_readNumber rfl rfl rfl (by decide +kernel) ⟨(Nat.le_of_ble_eq_true rfl), (Nat.le_of_ble_eq_true rfl)⟩) hX.1 rfl rfl rfl rfl hl.1 (Nat.le_of_ble_eq_true rfl) dX7_readOrder_120 ⟨Nat.zero_le _, Nat.zero_le _⟩ (fun z9 μ6 n7 H locs hz9 hp8 hH hS => ?_)
    obtain ⟨hzn999, hX, hfr1⟩ := hp8
    have hzr999 : 0 ≤ z9 ∧ z9 ≤ 1 := by rw [hzn999]; split <;> omega
    have hfr : ∀ q, (q < tx ∨ tx + 2 ≤ q) → μ6 q = μ q := fun q hq => (hfr1 q hq).trans (hfr q hq)
    subst hQ
    refine m_zret hx hb hr hlocks hH hS dX7_readOrder_123 ?_ (by omega)
    unfold ordF
    rw [if_neg (by omega), if_neg (by omega), if_neg (by omega), if_pos (by omega)]
    exact ⟨_, _, hzn999, hX, fun _ => ⟨fun _ => rfl, fun h9 => by omega⟩, hfr⟩
  by_cases k5_1 : (nxt cs L a) = 97
  · skip
    refine j_lookup (tgt := 79) (off := 67) hx hb dX7_readOrder_12 (by rw [k5_1]; rfl) (by decide) ?_ (by decide) (by omega)
    refine lv_aload_n hx hb dX7_readOrder_79 rfl (lv_at hl 0 rfl) ?_
    refine lv_dup hx hb dX7_readOrder_80 rfl ?_
    refine m_get (C := RX7) (T := TX7) (N := 8) (ci := 6) hx hb hts i_X7 hown hK hH hX.1 rfl 7 (by decide) f_2 rfl dX7_readOrder_81 ?_
    refine j_const hx hb dX7_readOrder_84 ?_
    refine j_iadd hx hb dX7_readOrder_85 ?_
    refine m_put (C := RX7) (T := TX7) (N := 8) (ci := 6) hx hb hts i_X7 tyX7 tyX7_ok nmX7 hown hK hH hS hX.1 rfl 7 (by decide) f_2 rfl rfl rfl (Nat.le_of_ble_eq_true rfl) dX7_readOrder_86 (fun H locs hH hS => ?_)
    have hX := hX.tx L o d (nxt cs L a) nu ti (a + 1)
    have hfr : ∀ q, (q < tx ∨ tx + 2 ≤ q) → (hu (hu μ tx (.inr (6, [.ref (tx + 1), .int (iv L), .int (iv o), .int (iv d), .int (iv (nxt cs L a)), .int (iv nu), .int (iv ti), .int (iv a)]))) tx (.inr (6, [.ref (tx + 1), .int (iv L), .int (iv o), .int (iv d), .int (iv (nxt cs L a)), .int (iv nu), .int (iv ti), .int (iv (a + 1))]))) q = μ q := fun q hq => (hu_n (by omega)).trans (hfr q hq)
    have hH : gP G (hu (hu μ tx (.inr (6, [.ref (tx + 1), .int (iv L), .int (iv o), .int (iv d), .int (iv (nxt cs L a)), .int (iv nu), .int (iv ti), .int (iv a)]))) tx (.inr (6, [.ref (tx + 1), .int (iv L), .int (iv o), .int (iv d), .int (iv (nxt cs L a)), .int (iv nu), .int (iv ti), .int (iv (a + 1))]))) n H := hH
    refine j_const hx hb dX7_readOrder_89 ?_
    subst hQ
    refine m_zret hx hb hr hlocks hH hS dX7_readOrder_90 ?_ (by omega)
    unfold ordF
    rw [if_neg (by omega), if_pos (by omega)]
    exact ⟨_, _, rfl, hX, fun _ => ⟨fun h9 => by omega, fun h9 => by omega⟩, hfr⟩
  by_cases k5_2 : (nxt cs L a) = 100
  · skip
    refine j_lookup (tgt := 64) (off := 52) hx hb dX7_readOrder_12 (by rw [k5_2]; rfl) (by decide) ?_ (by decide) (by omega)
    refine lv_aload_n hx hb dX7_readOrder_64 rfl (lv_at hl 0 rfl) ?_
    refine lv_dup hx hb dX7_readOrder_65 rfl ?_
    refine m_get (C := RX7) (T := TX7) (N := 8) (ci := 6) hx hb hts i_X7 hown hK hH hX.1 rfl 7 (by decide) f_2 rfl dX7_readOrder_66 ?_
    refine j_const hx hb dX7_readOrder_69 ?_
    refine j_iadd hx hb dX7_readOrder_70 ?_
    refine m_put (C := RX7) (T := TX7) (N := 8) (ci := 6) hx hb hts i_X7 tyX7 tyX7_ok nmX7 hown hK hH hS hX.1 rfl 7 (by decide) f_2 rfl rfl rfl (Nat.le_of_ble_eq_true rfl) dX7_readOrder_71 (fun H locs hH hS => ?_)
    have hX := hX.tx L o d (nxt cs L a) nu ti (a + 1)
    have hfr : ∀ q, (q < tx ∨ tx + 2 ≤ q) → (hu (hu μ tx (.inr (6, [.ref (tx + 1), .int (iv L), .int (iv o), .int (iv d), .int (iv (nxt cs L a)), .int (iv nu), .int (iv ti), .int (iv a)]))) tx (.inr (6, [.ref (tx + 1), .int (iv L), .int (iv o), .int (iv d), .int (iv (nxt cs L a)), .int (iv nu), .int (iv ti), .int (iv (a + 1))]))) q = μ q := fun q hq => (hu_n (by omega)).trans (hfr q hq)
    have hH : gP G (hu (hu μ tx (.inr (6, [.ref (tx + 1), .int (iv L), .int (iv o), .int (iv d), .int (iv (nxt cs L a)), .int (iv nu), .int (iv ti), .int (iv a)]))) tx (.inr (6, [.ref (tx + 1), .int (iv L), .int (iv o), .int (iv d), .int (iv (nxt cs L a)), .int (iv nu), .int (iv ti), .int (iv (a + 1))]))) n H := hH
    refine lv_aload_n hx hb dX7_readOrder_74 rfl (lv_at hl 0 rfl) ?_
    have hrd := rdat_rng (c := cs) (L := L) 6 1 0 (a + 1) (by omega)
    refine m_callVi (As := []) (rest := []) ⟨hx, hb, hml, hown, hts⟩ hK hH hS (c_X7_readDate l G (hu (hu μ tx (.inr (6, [.ref (tx + 1), .int (iv L), .int (iv o), .int (iv d), .int (iv (nxt cs L a)), .int (iv nu), .int (iv ti), .int (iv a)]))) tx (.inr (6, [.ref (tx + 1), .int (iv L), .int (iv o), .int (iv d), .int (iv (nxt cs L a)), .int (iv nu), .int (iv ti), .int (iv (a + 1))]))) n tx cs L o d (nxt cs L a) nu ti (a + 1) hX hOC (by omega)) (cwV 0 hts gX7_readOrder_X7_readDate rfl rfl rfl (by decide +kernel) ⟨(Nat.le_of_ble_eq_true rfl), (Nat.le_of_ble_eq_true rfl)⟩) hX.1 rfl rfl rfl rfl hl.1 (Nat.le_of_ble_eq_true rfl) dX7_readOrder_75 ⟨Nat.zero_le _, Nat.zero_le _⟩ (fun z13 μ10 n11 H locs hz13 hp12 hH hS => ?_)
    obtain ⟨hzd, hX, hfr1⟩ := hp12
    have hfr : ∀ q, (q < tx ∨ tx + 2 ≤ q) → μ10 q = μ q := fun q hq => (hfr1 q hq).trans (hfr q hq)
    subst hQ
    refine m_zret hx hb hr hlocks hH hS dX7_readOrder_78 ?_ (by omega)
    unfold ordF
    rw [if_pos (by omega)]
    exact ⟨_, _, hzd, hX, fun _ => ⟨fun _ => rfl, fun h9 => by omega⟩, hfr⟩
  by_cases k5_3 : (nxt cs L a) = 105
  · skip
    refine j_lookup (tgt := 124) (off := 112) hx hb dX7_readOrder_12 (by rw [k5_3]; rfl) (by decide) ?_ (by decide) (by omega)
    refine lv_aload_n hx hb dX7_readOrder_124 rfl (lv_at hl 0 rfl) ?_
    refine lv_dup hx hb dX7_readOrder_125 rfl ?_
    refine m_get (C := RX7) (T := TX7) (N := 8) (ci := 6) hx hb hts i_X7 hown hK hH hX.1 rfl 7 (by decide) f_2 rfl dX7_readOrder_126 ?_
    refine j_const hx hb dX7_readOrder_129 ?_
    refine j_iadd hx hb dX7_readOrder_130 ?_
    refine m_put (C := RX7) (T := TX7) (N := 8) (ci := 6) hx hb hts i_X7 tyX7 tyX7_ok nmX7 hown hK hH hS hX.1 rfl 7 (by decide) f_2 rfl rfl rfl (Nat.le_of_ble_eq_true rfl) dX7_readOrder_131 (fun H locs hH hS => ?_)
    have hX := hX.tx L o d (nxt cs L a) nu ti (a + 1)
    have hfr : ∀ q, (q < tx ∨ tx + 2 ≤ q) → (hu (hu μ tx (.inr (6, [.ref (tx + 1), .int (iv L), .int (iv o), .int (iv d), .int (iv (nxt cs L a)), .int (iv nu), .int (iv ti), .int (iv a)]))) tx (.inr (6, [.ref (tx + 1), .int (iv L), .int (iv o), .int (iv d), .int (iv (nxt cs L a)), .int (iv nu), .int (iv ti), .int (iv (a + 1))]))) q = μ q := fun q hq => (hu_n (by omega)).trans (hfr q hq)
    have hH : gP G (hu (hu μ tx (.inr (6, [.ref (tx + 1), .int (iv L), .int (iv o), .int (iv d), .int (iv (nxt cs L a)), .int (iv nu), .int (iv ti), .int (iv a)]))) tx (.inr (6, [.ref (tx + 1), .int (iv L), .int (iv o), .int (iv d), .int (iv (nxt cs L a)), .int (iv nu), .int (iv ti), .int (iv (a + 1))]))) n H := hH
    refine lv_aload_n hx hb dX7_readOrder_134 rfl (lv_at hl 0 rfl) ?_
    refine j_sipush hx hb dX7_readOrder_135 ?_ (by decide)
    have hrn200 := rnum_rng (c := cs) (L := L) (mx := 200) 60 0 (a + 1) (by omega) (by omega) (by omega)
    refine m_callVi (As := [.int (iv 200)]) (rest := []) ⟨hx, hb, hml, hown, hts⟩ hK hH hS (c_X7_readNumber l G (hu (hu μ tx (.inr (6, [.ref (tx + 1), .int (iv L), .int (iv o), .int (iv d), .int (iv (nxt cs L a)), .int (iv nu), .int (iv ti), .int (iv a)]))) tx (.inr (6, [.ref (tx + 1), .int (iv L), .int (iv o), .int (iv d), .int (iv (nxt cs L a)), .int (iv nu), .int (iv ti), .int (iv (a + 1))]))) n tx cs L o d (nxt cs L a) nu ti (a + 1) 200 hX hOC (by omega) (by omega)) (cwV 1 hts gX7_readOrder_X7_readNumber rfl rfl rfl (by decide +kernel) ⟨(Nat.le_of_ble_eq_true rfl), (Nat.le_of_ble_eq_true rfl)⟩) hX.1 rfl rfl rfl rfl hl.1 (Nat.le_of_ble_eq_true rfl) dX7_readOrder_138 ⟨Nat.zero_le _, Nat.zero_le _⟩ (fun z17 μ14 n15 H locs hz17 hp16 hH hS => ?_)
    obtain ⟨hzn200, hX, hfr1⟩ := hp16
    have hzr200 : 0 ≤ z17 ∧ z17 ≤ 1 := by rw [hzn200]; split <;> omega
    have hfr : ∀ q, (q < tx ∨ tx + 2 ≤ q) → μ14 q = μ q := fun q hq => (hfr1 q hq).trans (hfr q hq)
    subst hQ
    refine m_zret hx hb hr hlocks hH hS dX7_readOrder_141 ?_ (by omega)
    unfold ordF
    rw [if_neg (by omega), if_neg (by omega), if_neg (by omega), if_neg (by omega), if_pos (by omega)]
    exact ⟨_, _, hzn200, hX, fun _ => ⟨fun _ => rfl, fun h9 => by omega⟩, hfr⟩
  by_cases k5_4 : (nxt cs L a) = 112
  · skip
    refine j_lookup (tgt := 91) (off := 79) hx hb dX7_readOrder_12 (by rw [k5_4]; rfl) (by decide) ?_ (by decide) (by omega)
    refine lv_aload_n hx hb dX7_readOrder_91 rfl (lv_at hl 0 rfl) ?_
    refine lv_dup hx hb dX7_readOrder_92 rfl ?_
    refine m_get (C := RX7) (T := TX7) (N := 8) (ci := 6) hx hb hts i_X7 hown hK hH hX.1 rfl 7 (by decide) f_2 rfl dX7_readOrder_93 ?_
    refine j_const hx hb dX7_readOrder_96 ?_
    refine j_iadd hx hb dX7_readOrder_97 ?_
    refine m_put (C := RX7) (T := TX7) (N := 8) (ci := 6) hx hb hts i_X7 tyX7 tyX7_ok nmX7 hown hK hH hS hX.1 rfl 7 (by decide) f_2 rfl rfl rfl (Nat.le_of_ble_eq_true rfl) dX7_readOrder_98 (fun H locs hH hS => ?_)
    have hX := hX.tx L o d (nxt cs L a) nu ti (a + 1)
    have hfr : ∀ q, (q < tx ∨ tx + 2 ≤ q) → (hu (hu μ tx (.inr (6, [.ref (tx + 1), .int (iv L), .int (iv o), .int (iv d), .int (iv (nxt cs L a)), .int (iv nu), .int (iv ti), .int (iv a)]))) tx (.inr (6, [.ref (tx + 1), .int (iv L), .int (iv o), .int (iv d), .int (iv (nxt cs L a)), .int (iv nu), .int (iv ti), .int (iv (a + 1))]))) q = μ q := fun q hq => (hu_n (by omega)).trans (hfr q hq)
    have hH : gP G (hu (hu μ tx (.inr (6, [.ref (tx + 1), .int (iv L), .int (iv o), .int (iv d), .int (iv (nxt cs L a)), .int (iv nu), .int (iv ti), .int (iv a)]))) tx (.inr (6, [.ref (tx + 1), .int (iv L), .int (iv o), .int (iv d), .int (iv (nxt cs L a)), .int (iv nu), .int (iv ti), .int (iv (a + 1))]))) n H := hH
    refine lv_aload_n hx hb dX7_readOrder_101 rfl (lv_at hl 0 rfl) ?_
    refine m_callVi (As := []) (rest := []) ⟨hx, hb, hml, hown, hts⟩ hK hH hS (c_X7_readPress l G (hu (hu μ tx (.inr (6, [.ref (tx + 1), .int (iv L), .int (iv o), .int (iv d), .int (iv (nxt cs L a)), .int (iv nu), .int (iv ti), .int (iv a)]))) tx (.inr (6, [.ref (tx + 1), .int (iv L), .int (iv o), .int (iv d), .int (iv (nxt cs L a)), .int (iv nu), .int (iv ti), .int (iv (a + 1))]))) n tx cs L o d (nxt cs L a) nu ti (a + 1) hX hOC (by omega)) (cwV 0 hts gX7_readOrder_X7_readPress rfl rfl rfl (by decide +kernel) ⟨(Nat.le_of_ble_eq_true rfl), (Nat.le_of_ble_eq_true rfl)⟩) hX.1 rfl rfl rfl rfl hl.1 (Nat.le_of_ble_eq_true rfl) dX7_readOrder_102 ⟨Nat.zero_le _, Nat.zero_le _⟩ (fun z21 μ18 n19 H locs hz21 hp20 hH hS => ?_)
    obtain ⟨nu1, ti1, hz3, hX, hnt, hfr1⟩ := hp20
    have hfr : ∀ q, (q < tx ∨ tx + 2 ≤ q) → μ18 q = μ q := fun q hq => (hfr1 q hq).trans (hfr q hq)
    have hz31 : 0 ≤ z21 ∧ z21 ≤ 1 := by rw [hz3]; split; split; split <;> omega; omega; omega
    subst hQ
    refine m_zret hx hb hr hlocks hH hS dX7_readOrder_105 ?_ (by omega)
    unfold ordF
    rw [if_neg (by omega), if_neg (by omega), if_pos (by omega)]
    refine ⟨nu1, ti1, ?_, ?_, ?_, hfr⟩
    · rw [hz3]; split; split; split <;> rfl; rfl; rfl
    · by_cases q1 : 0 < (rnum cs L 9 60 0 (a + 1)).1
      · rw [if_pos q1] at hX ⊢
        by_cases q2 : nxt cs L (rnum cs L 9 60 0 (a + 1)).2 = 120
        · rw [if_pos q2] at hX ⊢; exact hX
        · rw [if_neg q2] at hX ⊢; exact hX
      · rw [if_neg q1] at hX ⊢; exact hX
    · intro h9
      have h8 := hnt h9
      have q1 : 0 < (rnum cs L 9 60 0 (a + 1)).1 := by
        refine Decidable.byContradiction (fun q => ?_)
        rw [if_neg q] at hz3
        omega
      rw [if_pos q1]
      by_cases q2 : nxt cs L (rnum cs L 9 60 0 (a + 1)).2 = 120
      · rw [if_pos q2] at h8 ⊢; exact ⟨fun _ => h8.1, fun _ => h8.2⟩
      · rw [if_neg q2] at h8 ⊢; exact ⟨fun _ => h8.1, fun _ => h8.2⟩
  refine j_lookup (tgt := 142) (off := 130) hx hb dX7_readOrder_12 (by simp [Op.lookupswitch.offset, k5_0, Ne.symm k5_0, k5_1, Ne.symm k5_1, k5_2, Ne.symm k5_2, k5_3, Ne.symm k5_3, k5_4, Ne.symm k5_4]) (by decide) ?_ (by decide) (by omega)
  refine j_const hx hb dX7_readOrder_142 ?_
  subst hQ
  refine m_zret hx hb hr hlocks hH hS dX7_readOrder_143 ?_ (by omega)
  unfold ordF
  rw [if_neg (by omega), if_neg (by omega), if_neg (by omega), if_neg (by omega), if_neg (by omega)]
  exact ⟨_, _, rfl, hX, fun h9 => by omega, hfr⟩
