theorem ordF_num {c : Nat → Int} {L a : Int} (ha : 0 ≤ a ∧ a ≤ L) (h : nxt c L a = 43) : 0 ≤ (ordF c L a).2.2.1 ∧ (ordF c L a).2.2.1 ≤ 999 := by
  have hin := nxt_in (c := c) (L := L) (a := a) (by omega)
  have hr := rnum_rng (c := c) (L := L) (mx := 999) 60 0 (a + 1) (by omega) (by omega) (by omega)
  unfold ordF
  rw [if_neg (by omega), if_neg (by omega), if_neg (by omega), if_pos (by omega)]
  exact ⟨hr.1, hr.2.1⟩
theorem plus_rng {c : Nat → Int} {L a : Int} (ha : 0 ≤ a ∧ a ≤ L) : 0 ≤ (if nxt c L a = 43 then (ordF c L a).2.2.1 else 0) ∧ (if nxt c L a = 43 then (ordF c L a).2.2.1 else 0) ≤ 999 := by
  split
  · exact ordF_num ha (by assumption)
  · omega
theorem fltF_0 {c : Nat → Int} {L a o d : Int} {f : Nat} (h : (ordF c L a).1 = 0) : fltF c L (f + 1) a o d = ((ordF c L a).2.1, o, d) := if_pos h
theorem fltF_e {c : Nat → Int} {L a o d : Int} {f : Nat} (h : ¬ (ordF c L a).1 = 0) (h2 : L ≤ (ordF c L a).2.1) : fltF c L (f + 1) a o d = (-5, o + 1, d + (if nxt c L a = 43 then (ordF c L a).2.2.1 else 0)) := (if_neg h).trans (if_pos h2)
theorem fltF_s {c : Nat → Int} {L a o d : Int} {f : Nat} (h : ¬ (ordF c L a).1 = 0) (h2 : ¬ L ≤ (ordF c L a).2.1) (h3 : nxt c L (ordF c L a).2.1 = 59) : fltF c L (f + 1) a o d = fltF c L f ((ordF c L a).2.1 + 1) (o + 1) (d + (if nxt c L a = 43 then (ordF c L a).2.2.1 else 0)) := (if_neg h).trans ((if_neg h2).trans (if_pos h3))
theorem fltF_n {c : Nat → Int} {L a o d : Int} {f : Nat} (h : ¬ (ordF c L a).1 = 0) (h2 : ¬ L ≤ (ordF c L a).2.1) (h3 : ¬ nxt c L (ordF c L a).2.1 = 59) : fltF c L (f + 1) a o d = ((ordF c L a).2.1, o + 1, d + (if nxt c L a = 43 then (ordF c L a).2.2.1 else 0)) := (if_neg h).trans ((if_neg h2).trans (if_neg h3))
theorem fltF_rng {c : Nat → Int} {L : Int} : ∀ (f : Nat) (a o d : Int), 0 ≤ a ∧ a ≤ L → 0 ≤ o → 0 ≤ d → ((fltF c L f a o d).1 = -5 ∨ (0 ≤ (fltF c L f a o d).1 ∧ (fltF c L f a o d).1 ≤ L)) ∧ o ≤ (fltF c L f a o d).2.1 ∧ (fltF c L f a o d).2.1 ≤ o + f ∧ d ≤ (fltF c L f a o d).2.2 ∧ (fltF c L f a o d).2.2 ≤ d + 999 * f := by
  intro f
  induction f with
  | zero => intro a o d h1 h2 h3; simp [fltF]; omega
  | succ f ih =>
    intro a o d h1 h2 h3
    have ho := ordF_rng (c := c) (L := L) h1
    have hp := plus_rng (c := c) (L := L) h1
    by_cases c1 : (ordF c L a).1 = 0
    · rw [fltF_0 c1]; dsimp only; omega
    · by_cases c2 : L ≤ (ordF c L a).2.1
      · rw [fltF_e c1 c2]; dsimp only; omega
      · by_cases c3 : nxt c L (ordF c L a).2.1 = 59
        · rw [fltF_s c1 c2 c3]
          have := ih ((ordF c L a).2.1 + 1) (o + 1) (d + (if nxt c L a = 43 then (ordF c L a).2.2.1 else 0)) (by omega) (by omega) (by omega)
          omega
        · rw [fltF_n c1 c2 c3]; dsimp only; omega
abbrev rm_c_X7_findFault : Room := { frames := 5, cells := 0, slots := 0, locals := 107 }
set_option maxHeartbeats 4000000 in
set_option maxRecDepth 100000 in
theorem c_X7_findFault (l : Launch) (G : wG) (μ : hM) (n : Nat) (tx : Nat) (cs : Nat → Int) (L o d ki nu ti a : Int) (hX : IsText G μ tx cs L o d ki nu ti a) (hOC : OkC cs L) : Met l yX7_findFault wsX7_findFault rm_c_X7_findFault (mPc G μ n [.ref tx]) (mQi G (fun z μ1 n1 => z = (fltF cs L 61 0 0 0).1 ∧ (∃ ki1 nu1 ti1 a1 : Int, IsText G μ1 tx cs L (fltF cs L 61 0 0 0).2.1 (fltF cs L 61 0 0 0).2.2 ki1 nu1 ti1 a1) ∧ (∀ q, (q < tx ∨ tx + 2 ≤ q) → μ1 q = μ q))) 0 0 (gA G) := by
  refine Met.ofW (cc := cX7_findFault) (maxL := 2) (ret := (some .int)) (by decide) rfl ?_
  intro p e s m args below meth c s₁ B hml hv
  obtain ⟨hav, hK, hH⟩ := hv
  have hx := B.exec
  have hb := B.bytes
  have hr := B.returns
  have hts := atoms_spec (ws := wsX7_findFault) B.pre
  have hown : s.vm.findClass RX7 = some m.cls := findClass_of_methodNamed B.named
  have hlocks := B.notSynchronized
  have hS : va_S (gA G) s.heap s.heap [] := va_S.rf
  have hl := lv_entry ([.ref tx]) (n := 2) (Nat.le_of_ble_eq_true rfl)
  have hfr : entryFrame m args 2 = entryFrame m ([.ref tx] : List Value).toArray 2 := by rw [hav]
  rw [hfr, lg_entry_eq]
  generalize (lg_sl ([.ref tx]) ++ List.replicate (2 - (lg_sl ([.ref tx])).length) Slot.unset).toArray = ls at hl ⊢
  have hl : lv_has ls 2 [(0, .ref tx)] := hl
  generalize hQ : MQ below _ args s 0 0 (gA G) = Q
  show W p l e rm_c_X7_findFault s m args below meth c s.heap [] 0 0 Q (F0 m 0 ls [])
  obtain ⟨H, hHe⟩ : ∃ H, H = s.heap := ⟨_, rfl⟩
  obtain ⟨locs, hlo⟩ : ∃ q : List Loc, q = [] := ⟨_, rfl⟩
  have hH : gP G μ n H := by rw [hHe]; exact hH
  have hS : va_S (gA G) s.heap H locs := by rw [hHe, hlo]; exact hS
  suffices hgo : W p l e rm_c_X7_findFault s m args below meth c H locs 0 0 Q (F0 m 0 ls []) by rw [hHe, hlo] at hgo; exact hgo
  clear hHe hlo hfr hav
  have f_0 := hts (.fieldLink RX7 25 "StampDater$Text" "orders" "I") (List.mem_of_getElem? (i := 1) rfl)
  have i_X7 : ∀ w ∈ u_ws RX7 TX7 8, w ∈ wsX7_findFault := by decide +kernel
  have f_2 := hts (.fieldLink RX7 28 "StampDater$Text" "days" "I") (List.mem_of_getElem? (i := 2) rfl)
  have f_3 := hts (.fieldLink RX7 15 "StampDater$Text" "length" "I") (List.mem_of_getElem? (i := 3) rfl)
  have f_4 := hts (.fieldLink RX7 19 "StampDater$Text" "at" "I") (List.mem_of_getElem? (i := 4) rfl)
  have f_5 := hts (.fieldLink RX7 35 "StampDater$Text" "kind" "I") (List.mem_of_getElem? (i := 5) rfl)
  have f_6 := hts (.fieldLink RX7 38 "StampDater$Text" "number" "I") (List.mem_of_getElem? (i := 6) rfl)
  have hL60 := hOC.1
  have hfr : ∀ q, (q < tx ∨ tx + 2 ≤ q) → μ q = μ q := fun q _ => rfl
  refine lv_aload_n hx hb dX7_findFault_0 rfl (lv_at hl 0 rfl) ?_
  refine m_callVv (As := []) (rest := []) ⟨hx, hb, hml, hown, hts⟩ hK hH hS (c_X7_begin l G μ n tx cs L o d ki nu ti a hX) (cwV 0 hts gX7_findFault_X7_begin rfl rfl rfl (by decide +kernel) ⟨(Nat.le_of_ble_eq_true rfl), (Nat.le_of_ble_eq_true rfl)⟩) hX.1 rfl rfl rfl rfl hl.1 (Nat.le_of_ble_eq_true rfl) dX7_findFault_1 ⟨Nat.zero_le _, Nat.zero_le _⟩ (fun μ1 n2 H locs hp3 hH hS => ?_)
  obtain ⟨hX, hfr1⟩ := hp3
  have hfr : ∀ q, (q < tx ∨ tx + 2 ≤ q) → μ1 q = μ q := fun q hq => (hfr1 q hq).trans (hfr q hq)
  refine lv_aload_n hx hb dX7_findFault_4 rfl (lv_at hl 0 rfl) ?_
  refine j_const hx hb dX7_findFault_5 ?_
  refine m_put (C := RX7) (T := TX7) (N := 8) (ci := 6) hx hb hts i_X7 tyX7 tyX7_ok nmX7 hown hK hH hS hX.1 rfl 2 (by decide) f_0 rfl rfl rfl (Nat.le_of_ble_eq_true rfl) dX7_findFault_6 (fun H locs hH hS => ?_)
  have hX := hX.tx L 0 d ki nu ti 0
  have hfr : ∀ q, (q < tx ∨ tx + 2 ≤ q) → (hu μ1 tx (.inr (6, [.ref (tx + 1), .int (iv L), .int (iv 0), .int (iv d), .int (iv ki), .int (iv nu), .int (iv ti), .int (iv 0)]))) q = μ q := fun q hq => (hu_n (by omega)).trans (hfr q hq)
  have hH : gP G (hu μ1 tx (.inr (6, [.ref (tx + 1), .int (iv L), .int (iv 0), .int (iv d), .int (iv ki), .int (iv nu), .int (iv ti), .int (iv 0)]))) n2 H := hH
  refine lv_aload_n hx hb dX7_findFault_9 rfl (lv_at hl 0 rfl) ?_
  refine j_const hx hb dX7_findFault_10 ?_
  refine m_put (C := RX7) (T := TX7) (N := 8) (ci := 6) hx hb hts i_X7 tyX7 tyX7_ok nmX7 hown hK hH hS hX.1 rfl 3 (by decide) f_2 rfl rfl rfl (Nat.le_of_ble_eq_true rfl) dX7_findFault_11 (fun H locs hH hS => ?_)
  have hX := hX.tx L 0 0 ki nu ti 0
  have hfr : ∀ q, (q < tx ∨ tx + 2 ≤ q) → (hu (hu μ1 tx (.inr (6, [.ref (tx + 1), .int (iv L), .int (iv 0), .int (iv d), .int (iv ki), .int (iv nu), .int (iv ti), .int (iv 0)]))) tx (.inr (6, [.ref (tx + 1), .int (iv L), .int (iv 0), .int (iv 0), .int (iv ki), .int (iv nu), .int (iv ti), .int (iv 0)]))) q = μ q := fun q hq => (hu_n (by omega)).trans (hfr q hq)
  have hH : gP G (hu (hu μ1 tx (.inr (6, [.ref (tx + 1), .int (iv L), .int (iv 0), .int (iv d), .int (iv ki), .int (iv nu), .int (iv ti), .int (iv 0)]))) tx (.inr (6, [.ref (tx + 1), .int (iv L), .int (iv 0), .int (iv 0), .int (iv ki), .int (iv nu), .int (iv ti), .int (iv 0)]))) n2 H := hH
  refine j_const hx hb dX7_findFault_14 ?_
  refine lv_istore_n (lv' := [(1, .int (iv 0)), (0, .ref tx)]) hx hb dX7_findFault_15 rfl hl (by decide) rfl (fun ls hl => ?_)
  have lp16 : ∀ (fuel : Nat) (i : Int) (o2 : Int) (d2 : Int) (ki2 : Int) (nu2 : Int) (ti2 : Int) (b : Int) (ν : hM) (ν0 : Nat) (hi : 0 ≤ i ∧ 2 * i ≤ b) (hb0 : 0 ≤ b ∧ b ≤ L) (ho2 : o2 = i) (hd2 : 0 ≤ d2 ∧ d2 ≤ 999 * i) (hX : IsText G ν tx cs L o2 d2 ki2 nu2 ti2 b) (hfr : ∀ q, (q < tx ∨ tx + 2 ≤ q) → ν q = μ q) (he : fltF cs L 61 0 0 0 = fltF cs L (61 - i).toNat b o2 d2) (_ : (61 - i).toNat < fuel) (H : Heap) (locs : List Loc) (ls : Array Slot) (_ : gP G ν ν0 H) (_ : va_S (gA G) s.heap H locs) (_ : lv_has ls 2 [(0, .ref tx), (1, .int (iv i))]), W p l e rm_c_X7_findFault s m args below meth c H locs 0 0 Q (F0 m 16 ls []) := by
    intro fuel
    induction fuel with
    | zero => intro _ _ _ _ _ _ _ _ _ _ _ _ _ _ _ _ hfuel; exact absurd hfuel (Nat.not_lt_zero _)
    | succ fuel ih =>
      intro i o2 d2 ki2 nu2 ti2 b ν ν0 hi hb0 ho2 hd2 hX hfr he hfuel H locs ls hH hS hl
      have ih4 := ih; clear ih
      refine lv_iload_n hx hb dX7_findFault_16 rfl (lv_at hl 1 rfl) ?_
      refine lv_aload_n hx hb dX7_findFault_17 rfl (lv_at hl 0 rfl) ?_
      refine m_get (C := RX7) (T := TX7) (N := 8) (ci := 6) hx hb hts i_X7 hown hK hH hX.1 rfl 1 (by decide) f_3 rfl dX7_findFault_18 ?_
      refine j_icmp_gt (tgt := 104) hx hb dX7_findFault_21 (by decide) (fun c5 => ?_) (fun c5 => ?_) (by omega) (by omega)
      · skip
        refine lv_aload_n hx hb dX7_findFault_104 rfl (lv_at hl 0 rfl) ?_
        refine m_get (C := RX7) (T := TX7) (N := 8) (ci := 6) hx hb hts i_X7 hown hK hH hX.1 rfl 7 (by decide) f_4 rfl dX7_findFault_105 ?_
        subst hQ
        refine m_iret hx hb hr hlocks hH hS dX7_findFault_108 ?_ (by omega)
        exfalso; omega
      · skip
        refine lv_aload_n hx hb dX7_findFault_24 rfl (lv_at hl 0 rfl) ?_
        have hof := ordF_rng (c := cs) (L := L) (a := b) (by omega)
        have hpl := plus_rng (c := cs) (L := L) (a := b) (by omega)
        refine m_callVi (As := []) (rest := []) ⟨hx, hb, hml, hown, hts⟩ hK hH hS (c_X7_readOrder l G ν ν0 tx cs L o2 d2 ki2 nu2 ti2 b hX hOC (by omega)) (cwV 0 hts gX7_findFault_X7_readOrder rfl rfl rfl (by decide +kernel) ⟨(Nat.le_of_ble_eq_true rfl), (Nat.le_of_ble_eq_true rfl)⟩) hX.1 rfl rfl rfl rfl hl.1 (Nat.le_of_ble_eq_true rfl) dX7_findFault_25 ⟨Nat.zero_le _, Nat.zero_le _⟩ (fun z9 μ6 n7 H locs hz9 hp8 hH hS => ?_)
        obtain ⟨nu1, ti1, hzo, hX, hnt, hfr1⟩ := hp8
        have hfr : ∀ q, (q < tx ∨ tx + 2 ≤ q) → μ6 q = μ q := fun q hq => (hfr1 q hq).trans (hfr q hq)
        have hzr : 0 ≤ z9 ∧ z9 ≤ 1 := by omega
        refine j_if_ne (tgt := 36) hx hb dX7_findFault_28 (by decide) (fun c10 => ?_) (fun c10 => ?_) (by omega)
        · skip
          have hz1 : ¬ (ordF cs L b).1 = 0 := by omega
          have hnu1 : nxt cs L b = 43 → nu1 = (ordF cs L b).2.2.1 := fun h => (hnt (by omega)).1 (by omega)
          have hnr := nxt_rng hOC b
          refine lv_aload_n hx hb dX7_findFault_36 rfl (lv_at hl 0 rfl) ?_
          refine lv_dup hx hb dX7_findFault_37 rfl ?_
          refine m_get (C := RX7) (T := TX7) (N := 8) (ci := 6) hx hb hts i_X7 hown hK hH hX.1 rfl 2 (by decide) f_0 rfl dX7_findFault_38 ?_
          refine j_const hx hb dX7_findFault_41 ?_
          refine j_iadd hx hb dX7_findFault_42 ?_
          refine m_put (C := RX7) (T := TX7) (N := 8) (ci := 6) hx hb hts i_X7 tyX7 tyX7_ok nmX7 hown hK hH hS hX.1 rfl 2 (by decide) f_0 rfl rfl rfl (Nat.le_of_ble_eq_true rfl) dX7_findFault_43 (fun H locs hH hS => ?_)
          have hX := hX.tx L (o2 + 1) d2 (nxt cs L b) nu1 ti1 ((ordF cs L b).2.1)
          have hfr : ∀ q, (q < tx ∨ tx + 2 ≤ q) → (hu μ6 tx (.inr (6, [.ref (tx + 1), .int (iv L), .int (iv (o2 + 1)), .int (iv d2), .int (iv (nxt cs L b)), .int (iv nu1), .int (iv ti1), .int (iv (ordF cs L b).2.1)]))) q = μ q := fun q hq => (hu_n (by omega)).trans (hfr q hq)
          have hH : gP G (hu μ6 tx (.inr (6, [.ref (tx + 1), .int (iv L), .int (iv (o2 + 1)), .int (iv d2), .int (iv (nxt cs L b)), .int (iv nu1), .int (iv ti1), .int (iv (ordF cs L b).2.1)]))) n7 H := hH
          refine lv_aload_n hx hb dX7_findFault_46 rfl (lv_at hl 0 rfl) ?_
          refine lv_dup hx hb dX7_findFault_47 rfl ?_
          refine m_get (C := RX7) (T := TX7) (N := 8) (ci := 6) hx hb hts i_X7 hown hK hH hX.1 rfl 3 (by decide) f_2 rfl dX7_findFault_48 ?_
          refine lv_aload_n hx hb dX7_findFault_51 rfl (lv_at hl 0 rfl) ?_
          refine m_get (C := RX7) (T := TX7) (N := 8) (ci := 6) hx hb hts i_X7 hown hK hH hX.1 rfl 4 (by decide) f_5 rfl dX7_findFault_52 ?_
          refine j_bipush hx hb dX7_findFault_55 ?_ (by decide)
          refine j_icmp_ne (tgt := 67) hx hb dX7_findFault_57 (by decide) (fun c11 => ?_) (fun c11 => ?_) (by omega) (by omega)
          · skip
            refine j_const hx hb dX7_findFault_67 ?_
            have hPL : 0 = (if nxt cs L b = 43 then (ordF cs L b).2.2.1 else 0) := by
              by_cases q : nxt cs L b = 43
              · omega
              · rw [if_neg q]
            refine j_iadd hx hb dX7_findFault_68 ?_
            refine m_put (C := RX7) (T := TX7) (N := 8) (ci := 6) hx hb hts i_X7 tyX7 tyX7_ok nmX7 hown hK hH hS hX.1 rfl 3 (by decide) f_2 rfl rfl rfl (Nat.le_of_ble_eq_true rfl) dX7_findFault_69 (fun H locs hH hS => ?_)
            have hX := hX.tx L (o2 + 1) (d2 + 0) (nxt cs L b) nu1 ti1 ((ordF cs L b).2.1)
            have hfr : ∀ q, (q < tx ∨ tx + 2 ≤ q) → (hu (hu μ6 tx (.inr (6, [.ref (tx + 1), .int (iv L), .int (iv (o2 + 1)), .int (iv d2), .int (iv (nxt cs L b)), .int (iv nu1), .int (iv ti1), .int (iv (ordF cs L b).2.1)]))) tx (.inr (6, [.ref (tx + 1), .int (iv L), .int (iv (o2 + 1)), .int (iv (d2 + 0)), .int (iv (nxt cs L b)), .int (iv nu1), .int (iv ti1), .int (iv (ordF cs L b).2.1)]))) q = μ q := fun q hq => (hu_n (by omega)).trans (hfr q hq)
            have hH : gP G (hu (hu μ6 tx (.inr (6, [.ref (tx + 1), .int (iv L), .int (iv (o2 + 1)), .int (iv d2), .int (iv (nxt cs L b)), .int (iv nu1), .int (iv ti1), .int (iv (ordF cs L b).2.1)]))) tx (.inr (6, [.ref (tx + 1), .int (iv L), .int (iv (o2 + 1)), .int (iv (d2 + 0)), .int (iv (nxt cs L b)), .int (iv nu1), .int (iv ti1), .int (iv (ordF cs L b).2.1)]))) n7 H := hH
            have hX : IsText G (hu (hu μ6 tx (.inr (6, [.ref (tx + 1), .int (iv L), .int (iv (o2 + 1)), .int (iv d2), .int (iv (nxt cs L b)), .int (iv nu1), .int (iv ti1), .int (iv (ordF cs L b).2.1)]))) tx (.inr (6, [.ref (tx + 1), .int (iv L), .int (iv (o2 + 1)), .int (iv (d2 + 0)), .int (iv (nxt cs L b)), .int (iv nu1), .int (iv ti1), .int (iv (ordF cs L b).2.1)]))) tx cs L (o2 + 1) (d2 + (if nxt cs L b = 43 then (ordF cs L b).2.2.1 else 0)) (nxt cs L b) nu1 ti1 ((ordF cs L b).2.1) := by
              rw [← hPL]
              exact hX
            refine lv_aload_n hx hb dX7_findFault_72 rfl (lv_at hl 0 rfl) ?_
            refine m_get (C := RX7) (T := TX7) (N := 8) (ci := 6) hx hb hts i_X7 hown hK hH hX.1 rfl 7 (by decide) f_4 rfl dX7_findFault_73 ?_
            refine lv_aload_n hx hb dX7_findFault_76 rfl (lv_at hl 0 rfl) ?_
            refine m_get (C := RX7) (T := TX7) (N := 8) (ci := 6) hx hb hts i_X7 hown hK hH hX.1 rfl 1 (by decide) f_3 rfl dX7_findFault_77 ?_
            refine j_icmp_lt (tgt := 86) hx hb dX7_findFault_80 (by decide) (fun c12 => ?_) (fun c12 => ?_) (by omega) (by omega)
            · skip
              refine lv_aload_n hx hb dX7_findFault_86 rfl (lv_at hl 0 rfl) ?_
              refine m_callVi (As := []) (rest := []) ⟨hx, hb, hml, hown, hts⟩ hK hH hS (c_X7_readMore l G (hu (hu μ6 tx (.inr (6, [.ref (tx + 1), .int (iv L), .int (iv (o2 + 1)), .int (iv d2), .int (iv (nxt cs L b)), .int (iv nu1), .int (iv ti1), .int (iv (ordF cs L b).2.1)]))) tx (.inr (6, [.ref (tx + 1), .int (iv L), .int (iv (o2 + 1)), .int (iv (d2 + 0)), .int (iv (nxt cs L b)), .int (iv nu1), .int (iv ti1), .int (iv (ordF cs L b).2.1)]))) n7 tx cs L (o2 + 1) (d2 + (if nxt cs L b = 43 then (ordF cs L b).2.2.1 else 0)) (nxt cs L b) nu1 ti1 ((ordF cs L b).2.1) hX hOC (by omega)) (cwV 0 hts gX7_findFault_X7_readMore rfl rfl rfl (by decide +kernel) ⟨(Nat.le_of_ble_eq_true rfl), (Nat.le_of_ble_eq_true rfl)⟩) hX.1 rfl rfl rfl rfl hl.1 (Nat.le_of_ble_eq_true rfl) dX7_findFault_87 ⟨Nat.zero_le _, Nat.zero_le _⟩ (fun z16 μ13 n14 H locs hz16 hp15 hH hS => ?_)
              obtain ⟨hz3, hX, hfr1⟩ := hp15
              have hfr : ∀ q, (q < tx ∨ tx + 2 ≤ q) → μ13 q = μ q := fun q hq => (hfr1 q hq).trans (hfr q hq)
              have hz31 : 0 ≤ z16 ∧ z16 ≤ 1 := by rw [hz3]; split <;> omega
              refine j_if_ne (tgt := 98) hx hb dX7_findFault_90 (by decide) (fun c17 => ?_) (fun c17 => ?_) (by omega)
              · skip
                have h59 : nxt cs L (ordF cs L b).2.1 = 59 := by split at hz3; assumption; omega
                rw [if_pos h59] at hX
                have hge : ¬ L ≤ (ordF cs L b).2.1 := by omega
                refine j_iinc (lv' := [(1, .int (iv (i + 1))), (0, .ref tx)]) hx hb dX7_findFault_98 hl (k := 1) rfl (by decide) rfl (fun ls hl => ?_)
                refine lv_goto (tgt := 16) hx hb dX7_findFault_101 (by decide) ?_
                exact ih4 (i + 1) (o2 + 1) (d2 + (if nxt cs L b = 43 then (ordF cs L b).2.2.1 else 0)) (nxt cs L b) nu1 ti1 ((ordF cs L b).2.1 + 1) μ13 n14 (by omega) (by omega) (by omega) (by omega) hX hfr (by rw [he, show (61 - i).toNat = (61 - (i + 1)).toNat + 1 by omega]; exact fltF_s hz1 hge h59) (by omega) H locs ls hH hS (lv_sub hl [1, 0] rfl)
              · skip
                refine lv_aload_n hx hb dX7_findFault_93 rfl (lv_at hl 0 rfl) ?_
                refine m_get (C := RX7) (T := TX7) (N := 8) (ci := 6) hx hb hts i_X7 hown hK hH hX.1 rfl 7 (by decide) f_4 rfl dX7_findFault_94 ?_
                subst hQ
                refine m_iret hx hb hr hlocks hH hS dX7_findFault_97 ?_ (by omega)
                have h59 : ¬ nxt cs L (ordF cs L b).2.1 = 59 := by split at hz3; omega; assumption
                rw [if_neg h59] at hX
                rw [if_neg h59]
                have hfin : fltF cs L 61 0 0 0 = ((ordF cs L b).2.1, o2 + 1, d2 + (if nxt cs L b = 43 then (ordF cs L b).2.2.1 else 0)) := by
                  rw [he, show (61 - i).toNat = (61 - (i + 1)).toNat + 1 by omega]
                  exact fltF_n hz1 (by omega) h59
                rw [hfin]
                exact ⟨rfl, ⟨_, _, _, _, hX⟩, hfr⟩
            · skip
              refine j_bipush hx hb dX7_findFault_83 ?_ (by decide)
              subst hQ
              refine m_iret hx hb hr hlocks hH hS dX7_findFault_85 ?_ (by omega)
              have hfin : fltF cs L 61 0 0 0 = (-5, o2 + 1, d2 + (if nxt cs L b = 43 then (ordF cs L b).2.2.1 else 0)) := by
                rw [he, show (61 - i).toNat = (61 - (i + 1)).toNat + 1 by omega]
                exact fltF_e hz1 (by omega)
              rw [hfin]
              exact ⟨rfl, ⟨_, _, _, _, hX⟩, hfr⟩
          · skip
            refine lv_aload_n hx hb dX7_findFault_60 rfl (lv_at hl 0 rfl) ?_
            refine m_get (C := RX7) (T := TX7) (N := 8) (ci := 6) hx hb hts i_X7 hown hK hH hX.1 rfl 5 (by decide) f_6 rfl dX7_findFault_61 ?_
            refine lv_goto (tgt := 68) hx hb dX7_findFault_64 (by decide) ?_
            have hPL : nu1 = (if nxt cs L b = 43 then (ordF cs L b).2.2.1 else 0) := by
              by_cases q : nxt cs L b = 43
              · rw [if_pos q]; omega
              · omega
            refine j_iadd hx hb dX7_findFault_68 ?_
            refine m_put (C := RX7) (T := TX7) (N := 8) (ci := 6) hx hb hts i_X7 tyX7 tyX7_ok nmX7 hown hK hH hS hX.1 rfl 3 (by decide) f_2 rfl rfl rfl (Nat.le_of_ble_eq_true rfl) dX7_findFault_69 (fun H locs hH hS => ?_)
            have hX := hX.tx L (o2 + 1) (d2 + nu1) (nxt cs L b) nu1 ti1 ((ordF cs L b).2.1)
            have hfr : ∀ q, (q < tx ∨ tx + 2 ≤ q) → (hu (hu μ6 tx (.inr (6, [.ref (tx + 1), .int (iv L), .int (iv (o2 + 1)), .int (iv d2), .int (iv (nxt cs L b)), .int (iv nu1), .int (iv ti1), .int (iv (ordF cs L b).2.1)]))) tx (.inr (6, [.ref (tx + 1), .int (iv L), .int (iv (o2 + 1)), .int (iv (d2 + nu1)), .int (iv (nxt cs L b)), .int (iv nu1), .int (iv ti1), .int (iv (ordF cs L b).2.1)]))) q = μ q := fun q hq => (hu_n (by omega)).trans (hfr q hq)
            have hH : gP G (hu (hu μ6 tx (.inr (6, [.ref (tx + 1), .int (iv L), .int (iv (o2 + 1)), .int (iv d2), .int (iv (nxt cs L b)), .int (iv nu1), .int (iv ti1), .int (iv (ordF cs L b).2.1)]))) tx (.inr (6, [.ref (tx + 1), .int (iv L), .int (iv (o2 + 1)), .int (iv (d2 + nu1)), .int (iv (nxt cs L b)), .int (iv nu1), .int (iv ti1), .int (iv (ordF cs L b).2.1)]))) n7 H := hH
            have hX : IsText G (hu (hu μ6 tx (.inr (6, [.ref (tx + 1), .int (iv L), .int (iv (o2 + 1)), .int (iv d2), .int (iv (nxt cs L b)), .int (iv nu1), .int (iv ti1), .int (iv (ordF cs L b).2.1)]))) tx (.inr (6, [.ref (tx + 1), .int (iv L), .int (iv (o2 + 1)), .int (iv (d2 + nu1)), .int (iv (nxt cs L b)), .int (iv nu1), .int (iv ti1), .int (iv (ordF cs L b).2.1)]))) tx cs L (o2 + 1) (d2 + (if nxt cs L b = 43 then (ordF cs L b).2.2.1 else 0)) (nxt cs L b) nu1 ti1 ((ordF cs L b).2.1) := by
              rw [← hPL]
              exact hX
            refine lv_aload_n hx hb dX7_findFault_72 rfl (lv_at hl 0 rfl) ?_
            refine m_get (C := RX7) (T := TX7) (N := 8) (ci := 6) hx hb hts i_X7 hown hK hH hX.1 rfl 7 (by decide) f_4 rfl dX7_findFault_73 ?_
            refine lv_aload_n hx hb dX7_findFault_76 rfl (lv_at hl 0 rfl) ?_
            refine m_get (C := RX7) (T := TX7) (N := 8) (ci := 6) hx hb hts i_X7 hown hK hH hX.1 rfl 1 (by decide) f_3 rfl dX7_findFault_77 ?_
            refine j_icmp_lt (tgt := 86) hx hb dX7_findFault_80 (by decide) (fun c18 => ?_) (fun c18 => ?_) (by omega) (by omega)
            · skip
              refine lv_aload_n hx hb dX7_findFault_86 rfl (lv_at hl 0 rfl) ?_
              refine m_callVi (As := []) (rest := []) ⟨hx, hb, hml, hown, hts⟩ hK hH hS (c_X7_readMore l G (hu (hu μ6 tx (.inr (6, [.ref (tx + 1), .int (iv L), .int (iv (o2 + 1)), .int (iv d2), .int (iv (nxt cs L b)), .int (iv nu1), .int (iv ti1), .int (iv (ordF cs L b).2.1)]))) tx (.inr (6, [.ref (tx + 1), .int (iv L), .int (iv (o2 + 1)), .int (iv (d2 + nu1)), .int (iv (nxt cs L b)), .int (iv nu1), .int (iv ti1), .int (iv (ordF cs L b).2.1)]))) n7 tx cs L (o2 + 1) (d2 + (if nxt cs L b = 43 then (ordF cs L b).2.2.1 else 0)) (nxt cs L b) nu1 ti1 ((ordF cs L b).2.1) hX hOC (by omega)) (cwV 0 hts gX7_findFault_X7_readMore rfl rfl rfl (by decide +kernel) ⟨(Nat.le_of_ble_eq_true rfl), (Nat.le_of_ble_eq_true rfl)⟩) hX.1 rfl rfl rfl rfl hl.1 (Nat.le_of_ble_eq_true rfl) dX7_findFault_87 ⟨Nat.zero_le _, Nat.zero_le _⟩ (fun z22 μ19 n20 H locs hz22 hp21 hH hS => ?_)
              obtain ⟨hz3, hX, hfr1⟩ := hp21
              have hfr : ∀ q, (q < tx ∨ tx + 2 ≤ q) → μ19 q = μ q := fun q hq => (hfr1 q hq).trans (hfr q hq)
              have hz31 : 0 ≤ z22 ∧ z22 ≤ 1 := by rw [hz3]; split <;> omega
              refine j_if_ne (tgt := 98) hx hb dX7_findFault_90 (by decide) (fun c23 => ?_) (fun c23 => ?_) (by omega)
              · skip
                have h59 : nxt cs L (ordF cs L b).2.1 = 59 := by split at hz3; assumption; omega
                rw [if_pos h59] at hX
                have hge : ¬ L ≤ (ordF cs L b).2.1 := by omega
                refine j_iinc (lv' := [(1, .int (iv (i + 1))), (0, .ref tx)]) hx hb dX7_findFault_98 hl (k := 1) rfl (by decide) rfl (fun ls hl => ?_)
                refine lv_goto (tgt := 16) hx hb dX7_findFault_101 (by decide) ?_
                exact ih4 (i + 1) (o2 + 1) (d2 + (if nxt cs L b = 43 then (ordF cs L b).2.2.1 else 0)) (nxt cs L b) nu1 ti1 ((ordF cs L b).2.1 + 1) μ19 n20 (by omega) (by omega) (by omega) (by omega) hX hfr (by rw [he, show (61 - i).toNat = (61 - (i + 1)).toNat + 1 by omega]; exact fltF_s hz1 hge h59) (by omega) H locs ls hH hS (lv_sub hl [1, 0] rfl)
              · skip
                refine lv_aload_n hx hb dX7_findFault_93 rfl (lv_at hl 0 rfl) ?_
                refine m_get (C := RX7) (T := TX7) (N := 8) (ci := 6) hx hb hts i_X7 hown hK hH hX.1 rfl 7 (by decide) f_4 rfl dX7_findFault_94 ?_
                subst hQ
                refine m_iret hx hb hr hlocks hH hS dX7_findFault_97 ?_ (by omega)
                have h59 : ¬ nxt cs L (ordF cs L b).2.1 = 59 := by split at hz3; omega; assumption
                rw [if_neg h59] at hX
                rw [if_neg h59]
                have hfin : fltF cs L 61 0 0 0 = ((ordF cs L b).2.1, o2 + 1, d2 + (if nxt cs L b = 43 then (ordF cs L b).2.2.1 else 0)) := by
                  rw [he, show (61 - i).toNat = (61 - (i + 1)).toNat + 1 by omega]
                  exact fltF_n hz1 (by omega) h59
                rw [hfin]
                exact ⟨rfl, ⟨_, _, _, _, hX⟩, hfr⟩
            · skip
              refine j_bipush hx hb dX7_findFault_83 ?_ (by decide)
              subst hQ
              refine m_iret hx hb hr hlocks hH hS dX7_findFault_85 ?_ (by omega)
              have hfin : fltF cs L 61 0 0 0 = (-5, o2 + 1, d2 + (if nxt cs L b = 43 then (ordF cs L b).2.2.1 else 0)) := by
                rw [he, show (61 - i).toNat = (61 - (i + 1)).toNat + 1 by omega]
                exact fltF_e hz1 (by omega)
              rw [hfin]
              exact ⟨rfl, ⟨_, _, _, _, hX⟩, hfr⟩
        · skip
          refine lv_aload_n hx hb dX7_findFault_31 rfl (lv_at hl 0 rfl) ?_
          refine m_get (C := RX7) (T := TX7) (N := 8) (ci := 6) hx hb hts i_X7 hown hK hH hX.1 rfl 7 (by decide) f_4 rfl dX7_findFault_32 ?_
          subst hQ
          refine m_iret hx hb hr hlocks hH hS dX7_findFault_35 ?_ (by omega)
          have hfin : fltF cs L 61 0 0 0 = ((ordF cs L b).2.1, o2, d2) := by
            rw [he, show (61 - i).toNat = (61 - (i + 1)).toNat + 1 by omega]
            exact fltF_0 (by omega)
          rw [hfin]
          exact ⟨rfl, ⟨_, _, _, _, hX⟩, hfr⟩
  exact lp16 (62) 0 0 0 ki nu ti 0 (hu (hu μ1 tx (.inr (6, [.ref (tx + 1), .int (iv L), .int (iv 0), .int (iv d), .int (iv ki), .int (iv nu), .int (iv ti), .int (iv 0)]))) tx (.inr (6, [.ref (tx + 1), .int (iv L), .int (iv 0), .int (iv 0), .int (iv ki), .int (iv nu), .int (iv ti), .int (iv 0)]))) n2 (by omega) (by omega) (by omega) (by omega) hX hfr rfl (by omega) H locs ls hH hS (lv_sub hl [1, 0] rfl)
