abbrev rm_c_X8_doOrder : Room := { frames := 5, cells := 1, slots := 4, locals := 117 }
set_option maxHeartbeats 4000000 in
set_option maxRecDepth 100000 in
theorem c_X8_doOrder (l : Launch) (G : wG) (μ : hM) (n : Nat) (x rb : Nat) (u0 : aS) (o1 d1 ki nu ti a1 : Int) (hD : IsD G μ x rb u0) (hTY : IsText G μ (x + 177) (aC u0) (aL u0) o1 d1 ki nu ti a1) (hki : -2147483648 ≤ ki ∧ ki ≤ 2147483647) (hk100 : ki = 100 → 0 ≤ nu ∧ nu ≤ 999999) (hk112 : ki = 112 → (1 ≤ nu ∧ nu ≤ 9) ∧ (1 ≤ ti ∧ ti ≤ 99)) (hk43 : ki = 43 → 0 ≤ nu ∧ (aD u0).1 3 + nu ≤ 36524) (hk105 : ki = 105 → 0 ≤ nu ∧ nu ≤ 1000) (hB5 : (aD u0).1 5 + 99 ≤ 2000000000) : Met l yX8_doOrder wsX8_doOrder rm_c_X8_doOrder (mPc G μ n [.ref x]) (mQv G (fun μ1 n1 => IsD G μ1 x rb (ordD ki nu ti (aD u0), u0.2) ∧ IsText G μ1 (x + 177) (aC u0) (aL u0) o1 d1 ki nu ti a1 ∧ DFr x μ μ1)) 1 4 (gA G) := by
  refine Met.ofW (cc := cX8_doOrder) (maxL := 1) (ret := none) (by decide) rfl ?_
  intro p e s m args below meth c s₁ B hml hv
  obtain ⟨hav, hK, hH⟩ := hv
  have hx := B.exec
  have hb := B.bytes
  have hr := B.returns
  have hts := atoms_spec (ws := wsX8_doOrder) B.pre
  have hown : s.vm.findClass RX8 = some m.cls := findClass_of_methodNamed B.named
  have hlocks := B.notSynchronized
  have hS : va_S (gA G) s.heap s.heap [] := va_S.rf
  have hl := lv_entry ([.ref x]) (n := 1) (Nat.le_of_ble_eq_true rfl)
  have hfr : entryFrame m args 1 = entryFrame m ([.ref x] : List Value).toArray 1 := by rw [hav]
  rw [hfr, lg_entry_eq]
  generalize (lg_sl ([.ref x]) ++ List.replicate (1 - (lg_sl ([.ref x])).length) Slot.unset).toArray = ls at hl ⊢
  have hl : lv_has ls 1 [(0, .ref x)] := hl
  generalize hQ : MQ below _ args s 1 4 (gA G) = Q
  show W p l e rm_c_X8_doOrder s m args below meth c s.heap [] 0 0 Q (F0 m 0 ls [])
  obtain ⟨H, hHe⟩ : ∃ H, H = s.heap := ⟨_, rfl⟩
  obtain ⟨locs, hlo⟩ : ∃ q : List Loc, q = [] := ⟨_, rfl⟩
  have hH : gP G μ n H := by rw [hHe]; exact hH
  have hS : va_S (gA G) s.heap H locs := by rw [hHe, hlo]; exact hS
  suffices hgo : W p l e rm_c_X8_doOrder s m args below meth c H locs 0 0 Q (F0 m 0 ls []) by rw [hHe, hlo] at hgo; exact hgo
  clear hHe hlo hfr hav
  have f_0 := hts (.fieldLink RX8 33 "StampDater" "text" "LStampDater$Text;") (List.mem_of_getElem? (i := 1) rfl)
  have i_X8 : ∀ w ∈ u_ws RX8 TX8 6, w ∈ wsX8_doOrder := by decide +kernel
  have f_2 := hts (.fieldLink RX8 161 "StampDater$Text" "kind" "I") (List.mem_of_getElem? (i := 2) rfl)
  have i_X7 : ∀ w ∈ u_ws RX7 TX7 8, w ∈ wsX8_doOrder := by decide +kernel
  have f_4 := hts (.fieldLink RX8 10 "StampDater" "state" "LStampDater$State;") (List.mem_of_getElem? (i := 3) rfl)
  have f_5 := hts (.fieldLink RX8 48 "StampDater$State" "today" "I") (List.mem_of_getElem? (i := 6) rfl)
  have i_X6 : ∀ w ∈ u_ws RX6 TX6 8, w ∈ wsX8_doOrder := by decide +kernel
  have f_7 := hts (.fieldLink RX8 164 "StampDater$Text" "number" "I") (List.mem_of_getElem? (i := 5) rfl)
  have f_8 := hts (.fieldLink RX8 63 "StampDater$State" "stamp" "LStampDater$Stamp;") (List.mem_of_getElem? (i := 4) rfl)
  have f_9 := hts (.fieldLink RX8 165 "StampDater$Text" "times" "I") (List.mem_of_getElem? (i := 7) rfl)
  have hfr : DFr x μ μ := DFr.rf
  have hD9 := hD
  obtain ⟨hX, ⟨π, fp, sp, rd, hZ, hC, hT, hch⟩, ⟨ρ, πs, fps, sps, rds, hL, hLs⟩, ⟨πk, fpk, spk, rdk, hY, hCk, hTk, hchk⟩, ⟨to, td, tk, tn, tt, ta, hTX⟩, ⟨πr, τr, fpr, spr, hI2, hOk2⟩, hsz, hkt, hOC, hrb, hlast⟩ := hD9
  have h3 := hT.2.1
  have h5 := hT.2.2.1
  have hS0 := hT.1
  refine lv_aload_n hx hb dX8_doOrder_0 rfl (lv_at hl 0 rfl) ?_
  refine m_get (C := RX8) (T := TX8) (N := 6) (ci := 7) hx hb hts i_X8 hown hK hH hX rfl 4 (by decide) f_0 rfl dX8_doOrder_1 ?_
  refine m_get (C := RX7) (T := TX7) (N := 8) (ci := 6) hx hb hts i_X7 hown hK hH hTY.1 rfl 4 (by decide) f_2 rfl dX8_doOrder_4 ?_
  by_cases k1_0 : ki = 43
  · skip
    refine j_lookup (tgt := 126) (off := 119) hx hb dX8_doOrder_7 (by rw [k1_0]; rfl) (by decide) ?_ (by decide) (by omega)
    refine lv_aload_n hx hb dX8_doOrder_126 rfl (lv_at hl 0 rfl) ?_
    refine m_get (C := RX8) (T := TX8) (N := 6) (ci := 7) hx hb hts i_X8 hown hK hH hX rfl 0 (by decide) f_4 rfl dX8_doOrder_127 ?_
    refine lv_dup hx hb dX8_doOrder_130 rfl ?_
    refine m_get (C := RX6) (T := TX6) (N := 8) (ci := 5) hx hb hts i_X6 hown hK hH hZ.1 rfl 2 (by decide) f_5 rfl dX8_doOrder_131 ?_
    refine lv_aload_n hx hb dX8_doOrder_134 rfl (lv_at hl 0 rfl) ?_
    refine m_get (C := RX8) (T := TX8) (N := 6) (ci := 7) hx hb hts i_X8 hown hK hH hX rfl 4 (by decide) f_0 rfl dX8_doOrder_135 ?_
    refine m_get (C := RX7) (T := TX7) (N := 8) (ci := 6) hx hb hts i_X7 hown hK hH hTY.1 rfl 5 (by decide) f_7 rfl dX8_doOrder_138 ?_
    refine j_iadd hx hb dX8_doOrder_141 ?_
    refine m_put (C := RX6) (T := TX6) (N := 8) (ci := 5) hx hb hts i_X6 tyX6 tyX6_ok nmX6 hown hK hH hS hZ.1 rfl 2 (by decide) f_5 rfl rfl rfl (Nat.le_of_ble_eq_true rfl) dX8_doOrder_142 (fun H locs hH hS => ?_)
    have hTY : IsText G (hu μ (x + 1) (.inr (5, [.ref (x + 1 + 1), .ref (x + 1 + 16), .int (iv ((((aD u0).1) 3) + nu)), .int (iv (((aD u0).1) 5)), .int (iv (((aD u0).1) 6)), .int (iv (((aD u0).1) 7)), .int (iv (((aD u0).1) 8)), va_rf rd]))) (x + 177) (aC u0) (aL u0) o1 d1 ki nu ti a1 := hTY.mn (fun q e a b h => hu_n' (by omega) h)
    have hD : IsD G (hu μ (x + 1) (.inr (5, [.ref (x + 1 + 1), .ref (x + 1 + 16), .int (iv ((((aD u0).1) 3) + nu)), .int (iv (((aD u0).1) 5)), .int (iv (((aD u0).1) 6)), .int (iv (((aD u0).1) 7)), .int (iv (((aD u0).1) 8)), va_rf rd]))) x rb ((fu ((aD u0).1) 3 ((((aD u0).1) 3) + nu), (aD u0).2), u0.2) ∧ DFr x _ (hu μ (x + 1) (.inr (5, [.ref (x + 1 + 1), .ref (x + 1 + 16), .int (iv ((((aD u0).1) 3) + nu)), .int (iv (((aD u0).1) 5)), .int (iv (((aD u0).1) 6)), .int (iv (((aD u0).1) 7)), .int (iv (((aD u0).1) 8)), va_rf rd]))) := hD.ptd hZ hC (v := ((((aD u0).1) 3) + nu)) (by omega)
    have hfr := hfr.tr hD.2
    have hD := hD.1
    have hH : gP G (hu μ (x + 1) (.inr (5, [.ref (x + 1 + 1), .ref (x + 1 + 16), .int (iv ((((aD u0).1) 3) + nu)), .int (iv (((aD u0).1) 5)), .int (iv (((aD u0).1) 6)), .int (iv (((aD u0).1) 7)), .int (iv (((aD u0).1) 8)), va_rf rd]))) n H := hH
    obtain ⟨ν2, hν2⟩ : ∃ ν : hM, ν = (hu μ (x + 1) (.inr (5, [.ref (x + 1 + 1), .ref (x + 1 + 16), .int (iv ((((aD u0).1) 3) + nu)), .int (iv (((aD u0).1) 5)), .int (iv (((aD u0).1) 6)), .int (iv (((aD u0).1) 7)), .int (iv (((aD u0).1) 8)), va_rf rd]))) := ⟨_, rfl⟩
    rw [← hν2] at hD hfr hH hTY
    have hH : gP G ν2 n H := hH
    refine lv_goto (tgt := 168) hx hb dX8_doOrder_145 (by decide) ?_
    refine W.widen (k := 1) (n := 4) (by omega) (by omega) ?_
    subst hQ
    refine m_vret hx hb hr hlocks hH hS dX8_doOrder_168 ?_
    unfold ordD
    rw [if_neg (by omega), if_neg (by omega), if_neg (by omega), if_pos (by omega)]
    exact ⟨hD, hTY, hfr⟩
  by_cases k1_1 : ki = 97
  · skip
    refine j_lookup (tgt := 77) (off := 70) hx hb dX8_doOrder_7 (by rw [k1_1]; rfl) (by decide) ?_ (by decide) (by omega)
    refine lv_aload_n hx hb dX8_doOrder_77 rfl (lv_at hl 0 rfl) ?_
    refine m_get (C := RX8) (T := TX8) (N := 6) (ci := 7) hx hb hts i_X8 hown hK hH hX rfl 0 (by decide) f_4 rfl dX8_doOrder_78 ?_
    refine m_get (C := RX6) (T := TX6) (N := 8) (ci := 5) hx hb hts i_X6 hown hK hH hZ.1 rfl 0 (by decide) f_8 rfl dX8_doOrder_81 ?_
    refine lv_aload_n hx hb dX8_doOrder_84 rfl (lv_at hl 0 rfl) ?_
    refine m_get (C := RX8) (T := TX8) (N := 6) (ci := 7) hx hb hts i_X8 hown hK hH hX rfl 0 (by decide) f_4 rfl dX8_doOrder_85 ?_
    refine m_get (C := RX6) (T := TX6) (N := 8) (ci := 5) hx hb hts i_X6 hown hK hH hZ.1 rfl 2 (by decide) f_5 rfl dX8_doOrder_88 ?_
    have hdr := dig_rng (day := (((aD u0).1) 3)) (by omega)
    refine m_callSi (As := [.int (iv (((aD u0).1) 3))]) (rest := [.ref (x + 1 + 1)]) ⟨hx, hb, hml, hown, hts⟩ hK hH hS (c_X1_digitsOf l G μ n (((aD u0).1) 3) (by omega)) (va_cwS 1 hts gX8_doOrder_X1_digitsOf rfl rfl rfl (by decide +kernel) ⟨(Nat.le_of_ble_eq_true rfl), (Nat.le_of_ble_eq_true rfl)⟩) rfl rfl hl.1 (Nat.le_of_ble_eq_true rfl) dX8_doOrder_91 ⟨Nat.zero_le _, Nat.zero_le _⟩ (fun z6 μ3 n4 H locs hz6 hp5 hH hS => ?_)
    obtain ⟨hz2, hm2, hn2⟩ := hp5; rw [hz2]; rw [hm2, hn2] at hH; clear hz2 hm2 hn2
    refine m_callVi (As := [.int (iv (dig (((aD u0).1) 3)))]) (rest := []) ⟨hx, hb, hml, hown, hts⟩ hK hH hS (c_X5_showDigits l G μ n (x + 1 + 1) π ((aD u0).1) fp sp (dig (((aD u0).1) 3)) hZ.2.1 hT.1 (by omega)) (cwV 1 hts gX8_doOrder_X5_showDigits rfl rfl rfl (by decide +kernel) ⟨(Nat.le_of_ble_eq_true rfl), (Nat.le_of_ble_eq_true rfl)⟩) hZ.2.1.1 rfl rfl rfl rfl hl.1 (Nat.le_of_ble_eq_true rfl) dX8_doOrder_94 ⟨Nat.zero_le _, Nat.zero_le _⟩ (fun z10 μ7 n8 H locs hz10 hp9 hH hS => ?_)
    obtain ⟨hzr, hs1, hfr1⟩ := hp9
    have hTY : IsText G μ7 (x + 177) (aC u0) (aL u0) o1 d1 ki nu ti a1 := hTY.mn (fun q e a b h => (hfr1 q (by omega)).trans h)
    obtain ⟨hD, hfr2⟩ : IsD G μ7 x rb ((adj ((aD u0).1) (dig (((aD u0).1) 3)), (aD u0).2), u0.2) ∧ DFr x _ μ7 := hD.pst hZ hC hs1 hfr1 (okS_adj hT.1 _ 0 6) (fun j hj => adj_st hj)
    have hfr := hfr.tr hfr2
    refine lv_pop hx hb dX8_doOrder_97 rfl ?_
    refine lv_goto (tgt := 168) hx hb dX8_doOrder_98 (by decide) ?_
    refine W.widen (k := 1) (n := 4) (by omega) (by omega) ?_
    subst hQ
    refine m_vret hx hb hr hlocks hH hS dX8_doOrder_168 ?_
    unfold ordD
    rw [if_neg (by omega), if_pos (by omega)]
    exact ⟨hD, hTY, hfr⟩
  by_cases k1_2 : ki = 100
  · skip
    refine j_lookup (tgt := 56) (off := 49) hx hb dX8_doOrder_7 (by rw [k1_2]; rfl) (by decide) ?_ (by decide) (by omega)
    refine lv_aload_n hx hb dX8_doOrder_56 rfl (lv_at hl 0 rfl) ?_
    refine m_get (C := RX8) (T := TX8) (N := 6) (ci := 7) hx hb hts i_X8 hown hK hH hX rfl 0 (by decide) f_4 rfl dX8_doOrder_57 ?_
    refine m_get (C := RX6) (T := TX6) (N := 8) (ci := 5) hx hb hts i_X6 hown hK hH hZ.1 rfl 0 (by decide) f_8 rfl dX8_doOrder_60 ?_
    refine lv_aload_n hx hb dX8_doOrder_63 rfl (lv_at hl 0 rfl) ?_
    refine m_get (C := RX8) (T := TX8) (N := 6) (ci := 7) hx hb hts i_X8 hown hK hH hX rfl 4 (by decide) f_0 rfl dX8_doOrder_64 ?_
    refine m_get (C := RX7) (T := TX7) (N := 8) (ci := 6) hx hb hts i_X7 hown hK hH hTY.1 rfl 5 (by decide) f_7 rfl dX8_doOrder_67 ?_
    refine m_callVi (As := [.int (iv nu)]) (rest := []) ⟨hx, hb, hml, hown, hts⟩ hK hH hS (c_X5_showDigits l G μ n (x + 1 + 1) π ((aD u0).1) fp sp nu hZ.2.1 hT.1 (by omega)) (cwV 1 hts gX8_doOrder_X5_showDigits rfl rfl rfl (by decide +kernel) ⟨(Nat.le_of_ble_eq_true rfl), (Nat.le_of_ble_eq_true rfl)⟩) hZ.2.1.1 rfl rfl rfl rfl hl.1 (Nat.le_of_ble_eq_true rfl) dX8_doOrder_70 ⟨Nat.zero_le _, Nat.zero_le _⟩ (fun z14 μ11 n12 H locs hz14 hp13 hH hS => ?_)
    obtain ⟨hzr, hs1, hfr1⟩ := hp13
    have hTY : IsText G μ11 (x + 177) (aC u0) (aL u0) o1 d1 ki nu ti a1 := hTY.mn (fun q e a b h => (hfr1 q (by omega)).trans h)
    obtain ⟨hD, hfr2⟩ : IsD G μ11 x rb ((adj ((aD u0).1) nu, (aD u0).2), u0.2) ∧ DFr x _ μ11 := hD.pst hZ hC hs1 hfr1 (okS_adj hT.1 _ 0 6) (fun j hj => adj_st hj)
    have hfr := hfr.tr hfr2
    refine lv_pop hx hb dX8_doOrder_73 rfl ?_
    refine lv_goto (tgt := 168) hx hb dX8_doOrder_74 (by decide) ?_
    refine W.widen (k := 1) (n := 4) (by omega) (by omega) ?_
    subst hQ
    refine m_vret hx hb hr hlocks hH hS dX8_doOrder_168 ?_
    unfold ordD
    rw [if_pos (by omega)]
    exact ⟨hD, hTY, hfr⟩
  by_cases k1_3 : ki = 105
  · skip
    refine j_lookup (tgt := 148) (off := 141) hx hb dX8_doOrder_7 (by rw [k1_3]; rfl) (by decide) ?_ (by decide) (by omega)
    refine lv_aload_n hx hb dX8_doOrder_148 rfl (lv_at hl 0 rfl) ?_
    refine m_get (C := RX8) (T := TX8) (N := 6) (ci := 7) hx hb hts i_X8 hown hK hH hX rfl 0 (by decide) f_4 rfl dX8_doOrder_149 ?_
    refine m_get (C := RX6) (T := TX6) (N := 8) (ci := 5) hx hb hts i_X6 hown hK hH hZ.1 rfl 0 (by decide) f_8 rfl dX8_doOrder_152 ?_
    refine lv_aload_n hx hb dX8_doOrder_155 rfl (lv_at hl 0 rfl) ?_
    refine m_get (C := RX8) (T := TX8) (N := 6) (ci := 7) hx hb hts i_X8 hown hK hH hX rfl 4 (by decide) f_0 rfl dX8_doOrder_156 ?_
    refine m_get (C := RX7) (T := TX7) (N := 8) (ci := 6) hx hb hts i_X7 hown hK hH hTY.1 rfl 5 (by decide) f_7 rfl dX8_doOrder_159 ?_
    refine m_callVv (As := [.int (iv nu)]) (rest := []) ⟨hx, hb, hml, hown, hts⟩ hK hH hS (c_X5_addInk l G μ n (x + 1 + 1) π ((aD u0).1) fp sp nu hZ.2.1 hT.1 (by omega)) (cwV 1 hts gX8_doOrder_X5_addInk rfl rfl rfl (by decide +kernel) ⟨(Nat.le_of_ble_eq_true rfl), (Nat.le_of_ble_eq_true rfl)⟩) hZ.2.1.1 rfl rfl rfl rfl hl.1 (Nat.le_of_ble_eq_true rfl) dX8_doOrder_162 ⟨Nat.zero_le _, Nat.zero_le _⟩ (fun μ15 n16 H locs hp17 hH hS => ?_)
    obtain ⟨hs1, hfr1⟩ := hp17
    have hTY : IsText G μ15 (x + 177) (aC u0) (aL u0) o1 d1 ki nu ti a1 := hTY.mn (fun q e a b h => (hfr1 q (by omega)).trans h)
    obtain ⟨hD, hfr2⟩ : IsD G μ15 x rb ((fu ((aD u0).1) 4 (min 200 (((aD u0).1) 4 + nu)), (aD u0).2), u0.2) ∧ DFr x _ μ15 := hD.pst hZ hC hs1 hfr1 (okS_4 hT.1 (by have := hT.1.2.2.2.1; omega)) (fun j hj => fu_n (by omega))
    have hfr := hfr.tr hfr2
    refine lv_goto (tgt := 168) hx hb dX8_doOrder_165 (by decide) ?_
    refine W.widen (k := 1) (n := 4) (by omega) (by omega) ?_
    subst hQ
    refine m_vret hx hb hr hlocks hH hS dX8_doOrder_168 ?_
    unfold ordD
    rw [if_neg (by omega), if_neg (by omega), if_neg (by omega), if_neg (by omega), if_pos (by omega)]
    exact ⟨hD, hTY, hfr⟩
  by_cases k1_4 : ki = 112
  · skip
    refine j_lookup (tgt := 101) (off := 94) hx hb dX8_doOrder_7 (by rw [k1_4]; rfl) (by decide) ?_ (by decide) (by omega)
    refine lv_aload_n hx hb dX8_doOrder_101 rfl (lv_at hl 0 rfl) ?_
    refine m_get (C := RX8) (T := TX8) (N := 6) (ci := 7) hx hb hts i_X8 hown hK hH hX rfl 0 (by decide) f_4 rfl dX8_doOrder_102 ?_
    refine lv_aload_n hx hb dX8_doOrder_105 rfl (lv_at hl 0 rfl) ?_
    refine m_get (C := RX8) (T := TX8) (N := 6) (ci := 7) hx hb hts i_X8 hown hK hH hX rfl 4 (by decide) f_0 rfl dX8_doOrder_106 ?_
    refine m_get (C := RX7) (T := TX7) (N := 8) (ci := 6) hx hb hts i_X7 hown hK hH hTY.1 rfl 5 (by decide) f_7 rfl dX8_doOrder_109 ?_
    refine lv_aload_n hx hb dX8_doOrder_112 rfl (lv_at hl 0 rfl) ?_
    refine m_get (C := RX8) (T := TX8) (N := 6) (ci := 7) hx hb hts i_X8 hown hK hH hX rfl 4 (by decide) f_0 rfl dX8_doOrder_113 ?_
    refine m_get (C := RX7) (T := TX7) (N := 8) (ci := 6) hx hb hts i_X7 hown hK hH hTY.1 rfl 6 (by decide) f_9 rfl dX8_doOrder_116 ?_
    refine m_callVi (As := [.int (iv nu), .int (iv ti)]) (rest := []) ⟨hx, hb, hml, hown, hts⟩ hK hH hS (c_X6_printTimes l G μ n (x + 1) π ((aD u0).1) fp sp rd rb (aD u0).2 nu ti hZ hT hC hch (by omega) (by omega) (by omega) (by omega) hlast) (cwV 2 hts gX8_doOrder_X6_printTimes rfl rfl rfl (by decide +kernel) ⟨(Nat.le_of_ble_eq_true rfl), (Nat.le_of_ble_eq_true rfl)⟩) hZ.1 rfl rfl rfl rfl hl.1 (Nat.le_of_ble_eq_true rfl) dX8_doOrder_119 ⟨(Nat.le_of_ble_eq_true rfl), (Nat.le_of_ble_eq_true rfl)⟩ (fun z21 μ18 n19 H locs hz21 hp20 hH hS => ?_)
    obtain ⟨hzr, f1, s1, rd2, hZ1, hC1, hfr1⟩ := hp20
    have hTY : IsText G μ18 (x + 177) (aC u0) (aL u0) o1 d1 ki nu ti a1 := hTY.mn (fun q e a b h => hfr1 q e (by omega) h)
    obtain ⟨hD, hfr2⟩ : IsD G μ18 x rb ((nPr ((aD u0).1) nu ti.toNat, chAdd (aD u0).2 (((aD u0).1) 3) (nRt ((aD u0).1) nu ti.toNat)), u0.2) ∧ DFr x _ μ18 := hD.pS ⟨π, f1, s1, rd2, hZ1, hC1, okT_n hT (by omega) _ (by omega), chAdd_rng hch (by omega)⟩ (fun q e a b => hfr1 q e (by omega) b)
    have hfr := hfr.tr hfr2
    refine lv_pop hx hb dX8_doOrder_122 rfl ?_
    refine lv_goto (tgt := 168) hx hb dX8_doOrder_123 (by decide) ?_
    subst hQ
    refine m_vret hx hb hr hlocks hH hS dX8_doOrder_168 ?_
    unfold ordD
    rw [if_neg (by omega), if_neg (by omega), if_pos (by omega)]
    exact ⟨hD, hTY, hfr⟩
  refine j_lookup (tgt := 168) (off := 161) hx hb dX8_doOrder_7 (by simp [Op.lookupswitch.offset, k1_0, Ne.symm k1_0, k1_1, Ne.symm k1_1, k1_2, Ne.symm k1_2, k1_3, Ne.symm k1_3, k1_4, Ne.symm k1_4]) (by decide) ?_ (by decide) (by omega)
  refine W.widen (k := 1) (n := 4) (by omega) (by omega) ?_
  subst hQ
  refine m_vret hx hb hr hlocks hH hS dX8_doOrder_168 ?_
  unfold ordD
  rw [if_neg (by omega), if_neg (by omega), if_neg (by omega), if_neg (by omega), if_neg (by omega)]
  exact ⟨hD, hTY, hfr⟩

theorem flt_step {c : Nat → Int} {L b i dd N DD : Int} {f : Nat} (hb : 0 ≤ b ∧ b ≤ L) (hi : 0 ≤ i) (hd : 0 ≤ dd) (h : fltF c L (f + 1) b i dd = (-5, N, DD)) : (ordF c L b).1 = 1 ∧ dd + (if nxt c L b = 43 then (ordF c L b).2.2.1 else 0) ≤ DD ∧ (N = i + 1 ∨ (nxt c L (ordF c L b).2.1 = 59 ∧ (ordF c L b).2.1 < L ∧ fltF c L f ((ordF c L b).2.1 + 1) (i + 1) (dd + (if nxt c L b = 43 then (ordF c L b).2.2.1 else 0)) = (-5, N, DD))) := by
  have ho := ordF_rng (c := c) (L := L) hb
  have hp := plus_rng (c := c) (L := L) hb
  by_cases c1 : (ordF c L b).1 = 0
  · rw [fltF_0 c1] at h
    have h1 : (ordF c L b).2.1 = -5 := congrArg Prod.fst h
    omega
  · have hz : (ordF c L b).1 = 1 := by omega
    by_cases c2 : L ≤ (ordF c L b).2.1
    · rw [fltF_e c1 c2] at h
      have h2 : i + 1 = N := congrArg (fun q => q.2.1) h
      have h3 : dd + (if nxt c L b = 43 then (ordF c L b).2.2.1 else 0) = DD := congrArg (fun q => q.2.2) h
      exact ⟨hz, by omega, Or.inl h2.symm⟩
    · by_cases c3 : nxt c L (ordF c L b).2.1 = 59
      · rw [fltF_s c1 c2 c3] at h
        have hr := fltF_rng (c := c) (L := L) f ((ordF c L b).2.1 + 1) (i + 1) (dd + (if nxt c L b = 43 then (ordF c L b).2.2.1 else 0)) (by omega) (by omega) (by omega)
        rw [h] at hr
        exact ⟨hz, hr.2.2.2.1, Or.inr ⟨c3, by omega, h⟩⟩
      · rw [fltF_n c1 c2 c3] at h
        have h1 : (ordF c L b).2.1 = -5 := congrArg Prod.fst h
        omega
theorem lim_rng (i : Int) : lim i ≤ 999999 := by
  unfold lim
  (repeat' split) <;> omega
theorem rdat_v {c : Nat → Int} {L : Int} : ∀ (f : Nat) (i v a : Int), 1 ≤ i → i + f = 7 → 0 ≤ v ∧ v ≤ lim i → 0 ≤ (rdat c L f i v a).2.1 ∧ (rdat c L f i v a).2.1 ≤ 999999 := by
  intro f
  induction f with
  | zero =>
    intro i v a h1 h2 h3
    have := lim_rng i
    simp only [rdat]
    omega
  | succ f ih =>
    intro i v a h1 h2 h3
    have hl := lim_rng i
    by_cases hc : dgt c L a = -1 ∨ sbg (10 * v + dgt c L a) i = 0
    · rw [rdat_n hc]; exact ⟨h3.1, by show v ≤ 999999; omega⟩
    · rw [rdat_y hc]
      have hd := dgt_rng c L a
      have hs := lim_s (i := i) (by omega) h3 (d := dgt c L a) (by omega)
      exact ih (i + 1) _ _ (by omega) (by omega) (by omega)
theorem ord_rng {c : Nat → Int} {L a : Int} (ha : 0 ≤ a ∧ a ≤ L) (h : (ordF c L a).1 = 1) : (nxt c L a = 100 → 0 ≤ (ordF c L a).2.2.1 ∧ (ordF c L a).2.2.1 ≤ 999999) ∧ (nxt c L a = 112 → (1 ≤ (ordF c L a).2.2.1 ∧ (ordF c L a).2.2.1 ≤ 9) ∧ 1 ≤ (ordF c L a).2.2.2 ∧ (ordF c L a).2.2.2 ≤ 99) ∧ (nxt c L a = 105 → 0 ≤ (ordF c L a).2.2.1 ∧ (ordF c L a).2.2.1 ≤ 200) ∧ (nxt c L a = 100 ∨ nxt c L a = 97 ∨ nxt c L a = 112 ∨ nxt c L a = 43 ∨ nxt c L a = 105) := by
  have hn : ∀ k : Int, 0 ≤ k → nxt c L a = k → a < L := fun k hk he => (nxt_in (c := c) (L := L) (a := a) (by omega)).2
  unfold ordF at h ⊢
  by_cases h1 : nxt c L a = 100
  · have hv := rdat_v (c := c) (L := L) 6 1 0 (a + 1) (by omega) (by omega) ⟨by omega, by decide⟩
    rw [if_pos h1]
    exact ⟨fun _ => hv, fun q => by omega, fun q => by omega, Or.inl h1⟩
  · rw [if_neg h1] at h ⊢
    by_cases h2 : nxt c L a = 97
    · exact ⟨fun q => by omega, fun q => by omega, fun q => by omega, Or.inr (Or.inl h2)⟩
    · rw [if_neg h2] at h ⊢
      by_cases h3 : nxt c L a = 112
      · have := hn 112 (by omega) h3
        have hr := rnum_rng (c := c) (L := L) (mx := 9) 60 0 (a + 1) (by omega) (by omega) (by omega)
        rw [if_pos h3] at h ⊢
        by_cases h4 : 0 < (rnum c L 9 60 0 (a + 1)).1
        · rw [if_pos h4] at h ⊢
          by_cases h5 : nxt c L (rnum c L 9 60 0 (a + 1)).2 = 120
          · have hin := nxt_in (c := c) (L := L) (a := (rnum c L 9 60 0 (a + 1)).2) (by omega)
            have hr2 := rnum_rng (c := c) (L := L) (mx := 99) 60 0 ((rnum c L 9 60 0 (a + 1)).2 + 1) (by omega) (by omega) (by omega)
            rw [if_pos h5] at h ⊢
            dsimp only at h ⊢
            have h6 : 0 < (rnum c L 99 60 0 ((rnum c L 9 60 0 (a + 1)).2 + 1)).1 := by
              refine Decidable.byContradiction (fun q => ?_)
              rw [if_neg q] at h
              omega
            omega
          · rw [if_neg h5] at h ⊢
            dsimp only at h ⊢
            omega
        · rw [if_neg h4] at h
          dsimp only at h
          omega
      · rw [if_neg h3] at h ⊢
        by_cases h6 : nxt c L a = 43
        · exact ⟨fun q => by omega, fun q => by omega, fun q => by omega, Or.inr (Or.inr (Or.inr (Or.inl h6)))⟩
        · rw [if_neg h6] at h ⊢
          by_cases h7 : nxt c L a = 105
          · have := hn 105 (by omega) h7
            have hr := rnum_rng (c := c) (L := L) (mx := 200) 60 0 (a + 1) (by omega) (by omega) (by omega)
            rw [if_pos h7]
            dsimp only
            omega
          · rw [if_neg h7] at h
            dsimp only at h
            omega
theorem ordD_35 {k nu ti : Int} {d : dT} (hT : OkT d.1) (h112 : k = 112 → (1 ≤ nu ∧ nu ≤ 9) ∧ (1 ≤ ti ∧ ti ≤ 99)) (h5 : d.1 5 + 99 ≤ 2000000000) : (ordD k nu ti d).1 3 = d.1 3 + (if k = 43 then nu else 0) ∧ d.1 5 ≤ (ordD k nu ti d).1 5 ∧ (ordD k nu ti d).1 5 ≤ d.1 5 + 99 := by
  unfold ordD
  by_cases c1 : k = 100
  · rw [if_pos c1, if_neg (by omega)]
    have e3 : adj d.1 nu 3 = d.1 3 := adj_st (by omega)
    have e5 : adj d.1 nu 5 = d.1 5 := adj_st (by omega)
    dsimp only
    omega
  · rw [if_neg c1]
    by_cases c2 : k = 97
    · rw [if_pos c2, if_neg (by omega)]
      have e3 : adj d.1 (dig (d.1 3)) 3 = d.1 3 := adj_st (by omega)
      have e5 : adj d.1 (dig (d.1 3)) 5 = d.1 5 := adj_st (by omega)
      dsimp only
      omega
    · rw [if_neg c2]
      by_cases c3 : k = 112
      · have hh := h112 c3
        rw [if_pos c3, if_neg (by omega)]
        have e3 := nPr_3 hT hh.1 ti.toNat (by omega)
        have e5 := nPr_5 d.1 nu ti.toNat
        dsimp only
        omega
      · rw [if_neg c3]
        by_cases c4 : k = 43
        · rw [if_pos c4, if_pos c4]
          have e3 : fu d.1 3 (d.1 3 + nu) 3 = d.1 3 + nu := if_pos rfl
          have e5 : fu d.1 3 (d.1 3 + nu) 5 = d.1 5 := fu_n (by omega)
          dsimp only
          omega
        · rw [if_neg c4, if_neg c4]
          by_cases c5 : k = 105
          · rw [if_pos c5]
            have e3 : fu d.1 4 (min 200 (d.1 4 + nu)) 3 = d.1 3 := fu_n (by omega)
            have e5 : fu d.1 4 (min 200 (d.1 4 + nu)) 5 = d.1 5 := fu_n (by omega)
            dsimp only
            omega
          · rw [if_neg c5]
            omega
theorem ordD_cg {k nu ti nu2 ti2 : Int} {d : dT} (h : k ≠ 97 → nu = nu2) (h2 : k = 112 → ti = ti2) : ordD k nu ti d = ordD k nu2 ti2 d := by
  unfold ordD
  by_cases c2 : k = 97
  · subst c2; rfl
  · rw [h c2]
    by_cases c3 : k = 112
    · rw [h2 c3]
    · rw [if_neg c3, if_neg c3]
