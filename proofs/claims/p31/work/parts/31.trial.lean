theorem swpS_00 (σ : Nat → Int) : swpS σ 0 0 = σ := by
  funext j
  unfold swpS
  have h : ∀ p, tpl 0 0 p = p := by
    intro p
    by_cases h0 : p = 0
    · subst h0; rfl
    · unfold tpl; rw [if_neg h0, if_neg h0]
  rw [h]
  split
  · rw [show 85 + 13 * ((j - 85) / 13) + (j - 85) % 13 = j by omega]
  · rfl
theorem lsF_y {td k t ink n : Int} {f : Nat} {τ : Nat → Int} (h1 : td + n ≤ 36524) (h2 : okN (adj τ (dig (td + n))) (dig (td + n)) k t.toNat = 1) : lsF td k t ink (f + 1) n τ = lsF td k t ink f (n + 1) (fu (nOnce (adj τ (dig (td + n))) k t.toNat) 4 ink) := (if_pos h1).trans (if_pos h2)
theorem lsF_n {td k t ink n : Int} {f : Nat} {τ : Nat → Int} (h1 : td + n ≤ 36524) (h2 : ¬ okN (adj τ (dig (td + n))) (dig (td + n)) k t.toNat = 1) : lsF td k t ink (f + 1) n τ = n := (if_pos h1).trans (if_neg h2)
theorem lsF_e {td k t ink n : Int} {f : Nat} {τ : Nat → Int} (h1 : ¬ td + n ≤ 36524) : lsF td k t ink f n τ = 200 := by
  cases f with
  | zero => rfl
  | succ f => exact if_neg h1
theorem lsF_rng {td k t ink : Int} : ∀ (f : Nat) (n : Int) (τ : Nat → Int), 0 ≤ n → n + f ≤ 200 → 0 ≤ lsF td k t ink f n τ ∧ lsF td k t ink f n τ ≤ 200 := by
  intro f
  induction f with
  | zero => intro n τ h1 h2; exact ⟨by simp [lsF], by simp [lsF]⟩
  | succ f ih =>
    intro n τ h1 h2
    by_cases c1 : td + n ≤ 36524
    · by_cases c2 : okN (adj τ (dig (td + n))) (dig (td + n)) k t.toNat = 1
      · rw [lsF_y c1 c2]; exact ih _ _ (by omega) (by omega)
      · rw [lsF_n c1 c2]; omega
    · rw [lsF_e c1]; omega
theorem lasF_rng (σ : Nat → Int) (k t : Int) : 0 ≤ lasF σ k t ∧ lasF σ k t ≤ 200 := lsF_rng 200 0 σ (by omega) (by omega)

abbrev rm_c_X8_daysOfTrial : Room := { frames := 5, cells := 0, slots := 0, locals := 115 }
set_option maxHeartbeats 4000000 in
set_option maxRecDepth 100000 in
theorem c_X8_daysOfTrial (l : Launch) (G : wG) (μ : hM) (n : Nat) (x rb : Nat) (u0 : aS) (pn qn : Nat) (k t : Int) (hD : IsD G μ x rb u0) (hpn : pn < 6) (hqn : qn < 6) (hk : 1 ≤ k ∧ k ≤ 9) (ht : 1 ≤ t ∧ t ≤ 20) : Met l yX8_daysOfTrial wsX8_daysOfTrial rm_c_X8_daysOfTrial (mPc G μ n [.ref x, .int (iv (pn : Int)), .int (iv (qn : Int)), .int (iv k), .int (iv t)]) (mQi G (fun z μ1 n1 => z = lasF (swpS ((aD u0).1) pn qn) k t ∧ IsD G μ1 x rb u0 ∧ DFr x μ μ1)) 0 0 (gA G) := by
  refine Met.ofW (cc := cX8_daysOfTrial) (maxL := 8) (ret := (some .int)) (by decide) rfl ?_
  intro p e s m args below meth c s₁ B hml hv
  obtain ⟨hav, hK, hH⟩ := hv
  have hx := B.exec
  have hb := B.bytes
  have hr := B.returns
  have hts := atoms_spec (ws := wsX8_daysOfTrial) B.pre
  have hown : s.vm.findClass RX8 = some m.cls := findClass_of_methodNamed B.named
  have hlocks := B.notSynchronized
  have hS : va_S (gA G) s.heap s.heap [] := va_S.rf
  have hl := lv_entry ([.ref x, .int (iv (pn : Int)), .int (iv (qn : Int)), .int (iv k), .int (iv t)]) (n := 8) (Nat.le_of_ble_eq_true rfl)
  have hfr : entryFrame m args 8 = entryFrame m ([.ref x, .int (iv (pn : Int)), .int (iv (qn : Int)), .int (iv k), .int (iv t)] : List Value).toArray 8 := by rw [hav]
  rw [hfr, lg_entry_eq]
  generalize (lg_sl ([.ref x, .int (iv (pn : Int)), .int (iv (qn : Int)), .int (iv k), .int (iv t)]) ++ List.replicate (8 - (lg_sl ([.ref x, .int (iv (pn : Int)), .int (iv (qn : Int)), .int (iv k), .int (iv t)])).length) Slot.unset).toArray = ls at hl ⊢
  have hl : lv_has ls 8 [(0, .ref x), (1, .int (iv (pn : Int))), (2, .int (iv (qn : Int))), (3, .int (iv k)), (4, .int (iv t))] := hl
  generalize hQ : MQ below _ args s 0 0 (gA G) = Q
  show W p l e rm_c_X8_daysOfTrial s m args below meth c s.heap [] 0 0 Q (F0 m 0 ls [])
  obtain ⟨H, hHe⟩ : ∃ H, H = s.heap := ⟨_, rfl⟩
  obtain ⟨locs, hlo⟩ : ∃ q : List Loc, q = [] := ⟨_, rfl⟩
  have hH : gP G μ n H := by rw [hHe]; exact hH
  have hS : va_S (gA G) s.heap H locs := by rw [hHe, hlo]; exact hS
  suffices hgo : W p l e rm_c_X8_daysOfTrial s m args below meth c H locs 0 0 Q (F0 m 0 ls []) by rw [hHe, hlo] at hgo; exact hgo
  clear hHe hlo hfr hav
  have f_0 := hts (.fieldLink RX8 40 "StampDater" "trial" "LStampDater$Stamp;") (List.mem_of_getElem? (i := 1) rfl)
  have i_X8 : ∀ w ∈ u_ws RX8 TX8 6, w ∈ wsX8_daysOfTrial := by decide +kernel
  have f_2 := hts (.fieldLink RX8 10 "StampDater" "state" "LStampDater$State;") (List.mem_of_getElem? (i := 2) rfl)
  have f_3 := hts (.fieldLink RX8 63 "StampDater$State" "stamp" "LStampDater$Stamp;") (List.mem_of_getElem? (i := 3) rfl)
  have i_X6 : ∀ w ∈ u_ws RX6 TX6 8, w ∈ wsX8_daysOfTrial := by decide +kernel
  have f_5 := hts (.fieldLink RX8 96 "StampDater$Stamp" "ink" "I") (List.mem_of_getElem? (i := 4) rfl)
  have i_X5 : ∀ w ∈ u_ws RX5 TX5 7, w ∈ wsX8_daysOfTrial := by decide +kernel
  have f_7 := hts (.fieldLink RX8 48 "StampDater$State" "today" "I") (List.mem_of_getElem? (i := 5) rfl)
  have f_8 := hts (.constant RX8 52 (36524)) (List.mem_of_getElem? (i := 6) rfl)
  have hfr : DFr x μ μ := DFr.rf
  have hD9 := hD
  obtain ⟨hX, ⟨π, fp, sp, rd, hZ, hC, hT, hch⟩, ⟨ρ, πs, fps, sps, rds, hL, hLs⟩, ⟨πk, fpk, spk, rdk, hY, hCk, hTk, hchk⟩, ⟨to, td, tk, tn, tt, ta, hTX⟩, ⟨πr, τr, fpr, spr, hI2, hOk2⟩, hsz, hkt, hOC, hrb, hlast⟩ := hD9
  have h3 := hT.2.1
  have h5 := hT.2.2.1
  have hS0 := hT.1
  have h4 := hS0.2.2.2.1
  refine lv_aload_n hx hb dX8_daysOfTrial_0 rfl (lv_at hl 0 rfl) ?_
  refine m_get (C := RX8) (T := TX8) (N := 6) (ci := 7) hx hb hts i_X8 hown hK hH hX rfl 5 (by decide) f_0 rfl dX8_daysOfTrial_1 ?_
  refine lv_aload_n hx hb dX8_daysOfTrial_4 rfl (lv_at hl 0 rfl) ?_
  refine m_get (C := RX8) (T := TX8) (N := 6) (ci := 7) hx hb hts i_X8 hown hK hH hX rfl 0 (by decide) f_2 rfl dX8_daysOfTrial_5 ?_
  refine m_get (C := RX6) (T := TX6) (N := 8) (ci := 5) hx hb hts i_X6 hown hK hH hZ.1 rfl 0 (by decide) f_3 rfl dX8_daysOfTrial_8 ?_
  refine m_callVv (As := [.ref (x + 1 + 1)]) (rest := []) ⟨hx, hb, hml, hown, hts⟩ hK hH hS (c_X5_copyStamp l G μ n (x + 179) πr τr fpr spr (x + 1 + 1) π ((aD u0).1) fp sp hI2 hOk2 hZ.2.1 (by omega)) (cwV 1 hts gX8_daysOfTrial_X5_copyStamp rfl rfl rfl (by decide +kernel) ⟨(Nat.le_of_ble_eq_true rfl), (Nat.le_of_ble_eq_true rfl)⟩) hI2.1 rfl rfl rfl rfl hl.1 (Nat.le_of_ble_eq_true rfl) dX8_daysOfTrial_11 ⟨Nat.zero_le _, Nat.zero_le _⟩ (fun μ1 n2 H locs hp3 hH hS => ?_)
  obtain ⟨hI3, hfr3⟩ := hp3
  have hX3 := (hfr3 x (by omega)).trans hX
  have hZ3 : IsState G μ1 (x + 1) π ((aD u0).1) fp sp rd := hZ.fr (fun q a b => hfr3 q (by omega))
  refine lv_aload_n hx hb dX8_daysOfTrial_14 rfl (lv_at hl 0 rfl) ?_
  refine m_get (C := RX8) (T := TX8) (N := 6) (ci := 7) hx hb hts i_X8 hown hK hH hX3 rfl 5 (by decide) f_0 rfl dX8_daysOfTrial_15 ?_
  refine lv_iload_n hx hb dX8_daysOfTrial_18 rfl (lv_at hl 1 rfl) ?_
  refine lv_iload_n hx hb dX8_daysOfTrial_19 rfl (lv_at hl 2 rfl) ?_
  refine m_callVv (As := [.int (iv (pn : Int)), .int (iv (qn : Int))]) (rest := []) ⟨hx, hb, hml, hown, hts⟩ hK hH hS (c_X5_swapBands l G μ1 n2 (x + 179) πr ((aD u0).1) fpr spr pn qn hI3 hT.1 hpn hqn) (cwV 2 hts gX8_daysOfTrial_X5_swapBands rfl rfl rfl (by decide +kernel) ⟨(Nat.le_of_ble_eq_true rfl), (Nat.le_of_ble_eq_true rfl)⟩) hI3.1 rfl rfl rfl rfl hl.1 (Nat.le_of_ble_eq_true rfl) dX8_daysOfTrial_20 ⟨Nat.zero_le _, Nat.zero_le _⟩ (fun μ4 n5 H locs hp6 hH hS => ?_)
  obtain ⟨hI4, hfr1⟩ := hp6
  have hfr4 : ∀ q, (q < x + 179 ∨ x + 194 ≤ q) → μ4 q = μ q := fun q hq => (hfr1 q (by omega)).trans (hfr3 q (by omega))
  have hX4 := (hfr4 x (by omega)).trans hX
  have hZ4 : IsState G μ4 (x + 1) π ((aD u0).1) fp sp rd := hZ.fr (fun q a b => hfr4 q (by omega))
  have hSW := okS_swp hS0 hpn hqn
  refine lv_aload_n hx hb dX8_daysOfTrial_23 rfl (lv_at hl 0 rfl) ?_
  refine m_get (C := RX8) (T := TX8) (N := 6) (ci := 7) hx hb hts i_X8 hown hK hH hX4 rfl 5 (by decide) f_0 rfl dX8_daysOfTrial_24 ?_
  refine m_get (C := RX5) (T := TX5) (N := 7) (ci := 4) hx hb hts i_X5 hown hK hH hI4.1 rfl 2 (by decide) f_5 rfl dX8_daysOfTrial_27 ?_
  refine lv_istore (lv' := [(5, .int (iv ((swpS ((aD u0).1) pn qn) 4))), (0, .ref x), (1, .int (iv (pn : Int))), (2, .int (iv (qn : Int))), (3, .int (iv k)), (4, .int (iv t))]) hx hb dX8_daysOfTrial_30 hl (by decide) rfl (fun ls hl => ?_)
  refine j_const hx hb dX8_daysOfTrial_32 ?_
  refine lv_istore (lv' := [(6, .int (iv 0)), (5, .int (iv ((swpS ((aD u0).1) pn qn) 4))), (0, .ref x), (1, .int (iv (pn : Int))), (2, .int (iv (qn : Int))), (3, .int (iv k)), (4, .int (iv t))]) hx hb dX8_daysOfTrial_33 hl (by decide) rfl (fun ls hl => ?_)
  have lp35 : ∀ (fuel : Nat) (i : Int) (τ : Nat → Int) (fq : Int) (sq : Int) (ν : hM) (ν0 : Nat) (hi : 0 ≤ i ∧ i ≤ 200) (hI5 : IsSt G ν (x + 179) (swp πr pn qn) τ fq sq) (hO5 : OkS τ) (hfr5 : ∀ q, (q < x + 179 ∨ x + 194 ≤ q) → ν q = μ q) (he : lasF (swpS ((aD u0).1) pn qn) k t = lsF (((aD u0).1) 3) k t ((swpS ((aD u0).1) pn qn) 4) (200 - i).toNat i τ) (_ : (200 - i).toNat < fuel) (H : Heap) (locs : List Loc) (ls : Array Slot) (_ : gP G ν ν0 H) (_ : va_S (gA G) s.heap H locs) (_ : lv_has ls 8 [(0, .ref x), (1, .int (iv (pn : Int))), (2, .int (iv (qn : Int))), (3, .int (iv k)), (4, .int (iv t)), (5, .int (iv ((swpS ((aD u0).1) pn qn) 4))), (6, .int (iv i))]), W p l e rm_c_X8_daysOfTrial s m args below meth c H locs 0 0 Q (F0 m 35 ls []) := by
    intro fuel
    induction fuel with
    | zero => intro _ _ _ _ _ _ _ _ _ _ _ hfuel; exact absurd hfuel (Nat.not_lt_zero _)
    | succ fuel ih =>
      intro i τ fq sq ν ν0 hi hI5 hO5 hfr5 he hfuel H locs ls hH hS hl
      have hX5 := (hfr5 x (by omega)).trans hX
      have hZ5 : IsState G ν (x + 1) π ((aD u0).1) fp sp rd := hZ.fr (fun q a b => hfr5 q (by omega))
      have ih7 := ih; clear ih
      refine lv_iload hx hb dX8_daysOfTrial_35 (lv_at hl 6 rfl) ?_
      refine j_sipush hx hb dX8_daysOfTrial_37 ?_ (by decide)
      refine j_icmp_ge (tgt := 116) hx hb dX8_daysOfTrial_40 (by decide) (fun c8 => ?_) (fun c8 => ?_) (by omega) (by omega)
      · skip
        refine j_sipush hx hb dX8_daysOfTrial_116 ?_ (by decide)
        subst hQ
        refine m_iret hx hb hr hlocks hH hS dX8_daysOfTrial_119 ?_ (by omega)
        refine ⟨?_, ?_⟩
        · by_cases h20 : i = 200
          · rw [he, h20]; rfl
          · rw [he, lsF_e (by omega)]
        · exact hD.pR ⟨_, _, _, _, hI5, hO5⟩ (fun q e a b => (hfr5 q a).trans b)
      · skip
        have hlr := lasF_rng (swpS (aD u0).1 pn qn) k t
        refine lv_aload_n hx hb dX8_daysOfTrial_43 rfl (lv_at hl 0 rfl) ?_
        refine m_get (C := RX8) (T := TX8) (N := 6) (ci := 7) hx hb hts i_X8 hown hK hH hX5 rfl 0 (by decide) f_2 rfl dX8_daysOfTrial_44 ?_
        refine m_get (C := RX6) (T := TX6) (N := 8) (ci := 5) hx hb hts i_X6 hown hK hH hZ5.1 rfl 2 (by decide) f_7 rfl dX8_daysOfTrial_47 ?_
        refine lv_iload hx hb dX8_daysOfTrial_50 (lv_at hl 6 rfl) ?_
        refine j_iadd hx hb dX8_daysOfTrial_52 ?_
        refine j_ldc hx hb (36524) hown f_8 dX8_daysOfTrial_53 ?_ (by decide)
        refine j_icmp_gt (tgt := 116) hx hb dX8_daysOfTrial_55 (by decide) (fun c9 => ?_) (fun c9 => ?_) (by omega) (by omega)
        · skip
          refine j_sipush hx hb dX8_daysOfTrial_116 ?_ (by decide)
          subst hQ
          refine m_iret hx hb hr hlocks hH hS dX8_daysOfTrial_119 ?_ (by omega)
          refine ⟨?_, ?_⟩
          · by_cases h20 : i = 200
            · rw [he, h20]; rfl
            · rw [he, lsF_e (by omega)]
          · exact hD.pR ⟨_, _, _, _, hI5, hO5⟩ (fun q e a b => (hfr5 q a).trans b)
        · skip
          refine lv_aload_n hx hb dX8_daysOfTrial_58 rfl (lv_at hl 0 rfl) ?_
          refine m_get (C := RX8) (T := TX8) (N := 6) (ci := 7) hx hb hts i_X8 hown hK hH hX5 rfl 0 (by decide) f_2 rfl dX8_daysOfTrial_59 ?_
          refine m_get (C := RX6) (T := TX6) (N := 8) (ci := 5) hx hb hts i_X6 hown hK hH hZ5.1 rfl 2 (by decide) f_7 rfl dX8_daysOfTrial_62 ?_
          refine lv_iload hx hb dX8_daysOfTrial_65 (lv_at hl 6 rfl) ?_
          refine j_iadd hx hb dX8_daysOfTrial_67 ?_
          have hdr := dig_rng (day := ((((aD u0).1) 3) + i)) (by omega)
          refine m_callSi (As := [.int (iv ((((aD u0).1) 3) + i))]) (rest := []) ⟨hx, hb, hml, hown, hts⟩ hK hH hS (c_X1_digitsOf l G ν ν0 ((((aD u0).1) 3) + i) (by omega)) (va_cwS 1 hts gX8_daysOfTrial_X1_digitsOf rfl rfl rfl (by decide +kernel) ⟨(Nat.le_of_ble_eq_true rfl), (Nat.le_of_ble_eq_true rfl)⟩) rfl rfl hl.1 (Nat.le_of_ble_eq_true rfl) dX8_daysOfTrial_68 ⟨Nat.zero_le _, Nat.zero_le _⟩ (fun z13 μ10 n11 H locs hz13 hp12 hH hS => ?_)
          obtain ⟨hz2, hm2, hn2⟩ := hp12; rw [hz2]; rw [hm2, hn2] at hH; clear hz2 hm2 hn2
          refine lv_istore (lv' := [(7, .int (iv (dig ((((aD u0).1) 3) + i)))), (0, .ref x), (1, .int (iv (pn : Int))), (2, .int (iv (qn : Int))), (3, .int (iv k)), (4, .int (iv t)), (5, .int (iv ((swpS ((aD u0).1) pn qn) 4))), (6, .int (iv i))]) hx hb dX8_daysOfTrial_71 hl (by decide) rfl (fun ls hl => ?_)
          refine lv_aload_n hx hb dX8_daysOfTrial_73 rfl (lv_at hl 1 rfl) ?_
          refine m_get (C := RX8) (T := TX8) (N := 6) (ci := 7) hx hb hts i_X8 hown hK hH hX5 rfl 5 (by decide) f_0 rfl dX8_daysOfTrial_74 ?_
          refine lv_iload hx hb dX8_daysOfTrial_77 (lv_at hl 0 rfl) ?_
          refine m_callVi (As := [.int (iv (dig ((((aD u0).1) 3) + i)))]) (rest := []) ⟨hx, hb, hml, hown, hts⟩ hK hH hS (c_X5_showDigits l G ν ν0 (x + 179) (swp πr pn qn) τ fq sq (dig ((((aD u0).1) 3) + i)) hI5 hO5 (by omega)) (cwV 1 hts gX8_daysOfTrial_X5_showDigits rfl rfl rfl (by decide +kernel) ⟨(Nat.le_of_ble_eq_true rfl), (Nat.le_of_ble_eq_true rfl)⟩) hI5.1 rfl rfl rfl rfl hl.1 (Nat.le_of_ble_eq_true rfl) dX8_daysOfTrial_79 ⟨Nat.zero_le _, Nat.zero_le _⟩ (fun z17 μ14 n15 H locs hz17 hp16 hH hS => ?_)
          obtain ⟨hz9, hI6, hfr1⟩ := hp16
          clear hz9
          have hfr6 : ∀ q, (q < x + 179 ∨ x + 194 ≤ q) → μ14 q = μ q := fun q hq => (hfr1 q (by omega)).trans (hfr5 q hq)
          have hX6 := (hfr6 x (by omega)).trans hX
          refine lv_pop hx hb dX8_daysOfTrial_82 rfl ?_
          refine lv_aload_n hx hb dX8_daysOfTrial_83 rfl (lv_at hl 1 rfl) ?_
          refine m_get (C := RX8) (T := TX8) (N := 6) (ci := 7) hx hb hts i_X8 hown hK hH hX6 rfl 5 (by decide) f_0 rfl dX8_daysOfTrial_84 ?_
          refine lv_iload hx hb dX8_daysOfTrial_87 (lv_at hl 0 rfl) ?_
          refine lv_iload_n hx hb dX8_daysOfTrial_89 rfl (lv_at hl 4 rfl) ?_
          refine lv_iload hx hb dX8_daysOfTrial_90 (lv_at hl 5 rfl) ?_
          refine m_callVi (As := [.int (iv (dig ((((aD u0).1) 3) + i))), .int (iv k), .int (iv t)]) (rest := []) ⟨hx, hb, hml, hown, hts⟩ hK hH hS (c_X5_printsOnly l G μ14 n15 (x + 179) (swp πr pn qn) (adj τ (dig ((((aD u0).1) 3) + i))) fq sq (dig ((((aD u0).1) 3) + i)) k t hI6 (okS_adj hO5 _ 0 6) (by omega) hk (by omega)) (cwV 3 hts gX8_daysOfTrial_X5_printsOnly rfl rfl rfl (by decide +kernel) ⟨(Nat.le_of_ble_eq_true rfl), (Nat.le_of_ble_eq_true rfl)⟩) hI6.1 rfl rfl rfl rfl hl.1 (Nat.le_of_ble_eq_true rfl) dX8_daysOfTrial_92 ⟨Nat.zero_le _, Nat.zero_le _⟩ (fun z21 μ18 n19 H locs hz21 hp20 hH hS => ?_)
          obtain ⟨hzo, ⟨τ2, f2, s2, hI7, hO2, hτ2⟩, hfr1⟩ := hp20
          have hfr7 : ∀ q, (q < x + 179 ∨ x + 194 ≤ q) → μ18 q = μ q := fun q hq => (hfr1 q (by omega)).trans (hfr6 q hq)
          have h01 := okN_01 (adj τ (dig ((((aD u0).1) 3) + i))) (dig ((((aD u0).1) 3) + i)) k t.toNat
          have hX7 := (hfr7 x (by omega)).trans hX
          refine j_if_ne (tgt := 101) hx hb dX8_daysOfTrial_95 (by decide) (fun c22 => ?_) (fun c22 => ?_) (by omega)
          · skip
            have hok1 : okN (adj τ (dig ((((aD u0).1) 3) + i))) (dig ((((aD u0).1) 3) + i)) k t.toNat = 1 := by omega
            have hτ2 := hτ2 (by omega)
            have hink := hSW.2.2.2.1
            refine lv_aload_n hx hb dX8_daysOfTrial_101 rfl (lv_at hl 1 rfl) ?_
            refine m_get (C := RX8) (T := TX8) (N := 6) (ci := 7) hx hb hts i_X8 hown hK hH hX7 rfl 5 (by decide) f_0 rfl dX8_daysOfTrial_102 ?_
            refine lv_iload hx hb dX8_daysOfTrial_105 (lv_at hl 6 rfl) ?_
            refine m_put (C := RX5) (T := TX5) (N := 7) (ci := 4) hx hb hts i_X5 tyX5 tyX5_ok nmX5 hown hK hH hS hI7.1 rfl 2 (by decide) f_5 rfl rfl rfl (Nat.le_of_ble_eq_true rfl) dX8_daysOfTrial_107 (fun H locs hH hS => ?_)
            have hI8 : IsSt G (hu μ18 (x + 179) (.inr (4, [.ref ((x + 179) + 1), .ref ((x + 179) + 14), .int (iv ((swpS ((aD u0).1) pn qn) 4)), .int (iv (τ2 9)), .int (iv (τ2 10)), .int (iv f2), .int (iv s2)]))) (x + 179) (swp πr pn qn) (fu τ2 4 ((swpS ((aD u0).1) pn qn) 4)) f2 s2 := hI7.st (fu τ2 4 ((swpS ((aD u0).1) pn qn) 4)) f2 s2 (fun j h1 h2 h3 => fu_n h1)
            have hfr8 : ∀ q, (q < x + 179 ∨ x + 194 ≤ q) → (hu μ18 (x + 179) (.inr (4, [.ref ((x + 179) + 1), .ref ((x + 179) + 14), .int (iv ((swpS ((aD u0).1) pn qn) 4)), .int (iv (τ2 9)), .int (iv (τ2 10)), .int (iv f2), .int (iv s2)]))) q = μ q := fun q hq => (hu_n (by omega)).trans (hfr7 q hq)
            have hH : gP G (hu μ18 (x + 179) (.inr (4, [.ref ((x + 179) + 1), .ref ((x + 179) + 14), .int (iv ((swpS ((aD u0).1) pn qn) 4)), .int (iv (τ2 9)), .int (iv (τ2 10)), .int (iv f2), .int (iv s2)]))) n19 H := hH
            refine j_iinc (lv' := [(6, .int (iv (i + 1))), (7, .int (iv (dig ((((aD u0).1) 3) + i)))), (0, .ref x), (1, .int (iv (pn : Int))), (2, .int (iv (qn : Int))), (3, .int (iv k)), (4, .int (iv t)), (5, .int (iv ((swpS ((aD u0).1) pn qn) 4)))]) hx hb dX8_daysOfTrial_110 hl (k := 7) rfl (by decide) rfl (fun ls hl => ?_)
            refine lv_goto (tgt := 35) hx hb dX8_daysOfTrial_113 (by decide) ?_
            exact ih7 (i + 1) (fu τ2 4 ((swpS ((aD u0).1) pn qn) 4)) f2 s2 (hu μ18 (x + 179) (.inr (4, [.ref ((x + 179) + 1), .ref ((x + 179) + 14), .int (iv ((swpS ((aD u0).1) pn qn) 4)), .int (iv (τ2 9)), .int (iv (τ2 10)), .int (iv f2), .int (iv s2)]))) n19 (by omega) hI8 (okS_4 hO2 hink) hfr8 (by rw [he, show (200 - i).toNat = (200 - (i + 1)).toNat + 1 by omega, lsF_y (by omega) hok1, hτ2]) (by omega) H locs ls hH hS (lv_sub hl [2, 3, 4, 5, 6, 7, 0] rfl)
          · skip
            refine lv_iload hx hb dX8_daysOfTrial_98 (lv_at hl 7 rfl) ?_
            subst hQ
            refine m_iret hx hb hr hlocks hH hS dX8_daysOfTrial_100 ?_ (by omega)
            refine ⟨?_, ?_⟩
            · rw [he, show (200 - i).toNat = (200 - (i + 1)).toNat + 1 by omega, lsF_n (by omega) (by omega)]
            · exact hD.pR ⟨_, _, _, _, hI7, hO2⟩ (fun q e a b => (hfr7 q a).trans b)
  exact lp35 (201) 0 (swpS ((aD u0).1) pn qn) fpr spr μ4 n5 (by omega) hI4 hSW hfr4 (by unfold lasF; rw [show (swpS ((aD u0).1) pn qn) 3 = (((aD u0).1) 3) from swpS_ot (by omega)]; rfl) (by omega) H locs ls hH hS (lv_sub hl [2, 3, 4, 5, 6, 1, 0] rfl)

abbrev rm_c_X8_lasts : Room := { frames := 6, cells := 0, slots := 0, locals := 142 }
set_option maxHeartbeats 4000000 in
set_option maxRecDepth 100000 in
theorem c_X8_lasts (l : Launch) (G : wG) (μ : hM) (n : Nat) (x rb : Nat) (u0 : aS) (k t : Int) (hD : IsD G μ x rb u0) (hk1 : -2147483648 ≤ k ∧ k ≤ 2147483647) (ht1 : -2147483648 ≤ t ∧ t ≤ 2147483647) : Met l yX8_lasts wsX8_lasts rm_c_X8_lasts (mPc G μ n [.ref x, .int (iv k), .int (iv t)]) (mQi G (fun z μ1 n1 => z = a_lasts ((aD u0).1) k t ∧ IsD G μ1 x rb u0 ∧ DFr x μ μ1)) 0 0 (gA G) := by
  refine Met.ofW (cc := cX8_lasts) (maxL := 4) (ret := (some .int)) (by decide) rfl ?_
  intro p e s m args below meth c s₁ B hml hv
  obtain ⟨hav, hK, hH⟩ := hv
  have hx := B.exec
  have hb := B.bytes
  have hr := B.returns
  have hts := atoms_spec (ws := wsX8_lasts) B.pre
  have hown : s.vm.findClass RX8 = some m.cls := findClass_of_methodNamed B.named
  have hlocks := B.notSynchronized
  have hS : va_S (gA G) s.heap s.heap [] := va_S.rf
  have hl := lv_entry ([.ref x, .int (iv k), .int (iv t)]) (n := 4) (Nat.le_of_ble_eq_true rfl)
  have hfr : entryFrame m args 4 = entryFrame m ([.ref x, .int (iv k), .int (iv t)] : List Value).toArray 4 := by rw [hav]
  rw [hfr, lg_entry_eq]
  generalize (lg_sl ([.ref x, .int (iv k), .int (iv t)]) ++ List.replicate (4 - (lg_sl ([.ref x, .int (iv k), .int (iv t)])).length) Slot.unset).toArray = ls at hl ⊢
  have hl : lv_has ls 4 [(0, .ref x), (1, .int (iv k)), (2, .int (iv t))] := hl
  generalize hQ : MQ below _ args s 0 0 (gA G) = Q
  show W p l e rm_c_X8_lasts s m args below meth c s.heap [] 0 0 Q (F0 m 0 ls [])
  obtain ⟨H, hHe⟩ : ∃ H, H = s.heap := ⟨_, rfl⟩
  obtain ⟨locs, hlo⟩ : ∃ q : List Loc, q = [] := ⟨_, rfl⟩
  have hH : gP G μ n H := by rw [hHe]; exact hH
  have hS : va_S (gA G) s.heap H locs := by rw [hHe, hlo]; exact hS
  suffices hgo : W p l e rm_c_X8_lasts s m args below meth c H locs 0 0 Q (F0 m 0 ls []) by rw [hHe, hlo] at hgo; exact hgo
  clear hHe hlo hfr hav
  have hfr : DFr x μ μ := DFr.rf
  have hD9 := hD
  obtain ⟨hX, ⟨π, fp, sp, rd, hZ, hC, hT, hch⟩, ⟨ρ, πs, fps, sps, rds, hL, hLs⟩, ⟨πk, fpk, spk, rdk, hY, hCk, hTk, hchk⟩, ⟨to, td, tk, tn, tt, ta, hTX⟩, ⟨πr, τr, fpr, spr, hI2, hOk2⟩, hsz, hkt, hOC, hrb, hlast⟩ := hD9
  have h3 := hT.2.1
  have h5 := hT.2.2.1
  have hS0 := hT.1
  have h4 := hS0.2.2.2.1
  refine lv_iload_n hx hb dX8_lasts_0 rfl (lv_at hl 1 rfl) ?_
  refine m_callSi (As := [.int (iv k)]) (rest := []) ⟨hx, hb, hml, hown, hts⟩ hK hH hS (c_X8_isStrength l G μ n k (by omega)) (va_cwS 1 hts gX8_lasts_X8_isStrength rfl rfl rfl (by decide +kernel) ⟨(Nat.le_of_ble_eq_true rfl), (Nat.le_of_ble_eq_true rfl)⟩) rfl rfl hl.1 (Nat.le_of_ble_eq_true rfl) dX8_lasts_1 ⟨Nat.zero_le _, Nat.zero_le _⟩ (fun z4 μ1 n2 H locs hz4 hp3 hH hS => ?_)
  obtain ⟨hz9, hm9, hn9⟩ := hp3
  rw [hm9, hn9] at hH
  have hz4c : (z4 = 1 ∧ (1 ≤ k ∧ k ≤ 9)) ∨ (z4 = 0 ∧ ¬ (1 ≤ k ∧ k ≤ 9)) := by
    by_cases q9 : 1 ≤ k ∧ k ≤ 9
    · rw [if_pos q9] at hz9; exact Or.inl ⟨hz9, q9⟩
    · rw [if_neg q9] at hz9; exact Or.inr ⟨hz9, q9⟩
  clear hz9 hm9 hn9
  refine j_if_eq (tgt := 17) hx hb dX8_lasts_4 (by decide) (fun c5 => ?_) (fun c5 => ?_) (by omega)
  · skip
    refine j_bipush hx hb dX8_lasts_17 ?_ (by decide)
    subst hQ
    refine m_iret hx hb hr hlocks hH hS dX8_lasts_19 ?_ (by omega)
    refine ⟨?_, hD, hfr⟩
    unfold a_lasts
    rw [if_neg (by omega)]
  · skip
    refine lv_iload_n hx hb dX8_lasts_7 rfl (lv_at hl 2 rfl) ?_
    refine j_const hx hb dX8_lasts_8 ?_
    refine j_bipush hx hb dX8_lasts_9 ?_ (by decide)
    refine m_callSi (As := [.int (iv t), .int (iv 1), .int (iv 20)]) (rest := []) ⟨hx, hb, hml, hown, hts⟩ hK hH hS (c_X8_isWithin l G μ n t 1 20 (by omega) (by omega) (by omega)) (va_cwS 3 hts gX8_lasts_X8_isWithin rfl rfl rfl (by decide +kernel) ⟨(Nat.le_of_ble_eq_true rfl), (Nat.le_of_ble_eq_true rfl)⟩) rfl rfl hl.1 (Nat.le_of_ble_eq_true rfl) dX8_lasts_11 ⟨Nat.zero_le _, Nat.zero_le _⟩ (fun z9 μ6 n7 H locs hz9 hp8 hH hS => ?_)
    obtain ⟨hz9, hm9, hn9⟩ := hp8
    rw [hm9, hn9] at hH
    have hz9c : (z9 = 1 ∧ (1 ≤ t ∧ t ≤ 20)) ∨ (z9 = 0 ∧ ¬ (1 ≤ t ∧ t ≤ 20)) := by
      by_cases q9 : 1 ≤ t ∧ t ≤ 20
      · rw [if_pos q9] at hz9; exact Or.inl ⟨hz9, q9⟩
      · rw [if_neg q9] at hz9; exact Or.inr ⟨hz9, q9⟩
    clear hz9 hm9 hn9
    refine j_if_ne (tgt := 20) hx hb dX8_lasts_14 (by decide) (fun c10 => ?_) (fun c10 => ?_) (by omega)
    · skip
      refine lv_aload_n hx hb dX8_lasts_20 rfl (lv_at hl 0 rfl) ?_
      refine j_const hx hb dX8_lasts_21 ?_
      refine j_const hx hb dX8_lasts_22 ?_
      refine lv_iload_n hx hb dX8_lasts_23 rfl (lv_at hl 1 rfl) ?_
      refine lv_iload_n hx hb dX8_lasts_24 rfl (lv_at hl 2 rfl) ?_
      refine m_callVi (As := [.int (iv 0), .int (iv 0), .int (iv k), .int (iv t)]) (rest := []) ⟨hx, hb, hml, hown, hts⟩ hK hH hS (c_X8_daysOfTrial l G μ n x rb u0 0 0 k t hD (by omega) (by omega) (by omega) (by omega)) (cwV 4 hts gX8_lasts_X8_daysOfTrial rfl rfl rfl (by decide +kernel) ⟨(Nat.le_of_ble_eq_true rfl), (Nat.le_of_ble_eq_true rfl)⟩) hX rfl rfl rfl rfl hl.1 (Nat.le_of_ble_eq_true rfl) dX8_lasts_25 ⟨Nat.zero_le _, Nat.zero_le _⟩ (fun z14 μ11 n12 H locs hz14 hp13 hH hS => ?_)
      obtain ⟨hzr, hD1, hfr1⟩ := hp13
      rw [swpS_00] at hzr
      have hlr := lasF_rng ((aD u0).1) k t
      obtain ⟨hD, hfr2⟩ : IsD G μ11 x rb u0 ∧ DFr x _ μ11 := ⟨hD1, hfr1⟩
      have hfr := hfr.tr hfr2
      clear hfr2
      clear hX hZ hC hT hch hL hLs hY hCk hTk hchk hTX hI2 hOk2 hsz hkt hOC hrb hlast
      have hD9 := hD
      obtain ⟨hX, ⟨π, fp, sp, rd, hZ, hC, hT, hch⟩, ⟨ρ, πs, fps, sps, rds, hL, hLs⟩, ⟨πk, fpk, spk, rdk, hY, hCk, hTk, hchk⟩, ⟨to, td, tk, tn, tt, ta, hTX⟩, ⟨πr, τr, fpr, spr, hI2, hOk2⟩, hsz, hkt, hOC, hrb, hlast⟩ := hD9
      refine lv_istore_n (lv' := [(3, .int (iv z14)), (0, .ref x), (1, .int (iv k)), (2, .int (iv t))]) hx hb dX8_lasts_28 rfl hl (by decide) rfl (fun ls hl => ?_)
      refine lv_iload_n hx hb dX8_lasts_29 rfl (lv_at hl 0 rfl) ?_
      refine j_sipush hx hb dX8_lasts_30 ?_ (by decide)
      refine j_icmp_ne (tgt := 41) hx hb dX8_lasts_33 (by decide) (fun c15 => ?_) (fun c15 => ?_) (by omega) (by omega)
      · skip
        refine lv_iload_n hx hb dX8_lasts_41 rfl (lv_at hl 0 rfl) ?_
        subst hQ
        refine m_iret hx hb hr hlocks hH hS dX8_lasts_42 ?_ (by omega)
        refine ⟨?_, hD, hfr⟩
        unfold a_lasts
        rw [if_pos (by omega)]
        split <;> omega
      · skip
        refine j_bipush hx hb dX8_lasts_36 ?_ (by decide)
        refine lv_goto (tgt := 42) hx hb dX8_lasts_38 (by decide) ?_
        subst hQ
        refine m_iret hx hb hr hlocks hH hS dX8_lasts_42 ?_ (by omega)
        refine ⟨?_, hD, hfr⟩
        unfold a_lasts
        rw [if_pos (by omega)]
        split <;> omega
    · skip
      refine j_bipush hx hb dX8_lasts_17 ?_ (by decide)
      subst hQ
      refine m_iret hx hb hr hlocks hH hS dX8_lasts_19 ?_ (by omega)
      refine ⟨?_, hD, hfr⟩
      unfold a_lasts
      rw [if_neg (by omega)]
