abbrev rm_c_X8_even : Room := { frames := 2, cells := 0, slots := 0, locals := 43 }
set_option maxHeartbeats 4000000 in
set_option maxRecDepth 100000 in
theorem c_X8_even (l : Launch) (G : wG) (μ : hM) (n : Nat) (x rb : Nat) (u0 : aS)  (hD : IsD G μ x rb u0) : Met l yX8_even wsX8_even rm_c_X8_even (mPc G μ n [.ref x]) (mQd G (fun z μ1 n1 => z = a_even ((aD u0).1) ∧ μ1 = μ ∧ n1 = n)) 0 0 (gA G) := by
  refine Met.ofW (cc := cX8_even) (maxL := 7) (ret := (some .double)) (by decide) rfl ?_
  intro p e s m args below meth c s₁ B hml hv
  obtain ⟨hav, hK, hH⟩ := hv
  have hx := B.exec
  have hb := B.bytes
  have hr := B.returns
  have hts := atoms_spec (ws := wsX8_even) B.pre
  have hown : s.vm.findClass RX8 = some m.cls := findClass_of_methodNamed B.named
  have hlocks := B.notSynchronized
  have hS : va_S (gA G) s.heap s.heap [] := va_S.rf
  have hl := lv_entry ([.ref x]) (n := 7) (Nat.le_of_ble_eq_true rfl)
  have hfr : entryFrame m args 7 = entryFrame m ([.ref x] : List Value).toArray 7 := by rw [hav]
  rw [hfr, lg_entry_eq]
  generalize (lg_sl ([.ref x]) ++ List.replicate (7 - (lg_sl ([.ref x])).length) Slot.unset).toArray = ls at hl ⊢
  have hl : lv_has ls 7 [(0, .ref x)] := hl
  generalize hQ : MQ below _ args s 0 0 (gA G) = Q
  show W p l e rm_c_X8_even s m args below meth c s.heap [] 0 0 Q (F0 m 0 ls [])
  obtain ⟨H, hHe⟩ : ∃ H, H = s.heap := ⟨_, rfl⟩
  obtain ⟨locs, hlo⟩ : ∃ q : List Loc, q = [] := ⟨_, rfl⟩
  have hH : gP G μ n H := by rw [hHe]; exact hH
  have hS : va_S (gA G) s.heap H locs := by rw [hHe, hlo]; exact hS
  suffices hgo : W p l e rm_c_X8_even s m args below meth c H locs 0 0 Q (F0 m 0 ls []) by rw [hHe, hlo] at hgo; exact hgo
  clear hHe hlo hfr hav
  have f_0 := hts (.fieldLink RX8 10 "StampDater" "state" "LStampDater$State;") (List.mem_of_getElem? (i := 1) rfl)
  have i_X8 : ∀ w ∈ u_ws RX8 TX8 6, w ∈ wsX8_even := by decide +kernel
  have f_2 := hts (.fieldLink RX8 63 "StampDater$State" "stamp" "LStampDater$Stamp;") (List.mem_of_getElem? (i := 2) rfl)
  have i_X6 : ∀ w ∈ u_ws RX6 TX6 8, w ∈ wsX8_even := by decide +kernel
  have f_4 := hts (.fieldLink RX8 80 "StampDater$Stamp" "bands" "[LStampDater$Band;") (List.mem_of_getElem? (i := 3) rfl)
  have i_X5 : ∀ w ∈ u_ws RX5 TX5 7, w ∈ wsX8_even := by decide +kernel
  have f_6 := hts (.constantDouble RX8 273 (4633641066610819072)) (List.mem_of_getElem? (i := 8) rfl)
  have f_7 := hts (.methodLink RX8 268 Lib.Math.max.name) (List.mem_of_getElem? (i := 4) rfl)
  have f_8 := hts (.static Lib.Math.max.name) (List.mem_of_getElem? (i := 5) rfl)
  have f_9 := hts (.initialized "java/lang/Math") (List.mem_of_getElem? (i := 6) rfl)
  have f_10 := hts (.code Lib.Math.max.name Lib.Math.max.code 2 (some .int)) (List.mem_of_getElem? (i := 7) rfl)
  have hfr : DFr x μ μ := DFr.rf
  have hD9 := hD
  obtain ⟨hX, ⟨π, fp, sp, rd, hZ, hC, hT, hch⟩, ⟨ρ, πs, fps, sps, rds, hL, hLs⟩, ⟨πk, fpk, spk, rdk, hY, hCk, hTk, hchk⟩, ⟨to, td, tk, tn, tt, ta, hTX⟩, ⟨πr, τr, fpr, spr, hI2, hOk2⟩, hsz, hkt, hOC, hrb, hlast⟩ := hD9
  have h3 := hT.2.1
  have h5 := hT.2.2.1
  have hS0 := hT.1
  have h4 := hS0.2.2.2.1
  refine j_const hx hb dX8_even_0 ?_
  refine lv_istore_n (lv' := [(1, .int (iv 0)), (0, .ref x)]) hx hb dX8_even_1 rfl hl (by decide) rfl (fun ls hl => ?_)
  refine j_const hx hb dX8_even_2 ?_
  refine lv_istore_n (lv' := [(2, .int (iv 0)), (1, .int (iv 0)), (0, .ref x)]) hx hb dX8_even_3 rfl hl (by decide) rfl (fun ls hl => ?_)
  refine lv_aload_n hx hb dX8_even_4 rfl (lv_at hl 2 rfl) ?_
  refine m_get (C := RX8) (T := TX8) (N := 6) (ci := 7) hx hb hts i_X8 hown hK hH hX rfl 0 (by decide) f_0 rfl dX8_even_5 ?_
  refine m_get (C := RX6) (T := TX6) (N := 8) (ci := 5) hx hb hts i_X6 hown hK hH hZ.1 rfl 0 (by decide) f_2 rfl dX8_even_8 ?_
  refine m_get (C := RX5) (T := TX5) (N := 7) (ci := 4) hx hb hts i_X5 hown hK hH hZ.2.1.1 rfl 0 (by decide) f_4 rfl dX8_even_11 ?_
  refine lv_astore_n (lv' := [(3, .ref ((x + 1 + 1) + 1)), (2, .int (iv 0)), (1, .int (iv 0)), (0, .ref x)]) hx hb dX8_even_14 rfl hl (by decide) rfl (fun ls hl => ?_)
  refine lv_aload_n hx hb dX8_even_15 rfl (lv_at hl 0 rfl) ?_
  refine m_alen hx hb hK hH 2 hZ.2.1.2.1 rfl dX8_even_16 ?_
  refine j_norm (y := 6) (by rfl) ?_
  refine lv_istore (lv' := [(4, .int (iv 6)), (3, .ref ((x + 1 + 1) + 1)), (2, .int (iv 0)), (1, .int (iv 0)), (0, .ref x)]) hx hb dX8_even_17 hl (by decide) rfl (fun ls hl => ?_)
  refine j_const hx hb dX8_even_19 ?_
  refine lv_istore (lv' := [(5, .int (iv 0)), (4, .int (iv 6)), (3, .ref ((x + 1 + 1) + 1)), (2, .int (iv 0)), (1, .int (iv 0)), (0, .ref x)]) hx hb dX8_even_20 hl (by decide) rfl (fun ls hl => ?_)
  have lp22 : ∀ (fuel : Nat) (i : Nat) (a0 : Int) (g0 : Int) (hi : i ≤ 6) (ha : a0 = esum ((aD u0).1) (10 * i)) (hg : g0 = emax ((aD u0).1) (10 * i)) (_ : 6 - i < fuel) (H : Heap) (locs : List Loc) (ls : Array Slot) (_ : gP G μ n H) (_ : va_S (gA G) s.heap H locs) (_ : lv_has ls 7 [(0, .ref x), (1, .int (iv a0)), (2, .int (iv g0)), (3, .ref ((x + 1 + 1) + 1)), (4, .int (iv 6)), (5, .int (iv (i : Int)))]), W p l e rm_c_X8_even s m args below meth c H locs 0 0 Q (F0 m 22 ls []) := by
    intro fuel
    induction fuel with
    | zero => intro _ _ _ _ _ _ hfuel; exact absurd hfuel (Nat.not_lt_zero _)
    | succ fuel ih =>
      intro i a0 g0 hi ha hg hfuel H locs ls hH hS hl
      have ih1 := ih; clear ih
      refine lv_iload hx hb dX8_even_22 (lv_at hl 5 rfl) ?_
      refine lv_iload hx hb dX8_even_24 (lv_at hl 4 rfl) ?_
      refine j_icmp_ge (tgt := 64) hx hb dX8_even_26 (by decide) (fun c2 => ?_) (fun c2 => ?_) (by omega) (by omega)
      · skip
        have h60 : i = 6 := by omega
        subst h60
        have her := e_rng hS0 60 (by omega)
        have ha9 : a0 = esum ((aD u0).1) 60 := ha
        have hg9 : g0 = emax ((aD u0).1) 60 := hg
        refine lv_iload_n hx hb dX8_even_64 rfl (lv_at hl 2 rfl) ?_
        refine j_if_ne (tgt := 70) hx hb dX8_even_65 (by decide) (fun c3 => ?_) (fun c3 => ?_) (by omega)
        · skip
          refine lv_iload_n hx hb dX8_even_70 rfl (lv_at hl 1 rfl) ?_
          refine lv_i2d hx hb dX8_even_71 ?_
          refine lv_ldc2d hx hb hown f_6 dX8_even_72 ?_
          refine lv_ddiv hx hb dX8_even_75 (n64_of (ev_n1 _)) ?_
          refine lv_iload_n hx hb dX8_even_76 rfl (lv_at hl 2 rfl) ?_
          refine lv_i2d hx hb dX8_even_77 ?_
          refine lv_ddiv hx hb dX8_even_78 (n64_of (ev_n2 _ _ (iv_n0 (by omega)))) ?_
          subst hQ
          refine m_dret hx hb hr hlocks hH hS dX8_even_79 ?_
          refine ⟨?_, rfl, rfl⟩
          unfold a_even
          rw [if_neg (by omega), ← ha9, ← hg9]
        · skip
          refine lv_dconst1 hx hb dX8_even_68 ?_
          subst hQ
          refine m_dret hx hb hr hlocks hH hS dX8_even_69 ?_
          refine ⟨?_, rfl, rfl⟩
          unfold a_even
          exact (if_pos (by omega)).symm
      · skip
        have hi6 : i < 6 := by omega
        have hwr := OkS.w hS0 hi6
        have hbm := bmost_le (roww ((aD u0).1) i) 9
        have hwm := hwr (bmost (roww ((aD u0).1) i) 9) (by omega)
        have her := e_rng hS0 (10 * i) (by omega)
        refine lv_aload_n hx hb dX8_even_29 rfl (lv_at hl 3 rfl) ?_
        refine lv_iload hx hb dX8_even_30 (lv_at hl 5 rfl) ?_
        refine m_aald (b := ((x + 1 + 1) + 2 + 2 * π i)) hx hb hK hH 2 hZ.2.1.2.1 rfl rfl dX8_even_32 ?_ (by omega) (by omega)
        refine lv_astore (lv' := [(6, .ref ((x + 1 + 1) + 2 + 2 * π i)), (0, .ref x), (1, .int (iv a0)), (2, .int (iv g0)), (3, .ref ((x + 1 + 1) + 1)), (4, .int (iv 6)), (5, .int (iv (i : Int)))]) hx hb dX8_even_33 hl (by decide) rfl (fun ls hl => ?_)
        refine lv_iload_n hx hb dX8_even_35 rfl (lv_at hl 2 rfl) ?_
        refine lv_aload hx hb dX8_even_36 (lv_at hl 0 rfl) ?_
        refine m_callVi (As := []) (rest := [.int (iv a0)]) ⟨hx, hb, hml, hown, hts⟩ hK hH hS (c_X0_allWear l G μ n (x + 1 + 1 + 2 + 2 * π i) (x + 1 + 1 + 3 + 2 * π i) (((aD u0).1) (85 + 13 * i)) (((aD u0).1) (86 + 13 * i)) (((aD u0).1) (87 + 13 * i)) (roww ((aD u0).1) i) (hZ.2.1.2.2.2.1 i hi6) (hZ.2.1.2.2.2.2.1 i hi6) hwr) (cwV 0 hts gX8_even_X0_allWear rfl rfl rfl (by decide +kernel) ⟨(Nat.le_of_ble_eq_true rfl), (Nat.le_of_ble_eq_true rfl)⟩) (hZ.2.1.2.2.2.1 i (by omega)) rfl rfl rfl rfl hl.1 (Nat.le_of_ble_eq_true rfl) dX8_even_38 ⟨Nat.zero_le _, Nat.zero_le _⟩ (fun z7 μ4 n5 H locs hz7 hp6 hH hS => ?_)
        obtain ⟨hz2, hm2, hn2⟩ := hp6; rw [hz2]; rw [hm2, hn2] at hH; clear hz2 hm2 hn2
        refine j_iadd hx hb dX8_even_41 ?_
        refine lv_istore_n (lv' := [(1, .int (iv (a0 + (bsum (roww ((aD u0).1) i) 10)))), (6, .ref ((x + 1 + 1) + 2 + 2 * π i)), (0, .ref x), (2, .int (iv g0)), (3, .ref ((x + 1 + 1) + 1)), (4, .int (iv 6)), (5, .int (iv (i : Int)))]) hx hb dX8_even_42 rfl hl (by decide) rfl (fun ls hl => ?_)
        refine lv_iload_n hx hb dX8_even_43 rfl (lv_at hl 3 rfl) ?_
        refine lv_aload hx hb dX8_even_44 (lv_at hl 1 rfl) ?_
        refine lv_aload hx hb dX8_even_46 (lv_at hl 1 rfl) ?_
        refine m_callVi (As := []) (rest := [.ref ((x + 1 + 1) + 2 + 2 * π i), .int (iv g0)]) ⟨hx, hb, hml, hown, hts⟩ hK hH hS (c_X0_mostWornDigit l G μ n (x + 1 + 1 + 2 + 2 * π i) (x + 1 + 1 + 3 + 2 * π i) (((aD u0).1) (85 + 13 * i)) (((aD u0).1) (86 + 13 * i)) (((aD u0).1) (87 + 13 * i)) (roww ((aD u0).1) i) (hZ.2.1.2.2.2.1 i hi6) (hZ.2.1.2.2.2.2.1 i hi6) hwr) (cwV 0 hts gX8_even_X0_mostWornDigit rfl rfl rfl (by decide +kernel) ⟨(Nat.le_of_ble_eq_true rfl), (Nat.le_of_ble_eq_true rfl)⟩) (hZ.2.1.2.2.2.1 i (by omega)) rfl rfl rfl rfl hl.1 (Nat.le_of_ble_eq_true rfl) dX8_even_48 ⟨Nat.zero_le _, Nat.zero_le _⟩ (fun z11 μ8 n9 H locs hz11 hp10 hH hS => ?_)
        obtain ⟨hz2, hm2, hn2⟩ := hp10; rw [hz2]; rw [hm2, hn2] at hH; clear hz2 hm2 hn2
        refine m_callVi (As := [.int (iv ((bmost (roww ((aD u0).1) i) 9 : Nat) : Int))]) (rest := [.int (iv g0)]) ⟨hx, hb, hml, hown, hts⟩ hK hH hS (c_X0_wearOf l G μ n (x + 1 + 1 + 2 + 2 * π i) (x + 1 + 1 + 3 + 2 * π i) (((aD u0).1) (85 + 13 * i)) (((aD u0).1) (86 + 13 * i)) (((aD u0).1) (87 + 13 * i)) (roww ((aD u0).1) i) ((bmost (roww ((aD u0).1) i) 9 : Nat) : Int) (hZ.2.1.2.2.2.1 i hi6) (hZ.2.1.2.2.2.2.1 i hi6) (by omega) hwm) (cwV 1 hts gX8_even_X0_wearOf rfl rfl rfl (by decide +kernel) ⟨(Nat.le_of_ble_eq_true rfl), (Nat.le_of_ble_eq_true rfl)⟩) (hZ.2.1.2.2.2.1 i (by omega)) rfl rfl rfl rfl hl.1 (Nat.le_of_ble_eq_true rfl) dX8_even_51 ⟨Nat.zero_le _, Nat.zero_le _⟩ (fun z15 μ12 n13 H locs hz15 hp14 hH hS => ?_)
        obtain ⟨hz2, hm2, hn2⟩ := hp14; rw [hz2]; rw [hm2, hn2] at hH; clear hz2 hm2 hn2
        refine j_norm (y := roww ((aD u0).1) i (bmost (roww ((aD u0).1) i) 9)) rfl ?_
        refine m_max hx hb (hml.trans hl.1.symm) hown f_7 f_8 f_9 f_10 (Nat.le_of_ble_eq_true rfl) (Nat.le_of_ble_eq_true rfl) (Nat.le_of_ble_eq_true rfl) (Nat.le_of_ble_eq_true rfl) dX8_even_54 ?_ (by omega) (by omega)
        refine lv_istore_n (lv' := [(2, .int (iv (max g0 (roww ((aD u0).1) i (bmost (roww ((aD u0).1) i) 9))))), (1, .int (iv (a0 + (bsum (roww ((aD u0).1) i) 10)))), (6, .ref ((x + 1 + 1) + 2 + 2 * π i)), (0, .ref x), (3, .ref ((x + 1 + 1) + 1)), (4, .int (iv 6)), (5, .int (iv (i : Int)))]) hx hb dX8_even_57 rfl hl (by decide) rfl (fun ls hl => ?_)
        refine j_iinc (lv' := [(5, .int (iv ((i : Int) + 1))), (2, .int (iv (max g0 (roww ((aD u0).1) i (bmost (roww ((aD u0).1) i) 9))))), (1, .int (iv (a0 + (bsum (roww ((aD u0).1) i) 10)))), (6, .ref ((x + 1 + 1) + 2 + 2 * π i)), (0, .ref x), (3, .ref ((x + 1 + 1) + 1)), (4, .int (iv 6))]) hx hb dX8_even_58 hl (k := 6) rfl (by decide) rfl (fun ls hl => ?_)
        refine lv_goto (tgt := 22) hx hb dX8_even_61 (by decide) ?_
        exact ih1 (i + 1) (a0 + (bsum (roww ((aD u0).1) i) 10)) (max g0 (roww ((aD u0).1) i (bmost (roww ((aD u0).1) i) 9))) (by omega) (by rw [ha, show 10 * (i + 1) = 10 * i + 10 by omega]; exact (esum_b ((aD u0).1) i 10 (by omega)).symm) (by rw [hg, show 10 * (i + 1) = 10 * i + (9 + 1) by omega]; exact (emax_b 9 (by omega)).symm) (by omega) H locs ls hH hS (lv_sub hl [4, 2, 1, 5, 6, 0] rfl)
  exact lp22 (7) 0 0 0 (by omega) rfl rfl (by omega) H locs ls hH hS (lv_sub hl [5, 4, 3, 2, 1, 0] rfl)
