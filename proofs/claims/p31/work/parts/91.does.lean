abbrev rm_c_L_does : Room := { frames := 6, cells := 1, slots := 4, locals := 139 }
set_option maxHeartbeats 4000000 in
set_option maxRecDepth 100000 in
theorem c_L_does (l : Launch) (G : wG) (μ : hM) (n : Nat) (x rb : Nat) (u0 : aS) (b0 : Int) (v : Int) (hD : IsD G μ x rb u0) (hU : UI u0 b0) (hb0 : 0 ≤ b0 ∧ b0 ≤ 500000000) (hv1 : -2147483648 ≤ v ∧ v ≤ 2147483647) : Met l yL_does wsL_does rm_c_L_does (mPc G μ n [.ref x, .int (iv v)]) (mQi G (fun z μ1 n1 => 0 ≤ z ∧ ∃ u1 : aS, IsD G μ1 x rb u1 ∧ UI u1 (b0 + 1000))) 1 4 (gA G) := by
  refine Met.ofW (cc := cL_does) (maxL := 5) (ret := (some .int)) (by decide) rfl ?_
  intro p e s m args below meth c s₁ B hml hv
  obtain ⟨hav, hK, hH⟩ := hv
  have hx := B.exec
  have hb := B.bytes
  have hr := B.returns
  have hts := atoms_spec (ws := wsL_does) B.pre
  have hown : s.vm.findClass RL = some m.cls := findClass_of_methodNamed B.named
  have hlocks := B.notSynchronized
  have hS : va_S (gA G) s.heap s.heap [] := va_S.rf
  have hl := lv_entry ([.ref x, .int (iv v)]) (n := 5) (Nat.le_of_ble_eq_true rfl)
  have hfr : entryFrame m args 5 = entryFrame m ([.ref x, .int (iv v)] : List Value).toArray 5 := by rw [hav]
  rw [hfr, lg_entry_eq]
  generalize (lg_sl ([.ref x, .int (iv v)]) ++ List.replicate (5 - (lg_sl ([.ref x, .int (iv v)])).length) Slot.unset).toArray = ls at hl ⊢
  have hl : lv_has ls 5 [(0, .ref x), (1, .int (iv v))] := hl
  generalize hQ : MQ below _ args s 1 4 (gA G) = Q
  show W p l e rm_c_L_does s m args below meth c s.heap [] 0 0 Q (F0 m 0 ls [])
  obtain ⟨H, hHe⟩ : ∃ H, H = s.heap := ⟨_, rfl⟩
  obtain ⟨locs, hlo⟩ : ∃ q : List Loc, q = [] := ⟨_, rfl⟩
  have hH : gP G μ n H := by rw [hHe]; exact hH
  have hS : va_S (gA G) s.heap H locs := by rw [hHe, hlo]; exact hS
  suffices hgo : W p l e rm_c_L_does s m args below meth c H locs 0 0 Q (F0 m 0 ls []) by rw [hHe, hlo] at hgo; exact hgo
  clear hHe hlo hfr hav
  have f_0 := hts (.constant RL 20 (36525)) (List.mem_of_getElem? (i := 1) rfl)
  have hO := hD.okD
  have ho3 := hO.1.2.1
  have ho5 := hU.1.2.2.2.1
  have hO0 := hO
  refine j_const hx hb dL_does_0 ?_
  refine lv_istore_n (lv' := [(2, .int (iv 0)), (0, .ref x), (1, .int (iv v))]) hx hb dL_does_1 rfl hl (by decide) rfl (fun ls hl => ?_)
  refine lv_iload_n hx hb dL_does_2 rfl (lv_at hl 2 rfl) ?_
  refine j_bipush hx hb dL_does_3 ?_ (by decide)
  refine lv_iand hx hb dL_does_5 ?_
  obtain ⟨y1, hy1, hry1⟩ := and_le (iv v) (iv 15) 15 (by decide)
  rw [hy1]
  clear hy1
  by_cases k2_0 : y1 = 0
  · skip
    refine j_table hx hb (tgt := 64) (0) k2_0 dL_does_6 ?_
    refine lv_aload_n hx hb dL_does_64 rfl (lv_at hl 1 rfl) ?_
    refine j_const hx hb dL_does_65 ?_
    refine lv_iload_n hx hb dL_does_66 rfl (lv_at hl 2 rfl) ?_
    refine j_const hx hb dL_does_67 ?_
    refine lv_ishr hx hb dL_does_68 ?_
    obtain ⟨y3, hy3, hry3⟩ : ∃ z : Int, iv v >>> (iv 4 &&& 31) = iv z ∧ -2147483648 ≤ z ∧ z ≤ 2147483647 := ⟨_, (iv_of _).symm, iv_rng _⟩
    rw [hy3]
    clear hy3
    refine lv_iload_n hx hb dL_does_69 rfl (lv_at hl 2 rfl) ?_
    refine j_bipush hx hb dL_does_70 ?_ (by decide)
    refine lv_ishr hx hb dL_does_72 ?_
    obtain ⟨y4, hy4, hry4⟩ : ∃ z : Int, iv v >>> (iv 14 &&& 31) = iv z ∧ -2147483648 ≤ z ∧ z ≤ 2147483647 := ⟨_, (iv_of _).symm, iv_rng _⟩
    rw [hy4]
    clear hy4
    refine j_const hx hb dL_does_73 ?_
    refine lv_iand hx hb dL_does_74 ?_
    obtain ⟨y5, hy5, hry5⟩ := and_le (iv y4) (iv 1) 1 (by decide)
    rw [hy5]
    clear hy5
    refine j_if_ne (tgt := 83) hx hb dL_does_75 (by decide) (fun c6 => ?_) (fun c6 => ?_) (by omega)
    · skip
      refine j_sipush hx hb dL_does_83 ?_ (by decide)
      refine m_callSi (As := [.int (iv y3), .int (iv 999)]) (rest := [.int (iv 1), .ref x]) ⟨hx, hb, hml, hown, hts⟩ hK hH hS (c_L_low l G μ n y3 999 (by omega) (by omega)) (va_cwS 2 hts gL_does_L_low rfl rfl rfl (by decide +kernel) ⟨(Nat.le_of_ble_eq_true rfl), (Nat.le_of_ble_eq_true rfl)⟩) rfl rfl hl.1 (Nat.le_of_ble_eq_true rfl) dL_does_86 ⟨Nat.zero_le _, Nat.zero_le _⟩ (fun z10 μ7 n8 H locs hz10 hp9 hH hS => ?_)
      obtain ⟨hqz10, hm2, hn2⟩ := hp9
      rw [hm2, hn2] at hH
      clear hm2 hn2
      refine j_iadd hx hb dL_does_89 ?_
      have hDo := hD
      refine m_callVi (As := [.int (iv (1 + z10))]) (rest := []) ⟨hx, hb, hml, hown, hts⟩ hK hH hS (c_X8_pass l G μ n x rb u0 (1 + z10) hD (by omega)) (cwV 1 hts gL_does_X8_pass rfl rfl rfl (by decide +kernel) ⟨(Nat.le_of_ble_eq_true rfl), (Nat.le_of_ble_eq_true rfl)⟩) hD.1 rfl rfl rfl rfl hl.1 (Nat.le_of_ble_eq_true rfl) dL_does_90 ⟨Nat.zero_le _, Nat.zero_le _⟩ (fun z14 μ11 n12 H locs hz14 hp13 hH hS => ?_)
      obtain ⟨hvz14, hD, hf1⟩ := hp13
      obtain ⟨u15, hu15⟩ : ∃ q : aS, q = (a_pass u0 (1 + z10)).1 := ⟨_, rfl⟩
      rw [← hu15] at hD
      have hU : UI u15 (b0 + 1000) := by rw [hu15]; exact hU.pass
      have hO := hD.okD
      have hvv := v_pass (u := u0) (k := (1 + z10)) hO0 (by omega)
      rw [← hvz14] at hvv
      refine lv_istore_n (lv' := [(2, .int (iv z14)), (0, .ref x), (1, .int (iv v))]) hx hb dL_does_93 rfl hl (by decide) rfl (fun ls hl => ?_)
      refine lv_iload_n hx hb dL_does_94 rfl (lv_at hl 0 rfl) ?_
      refine j_bipush hx hb dL_does_95 ?_ (by decide)
      refine j_icmp_ne (tgt := 104) hx hb dL_does_97 (by decide) (fun c16 => ?_) (fun c16 => ?_) (by omega) (by omega)
      · skip
        refine lv_iload_n hx hb dL_does_104 rfl (lv_at hl 0 rfl) ?_
        refine W.widen (k := 1) (n := 4) (by omega) (by omega) ?_
        subst hQ
        refine m_iret hx hb hr hlocks hH hS dL_does_105 ?_ (by omega)
        exact ⟨by omega, u15, hD, hU⟩
      · skip
        refine j_const hx hb dL_does_100 ?_
        refine lv_goto (tgt := 105) hx hb dL_does_101 (by decide) ?_
        refine W.widen (k := 1) (n := 4) (by omega) (by omega) ?_
        subst hQ
        refine m_iret hx hb hr hlocks hH hS dL_does_105 ?_ (by omega)
        exact ⟨by omega, u15, hD, hU⟩
    · skip
      refine j_bipush hx hb dL_does_78 ?_ (by decide)
      refine lv_goto (tgt := 86) hx hb dL_does_80 (by decide) ?_
      refine m_callSi (As := [.int (iv y3), .int (iv 40)]) (rest := [.int (iv 1), .ref x]) ⟨hx, hb, hml, hown, hts⟩ hK hH hS (c_L_low l G μ n y3 40 (by omega) (by omega)) (va_cwS 2 hts gL_does_L_low rfl rfl rfl (by decide +kernel) ⟨(Nat.le_of_ble_eq_true rfl), (Nat.le_of_ble_eq_true rfl)⟩) rfl rfl hl.1 (Nat.le_of_ble_eq_true rfl) dL_does_86 ⟨Nat.zero_le _, Nat.zero_le _⟩ (fun z20 μ17 n18 H locs hz20 hp19 hH hS => ?_)
      obtain ⟨hqz20, hm2, hn2⟩ := hp19
      rw [hm2, hn2] at hH
      clear hm2 hn2
      refine j_iadd hx hb dL_does_89 ?_
      have hDo := hD
      refine m_callVi (As := [.int (iv (1 + z20))]) (rest := []) ⟨hx, hb, hml, hown, hts⟩ hK hH hS (c_X8_pass l G μ n x rb u0 (1 + z20) hD (by omega)) (cwV 1 hts gL_does_X8_pass rfl rfl rfl (by decide +kernel) ⟨(Nat.le_of_ble_eq_true rfl), (Nat.le_of_ble_eq_true rfl)⟩) hD.1 rfl rfl rfl rfl hl.1 (Nat.le_of_ble_eq_true rfl) dL_does_90 ⟨Nat.zero_le _, Nat.zero_le _⟩ (fun z24 μ21 n22 H locs hz24 hp23 hH hS => ?_)
      obtain ⟨hvz24, hD, hf1⟩ := hp23
      obtain ⟨u25, hu25⟩ : ∃ q : aS, q = (a_pass u0 (1 + z20)).1 := ⟨_, rfl⟩
      rw [← hu25] at hD
      have hU : UI u25 (b0 + 1000) := by rw [hu25]; exact hU.pass
      have hO := hD.okD
      have hvv := v_pass (u := u0) (k := (1 + z20)) hO0 (by omega)
      rw [← hvz24] at hvv
      refine lv_istore_n (lv' := [(2, .int (iv z24)), (0, .ref x), (1, .int (iv v))]) hx hb dL_does_93 rfl hl (by decide) rfl (fun ls hl => ?_)
      refine lv_iload_n hx hb dL_does_94 rfl (lv_at hl 0 rfl) ?_
      refine j_bipush hx hb dL_does_95 ?_ (by decide)
      refine j_icmp_ne (tgt := 104) hx hb dL_does_97 (by decide) (fun c26 => ?_) (fun c26 => ?_) (by omega) (by omega)
      · skip
        refine lv_iload_n hx hb dL_does_104 rfl (lv_at hl 0 rfl) ?_
        refine W.widen (k := 1) (n := 4) (by omega) (by omega) ?_
        subst hQ
        refine m_iret hx hb hr hlocks hH hS dL_does_105 ?_ (by omega)
        exact ⟨by omega, u25, hD, hU⟩
      · skip
        refine j_const hx hb dL_does_100 ?_
        refine lv_goto (tgt := 105) hx hb dL_does_101 (by decide) ?_
        refine W.widen (k := 1) (n := 4) (by omega) (by omega) ?_
        subst hQ
        refine m_iret hx hb hr hlocks hH hS dL_does_105 ?_ (by omega)
        exact ⟨by omega, u25, hD, hU⟩
  by_cases k2_1 : y1 = 1
  · skip
    refine j_table hx hb (tgt := 64) (1) k2_1 dL_does_6 ?_
    refine lv_aload_n hx hb dL_does_64 rfl (lv_at hl 1 rfl) ?_
    refine j_const hx hb dL_does_65 ?_
    refine lv_iload_n hx hb dL_does_66 rfl (lv_at hl 2 rfl) ?_
    refine j_const hx hb dL_does_67 ?_
    refine lv_ishr hx hb dL_does_68 ?_
    obtain ⟨y27, hy27, hry27⟩ : ∃ z : Int, iv v >>> (iv 4 &&& 31) = iv z ∧ -2147483648 ≤ z ∧ z ≤ 2147483647 := ⟨_, (iv_of _).symm, iv_rng _⟩
    rw [hy27]
    clear hy27
    refine lv_iload_n hx hb dL_does_69 rfl (lv_at hl 2 rfl) ?_
    refine j_bipush hx hb dL_does_70 ?_ (by decide)
    refine lv_ishr hx hb dL_does_72 ?_
    obtain ⟨y28, hy28, hry28⟩ : ∃ z : Int, iv v >>> (iv 14 &&& 31) = iv z ∧ -2147483648 ≤ z ∧ z ≤ 2147483647 := ⟨_, (iv_of _).symm, iv_rng _⟩
    rw [hy28]
    clear hy28
    refine j_const hx hb dL_does_73 ?_
    refine lv_iand hx hb dL_does_74 ?_
    obtain ⟨y29, hy29, hry29⟩ := and_le (iv y28) (iv 1) 1 (by decide)
    rw [hy29]
    clear hy29
    refine j_if_ne (tgt := 83) hx hb dL_does_75 (by decide) (fun c30 => ?_) (fun c30 => ?_) (by omega)
    · skip
      refine j_sipush hx hb dL_does_83 ?_ (by decide)
      refine m_callSi (As := [.int (iv y27), .int (iv 999)]) (rest := [.int (iv 1), .ref x]) ⟨hx, hb, hml, hown, hts⟩ hK hH hS (c_L_low l G μ n y27 999 (by omega) (by omega)) (va_cwS 2 hts gL_does_L_low rfl rfl rfl (by decide +kernel) ⟨(Nat.le_of_ble_eq_true rfl), (Nat.le_of_ble_eq_true rfl)⟩) rfl rfl hl.1 (Nat.le_of_ble_eq_true rfl) dL_does_86 ⟨Nat.zero_le _, Nat.zero_le _⟩ (fun z34 μ31 n32 H locs hz34 hp33 hH hS => ?_)
      obtain ⟨hqz34, hm2, hn2⟩ := hp33
      rw [hm2, hn2] at hH
      clear hm2 hn2
      refine j_iadd hx hb dL_does_89 ?_
      have hDo := hD
      refine m_callVi (As := [.int (iv (1 + z34))]) (rest := []) ⟨hx, hb, hml, hown, hts⟩ hK hH hS (c_X8_pass l G μ n x rb u0 (1 + z34) hD (by omega)) (cwV 1 hts gL_does_X8_pass rfl rfl rfl (by decide +kernel) ⟨(Nat.le_of_ble_eq_true rfl), (Nat.le_of_ble_eq_true rfl)⟩) hD.1 rfl rfl rfl rfl hl.1 (Nat.le_of_ble_eq_true rfl) dL_does_90 ⟨Nat.zero_le _, Nat.zero_le _⟩ (fun z38 μ35 n36 H locs hz38 hp37 hH hS => ?_)
      obtain ⟨hvz38, hD, hf1⟩ := hp37
      obtain ⟨u39, hu39⟩ : ∃ q : aS, q = (a_pass u0 (1 + z34)).1 := ⟨_, rfl⟩
      rw [← hu39] at hD
      have hU : UI u39 (b0 + 1000) := by rw [hu39]; exact hU.pass
      have hO := hD.okD
      have hvv := v_pass (u := u0) (k := (1 + z34)) hO0 (by omega)
      rw [← hvz38] at hvv
      refine lv_istore_n (lv' := [(2, .int (iv z38)), (0, .ref x), (1, .int (iv v))]) hx hb dL_does_93 rfl hl (by decide) rfl (fun ls hl => ?_)
      refine lv_iload_n hx hb dL_does_94 rfl (lv_at hl 0 rfl) ?_
      refine j_bipush hx hb dL_does_95 ?_ (by decide)
      refine j_icmp_ne (tgt := 104) hx hb dL_does_97 (by decide) (fun c40 => ?_) (fun c40 => ?_) (by omega) (by omega)
      · skip
        refine lv_iload_n hx hb dL_does_104 rfl (lv_at hl 0 rfl) ?_
        refine W.widen (k := 1) (n := 4) (by omega) (by omega) ?_
        subst hQ
        refine m_iret hx hb hr hlocks hH hS dL_does_105 ?_ (by omega)
        exact ⟨by omega, u39, hD, hU⟩
      · skip
        refine j_const hx hb dL_does_100 ?_
        refine lv_goto (tgt := 105) hx hb dL_does_101 (by decide) ?_
        refine W.widen (k := 1) (n := 4) (by omega) (by omega) ?_
        subst hQ
        refine m_iret hx hb hr hlocks hH hS dL_does_105 ?_ (by omega)
        exact ⟨by omega, u39, hD, hU⟩
    · skip
      refine j_bipush hx hb dL_does_78 ?_ (by decide)
      refine lv_goto (tgt := 86) hx hb dL_does_80 (by decide) ?_
      refine m_callSi (As := [.int (iv y27), .int (iv 40)]) (rest := [.int (iv 1), .ref x]) ⟨hx, hb, hml, hown, hts⟩ hK hH hS (c_L_low l G μ n y27 40 (by omega) (by omega)) (va_cwS 2 hts gL_does_L_low rfl rfl rfl (by decide +kernel) ⟨(Nat.le_of_ble_eq_true rfl), (Nat.le_of_ble_eq_true rfl)⟩) rfl rfl hl.1 (Nat.le_of_ble_eq_true rfl) dL_does_86 ⟨Nat.zero_le _, Nat.zero_le _⟩ (fun z44 μ41 n42 H locs hz44 hp43 hH hS => ?_)
      obtain ⟨hqz44, hm2, hn2⟩ := hp43
      rw [hm2, hn2] at hH
      clear hm2 hn2
      refine j_iadd hx hb dL_does_89 ?_
      have hDo := hD
      refine m_callVi (As := [.int (iv (1 + z44))]) (rest := []) ⟨hx, hb, hml, hown, hts⟩ hK hH hS (c_X8_pass l G μ n x rb u0 (1 + z44) hD (by omega)) (cwV 1 hts gL_does_X8_pass rfl rfl rfl (by decide +kernel) ⟨(Nat.le_of_ble_eq_true rfl), (Nat.le_of_ble_eq_true rfl)⟩) hD.1 rfl rfl rfl rfl hl.1 (Nat.le_of_ble_eq_true rfl) dL_does_90 ⟨Nat.zero_le _, Nat.zero_le _⟩ (fun z48 μ45 n46 H locs hz48 hp47 hH hS => ?_)
      obtain ⟨hvz48, hD, hf1⟩ := hp47
      obtain ⟨u49, hu49⟩ : ∃ q : aS, q = (a_pass u0 (1 + z44)).1 := ⟨_, rfl⟩
      rw [← hu49] at hD
      have hU : UI u49 (b0 + 1000) := by rw [hu49]; exact hU.pass
      have hO := hD.okD
      have hvv := v_pass (u := u0) (k := (1 + z44)) hO0 (by omega)
      rw [← hvz48] at hvv
      refine lv_istore_n (lv' := [(2, .int (iv z48)), (0, .ref x), (1, .int (iv v))]) hx hb dL_does_93 rfl hl (by decide) rfl (fun ls hl => ?_)
      refine lv_iload_n hx hb dL_does_94 rfl (lv_at hl 0 rfl) ?_
      refine j_bipush hx hb dL_does_95 ?_ (by decide)
      refine j_icmp_ne (tgt := 104) hx hb dL_does_97 (by decide) (fun c50 => ?_) (fun c50 => ?_) (by omega) (by omega)
      · skip
        refine lv_iload_n hx hb dL_does_104 rfl (lv_at hl 0 rfl) ?_
        refine W.widen (k := 1) (n := 4) (by omega) (by omega) ?_
        subst hQ
        refine m_iret hx hb hr hlocks hH hS dL_does_105 ?_ (by omega)
        exact ⟨by omega, u49, hD, hU⟩
      · skip
        refine j_const hx hb dL_does_100 ?_
        refine lv_goto (tgt := 105) hx hb dL_does_101 (by decide) ?_
        refine W.widen (k := 1) (n := 4) (by omega) (by omega) ?_
        subst hQ
        refine m_iret hx hb hr hlocks hH hS dL_does_105 ?_ (by omega)
        exact ⟨by omega, u49, hD, hU⟩
  by_cases k2_2 : y1 = 2
  · skip
    refine j_table hx hb (tgt := 106) (2) k2_2 dL_does_6 ?_
    refine lv_aload_n hx hb dL_does_106 rfl (lv_at hl 1 rfl) ?_
    refine lv_iload_n hx hb dL_does_107 rfl (lv_at hl 2 rfl) ?_
    refine j_const hx hb dL_does_108 ?_
    refine lv_ishr hx hb dL_does_109 ?_
    obtain ⟨y51, hy51, hry51⟩ : ∃ z : Int, iv v >>> (iv 4 &&& 31) = iv z ∧ -2147483648 ≤ z ∧ z ≤ 2147483647 := ⟨_, (iv_of _).symm, iv_rng _⟩
    rw [hy51]
    clear hy51
    refine j_const hx hb dL_does_110 ?_
    refine lv_iand hx hb dL_does_111 ?_
    obtain ⟨y52, hy52, hry52⟩ := and_le (iv y51) (iv 3) 3 (by decide)
    rw [hy52]
    clear hy52
    refine j_if_ne (tgt := 126) hx hb dL_does_112 (by decide) (fun c53 => ?_) (fun c53 => ?_) (by omega)
    · skip
      refine lv_aload_n hx hb dL_does_126 rfl (lv_at hl 1 rfl) ?_
      refine j_const hx hb dL_does_127 ?_
      refine m_callVi (As := [.int (iv 0)]) (rest := [.ref x]) ⟨hx, hb, hml, hown, hts⟩ hK hH hS (c_X8_count l G μ n x rb u0 0 hD (by omega)) (cwV 1 hts gL_does_X8_count rfl rfl rfl (by decide +kernel) ⟨(Nat.le_of_ble_eq_true rfl), (Nat.le_of_ble_eq_true rfl)⟩) hD.1 rfl rfl rfl rfl hl.1 (Nat.le_of_ble_eq_true rfl) dL_does_128 ⟨Nat.zero_le _, Nat.zero_le _⟩ (fun z57 μ54 n55 H locs hz57 hp56 hH hS => ?_)
      obtain ⟨hz2, hm2, hn2⟩ := hp56
      have hz2 := hz2.trans (show a_count u0 0 = ((aD u0).1 3) from rfl)
      rw [hm2, hn2] at hH
      rw [hz2] at hz57
      rw [hz2]
      clear hz2 hm2 hn2
      have hDo := hD
      refine m_callVi (As := [.int (iv ((aD u0).1 3))]) (rest := []) ⟨hx, hb, hml, hown, hts⟩ hK hH hS (c_X8_adjust l G μ n x rb u0 ((aD u0).1 3) hD (by omega)) (cwV 1 hts gL_does_X8_adjust rfl rfl rfl (by decide +kernel) ⟨(Nat.le_of_ble_eq_true rfl), (Nat.le_of_ble_eq_true rfl)⟩) hD.1 rfl rfl rfl rfl hl.1 (Nat.le_of_ble_eq_true rfl) dL_does_131 ⟨Nat.zero_le _, Nat.zero_le _⟩ (fun z61 μ58 n59 H locs hz61 hp60 hH hS => ?_)
      obtain ⟨hvz61, hD, hf1⟩ := hp60
      obtain ⟨u62, hu62⟩ : ∃ q : aS, q = (a_adjust u0 ((aD u0).1 3)).1 := ⟨_, rfl⟩
      rw [← hu62] at hD
      have hU : UI u62 (b0 + 1000) := by rw [hu62]; exact hU.adjust
      have hO := hD.okD
      have hvv : 0 ≤ (a_adjust u0 ((aD u0).1 3)).2 := by rw [v_adjust (by omega)]; exact (wsm_rng _ _ 0 6).1
      rw [← hvz61] at hvv
      refine W.widen (k := 1) (n := 4) (by omega) (by omega) ?_
      subst hQ
      refine m_iret hx hb hr hlocks hH hS dL_does_134 ?_ (by omega)
      exact ⟨by omega, u62, hD, hU⟩
    · skip
      refine lv_iload_n hx hb dL_does_115 rfl (lv_at hl 2 rfl) ?_
      refine j_const hx hb dL_does_116 ?_
      refine lv_ishr hx hb dL_does_117 ?_
      obtain ⟨y63, hy63, hry63⟩ : ∃ z : Int, iv v >>> (iv 3 &&& 31) = iv z ∧ -2147483648 ≤ z ∧ z ≤ 2147483647 := ⟨_, (iv_of _).symm, iv_rng _⟩
      rw [hy63]
      clear hy63
      refine j_ldc hx hb (36525) hown f_0 dL_does_118 ?_ (by decide)
      refine m_callSi (As := [.int (iv y63), .int (iv 36525)]) (rest := [.ref x]) ⟨hx, hb, hml, hown, hts⟩ hK hH hS (c_L_low l G μ n y63 36525 (by omega) (by omega)) (va_cwS 2 hts gL_does_L_low rfl rfl rfl (by decide +kernel) ⟨(Nat.le_of_ble_eq_true rfl), (Nat.le_of_ble_eq_true rfl)⟩) rfl rfl hl.1 (Nat.le_of_ble_eq_true rfl) dL_does_120 ⟨Nat.zero_le _, Nat.zero_le _⟩ (fun z67 μ64 n65 H locs hz67 hp66 hH hS => ?_)
      obtain ⟨hqz67, hm2, hn2⟩ := hp66
      rw [hm2, hn2] at hH
      clear hm2 hn2
      refine lv_goto (tgt := 131) hx hb dL_does_123 (by decide) ?_
      have hDo := hD
      refine m_callVi (As := [.int (iv z67)]) (rest := []) ⟨hx, hb, hml, hown, hts⟩ hK hH hS (c_X8_adjust l G μ n x rb u0 z67 hD (by omega)) (cwV 1 hts gL_does_X8_adjust rfl rfl rfl (by decide +kernel) ⟨(Nat.le_of_ble_eq_true rfl), (Nat.le_of_ble_eq_true rfl)⟩) hD.1 rfl rfl rfl rfl hl.1 (Nat.le_of_ble_eq_true rfl) dL_does_131 ⟨Nat.zero_le _, Nat.zero_le _⟩ (fun z71 μ68 n69 H locs hz71 hp70 hH hS => ?_)
      obtain ⟨hvz71, hD, hf1⟩ := hp70
      obtain ⟨u72, hu72⟩ : ∃ q : aS, q = (a_adjust u0 z67).1 := ⟨_, rfl⟩
      rw [← hu72] at hD
      have hU : UI u72 (b0 + 1000) := by rw [hu72]; exact hU.adjust
      have hO := hD.okD
      have hvv : 0 ≤ (a_adjust u0 z67).2 := by rw [v_adjust (by omega)]; exact (wsm_rng _ _ 0 6).1
      rw [← hvz71] at hvv
      refine W.widen (k := 1) (n := 4) (by omega) (by omega) ?_
      subst hQ
      refine m_iret hx hb hr hlocks hH hS dL_does_134 ?_ (by omega)
      exact ⟨by omega, u72, hD, hU⟩
  by_cases k2_3 : y1 = 3
  · skip
    refine j_table hx hb (tgt := 106) (3) k2_3 dL_does_6 ?_
    refine lv_aload_n hx hb dL_does_106 rfl (lv_at hl 1 rfl) ?_
    refine lv_iload_n hx hb dL_does_107 rfl (lv_at hl 2 rfl) ?_
    refine j_const hx hb dL_does_108 ?_
    refine lv_ishr hx hb dL_does_109 ?_
    obtain ⟨y73, hy73, hry73⟩ : ∃ z : Int, iv v >>> (iv 4 &&& 31) = iv z ∧ -2147483648 ≤ z ∧ z ≤ 2147483647 := ⟨_, (iv_of _).symm, iv_rng _⟩
    rw [hy73]
    clear hy73
    refine j_const hx hb dL_does_110 ?_
    refine lv_iand hx hb dL_does_111 ?_
    obtain ⟨y74, hy74, hry74⟩ := and_le (iv y73) (iv 3) 3 (by decide)
    rw [hy74]
    clear hy74
    refine j_if_ne (tgt := 126) hx hb dL_does_112 (by decide) (fun c75 => ?_) (fun c75 => ?_) (by omega)
    · skip
      refine lv_aload_n hx hb dL_does_126 rfl (lv_at hl 1 rfl) ?_
      refine j_const hx hb dL_does_127 ?_
      refine m_callVi (As := [.int (iv 0)]) (rest := [.ref x]) ⟨hx, hb, hml, hown, hts⟩ hK hH hS (c_X8_count l G μ n x rb u0 0 hD (by omega)) (cwV 1 hts gL_does_X8_count rfl rfl rfl (by decide +kernel) ⟨(Nat.le_of_ble_eq_true rfl), (Nat.le_of_ble_eq_true rfl)⟩) hD.1 rfl rfl rfl rfl hl.1 (Nat.le_of_ble_eq_true rfl) dL_does_128 ⟨Nat.zero_le _, Nat.zero_le _⟩ (fun z79 μ76 n77 H locs hz79 hp78 hH hS => ?_)
      obtain ⟨hz2, hm2, hn2⟩ := hp78
      have hz2 := hz2.trans (show a_count u0 0 = ((aD u0).1 3) from rfl)
      rw [hm2, hn2] at hH
      rw [hz2] at hz79
      rw [hz2]
      clear hz2 hm2 hn2
      have hDo := hD
      refine m_callVi (As := [.int (iv ((aD u0).1 3))]) (rest := []) ⟨hx, hb, hml, hown, hts⟩ hK hH hS (c_X8_adjust l G μ n x rb u0 ((aD u0).1 3) hD (by omega)) (cwV 1 hts gL_does_X8_adjust rfl rfl rfl (by decide +kernel) ⟨(Nat.le_of_ble_eq_true rfl), (Nat.le_of_ble_eq_true rfl)⟩) hD.1 rfl rfl rfl rfl hl.1 (Nat.le_of_ble_eq_true rfl) dL_does_131 ⟨Nat.zero_le _, Nat.zero_le _⟩ (fun z83 μ80 n81 H locs hz83 hp82 hH hS => ?_)
      obtain ⟨hvz83, hD, hf1⟩ := hp82
      obtain ⟨u84, hu84⟩ : ∃ q : aS, q = (a_adjust u0 ((aD u0).1 3)).1 := ⟨_, rfl⟩
      rw [← hu84] at hD
      have hU : UI u84 (b0 + 1000) := by rw [hu84]; exact hU.adjust
      have hO := hD.okD
      have hvv : 0 ≤ (a_adjust u0 ((aD u0).1 3)).2 := by rw [v_adjust (by omega)]; exact (wsm_rng _ _ 0 6).1
      rw [← hvz83] at hvv
      refine W.widen (k := 1) (n := 4) (by omega) (by omega) ?_
      subst hQ
      refine m_iret hx hb hr hlocks hH hS dL_does_134 ?_ (by omega)
      exact ⟨by omega, u84, hD, hU⟩
    · skip
      refine lv_iload_n hx hb dL_does_115 rfl (lv_at hl 2 rfl) ?_
      refine j_const hx hb dL_does_116 ?_
      refine lv_ishr hx hb dL_does_117 ?_
      obtain ⟨y85, hy85, hry85⟩ : ∃ z : Int, iv v >>> (iv 3 &&& 31) = iv z ∧ -2147483648 ≤ z ∧ z ≤ 2147483647 := ⟨_, (iv_of _).symm, iv_rng _⟩
      rw [hy85]
      clear hy85
      refine j_ldc hx hb (36525) hown f_0 dL_does_118 ?_ (by decide)
      refine m_callSi (As := [.int (iv y85), .int (iv 36525)]) (rest := [.ref x]) ⟨hx, hb, hml, hown, hts⟩ hK hH hS (c_L_low l G μ n y85 36525 (by omega) (by omega)) (va_cwS 2 hts gL_does_L_low rfl rfl rfl (by decide +kernel) ⟨(Nat.le_of_ble_eq_true rfl), (Nat.le_of_ble_eq_true rfl)⟩) rfl rfl hl.1 (Nat.le_of_ble_eq_true rfl) dL_does_120 ⟨Nat.zero_le _, Nat.zero_le _⟩ (fun z89 μ86 n87 H locs hz89 hp88 hH hS => ?_)
      obtain ⟨hqz89, hm2, hn2⟩ := hp88
      rw [hm2, hn2] at hH
      clear hm2 hn2
      refine lv_goto (tgt := 131) hx hb dL_does_123 (by decide) ?_
      have hDo := hD
      refine m_callVi (As := [.int (iv z89)]) (rest := []) ⟨hx, hb, hml, hown, hts⟩ hK hH hS (c_X8_adjust l G μ n x rb u0 z89 hD (by omega)) (cwV 1 hts gL_does_X8_adjust rfl rfl rfl (by decide +kernel) ⟨(Nat.le_of_ble_eq_true rfl), (Nat.le_of_ble_eq_true rfl)⟩) hD.1 rfl rfl rfl rfl hl.1 (Nat.le_of_ble_eq_true rfl) dL_does_131 ⟨Nat.zero_le _, Nat.zero_le _⟩ (fun z93 μ90 n91 H locs hz93 hp92 hH hS => ?_)
      obtain ⟨hvz93, hD, hf1⟩ := hp92
      obtain ⟨u94, hu94⟩ : ∃ q : aS, q = (a_adjust u0 z89).1 := ⟨_, rfl⟩
      rw [← hu94] at hD
      have hU : UI u94 (b0 + 1000) := by rw [hu94]; exact hU.adjust
      have hO := hD.okD
      have hvv : 0 ≤ (a_adjust u0 z89).2 := by rw [v_adjust (by omega)]; exact (wsm_rng _ _ 0 6).1
      rw [← hvz93] at hvv
      refine W.widen (k := 1) (n := 4) (by omega) (by omega) ?_
      subst hQ
      refine m_iret hx hb hr hlocks hH hS dL_does_134 ?_ (by omega)
      exact ⟨by omega, u94, hD, hU⟩
  by_cases k2_4 : y1 = 4
  · skip
    refine j_table hx hb (tgt := 106) (4) k2_4 dL_does_6 ?_
    refine lv_aload_n hx hb dL_does_106 rfl (lv_at hl 1 rfl) ?_
    refine lv_iload_n hx hb dL_does_107 rfl (lv_at hl 2 rfl) ?_
    refine j_const hx hb dL_does_108 ?_
    refine lv_ishr hx hb dL_does_109 ?_
    obtain ⟨y95, hy95, hry95⟩ : ∃ z : Int, iv v >>> (iv 4 &&& 31) = iv z ∧ -2147483648 ≤ z ∧ z ≤ 2147483647 := ⟨_, (iv_of _).symm, iv_rng _⟩
    rw [hy95]
    clear hy95
    refine j_const hx hb dL_does_110 ?_
    refine lv_iand hx hb dL_does_111 ?_
    obtain ⟨y96, hy96, hry96⟩ := and_le (iv y95) (iv 3) 3 (by decide)
    rw [hy96]
    clear hy96
    refine j_if_ne (tgt := 126) hx hb dL_does_112 (by decide) (fun c97 => ?_) (fun c97 => ?_) (by omega)
    · skip
      refine lv_aload_n hx hb dL_does_126 rfl (lv_at hl 1 rfl) ?_
      refine j_const hx hb dL_does_127 ?_
      refine m_callVi (As := [.int (iv 0)]) (rest := [.ref x]) ⟨hx, hb, hml, hown, hts⟩ hK hH hS (c_X8_count l G μ n x rb u0 0 hD (by omega)) (cwV 1 hts gL_does_X8_count rfl rfl rfl (by decide +kernel) ⟨(Nat.le_of_ble_eq_true rfl), (Nat.le_of_ble_eq_true rfl)⟩) hD.1 rfl rfl rfl rfl hl.1 (Nat.le_of_ble_eq_true rfl) dL_does_128 ⟨Nat.zero_le _, Nat.zero_le _⟩ (fun z101 μ98 n99 H locs hz101 hp100 hH hS => ?_)
      obtain ⟨hz2, hm2, hn2⟩ := hp100
      have hz2 := hz2.trans (show a_count u0 0 = ((aD u0).1 3) from rfl)
      rw [hm2, hn2] at hH
      rw [hz2] at hz101
      rw [hz2]
      clear hz2 hm2 hn2
      have hDo := hD
      refine m_callVi (As := [.int (iv ((aD u0).1 3))]) (rest := []) ⟨hx, hb, hml, hown, hts⟩ hK hH hS (c_X8_adjust l G μ n x rb u0 ((aD u0).1 3) hD (by omega)) (cwV 1 hts gL_does_X8_adjust rfl rfl rfl (by decide +kernel) ⟨(Nat.le_of_ble_eq_true rfl), (Nat.le_of_ble_eq_true rfl)⟩) hD.1 rfl rfl rfl rfl hl.1 (Nat.le_of_ble_eq_true rfl) dL_does_131 ⟨Nat.zero_le _, Nat.zero_le _⟩ (fun z105 μ102 n103 H locs hz105 hp104 hH hS => ?_)
      obtain ⟨hvz105, hD, hf1⟩ := hp104
      obtain ⟨u106, hu106⟩ : ∃ q : aS, q = (a_adjust u0 ((aD u0).1 3)).1 := ⟨_, rfl⟩
      rw [← hu106] at hD
      have hU : UI u106 (b0 + 1000) := by rw [hu106]; exact hU.adjust
      have hO := hD.okD
      have hvv : 0 ≤ (a_adjust u0 ((aD u0).1 3)).2 := by rw [v_adjust (by omega)]; exact (wsm_rng _ _ 0 6).1
      rw [← hvz105] at hvv
      refine W.widen (k := 1) (n := 4) (by omega) (by omega) ?_
      subst hQ
      refine m_iret hx hb hr hlocks hH hS dL_does_134 ?_ (by omega)
      exact ⟨by omega, u106, hD, hU⟩
    · skip
      refine lv_iload_n hx hb dL_does_115 rfl (lv_at hl 2 rfl) ?_
      refine j_const hx hb dL_does_116 ?_
      refine lv_ishr hx hb dL_does_117 ?_
      obtain ⟨y107, hy107, hry107⟩ : ∃ z : Int, iv v >>> (iv 3 &&& 31) = iv z ∧ -2147483648 ≤ z ∧ z ≤ 2147483647 := ⟨_, (iv_of _).symm, iv_rng _⟩
      rw [hy107]
      clear hy107
      refine j_ldc hx hb (36525) hown f_0 dL_does_118 ?_ (by decide)
      refine m_callSi (As := [.int (iv y107), .int (iv 36525)]) (rest := [.ref x]) ⟨hx, hb, hml, hown, hts⟩ hK hH hS (c_L_low l G μ n y107 36525 (by omega) (by omega)) (va_cwS 2 hts gL_does_L_low rfl rfl rfl (by decide +kernel) ⟨(Nat.le_of_ble_eq_true rfl), (Nat.le_of_ble_eq_true rfl)⟩) rfl rfl hl.1 (Nat.le_of_ble_eq_true rfl) dL_does_120 ⟨Nat.zero_le _, Nat.zero_le _⟩ (fun z111 μ108 n109 H locs hz111 hp110 hH hS => ?_)
      obtain ⟨hqz111, hm2, hn2⟩ := hp110
      rw [hm2, hn2] at hH
      clear hm2 hn2
      refine lv_goto (tgt := 131) hx hb dL_does_123 (by decide) ?_
      have hDo := hD
      refine m_callVi (As := [.int (iv z111)]) (rest := []) ⟨hx, hb, hml, hown, hts⟩ hK hH hS (c_X8_adjust l G μ n x rb u0 z111 hD (by omega)) (cwV 1 hts gL_does_X8_adjust rfl rfl rfl (by decide +kernel) ⟨(Nat.le_of_ble_eq_true rfl), (Nat.le_of_ble_eq_true rfl)⟩) hD.1 rfl rfl rfl rfl hl.1 (Nat.le_of_ble_eq_true rfl) dL_does_131 ⟨Nat.zero_le _, Nat.zero_le _⟩ (fun z115 μ112 n113 H locs hz115 hp114 hH hS => ?_)
      obtain ⟨hvz115, hD, hf1⟩ := hp114
      obtain ⟨u116, hu116⟩ : ∃ q : aS, q = (a_adjust u0 z111).1 := ⟨_, rfl⟩
      rw [← hu116] at hD
      have hU : UI u116 (b0 + 1000) := by rw [hu116]; exact hU.adjust
      have hO := hD.okD
      have hvv : 0 ≤ (a_adjust u0 z111).2 := by rw [v_adjust (by omega)]; exact (wsm_rng _ _ 0 6).1
      rw [← hvz115] at hvv
      refine W.widen (k := 1) (n := 4) (by omega) (by omega) ?_
      subst hQ
      refine m_iret hx hb hr hlocks hH hS dL_does_134 ?_ (by omega)
      exact ⟨by omega, u116, hD, hU⟩
  by_cases k2_5 : y1 = 5
  · skip
    refine j_table hx hb (tgt := 135) (5) k2_5 dL_does_6 ?_
    refine lv_iload_n hx hb dL_does_135 rfl (lv_at hl 2 rfl) ?_
    refine j_bipush hx hb dL_does_136 ?_ (by decide)
    refine lv_ishr hx hb dL_does_138 ?_
    obtain ⟨y117, hy117, hry117⟩ : ∃ z : Int, iv v >>> (iv 6 &&& 31) = iv z ∧ -2147483648 ≤ z ∧ z ≤ 2147483647 := ⟨_, (iv_of _).symm, iv_rng _⟩
    rw [hy117]
    clear hy117
    refine j_bipush hx hb dL_does_139 ?_ (by decide)
    refine m_callSi (As := [.int (iv y117), .int (iv 19)]) (rest := []) ⟨hx, hb, hml, hown, hts⟩ hK hH hS (c_L_low l G μ n y117 19 (by omega) (by omega)) (va_cwS 2 hts gL_does_L_low rfl rfl rfl (by decide +kernel) ⟨(Nat.le_of_ble_eq_true rfl), (Nat.le_of_ble_eq_true rfl)⟩) rfl rfl hl.1 (Nat.le_of_ble_eq_true rfl) dL_does_141 ⟨Nat.zero_le _, Nat.zero_le _⟩ (fun z121 μ118 n119 H locs hz121 hp120 hH hS => ?_)
    obtain ⟨hqz121, hm2, hn2⟩ := hp120
    rw [hm2, hn2] at hH
    clear hm2 hn2
    refine j_bipush hx hb dL_does_144 ?_ (by decide)
    refine j_isub hx hb dL_does_146 ?_
    refine lv_istore_n (lv' := [(3, .int (iv (z121 - 9))), (2, .int (iv 0)), (0, .ref x), (1, .int (iv v))]) hx hb dL_does_147 rfl hl (by decide) rfl (fun ls hl => ?_)
    refine lv_aload_n hx hb dL_does_148 rfl (lv_at hl 2 rfl) ?_
    refine lv_iload_n hx hb dL_does_149 rfl (lv_at hl 3 rfl) ?_
    refine j_const hx hb dL_does_150 ?_
    refine lv_ishr hx hb dL_does_151 ?_
    obtain ⟨y122, hy122, hry122⟩ : ∃ z : Int, iv v >>> (iv 4 &&& 31) = iv z ∧ -2147483648 ≤ z ∧ z ≤ 2147483647 := ⟨_, (iv_of _).symm, iv_rng _⟩
    rw [hy122]
    clear hy122
    refine j_bipush hx hb dL_does_152 ?_ (by decide)
    refine m_callSi (As := [.int (iv y122), .int (iv 6)]) (rest := [.ref x]) ⟨hx, hb, hml, hown, hts⟩ hK hH hS (c_L_low l G μ n y122 6 (by omega) (by omega)) (va_cwS 2 hts gL_does_L_low rfl rfl rfl (by decide +kernel) ⟨(Nat.le_of_ble_eq_true rfl), (Nat.le_of_ble_eq_true rfl)⟩) rfl rfl hl.1 (Nat.le_of_ble_eq_true rfl) dL_does_154 ⟨Nat.zero_le _, Nat.zero_le _⟩ (fun z126 μ123 n124 H locs hz126 hp125 hH hS => ?_)
    obtain ⟨hqz126, hm2, hn2⟩ := hp125
    rw [hm2, hn2] at hH
    clear hm2 hn2
    refine lv_iload_n hx hb dL_does_157 rfl (lv_at hl 0 rfl) ?_
    refine j_if_ne (tgt := 165) hx hb dL_does_158 (by decide) (fun c127 => ?_) (fun c127 => ?_) (by omega)
    · skip
      refine lv_iload_n hx hb dL_does_165 rfl (lv_at hl 0 rfl) ?_
      have hDo := hD
      refine m_callVi (As := [.int (iv z126), .int (iv (z121 - 9))]) (rest := []) ⟨hx, hb, hml, hown, hts⟩ hK hH hS (c_X8_turn l G μ n x rb u0 z126 (z121 - 9) hD (by omega) (by omega)) (cwV 2 hts gL_does_X8_turn rfl rfl rfl (by decide +kernel) ⟨(Nat.le_of_ble_eq_true rfl), (Nat.le_of_ble_eq_true rfl)⟩) hD.1 rfl rfl rfl rfl hl.1 (Nat.le_of_ble_eq_true rfl) dL_does_166 ⟨Nat.zero_le _, Nat.zero_le _⟩ (fun z131 μ128 n129 H locs hz131 hp130 hH hS => ?_)
      obtain ⟨hvz131, hD, hf1⟩ := hp130
      obtain ⟨u132, hu132⟩ : ∃ q : aS, q = (a_turn u0 z126 (z121 - 9)).1 := ⟨_, rfl⟩
      rw [← hu132] at hD
      have hU : UI u132 (b0 + 1000) := by rw [hu132]; exact hU.turn
      have hO := hD.okD
      have hvv := v_turn (u := u0) (p := z126) (k := (z121 - 9)) (by omega) (by omega)
      rw [← hvz131] at hvv
      refine W.widen (k := 1) (n := 4) (by omega) (by omega) ?_
      subst hQ
      refine m_iret hx hb hr hlocks hH hS dL_does_169 ?_ (by omega)
      exact ⟨by omega, u132, hD, hU⟩
    · skip
      refine j_const hx hb dL_does_161 ?_
      refine lv_goto (tgt := 166) hx hb dL_does_162 (by decide) ?_
      have hDo := hD
      refine m_callVi (As := [.int (iv z126), .int (iv 5)]) (rest := []) ⟨hx, hb, hml, hown, hts⟩ hK hH hS (c_X8_turn l G μ n x rb u0 z126 5 hD (by omega) (by omega)) (cwV 2 hts gL_does_X8_turn rfl rfl rfl (by decide +kernel) ⟨(Nat.le_of_ble_eq_true rfl), (Nat.le_of_ble_eq_true rfl)⟩) hD.1 rfl rfl rfl rfl hl.1 (Nat.le_of_ble_eq_true rfl) dL_does_166 ⟨Nat.zero_le _, Nat.zero_le _⟩ (fun z136 μ133 n134 H locs hz136 hp135 hH hS => ?_)
      obtain ⟨hvz136, hD, hf1⟩ := hp135
      obtain ⟨u137, hu137⟩ : ∃ q : aS, q = (a_turn u0 z126 5).1 := ⟨_, rfl⟩
      rw [← hu137] at hD
      have hU : UI u137 (b0 + 1000) := by rw [hu137]; exact hU.turn
      have hO := hD.okD
      have hvv := v_turn (u := u0) (p := z126) (k := 5) (by omega) (by omega)
      rw [← hvz136] at hvv
      refine W.widen (k := 1) (n := 4) (by omega) (by omega) ?_
      subst hQ
      refine m_iret hx hb hr hlocks hH hS dL_does_169 ?_ (by omega)
      exact ⟨by omega, u137, hD, hU⟩
  by_cases k2_6 : y1 = 6
  · skip
    refine j_table hx hb (tgt := 170) (6) k2_6 dL_does_6 ?_
    refine lv_aload_n hx hb dL_does_170 rfl (lv_at hl 1 rfl) ?_
    refine j_const hx hb dL_does_171 ?_
    refine lv_iload_n hx hb dL_does_172 rfl (lv_at hl 2 rfl) ?_
    refine j_const hx hb dL_does_173 ?_
    refine lv_ishr hx hb dL_does_174 ?_
    obtain ⟨y138, hy138, hry138⟩ : ∃ z : Int, iv v >>> (iv 4 &&& 31) = iv z ∧ -2147483648 ≤ z ∧ z ≤ 2147483647 := ⟨_, (iv_of _).symm, iv_rng _⟩
    rw [hy138]
    clear hy138
    refine j_sipush hx hb dL_does_175 ?_ (by decide)
    refine m_callSi (As := [.int (iv y138), .int (iv 200)]) (rest := [.int (iv 1), .ref x]) ⟨hx, hb, hml, hown, hts⟩ hK hH hS (c_L_low l G μ n y138 200 (by omega) (by omega)) (va_cwS 2 hts gL_does_L_low rfl rfl rfl (by decide +kernel) ⟨(Nat.le_of_ble_eq_true rfl), (Nat.le_of_ble_eq_true rfl)⟩) rfl rfl hl.1 (Nat.le_of_ble_eq_true rfl) dL_does_178 ⟨Nat.zero_le _, Nat.zero_le _⟩ (fun z142 μ139 n140 H locs hz142 hp141 hH hS => ?_)
    obtain ⟨hqz142, hm2, hn2⟩ := hp141
    rw [hm2, hn2] at hH
    clear hm2 hn2
    refine j_iadd hx hb dL_does_181 ?_
    have hDo := hD
    refine m_callVi (As := [.int (iv (1 + z142))]) (rest := []) ⟨hx, hb, hml, hown, hts⟩ hK hH hS (c_X8_fill l G μ n x rb u0 (1 + z142) hD (by omega)) (cwV 1 hts gL_does_X8_fill rfl rfl rfl (by decide +kernel) ⟨(Nat.le_of_ble_eq_true rfl), (Nat.le_of_ble_eq_true rfl)⟩) hD.1 rfl rfl rfl rfl hl.1 (Nat.le_of_ble_eq_true rfl) dL_does_182 ⟨Nat.zero_le _, Nat.zero_le _⟩ (fun z146 μ143 n144 H locs hz146 hp145 hH hS => ?_)
    obtain ⟨hvz146, hD, hf1⟩ := hp145
    obtain ⟨u147, hu147⟩ : ∃ q : aS, q = (a_fill u0 (1 + z142)).1 := ⟨_, rfl⟩
    rw [← hu147] at hD
    have hU : UI u147 (b0 + 1000) := by rw [hu147]; exact hU.fill
    have hO := hD.okD
    have hvv := v_fill (u := u0) (k := (1 + z142)) hO0 (by omega)
    rw [← hvz146] at hvv
    refine lv_istore_n (lv' := [(2, .int (iv z146)), (0, .ref x), (1, .int (iv v))]) hx hb dL_does_185 rfl hl (by decide) rfl (fun ls hl => ?_)
    refine lv_iload_n hx hb dL_does_186 rfl (lv_at hl 0 rfl) ?_
    refine j_bipush hx hb dL_does_187 ?_ (by decide)
    refine j_icmp_ne (tgt := 196) hx hb dL_does_189 (by decide) (fun c148 => ?_) (fun c148 => ?_) (by omega) (by omega)
    · skip
      refine lv_iload_n hx hb dL_does_196 rfl (lv_at hl 0 rfl) ?_
      refine W.widen (k := 1) (n := 4) (by omega) (by omega) ?_
      subst hQ
      refine m_iret hx hb hr hlocks hH hS dL_does_197 ?_ (by omega)
      exact ⟨by omega, u147, hD, hU⟩
    · skip
      refine j_const hx hb dL_does_192 ?_
      refine lv_goto (tgt := 197) hx hb dL_does_193 (by decide) ?_
      refine W.widen (k := 1) (n := 4) (by omega) (by omega) ?_
      subst hQ
      refine m_iret hx hb hr hlocks hH hS dL_does_197 ?_ (by omega)
      exact ⟨by omega, u147, hD, hU⟩
  by_cases k2_7 : y1 = 7
  · skip
    refine j_table hx hb (tgt := 198) (7) k2_7 dL_does_6 ?_
    refine lv_aload_n hx hb dL_does_198 rfl (lv_at hl 1 rfl) ?_
    refine lv_iload_n hx hb dL_does_199 rfl (lv_at hl 2 rfl) ?_
    refine j_const hx hb dL_does_200 ?_
    refine lv_ishr hx hb dL_does_201 ?_
    obtain ⟨y149, hy149, hry149⟩ : ∃ z : Int, iv v >>> (iv 4 &&& 31) = iv z ∧ -2147483648 ≤ z ∧ z ≤ 2147483647 := ⟨_, (iv_of _).symm, iv_rng _⟩
    rw [hy149]
    clear hy149
    refine j_bipush hx hb dL_does_202 ?_ (by decide)
    refine m_callSi (As := [.int (iv y149), .int (iv 6)]) (rest := [.ref x]) ⟨hx, hb, hml, hown, hts⟩ hK hH hS (c_L_low l G μ n y149 6 (by omega) (by omega)) (va_cwS 2 hts gL_does_L_low rfl rfl rfl (by decide +kernel) ⟨(Nat.le_of_ble_eq_true rfl), (Nat.le_of_ble_eq_true rfl)⟩) rfl rfl hl.1 (Nat.le_of_ble_eq_true rfl) dL_does_204 ⟨Nat.zero_le _, Nat.zero_le _⟩ (fun z153 μ150 n151 H locs hz153 hp152 hH hS => ?_)
    obtain ⟨hqz153, hm2, hn2⟩ := hp152
    rw [hm2, hn2] at hH
    clear hm2 hn2
    refine lv_iload_n hx hb dL_does_207 rfl (lv_at hl 2 rfl) ?_
    refine j_bipush hx hb dL_does_208 ?_ (by decide)
    refine lv_ishr hx hb dL_does_210 ?_
    obtain ⟨y154, hy154, hry154⟩ : ∃ z : Int, iv v >>> (iv 7 &&& 31) = iv z ∧ -2147483648 ≤ z ∧ z ≤ 2147483647 := ⟨_, (iv_of _).symm, iv_rng _⟩
    rw [hy154]
    clear hy154
    refine j_bipush hx hb dL_does_211 ?_ (by decide)
    refine m_callSi (As := [.int (iv y154), .int (iv 6)]) (rest := [.int (iv z153), .ref x]) ⟨hx, hb, hml, hown, hts⟩ hK hH hS (c_L_low l G μ n y154 6 (by omega) (by omega)) (va_cwS 2 hts gL_does_L_low rfl rfl rfl (by decide +kernel) ⟨(Nat.le_of_ble_eq_true rfl), (Nat.le_of_ble_eq_true rfl)⟩) rfl rfl hl.1 (Nat.le_of_ble_eq_true rfl) dL_does_213 ⟨Nat.zero_le _, Nat.zero_le _⟩ (fun z158 μ155 n156 H locs hz158 hp157 hH hS => ?_)
    obtain ⟨hqz158, hm2, hn2⟩ := hp157
    rw [hm2, hn2] at hH
    clear hm2 hn2
    have hDo := hD
    refine m_callVi (As := [.int (iv z153), .int (iv z158)]) (rest := []) ⟨hx, hb, hml, hown, hts⟩ hK hH hS (c_X8_exchange l G μ n x rb u0 z153 z158 hD (by omega) (by omega)) (cwV 2 hts gL_does_X8_exchange rfl rfl rfl (by decide +kernel) ⟨(Nat.le_of_ble_eq_true rfl), (Nat.le_of_ble_eq_true rfl)⟩) hD.1 rfl rfl rfl rfl hl.1 (Nat.le_of_ble_eq_true rfl) dL_does_216 ⟨Nat.zero_le _, Nat.zero_le _⟩ (fun z162 μ159 n160 H locs hz162 hp161 hH hS => ?_)
    obtain ⟨hvz162, hD, hf1⟩ := hp161
    obtain ⟨u163, hu163⟩ : ∃ q : aS, q = (a_exchange u0 z153 z158).1 := ⟨_, rfl⟩
    rw [← hu163] at hD
    have hU : UI u163 (b0 + 1000) := by rw [hu163]; exact hU.exchange
    have hO := hD.okD
    have hvv := v_exchange (u := u0) (p := z153) (q := z158) hO0 (by omega) (by omega)
    rw [← hvz162] at hvv
    refine lv_istore_n (lv' := [(2, .int (iv z162)), (0, .ref x), (1, .int (iv v))]) hx hb dL_does_219 rfl hl (by decide) rfl (fun ls hl => ?_)
    refine lv_iload_n hx hb dL_does_220 rfl (lv_at hl 0 rfl) ?_
    refine j_bipush hx hb dL_does_221 ?_ (by decide)
    refine j_icmp_ne (tgt := 230) hx hb dL_does_223 (by decide) (fun c164 => ?_) (fun c164 => ?_) (by omega) (by omega)
    · skip
      refine lv_iload_n hx hb dL_does_230 rfl (lv_at hl 0 rfl) ?_
      refine W.widen (k := 1) (n := 4) (by omega) (by omega) ?_
      subst hQ
      refine m_iret hx hb hr hlocks hH hS dL_does_231 ?_ (by omega)
      exact ⟨by omega, u163, hD, hU⟩
    · skip
      refine j_const hx hb dL_does_226 ?_
      refine lv_goto (tgt := 231) hx hb dL_does_227 (by decide) ?_
      refine W.widen (k := 1) (n := 4) (by omega) (by omega) ?_
      subst hQ
      refine m_iret hx hb hr hlocks hH hS dL_does_231 ?_ (by omega)
      exact ⟨by omega, u163, hD, hU⟩
  by_cases k2_8 : y1 = 8
  · skip
    refine j_table hx hb (tgt := 232) (8) k2_8 dL_does_6 ?_
    refine lv_aload_n hx hb dL_does_232 rfl (lv_at hl 1 rfl) ?_
    refine lv_iload_n hx hb dL_does_233 rfl (lv_at hl 2 rfl) ?_
    refine j_const hx hb dL_does_234 ?_
    refine lv_ishr hx hb dL_does_235 ?_
    obtain ⟨y165, hy165, hry165⟩ : ∃ z : Int, iv v >>> (iv 4 &&& 31) = iv z ∧ -2147483648 ≤ z ∧ z ≤ 2147483647 := ⟨_, (iv_of _).symm, iv_rng _⟩
    rw [hy165]
    clear hy165
    refine j_bipush hx hb dL_does_236 ?_ (by decide)
    refine m_callSi (As := [.int (iv y165), .int (iv 6)]) (rest := [.ref x]) ⟨hx, hb, hml, hown, hts⟩ hK hH hS (c_L_low l G μ n y165 6 (by omega) (by omega)) (va_cwS 2 hts gL_does_L_low rfl rfl rfl (by decide +kernel) ⟨(Nat.le_of_ble_eq_true rfl), (Nat.le_of_ble_eq_true rfl)⟩) rfl rfl hl.1 (Nat.le_of_ble_eq_true rfl) dL_does_238 ⟨Nat.zero_le _, Nat.zero_le _⟩ (fun z169 μ166 n167 H locs hz169 hp168 hH hS => ?_)
    obtain ⟨hqz169, hm2, hn2⟩ := hp168
    rw [hm2, hn2] at hH
    clear hm2 hn2
    have hDo := hD
    refine m_callVi (As := [.int (iv z169)]) (rest := []) ⟨hx, hb, hml, hown, hts⟩ hK hH hS (c_X8_tighten l G μ n x rb u0 z169 hD (by omega)) (cwV 1 hts gL_does_X8_tighten rfl rfl rfl (by decide +kernel) ⟨(Nat.le_of_ble_eq_true rfl), (Nat.le_of_ble_eq_true rfl)⟩) hD.1 rfl rfl rfl rfl hl.1 (Nat.le_of_ble_eq_true rfl) dL_does_241 ⟨Nat.zero_le _, Nat.zero_le _⟩ (fun z173 μ170 n171 H locs hz173 hp172 hH hS => ?_)
    obtain ⟨hvz173, hD, hf1⟩ := hp172
    obtain ⟨u174, hu174⟩ : ∃ q : aS, q = (a_tighten u0 z169).1 := ⟨_, rfl⟩
    rw [← hu174] at hD
    have hU : UI u174 (b0 + 1000) := by rw [hu174]; exact hU.tighten
    have hO := hD.okD
    have hvv := v_tighten (u := u0) (p := z169) hO0 (by omega)
    rw [← hvz173] at hvv
    refine lv_istore_n (lv' := [(2, .int (iv z173)), (0, .ref x), (1, .int (iv v))]) hx hb dL_does_244 rfl hl (by decide) rfl (fun ls hl => ?_)
    refine lv_iload_n hx hb dL_does_245 rfl (lv_at hl 0 rfl) ?_
    refine j_bipush hx hb dL_does_246 ?_ (by decide)
    refine j_icmp_ne (tgt := 255) hx hb dL_does_248 (by decide) (fun c175 => ?_) (fun c175 => ?_) (by omega) (by omega)
    · skip
      refine lv_iload_n hx hb dL_does_255 rfl (lv_at hl 0 rfl) ?_
      refine W.widen (k := 1) (n := 4) (by omega) (by omega) ?_
      subst hQ
      refine m_iret hx hb hr hlocks hH hS dL_does_256 ?_ (by omega)
      exact ⟨by omega, u174, hD, hU⟩
    · skip
      refine j_const hx hb dL_does_251 ?_
      refine lv_goto (tgt := 256) hx hb dL_does_252 (by decide) ?_
      refine W.widen (k := 1) (n := 4) (by omega) (by omega) ?_
      subst hQ
      refine m_iret hx hb hr hlocks hH hS dL_does_256 ?_ (by omega)
      exact ⟨by omega, u174, hD, hU⟩
  by_cases k2_9 : y1 = 9
  · skip
    refine j_table hx hb (tgt := 257) (9) k2_9 dL_does_6 ?_
    refine lv_iload_n hx hb dL_does_257 rfl (lv_at hl 2 rfl) ?_
    refine j_const hx hb dL_does_258 ?_
    refine lv_ishr hx hb dL_does_259 ?_
    obtain ⟨y176, hy176, hry176⟩ : ∃ z : Int, iv v >>> (iv 4 &&& 31) = iv z ∧ -2147483648 ≤ z ∧ z ≤ 2147483647 := ⟨_, (iv_of _).symm, iv_rng _⟩
    rw [hy176]
    clear hy176
    refine j_const hx hb dL_does_260 ?_
    refine lv_iand hx hb dL_does_261 ?_
    obtain ⟨y177, hy177, hry177⟩ := and_le (iv y176) (iv 3) 3 (by decide)
    rw [hy177]
    clear hy177
    refine j_if_ne (tgt := 281) hx hb dL_does_262 (by decide) (fun c178 => ?_) (fun c178 => ?_) (by omega)
    · skip
      refine j_const hx hb dL_does_281 ?_
      refine W.widen (k := 1) (n := 4) (by omega) (by omega) ?_
      subst hQ
      refine m_iret hx hb hr hlocks hH hS dL_does_282 ?_ (by omega)
      exact ⟨by omega, u0, hD, hU.mono (by omega)⟩
    · skip
      refine lv_aload_n hx hb dL_does_265 rfl (lv_at hl 1 rfl) ?_
      refine lv_iload_n hx hb dL_does_266 rfl (lv_at hl 2 rfl) ?_
      refine j_bipush hx hb dL_does_267 ?_ (by decide)
      refine lv_ishr hx hb dL_does_269 ?_
      obtain ⟨y179, hy179, hry179⟩ : ∃ z : Int, iv v >>> (iv 6 &&& 31) = iv z ∧ -2147483648 ≤ z ∧ z ≤ 2147483647 := ⟨_, (iv_of _).symm, iv_rng _⟩
      rw [hy179]
      clear hy179
      refine j_bipush hx hb dL_does_270 ?_ (by decide)
      refine m_callSi (As := [.int (iv y179), .int (iv 6)]) (rest := [.ref x]) ⟨hx, hb, hml, hown, hts⟩ hK hH hS (c_L_low l G μ n y179 6 (by omega) (by omega)) (va_cwS 2 hts gL_does_L_low rfl rfl rfl (by decide +kernel) ⟨(Nat.le_of_ble_eq_true rfl), (Nat.le_of_ble_eq_true rfl)⟩) rfl rfl hl.1 (Nat.le_of_ble_eq_true rfl) dL_does_272 ⟨Nat.zero_le _, Nat.zero_le _⟩ (fun z183 μ180 n181 H locs hz183 hp182 hH hS => ?_)
      obtain ⟨hqz183, hm2, hn2⟩ := hp182
      rw [hm2, hn2] at hH
      clear hm2 hn2
      have hDo := hD
      refine m_callVi (As := [.int (iv z183)]) (rest := []) ⟨hx, hb, hml, hown, hts⟩ hK hH hS (c_X8_replace l G μ n x rb u0 z183 hD (by omega)) (cwV 1 hts gL_does_X8_replace rfl rfl rfl (by decide +kernel) ⟨(Nat.le_of_ble_eq_true rfl), (Nat.le_of_ble_eq_true rfl)⟩) hD.1 rfl rfl rfl rfl hl.1 (Nat.le_of_ble_eq_true rfl) dL_does_275 ⟨Nat.zero_le _, Nat.zero_le _⟩ (fun z187 μ184 n185 H locs hz187 hp186 hH hS => ?_)
      obtain ⟨hvz187, hD, hf1⟩ := hp186
      obtain ⟨u188, hu188⟩ : ∃ q : aS, q = (a_replace u0 z183).1 := ⟨_, rfl⟩
      rw [← hu188] at hD
      have hU : UI u188 (b0 + 1000) := by rw [hu188]; exact hU.replace
      have hO := hD.okD
      have hvv := v_replace (u := u0) (p := z183) hO0 (by omega)
      rw [← hvz187] at hvv
      refine lv_goto (tgt := 282) hx hb dL_does_278 (by decide) ?_
      refine W.widen (k := 1) (n := 4) (by omega) (by omega) ?_
      subst hQ
      refine m_iret hx hb hr hlocks hH hS dL_does_282 ?_ (by omega)
      exact ⟨by omega, u188, hD, hU⟩
  by_cases k2_10 : y1 = 10
  · skip
    refine j_table hx hb (tgt := 283) (10) k2_10 dL_does_6 ?_
    refine lv_iload_n hx hb dL_does_283 rfl (lv_at hl 2 rfl) ?_
    refine j_const hx hb dL_does_284 ?_
    refine lv_ishr hx hb dL_does_285 ?_
    obtain ⟨y189, hy189, hry189⟩ : ∃ z : Int, iv v >>> (iv 4 &&& 31) = iv z ∧ -2147483648 ≤ z ∧ z ≤ 2147483647 := ⟨_, (iv_of _).symm, iv_rng _⟩
    rw [hy189]
    clear hy189
    refine j_const hx hb dL_does_286 ?_
    refine m_callSi (As := [.int (iv y189), .int (iv 3)]) (rest := []) ⟨hx, hb, hml, hown, hts⟩ hK hH hS (c_L_low l G μ n y189 3 (by omega) (by omega)) (va_cwS 2 hts gL_does_L_low rfl rfl rfl (by decide +kernel) ⟨(Nat.le_of_ble_eq_true rfl), (Nat.le_of_ble_eq_true rfl)⟩) rfl rfl hl.1 (Nat.le_of_ble_eq_true rfl) dL_does_287 ⟨Nat.zero_le _, Nat.zero_le _⟩ (fun z193 μ190 n191 H locs hz193 hp192 hH hS => ?_)
    obtain ⟨hqz193, hm2, hn2⟩ := hp192
    rw [hm2, hn2] at hH
    clear hm2 hn2
    refine lv_istore (lv' := [(4, .int (iv z193)), (2, .int (iv 0)), (0, .ref x), (1, .int (iv v))]) hx hb dL_does_290 hl (by decide) rfl (fun ls hl => ?_)
    refine lv_aload_n hx hb dL_does_292 rfl (lv_at hl 2 rfl) ?_
    refine lv_iload hx hb dL_does_293 (lv_at hl 0 rfl) ?_
    refine lv_iload hx hb dL_does_295 (lv_at hl 0 rfl) ?_
    refine j_if_ne (tgt := 315) hx hb dL_does_297 (by decide) (fun c194 => ?_) (fun c194 => ?_) (by omega)
    · skip
      refine lv_iload hx hb dL_does_315 (lv_at hl 0 rfl) ?_
      refine j_const hx hb dL_does_317 ?_
      refine j_icmp_ne (tgt := 336) hx hb dL_does_318 (by decide) (fun c195 => ?_) (fun c195 => ?_) (by omega) (by omega)
      · skip
        refine j_const hx hb dL_does_336 ?_
        refine lv_iload_n hx hb dL_does_337 rfl (lv_at hl 3 rfl) ?_
        refine j_bipush hx hb dL_does_338 ?_ (by decide)
        refine lv_ishr hx hb dL_does_340 ?_
        obtain ⟨y196, hy196, hry196⟩ : ∃ z : Int, iv v >>> (iv 6 &&& 31) = iv z ∧ -2147483648 ≤ z ∧ z ≤ 2147483647 := ⟨_, (iv_of _).symm, iv_rng _⟩
        rw [hy196]
        clear hy196
        refine j_bipush hx hb dL_does_341 ?_ (by decide)
        refine m_callSi (As := [.int (iv y196), .int (iv 60)]) (rest := [.int (iv 1), .int (iv z193), .ref x]) ⟨hx, hb, hml, hown, hts⟩ hK hH hS (c_L_low l G μ n y196 60 (by omega) (by omega)) (va_cwS 2 hts gL_does_L_low rfl rfl rfl (by decide +kernel) ⟨(Nat.le_of_ble_eq_true rfl), (Nat.le_of_ble_eq_true rfl)⟩) rfl rfl hl.1 (Nat.le_of_ble_eq_true rfl) dL_does_343 ⟨Nat.zero_le _, Nat.zero_le _⟩ (fun z200 μ197 n198 H locs hz200 hp199 hH hS => ?_)
        obtain ⟨hqz200, hm2, hn2⟩ := hp199
        rw [hm2, hn2] at hH
        clear hm2 hn2
        refine j_iadd hx hb dL_does_346 ?_
        have hDo := hD
        refine m_callVi (As := [.int (iv z193), .int (iv (1 + z200))]) (rest := []) ⟨hx, hb, hml, hown, hts⟩ hK hH hS (c_X8_set l G μ n x rb u0 z193 (1 + z200) hD (by omega) (by omega)) (cwV 2 hts gL_does_X8_set rfl rfl rfl (by decide +kernel) ⟨(Nat.le_of_ble_eq_true rfl), (Nat.le_of_ble_eq_true rfl)⟩) hD.1 rfl rfl rfl rfl hl.1 (Nat.le_of_ble_eq_true rfl) dL_does_347 ⟨Nat.zero_le _, Nat.zero_le _⟩ (fun z204 μ201 n202 H locs hz204 hp203 hH hS => ?_)
        obtain ⟨hvz204, hD, hf1⟩ := hp203
        obtain ⟨u205, hu205⟩ : ∃ q : aS, q = (a_set u0 z193 (1 + z200)).1 := ⟨_, rfl⟩
        rw [← hu205] at hD
        have hU : UI u205 (b0 + 1000) := by rw [hu205]; exact hU.set
        have hO := hD.okD
        have hvv := v_set (u := u0) (w := z193) (v := (1 + z200)) hO0 (by omega) (by unfold loSet hiSet; (repeat' split) <;> omega)
        rw [← hvz204] at hvv
        refine lv_istore_n (lv' := [(2, .int (iv z204)), (4, .int (iv z193)), (0, .ref x), (1, .int (iv v))]) hx hb dL_does_350 rfl hl (by decide) rfl (fun ls hl => ?_)
        refine lv_iload_n hx hb dL_does_351 rfl (lv_at hl 0 rfl) ?_
        refine j_bipush hx hb dL_does_352 ?_ (by decide)
        refine j_icmp_ne (tgt := 361) hx hb dL_does_354 (by decide) (fun c206 => ?_) (fun c206 => ?_) (by omega) (by omega)
        · skip
          refine lv_iload_n hx hb dL_does_361 rfl (lv_at hl 0 rfl) ?_
          refine W.widen (k := 1) (n := 4) (by omega) (by omega) ?_
          subst hQ
          refine m_iret hx hb hr hlocks hH hS dL_does_362 ?_ (by omega)
          exact ⟨by omega, u205, hD, hU⟩
        · skip
          refine j_const hx hb dL_does_357 ?_
          refine lv_goto (tgt := 362) hx hb dL_does_358 (by decide) ?_
          refine W.widen (k := 1) (n := 4) (by omega) (by omega) ?_
          subst hQ
          refine m_iret hx hb hr hlocks hH hS dL_does_362 ?_ (by omega)
          exact ⟨by omega, u205, hD, hU⟩
      · skip
        refine j_bipush hx hb dL_does_321 ?_ (by decide)
        refine lv_iload_n hx hb dL_does_323 rfl (lv_at hl 3 rfl) ?_
        refine j_bipush hx hb dL_does_324 ?_ (by decide)
        refine lv_ishr hx hb dL_does_326 ?_
        obtain ⟨y207, hy207, hry207⟩ : ∃ z : Int, iv v >>> (iv 6 &&& 31) = iv z ∧ -2147483648 ≤ z ∧ z ≤ 2147483647 := ⟨_, (iv_of _).symm, iv_rng _⟩
        rw [hy207]
        clear hy207
        refine j_bipush hx hb dL_does_327 ?_ (by decide)
        refine m_callSi (As := [.int (iv y207), .int (iv 91)]) (rest := [.int (iv 60), .int (iv z193), .ref x]) ⟨hx, hb, hml, hown, hts⟩ hK hH hS (c_L_low l G μ n y207 91 (by omega) (by omega)) (va_cwS 2 hts gL_does_L_low rfl rfl rfl (by decide +kernel) ⟨(Nat.le_of_ble_eq_true rfl), (Nat.le_of_ble_eq_true rfl)⟩) rfl rfl hl.1 (Nat.le_of_ble_eq_true rfl) dL_does_329 ⟨Nat.zero_le _, Nat.zero_le _⟩ (fun z211 μ208 n209 H locs hz211 hp210 hH hS => ?_)
        obtain ⟨hqz211, hm2, hn2⟩ := hp210
        rw [hm2, hn2] at hH
        clear hm2 hn2
        refine j_iadd hx hb dL_does_332 ?_
        refine lv_goto (tgt := 347) hx hb dL_does_333 (by decide) ?_
        have hDo := hD
        refine m_callVi (As := [.int (iv z193), .int (iv (60 + z211))]) (rest := []) ⟨hx, hb, hml, hown, hts⟩ hK hH hS (c_X8_set l G μ n x rb u0 z193 (60 + z211) hD (by omega) (by omega)) (cwV 2 hts gL_does_X8_set rfl rfl rfl (by decide +kernel) ⟨(Nat.le_of_ble_eq_true rfl), (Nat.le_of_ble_eq_true rfl)⟩) hD.1 rfl rfl rfl rfl hl.1 (Nat.le_of_ble_eq_true rfl) dL_does_347 ⟨Nat.zero_le _, Nat.zero_le _⟩ (fun z215 μ212 n213 H locs hz215 hp214 hH hS => ?_)
        obtain ⟨hvz215, hD, hf1⟩ := hp214
        obtain ⟨u216, hu216⟩ : ∃ q : aS, q = (a_set u0 z193 (60 + z211)).1 := ⟨_, rfl⟩
        rw [← hu216] at hD
        have hU : UI u216 (b0 + 1000) := by rw [hu216]; exact hU.set
        have hO := hD.okD
        have hvv := v_set (u := u0) (w := z193) (v := (60 + z211)) hO0 (by omega) (by unfold loSet hiSet; (repeat' split) <;> omega)
        rw [← hvz215] at hvv
        refine lv_istore_n (lv' := [(2, .int (iv z215)), (4, .int (iv z193)), (0, .ref x), (1, .int (iv v))]) hx hb dL_does_350 rfl hl (by decide) rfl (fun ls hl => ?_)
        refine lv_iload_n hx hb dL_does_351 rfl (lv_at hl 0 rfl) ?_
        refine j_bipush hx hb dL_does_352 ?_ (by decide)
        refine j_icmp_ne (tgt := 361) hx hb dL_does_354 (by decide) (fun c217 => ?_) (fun c217 => ?_) (by omega) (by omega)
        · skip
          refine lv_iload_n hx hb dL_does_361 rfl (lv_at hl 0 rfl) ?_
          refine W.widen (k := 1) (n := 4) (by omega) (by omega) ?_
          subst hQ
          refine m_iret hx hb hr hlocks hH hS dL_does_362 ?_ (by omega)
          exact ⟨by omega, u216, hD, hU⟩
        · skip
          refine j_const hx hb dL_does_357 ?_
          refine lv_goto (tgt := 362) hx hb dL_does_358 (by decide) ?_
          refine W.widen (k := 1) (n := 4) (by omega) (by omega) ?_
          subst hQ
          refine m_iret hx hb hr hlocks hH hS dL_does_362 ?_ (by omega)
          exact ⟨by omega, u216, hD, hU⟩
    · skip
      refine j_bipush hx hb dL_does_300 ?_ (by decide)
      refine lv_iload_n hx hb dL_does_302 rfl (lv_at hl 3 rfl) ?_
      refine j_bipush hx hb dL_does_303 ?_ (by decide)
      refine lv_ishr hx hb dL_does_305 ?_
      obtain ⟨y218, hy218, hry218⟩ : ∃ z : Int, iv v >>> (iv 6 &&& 31) = iv z ∧ -2147483648 ≤ z ∧ z ≤ 2147483647 := ⟨_, (iv_of _).symm, iv_rng _⟩
      rw [hy218]
      clear hy218
      refine j_bipush hx hb dL_does_306 ?_ (by decide)
      refine m_callSi (As := [.int (iv y218), .int (iv 51)]) (rest := [.int (iv 10), .int (iv z193), .ref x]) ⟨hx, hb, hml, hown, hts⟩ hK hH hS (c_L_low l G μ n y218 51 (by omega) (by omega)) (va_cwS 2 hts gL_does_L_low rfl rfl rfl (by decide +kernel) ⟨(Nat.le_of_ble_eq_true rfl), (Nat.le_of_ble_eq_true rfl)⟩) rfl rfl hl.1 (Nat.le_of_ble_eq_true rfl) dL_does_308 ⟨Nat.zero_le _, Nat.zero_le _⟩ (fun z222 μ219 n220 H locs hz222 hp221 hH hS => ?_)
      obtain ⟨hqz222, hm2, hn2⟩ := hp221
      rw [hm2, hn2] at hH
      clear hm2 hn2
      refine j_iadd hx hb dL_does_311 ?_
      refine lv_goto (tgt := 347) hx hb dL_does_312 (by decide) ?_
      have hDo := hD
      refine m_callVi (As := [.int (iv z193), .int (iv (10 + z222))]) (rest := []) ⟨hx, hb, hml, hown, hts⟩ hK hH hS (c_X8_set l G μ n x rb u0 z193 (10 + z222) hD (by omega) (by omega)) (cwV 2 hts gL_does_X8_set rfl rfl rfl (by decide +kernel) ⟨(Nat.le_of_ble_eq_true rfl), (Nat.le_of_ble_eq_true rfl)⟩) hD.1 rfl rfl rfl rfl hl.1 (Nat.le_of_ble_eq_true rfl) dL_does_347 ⟨Nat.zero_le _, Nat.zero_le _⟩ (fun z226 μ223 n224 H locs hz226 hp225 hH hS => ?_)
      obtain ⟨hvz226, hD, hf1⟩ := hp225
      obtain ⟨u227, hu227⟩ : ∃ q : aS, q = (a_set u0 z193 (10 + z222)).1 := ⟨_, rfl⟩
      rw [← hu227] at hD
      have hU : UI u227 (b0 + 1000) := by rw [hu227]; exact hU.set
      have hO := hD.okD
      have hvv := v_set (u := u0) (w := z193) (v := (10 + z222)) hO0 (by omega) (by unfold loSet hiSet; (repeat' split) <;> omega)
      rw [← hvz226] at hvv
      refine lv_istore_n (lv' := [(2, .int (iv z226)), (4, .int (iv z193)), (0, .ref x), (1, .int (iv v))]) hx hb dL_does_350 rfl hl (by decide) rfl (fun ls hl => ?_)
      refine lv_iload_n hx hb dL_does_351 rfl (lv_at hl 0 rfl) ?_
      refine j_bipush hx hb dL_does_352 ?_ (by decide)
      refine j_icmp_ne (tgt := 361) hx hb dL_does_354 (by decide) (fun c228 => ?_) (fun c228 => ?_) (by omega) (by omega)
      · skip
        refine lv_iload_n hx hb dL_does_361 rfl (lv_at hl 0 rfl) ?_
        refine W.widen (k := 1) (n := 4) (by omega) (by omega) ?_
        subst hQ
        refine m_iret hx hb hr hlocks hH hS dL_does_362 ?_ (by omega)
        exact ⟨by omega, u227, hD, hU⟩
      · skip
        refine j_const hx hb dL_does_357 ?_
        refine lv_goto (tgt := 362) hx hb dL_does_358 (by decide) ?_
        refine W.widen (k := 1) (n := 4) (by omega) (by omega) ?_
        subst hQ
        refine m_iret hx hb hr hlocks hH hS dL_does_362 ?_ (by omega)
        exact ⟨by omega, u227, hD, hU⟩
  refine j_tableO (tgt := 363) hx hb dL_does_6 (by omega) ?_ (by decide) (by omega)
  refine lv_aload_n hx hb dL_does_363 rfl (lv_at hl 1 rfl) ?_
  refine j_const hx hb dL_does_364 ?_
  refine lv_iload_n hx hb dL_does_365 rfl (lv_at hl 2 rfl) ?_
  refine j_const hx hb dL_does_366 ?_
  refine lv_ishr hx hb dL_does_367 ?_
  obtain ⟨y229, hy229, hry229⟩ : ∃ z : Int, iv v >>> (iv 4 &&& 31) = iv z ∧ -2147483648 ≤ z ∧ z ≤ 2147483647 := ⟨_, (iv_of _).symm, iv_rng _⟩
  rw [hy229]
  clear hy229
  refine j_bipush hx hb dL_does_368 ?_ (by decide)
  refine m_callSi (As := [.int (iv y229), .int (iv 9)]) (rest := [.int (iv 1), .ref x]) ⟨hx, hb, hml, hown, hts⟩ hK hH hS (c_L_low l G μ n y229 9 (by omega) (by omega)) (va_cwS 2 hts gL_does_L_low rfl rfl rfl (by decide +kernel) ⟨(Nat.le_of_ble_eq_true rfl), (Nat.le_of_ble_eq_true rfl)⟩) rfl rfl hl.1 (Nat.le_of_ble_eq_true rfl) dL_does_370 ⟨Nat.zero_le _, Nat.zero_le _⟩ (fun z233 μ230 n231 H locs hz233 hp232 hH hS => ?_)
  obtain ⟨hqz233, hm2, hn2⟩ := hp232
  rw [hm2, hn2] at hH
  clear hm2 hn2
  refine j_iadd hx hb dL_does_373 ?_
  refine j_const hx hb dL_does_374 ?_
  refine lv_iload_n hx hb dL_does_375 rfl (lv_at hl 2 rfl) ?_
  refine j_bipush hx hb dL_does_376 ?_ (by decide)
  refine lv_ishr hx hb dL_does_378 ?_
  obtain ⟨y234, hy234, hry234⟩ : ∃ z : Int, iv v >>> (iv 8 &&& 31) = iv z ∧ -2147483648 ≤ z ∧ z ≤ 2147483647 := ⟨_, (iv_of _).symm, iv_rng _⟩
  rw [hy234]
  clear hy234
  refine j_bipush hx hb dL_does_379 ?_ (by decide)
  refine m_callSi (As := [.int (iv y234), .int (iv 6)]) (rest := [.int (iv 1), .int (iv (1 + z233)), .ref x]) ⟨hx, hb, hml, hown, hts⟩ hK hH hS (c_L_low l G μ n y234 6 (by omega) (by omega)) (va_cwS 2 hts gL_does_L_low rfl rfl rfl (by decide +kernel) ⟨(Nat.le_of_ble_eq_true rfl), (Nat.le_of_ble_eq_true rfl)⟩) rfl rfl hl.1 (Nat.le_of_ble_eq_true rfl) dL_does_381 ⟨Nat.zero_le _, Nat.zero_le _⟩ (fun z238 μ235 n236 H locs hz238 hp237 hH hS => ?_)
  obtain ⟨hqz238, hm2, hn2⟩ := hp237
  rw [hm2, hn2] at hH
  clear hm2 hn2
  refine j_iadd hx hb dL_does_384 ?_
  have hDo := hD
  refine m_callVi (As := [.int (iv (1 + z233)), .int (iv (1 + z238))]) (rest := []) ⟨hx, hb, hml, hown, hts⟩ hK hH hS (c_X8_press l G μ n x rb u0 (1 + z233) (1 + z238) hD (by omega) (by omega) (by omega)) (cwV 2 hts gL_does_X8_press rfl rfl rfl (by decide +kernel) ⟨(Nat.le_of_ble_eq_true rfl), (Nat.le_of_ble_eq_true rfl)⟩) hD.1 rfl rfl rfl rfl hl.1 (Nat.le_of_ble_eq_true rfl) dL_does_385 ⟨(Nat.le_of_ble_eq_true rfl), (Nat.le_of_ble_eq_true rfl)⟩ (fun z242 μ239 n240 H locs hz242 hp241 hH hS => ?_)
  obtain ⟨hvz242, hD, hf1⟩ := hp241
  obtain ⟨u243, hu243⟩ : ∃ q : aS, q = (a_press u0 (1 + z233) (1 + z238)).1 := ⟨_, rfl⟩
  rw [← hu243] at hD
  have hU : UI u243 (b0 + 1000) := by rw [hu243]; exact hU.press hO0 (by omega)
  have hO := hD.okD
  have hvv := v_press (u := u0) (k := (1 + z233)) (t := (1 + z238)) (by omega) (by omega)
  rw [← hvz242] at hvv
  subst hQ
  refine m_iret hx hb hr hlocks hH hS dL_does_388 ?_ (by omega)
  exact ⟨by omega, u243, hD, hU⟩
