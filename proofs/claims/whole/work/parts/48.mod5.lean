abbrev rm_c_X9_agrees : Room := { frames := 1, cells := 0, slots := 0, locals := 23 }
set_option maxHeartbeats 4000000 in
set_option maxRecDepth 100000 in
theorem c_X9_agrees (l : Launch) (G : wG) (μ : hM) (n : Nat) (D O : Int) (U : Nat) (hD : 0 ≤ D ∧ D ≤ 999999) (hO : 0 ≤ O ∧ O ≤ 999999) (hU : U < 64) : Met l yX9_agrees wsX9_agrees rm_c_X9_agrees (mPc G μ n [.int (iv D), .int (iv O), .int (iv ((U : Nat) : Int))]) (mQi G (fun z μ1 n1 => z = agB D O U 6 ∧ μ1 = μ ∧ n1 = n)) 0 0 (gA G) := by
  refine Met.ofW (cc := cX9_agrees) (maxL := 5) (ret := (some .boolean)) (by decide) rfl ?_
  intro p e s m args below meth c s₁ B hml hv
  obtain ⟨hav, hK, hH⟩ := hv
  have hx := B.exec
  have hb := B.bytes
  have hr := B.returns
  have hts := atoms_spec (ws := wsX9_agrees) B.pre
  have hown : s.vm.findClass RX9 = some m.cls := findClass_of_methodNamed B.named
  have hlocks := B.notSynchronized
  have hS : va_S (gA G) s.heap s.heap [] := va_S.rf
  have hl := lv_entry ([.int (iv D), .int (iv O), .int (iv ((U : Nat) : Int))]) (n := 5) (Nat.le_of_ble_eq_true rfl)
  have hfr : entryFrame m args 5 = entryFrame m ([.int (iv D), .int (iv O), .int (iv ((U : Nat) : Int))] : List Value).toArray 5 := by rw [hav]
  rw [hfr, lg_entry_eq]
  generalize (lg_sl ([.int (iv D), .int (iv O), .int (iv ((U : Nat) : Int))]) ++ List.replicate (5 - (lg_sl ([.int (iv D), .int (iv O), .int (iv ((U : Nat) : Int))])).length) Slot.unset).toArray = ls at hl ⊢
  have hl : lv_has ls 5 [(0, .int (iv D)), (1, .int (iv O)), (2, .int (iv ((U : Nat) : Int)))] := hl
  generalize hQ : MQ below _ args s 0 0 (gA G) = Q
  show W p l e rm_c_X9_agrees s m args below meth c s.heap [] 0 0 Q (F0 m 0 ls [])
  obtain ⟨H, hHe⟩ : ∃ H, H = s.heap := ⟨_, rfl⟩
  obtain ⟨locs, hlo⟩ : ∃ q : List Loc, q = [] := ⟨_, rfl⟩
  have hH : gP G μ n H := by rw [hHe]; exact hH
  have hS : va_S (gA G) s.heap H locs := by rw [hHe, hlo]; exact hS
  suffices hgo : W p l e rm_c_X9_agrees s m args below meth c H locs 0 0 Q (F0 m 0 ls []) by rw [hHe, hlo] at hgo; exact hgo
  clear hHe hlo hfr hav
  refine j_const hx hb dX9_agrees_0 ?_
  refine lv_istore_n (lv' := [(3, .int (iv 1)), (0, .int (iv D)), (1, .int (iv O)), (2, .int (iv ((U : Nat) : Int)))]) hx hb dX9_agrees_1 rfl hl (by decide) rfl (fun ls hl => ?_)
  refine j_const hx hb dX9_agrees_2 ?_
  refine lv_istore (lv' := [(4, .int (iv 0)), (3, .int (iv 1)), (0, .int (iv D)), (1, .int (iv O)), (2, .int (iv ((U : Nat) : Int)))]) hx hb dX9_agrees_3 hl (by decide) rfl (fun ls hl => ?_)
  have lp5 : ∀ (fuel : Nat) (i : Nat) (a0 : Int) (hi : i ≤ 6) (ha : a0 = agB D O U i) (_ : 6 - i < fuel) (H : Heap) (locs : List Loc) (ls : Array Slot) (_ : gP G μ n H) (_ : va_S (gA G) s.heap H locs) (_ : lv_has ls 5 [(0, .int (iv D)), (1, .int (iv O)), (2, .int (iv ((U : Nat) : Int))), (3, .int (iv a0)), (4, .int (iv (i : Int)))]), W p l e rm_c_X9_agrees s m args below meth c H locs 0 0 Q (F0 m 5 ls []) := by
    intro fuel
    induction fuel with
    | zero => intro _ _ _ _ hfuel; exact absurd hfuel (Nat.not_lt_zero _)
    | succ fuel ih =>
      intro i a0 hi ha hfuel H locs ls hH hS hl
      have ha01 := agB_01 D O U i
      rw [← ha] at ha01
      have hd1 := dAt_rng D i
      have hd2 := dAt_rng O i
      have ih1 := ih; clear ih
      refine lv_iload hx hb dX9_agrees_5 (lv_at hl 4 rfl) ?_
      refine j_bipush hx hb dX9_agrees_7 ?_ (by decide)
      refine j_icmp_ge (tgt := 53) hx hb dX9_agrees_9 (by decide) (fun c2 => ?_) (fun c2 => ?_) (by omega) (by omega)
      · skip
        refine lv_iload_n hx hb dX9_agrees_53 rfl (lv_at hl 3 rfl) ?_
        subst hQ
        refine m_zret hx hb hr hlocks hH hS dX9_agrees_54 ?_ (by omega)
        refine ⟨?_, rfl, rfl⟩
        rw [ha, show i = 6 by omega]
      · skip
        refine lv_iload_n hx hb dX9_agrees_12 rfl (lv_at hl 3 rfl) ?_
        refine j_if_eq (tgt := 45) hx hb dX9_agrees_13 (by decide) (fun c3 => ?_) (fun c3 => ?_) (by omega)
        · skip
          refine j_const hx hb dX9_agrees_45 ?_
          refine lv_istore_n (lv' := [(3, .int (iv 0)), (0, .int (iv D)), (1, .int (iv O)), (2, .int (iv ((U : Nat) : Int))), (4, .int (iv (i : Int)))]) hx hb dX9_agrees_46 rfl hl (by decide) rfl (fun ls hl => ?_)
          refine j_iinc (lv' := [(4, .int (iv ((i : Int) + 1))), (3, .int (iv 0)), (0, .int (iv D)), (1, .int (iv O)), (2, .int (iv ((U : Nat) : Int)))]) hx hb dX9_agrees_47 hl (k := 4) rfl (by decide) rfl (fun ls hl => ?_)
          refine lv_goto (tgt := 5) hx hb dX9_agrees_50 (by decide) ?_
          exact ih1 (i + 1) 0 (by omega) (by show _ = (if agB D O U i = 1 ∧ (U / 2 ^ i % 2 = 1 ∨ dAt D i = dAt O i) then 1 else 0); rw [← ha, if_neg (by omega)]) (by omega) H locs ls hH hS (lv_sub hl [2, 3, 4, 1, 0] rfl)
        · skip
          refine lv_iload_n hx hb dX9_agrees_16 rfl (lv_at hl 2 rfl) ?_
          refine lv_iload hx hb dX9_agrees_17 (lv_at hl 4 rfl) ?_
          refine j_ishr (v := ((U / 2 ^ i : Nat) : Int)) hx hb dX9_agrees_19 (bit_shk i (by omega) U hU) ?_
          refine j_const hx hb dX9_agrees_20 ?_
          refine j_iand (v := ((U / 2 ^ i % 2 : Nat) : Int)) hx hb dX9_agrees_21 (bit_and1 (U / 2 ^ i) (by have := Nat.div_le_self U (2 ^ i); omega)) ?_
          refine j_const hx hb dX9_agrees_22 ?_
          refine j_icmp_eq (tgt := 41) hx hb dX9_agrees_23 (by decide) (fun c4 => ?_) (fun c4 => ?_) (by omega) (by omega)
          · skip
            refine j_const hx hb dX9_agrees_41 ?_
            refine lv_goto (tgt := 46) hx hb dX9_agrees_42 (by decide) ?_
            refine lv_istore_n (lv' := [(3, .int (iv 1)), (0, .int (iv D)), (1, .int (iv O)), (2, .int (iv ((U : Nat) : Int))), (4, .int (iv (i : Int)))]) hx hb dX9_agrees_46 rfl hl (by decide) rfl (fun ls hl => ?_)
            refine j_iinc (lv' := [(4, .int (iv ((i : Int) + 1))), (3, .int (iv 1)), (0, .int (iv D)), (1, .int (iv O)), (2, .int (iv ((U : Nat) : Int)))]) hx hb dX9_agrees_47 hl (k := 4) rfl (by decide) rfl (fun ls hl => ?_)
            refine lv_goto (tgt := 5) hx hb dX9_agrees_50 (by decide) ?_
            exact ih1 (i + 1) 1 (by omega) (by show _ = (if agB D O U i = 1 ∧ (U / 2 ^ i % 2 = 1 ∨ dAt D i = dAt O i) then 1 else 0); rw [← ha, if_pos (by omega)]) (by omega) H locs ls hH hS (lv_sub hl [2, 3, 4, 1, 0] rfl)
          · skip
            refine lv_iload_n hx hb dX9_agrees_26 rfl (lv_at hl 0 rfl) ?_
            refine lv_iload hx hb dX9_agrees_27 (lv_at hl 4 rfl) ?_
            refine m_callSi (As := [.int (iv D), .int (iv (i : Int))]) (rest := []) ⟨hx, hb, hml, hown, hts⟩ hK hH hS (c_X9_digitAt l G μ n D (i : Int) (by omega) (by omega)) (va_cwS 2 hts gX9_agrees_X9_digitAt rfl rfl rfl (by decide +kernel) ⟨(Nat.le_of_ble_eq_true rfl), (Nat.le_of_ble_eq_true rfl)⟩) rfl rfl hl.1 (Nat.le_of_ble_eq_true rfl) dX9_agrees_29 ⟨Nat.zero_le _, Nat.zero_le _⟩ (fun z8 μ5 n6 H locs hz8 hp7 hH hS => ?_)
            obtain ⟨hz9, hm9, hn9⟩ := hp7
            rw [hm9, hn9] at hH
            rw [hz9]
            clear hz9 hm9 hn9
            refine j_norm (y := (dAt D i)) rfl ?_
            refine lv_iload_n hx hb dX9_agrees_32 rfl (lv_at hl 1 rfl) ?_
            refine lv_iload hx hb dX9_agrees_33 (lv_at hl 4 rfl) ?_
            refine m_callSi (As := [.int (iv O), .int (iv (i : Int))]) (rest := [.int (iv (dAt D i))]) ⟨hx, hb, hml, hown, hts⟩ hK hH hS (c_X9_digitAt l G μ n O (i : Int) (by omega) (by omega)) (va_cwS 2 hts gX9_agrees_X9_digitAt rfl rfl rfl (by decide +kernel) ⟨(Nat.le_of_ble_eq_true rfl), (Nat.le_of_ble_eq_true rfl)⟩) rfl rfl hl.1 (Nat.le_of_ble_eq_true rfl) dX9_agrees_35 ⟨Nat.zero_le _, Nat.zero_le _⟩ (fun z12 μ9 n10 H locs hz12 hp11 hH hS => ?_)
            obtain ⟨hz9, hm9, hn9⟩ := hp11
            rw [hm9, hn9] at hH
            rw [hz9]
            clear hz9 hm9 hn9
            refine j_norm (y := (dAt O i)) rfl ?_
            refine j_icmp_ne (tgt := 45) hx hb dX9_agrees_38 (by decide) (fun c13 => ?_) (fun c13 => ?_) (by omega) (by omega)
            · skip
              refine j_const hx hb dX9_agrees_45 ?_
              refine lv_istore_n (lv' := [(3, .int (iv 0)), (0, .int (iv D)), (1, .int (iv O)), (2, .int (iv ((U : Nat) : Int))), (4, .int (iv (i : Int)))]) hx hb dX9_agrees_46 rfl hl (by decide) rfl (fun ls hl => ?_)
              refine j_iinc (lv' := [(4, .int (iv ((i : Int) + 1))), (3, .int (iv 0)), (0, .int (iv D)), (1, .int (iv O)), (2, .int (iv ((U : Nat) : Int)))]) hx hb dX9_agrees_47 hl (k := 4) rfl (by decide) rfl (fun ls hl => ?_)
              refine lv_goto (tgt := 5) hx hb dX9_agrees_50 (by decide) ?_
              exact ih1 (i + 1) 0 (by omega) (by show _ = (if agB D O U i = 1 ∧ (U / 2 ^ i % 2 = 1 ∨ dAt D i = dAt O i) then 1 else 0); rw [← ha, if_neg (by omega)]) (by omega) H locs ls hH hS (lv_sub hl [2, 3, 4, 1, 0] rfl)
            · skip
              refine j_const hx hb dX9_agrees_41 ?_
              refine lv_goto (tgt := 46) hx hb dX9_agrees_42 (by decide) ?_
              refine lv_istore_n (lv' := [(3, .int (iv 1)), (0, .int (iv D)), (1, .int (iv O)), (2, .int (iv ((U : Nat) : Int))), (4, .int (iv (i : Int)))]) hx hb dX9_agrees_46 rfl hl (by decide) rfl (fun ls hl => ?_)
              refine j_iinc (lv' := [(4, .int (iv ((i : Int) + 1))), (3, .int (iv 1)), (0, .int (iv D)), (1, .int (iv O)), (2, .int (iv ((U : Nat) : Int)))]) hx hb dX9_agrees_47 hl (k := 4) rfl (by decide) rfl (fun ls hl => ?_)
              refine lv_goto (tgt := 5) hx hb dX9_agrees_50 (by decide) ?_
              exact ih1 (i + 1) 1 (by omega) (by show _ = (if agB D O U i = 1 ∧ (U / 2 ^ i % 2 = 1 ∨ dAt D i = dAt O i) then 1 else 0); rw [← ha, if_pos (by omega)]) (by omega) H locs ls hH hS (lv_sub hl [2, 3, 4, 1, 0] rfl)
  exact lp5 (7) 0 1 (by omega) rfl (by omega) H locs ls hH hS (lv_sub hl [2, 3, 4, 1, 0] rfl)

abbrev rm_c_X9_agreeing : Room := { frames := 2, cells := 0, slots := 0, locals := 47 }
set_option maxHeartbeats 4000000 in
set_option maxRecDepth 100000 in
theorem c_X9_agreeing (l : Launch) (G : wG) (μ : hM) (n : Nat) (D : Int) (U : Nat) (b : Int) (hD : 0 ≤ D ∧ D ≤ 999999) (hU : U < 64) (hb1 : 0 ≤ b ∧ b ≤ 1) : Met l yX9_agreeing wsX9_agreeing rm_c_X9_agreeing (mPc G μ n [.int (iv D), .int (iv ((U : Nat) : Int)), .int (iv b)]) (mQi G (fun z μ1 n1 => z = (if b = 1 then afst D (63 - U) 36525 else acnt D (63 - U) 36525) ∧ μ1 = μ ∧ n1 = n)) 0 0 (gA G) := by
  refine Met.ofW (cc := cX9_agreeing) (maxL := 10) (ret := (some .int)) (by decide) rfl ?_
  intro p e s m args below meth c s₁ B hml hv
  obtain ⟨hav, hK, hH⟩ := hv
  have hx := B.exec
  have hb := B.bytes
  have hr := B.returns
  have hts := atoms_spec (ws := wsX9_agreeing) B.pre
  have hown : s.vm.findClass RX9 = some m.cls := findClass_of_methodNamed B.named
  have hlocks := B.notSynchronized
  have hS : va_S (gA G) s.heap s.heap [] := va_S.rf
  have hl := lv_entry ([.int (iv D), .int (iv ((U : Nat) : Int)), .int (iv b)]) (n := 10) (Nat.le_of_ble_eq_true rfl)
  have hfr : entryFrame m args 10 = entryFrame m ([.int (iv D), .int (iv ((U : Nat) : Int)), .int (iv b)] : List Value).toArray 10 := by rw [hav]
  rw [hfr, lg_entry_eq]
  generalize (lg_sl ([.int (iv D), .int (iv ((U : Nat) : Int)), .int (iv b)]) ++ List.replicate (10 - (lg_sl ([.int (iv D), .int (iv ((U : Nat) : Int)), .int (iv b)])).length) Slot.unset).toArray = ls at hl ⊢
  have hl : lv_has ls 10 [(0, .int (iv D)), (1, .int (iv ((U : Nat) : Int))), (2, .int (iv b))] := hl
  generalize hQ : MQ below _ args s 0 0 (gA G) = Q
  show W p l e rm_c_X9_agreeing s m args below meth c s.heap [] 0 0 Q (F0 m 0 ls [])
  obtain ⟨H, hHe⟩ : ∃ H, H = s.heap := ⟨_, rfl⟩
  obtain ⟨locs, hlo⟩ : ∃ q : List Loc, q = [] := ⟨_, rfl⟩
  have hH : gP G μ n H := by rw [hHe]; exact hH
  have hS : va_S (gA G) s.heap H locs := by rw [hHe, hlo]; exact hS
  suffices hgo : W p l e rm_c_X9_agreeing s m args below meth c H locs 0 0 Q (F0 m 0 ls []) by rw [hHe, hlo] at hgo; exact hgo
  clear hHe hlo hfr hav
  refine j_const hx hb dX9_agreeing_0 ?_
  refine lv_istore_n (lv' := [(3, .int (iv 0)), (0, .int (iv D)), (1, .int (iv ((U : Nat) : Int))), (2, .int (iv b))]) hx hb dX9_agreeing_1 rfl hl (by decide) rfl (fun ls hl => ?_)
  refine j_bipush hx hb dX9_agreeing_2 ?_ (by decide)
  refine lv_istore (lv' := [(4, .int (iv (-5))), (3, .int (iv 0)), (0, .int (iv D)), (1, .int (iv ((U : Nat) : Int))), (2, .int (iv b))]) hx hb dX9_agreeing_4 hl (by decide) rfl (fun ls hl => ?_)
  refine j_const hx hb dX9_agreeing_6 ?_
  refine lv_istore (lv' := [(5, .int (iv 0)), (4, .int (iv (-5))), (3, .int (iv 0)), (0, .int (iv D)), (1, .int (iv ((U : Nat) : Int))), (2, .int (iv b))]) hx hb dX9_agreeing_7 hl (by decide) rfl (fun ls hl => ?_)
  refine j_const hx hb dX9_agreeing_9 ?_
  refine lv_istore (lv' := [(6, .int (iv 0)), (5, .int (iv 0)), (4, .int (iv (-5))), (3, .int (iv 0)), (0, .int (iv D)), (1, .int (iv ((U : Nat) : Int))), (2, .int (iv b))]) hx hb dX9_agreeing_10 hl (by decide) rfl (fun ls hl => ?_)
  have lp12 : ∀ (fuel : Nat) (k : Nat) (dy : Nat) (hkk : k ≤ 1200) (hdy : (dy : Int) = ystart ((k / 12 : Nat) : Int) + cum ((k % 12 + 1 : Nat) : Int) ((k / 12 : Nat) : Int)) (_ : 1200 - k < fuel) (H : Heap) (locs : List Loc) (ls : Array Slot) (_ : gP G μ n H) (_ : va_S (gA G) s.heap H locs) (_ : lv_has ls 10 [(0, .int (iv D)), (1, .int (iv ((U : Nat) : Int))), (2, .int (iv b)), (3, .int (iv (acnt D (63 - U) dy))), (4, .int (iv (afst D (63 - U) dy))), (5, .int (iv (dy : Int))), (6, .int (iv (k : Int)))]), W p l e rm_c_X9_agreeing s m args below meth c H locs 0 0 Q (F0 m 12 ls []) := by
    intro fuel
    induction fuel with
    | zero => intro _ _ _ _ hfuel; exact absurd hfuel (Nat.not_lt_zero _)
    | succ fuel ih =>
      intro k dy hkk hdy hfuel H locs ls hH hS hl
      have ih1 := ih; clear ih
      refine lv_iload hx hb dX9_agreeing_12 (lv_at hl 6 rfl) ?_
      refine j_sipush hx hb dX9_agreeing_14 ?_ (by decide)
      refine j_icmp_ge (tgt := 108) hx hb dX9_agreeing_17 (by decide) (fun c2 => ?_) (fun c2 => ?_) (by omega) (by omega)
      · skip
        have hk12 : k = 1200 := by omega
        have hdz : dy = 36525 := by subst hk12; have q : (dy : Int) = ystart 100 + cum 1 100 := hdy; rw [show ystart 100 + cum 1 100 = 36525 from rfl] at q; omega
        have har := acnt_rng D (63 - U) dy
        have hfr2 := afst_rng D (63 - U) dy
        refine lv_iload_n hx hb dX9_agreeing_108 rfl (lv_at hl 2 rfl) ?_
        refine j_if_eq (tgt := 117) hx hb dX9_agreeing_109 (by decide) (fun c3 => ?_) (fun c3 => ?_) (by omega)
        · skip
          refine lv_iload_n hx hb dX9_agreeing_117 rfl (lv_at hl 3 rfl) ?_
          subst hQ
          refine m_iret hx hb hr hlocks hH hS dX9_agreeing_118 ?_ (by omega)
          refine ⟨?_, rfl, rfl⟩
          rw [← hdz]
          split <;> first | rfl | omega
        · skip
          refine lv_iload hx hb dX9_agreeing_112 (lv_at hl 4 rfl) ?_
          refine lv_goto (tgt := 118) hx hb dX9_agreeing_114 (by decide) ?_
          subst hQ
          refine m_iret hx hb hr hlocks hH hS dX9_agreeing_118 ?_ (by omega)
          refine ⟨?_, rfl, rfl⟩
          rw [← hdz]
          split <;> first | rfl | omega
      · skip
        refine lv_iload hx hb dX9_agreeing_20 (lv_at hl 6 rfl) ?_
        refine j_bipush hx hb dX9_agreeing_22 ?_ (by decide)
        refine j_irem hx hb dX9_agreeing_24 ?_ (by omega) (by omega)
        refine j_const hx hb dX9_agreeing_25 ?_
        refine j_iadd hx hb dX9_agreeing_26 ?_
        refine j_norm (y := ((k % 12 + 1 : Nat) : Int)) (by omega) ?_
        refine lv_istore (lv' := [(7, .int (iv ((k % 12 + 1 : Nat) : Int))), (0, .int (iv D)), (1, .int (iv ((U : Nat) : Int))), (2, .int (iv b)), (3, .int (iv (acnt D (63 - U) dy))), (4, .int (iv (afst D (63 - U) dy))), (5, .int (iv (dy : Int))), (6, .int (iv (k : Int)))]) hx hb dX9_agreeing_27 hl (by decide) rfl (fun ls hl => ?_)
        refine lv_iload hx hb dX9_agreeing_29 (lv_at hl 0 rfl) ?_
        refine lv_iload hx hb dX9_agreeing_31 (lv_at hl 7 rfl) ?_
        refine j_bipush hx hb dX9_agreeing_33 ?_ (by decide)
        refine j_idiv hx hb dX9_agreeing_35 ?_ (by omega) (by omega)
        refine j_norm (y := ((k / 12 : Nat) : Int)) (by omega) ?_
        refine m_callSi (As := [.int (iv ((k % 12 + 1 : Nat) : Int)), .int (iv ((k / 12 : Nat) : Int))]) (rest := []) ⟨hx, hb, hml, hown, hts⟩ hK hH hS (c_X9_monthDays l G μ n ((k % 12 + 1 : Nat) : Int) ((k / 12 : Nat) : Int) (by omega) (by omega)) (va_cwS 2 hts gX9_agreeing_X9_monthDays rfl rfl rfl (by decide +kernel) ⟨(Nat.le_of_ble_eq_true rfl), (Nat.le_of_ble_eq_true rfl)⟩) rfl rfl hl.1 (Nat.le_of_ble_eq_true rfl) dX9_agreeing_36 ⟨Nat.zero_le _, Nat.zero_le _⟩ (fun z7 μ4 n5 H locs hz7 hp6 hH hS => ?_)
        obtain ⟨hz2, hm2, hn2⟩ := hp6; rw [hz2]; rw [hm2, hn2] at hH; clear hz2 hm2 hn2
        refine lv_istore (lv' := [(8, .int (iv (mlen ((k % 12 + 1 : Nat) : Int) ((k / 12 : Nat) : Int)))), (7, .int (iv ((k % 12 + 1 : Nat) : Int))), (0, .int (iv D)), (1, .int (iv ((U : Nat) : Int))), (2, .int (iv b)), (3, .int (iv (acnt D (63 - U) dy))), (4, .int (iv (afst D (63 - U) dy))), (5, .int (iv (dy : Int))), (6, .int (iv (k : Int)))]) hx hb dX9_agreeing_39 hl (by decide) rfl (fun ls hl => ?_)
        have hmL := mlen_rng ((k % 12 + 1 : Nat) : Int) ((k / 12 : Nat) : Int)
        refine j_const hx hb dX9_agreeing_41 ?_
        refine lv_istore (lv' := [(9, .int (iv 1)), (8, .int (iv (mlen ((k % 12 + 1 : Nat) : Int) ((k / 12 : Nat) : Int)))), (7, .int (iv ((k % 12 + 1 : Nat) : Int))), (0, .int (iv D)), (1, .int (iv ((U : Nat) : Int))), (2, .int (iv b)), (3, .int (iv (acnt D (63 - U) dy))), (4, .int (iv (afst D (63 - U) dy))), (5, .int (iv (dy : Int))), (6, .int (iv (k : Int)))]) hx hb dX9_agreeing_42 hl (by decide) rfl (fun ls hl => ?_)
        have lp44 : ∀ (fuel : Nat) (dy2 : Nat) (oo : Int) (hoo : 1 ≤ oo ∧ oo ≤ mlen ((k % 12 + 1 : Nat) : Int) ((k / 12 : Nat) : Int) + 1) (hd2 : (dy2 : Int) = ystart ((k / 12 : Nat) : Int) + cum ((k % 12 + 1 : Nat) : Int) ((k / 12 : Nat) : Int) + oo - 1) (_ : (mlen ((k % 12 + 1 : Nat) : Int) ((k / 12 : Nat) : Int) + 1 - oo).toNat < fuel) (H : Heap) (locs : List Loc) (ls : Array Slot) (_ : gP G μ n H) (_ : va_S (gA G) s.heap H locs) (_ : lv_has ls 10 [(0, .int (iv D)), (1, .int (iv ((U : Nat) : Int))), (2, .int (iv b)), (3, .int (iv (acnt D (63 - U) dy2))), (4, .int (iv (afst D (63 - U) dy2))), (5, .int (iv (dy2 : Int))), (6, .int (iv (k : Int))), (7, .int (iv ((k % 12 + 1 : Nat) : Int))), (8, .int (iv (mlen ((k % 12 + 1 : Nat) : Int) ((k / 12 : Nat) : Int)))), (9, .int (iv oo))]), W p l e rm_c_X9_agreeing s m args below meth c H locs 0 0 Q (F0 m 44 ls []) := by
          intro fuel
          induction fuel with
          | zero => intro _ _ _ _ hfuel; exact absurd hfuel (Nat.not_lt_zero _)
          | succ fuel ih =>
            intro dy2 oo hoo hd2 hfuel H locs ls hH hS hl
            have ih8 := ih; clear ih
            refine lv_iload hx hb dX9_agreeing_44 (lv_at hl 9 rfl) ?_
            refine lv_iload hx hb dX9_agreeing_46 (lv_at hl 8 rfl) ?_
            refine j_icmp_gt (tgt := 102) hx hb dX9_agreeing_48 (by decide) (fun c9 => ?_) (fun c9 => ?_) (by omega) (by omega)
            · skip
              refine j_iinc (lv' := [(6, .int (iv ((k : Int) + 1))), (0, .int (iv D)), (1, .int (iv ((U : Nat) : Int))), (2, .int (iv b)), (3, .int (iv (acnt D (63 - U) dy2))), (4, .int (iv (afst D (63 - U) dy2))), (5, .int (iv (dy2 : Int))), (7, .int (iv ((k % 12 + 1 : Nat) : Int))), (8, .int (iv (mlen ((k % 12 + 1 : Nat) : Int) ((k / 12 : Nat) : Int)))), (9, .int (iv oo))]) hx hb dX9_agreeing_102 hl (k := 6) rfl (by decide) rfl (fun ls hl => ?_)
              refine lv_goto (tgt := 12) hx hb dX9_agreeing_105 (by decide) ?_
              exact ih1 (k + 1) dy2 (by omega) (by rw [← day_s]; omega) (by omega) H locs ls hH hS (lv_sub hl [1, 2, 3, 4, 5, 6, 0] rfl)
            · skip
              have hcm := cum13 (m := ((k % 12 + 1 : Nat) : Int)) (y := ((k / 12 : Nat) : Int)) (by omega)
              have hy1 := ystart_s ((k / 12 : Nat) : Int)
              have hc13 := cum_13 ((k / 12 : Nat) : Int)
              have hy2 : ystart (((k / 12 : Nat) : Int) + 1) ≤ 36525 ∧ 0 ≤ ystart ((k / 12 : Nat) : Int) := by unfold ystart; omega
              have hda := dig_at (y := ((k / 12 : Nat) : Int)) (m := ((k % 12 + 1 : Nat) : Int)) (d := oo) (by omega) (by omega)
              rw [← hd2] at hda
              have hdr := dig_rng (day := (dy2 : Int)) (by omega)
              have hag := agB_agx (D := D) (x := (dy2 : Int)) hD hdr hU
              have hag1 := agx_rng D (63 - U) (dy2 : Int)
              have hcf := afst_cnt (D := D) (P := 63 - U) dy2
              have hcr := acnt_rng D (63 - U) dy2
              refine j_sipush hx hb dX9_agreeing_51 ?_ (by decide)
              refine lv_iload hx hb dX9_agreeing_54 (lv_at hl 9 rfl) ?_
              refine j_imul hx hb dX9_agreeing_56 ?_
              refine j_bipush hx hb dX9_agreeing_57 ?_ (by decide)
              refine lv_iload hx hb dX9_agreeing_59 (lv_at hl 7 rfl) ?_
              refine j_imul hx hb dX9_agreeing_61 ?_
              refine j_iadd hx hb dX9_agreeing_62 ?_
              refine lv_iload hx hb dX9_agreeing_63 (lv_at hl 6 rfl) ?_
              refine j_bipush hx hb dX9_agreeing_65 ?_ (by decide)
              refine j_idiv hx hb dX9_agreeing_67 ?_ (by omega) (by omega)
              refine j_iadd hx hb dX9_agreeing_68 ?_
              refine j_norm (y := (dig (dy2 : Int))) (by rw [hda]; omega) ?_
              refine lv_iload_n hx hb dX9_agreeing_69 rfl (lv_at hl 0 rfl) ?_
              refine lv_iload_n hx hb dX9_agreeing_70 rfl (lv_at hl 1 rfl) ?_
              refine m_callSi (As := [.int (iv (dig (dy2 : Int))), .int (iv D), .int (iv ((U : Nat) : Int))]) (rest := []) ⟨hx, hb, hml, hown, hts⟩ hK hH hS (c_X9_agrees l G μ n (dig (dy2 : Int)) D U (by omega) (by omega) hU) (va_cwS 3 hts gX9_agreeing_X9_agrees rfl rfl rfl (by decide +kernel) ⟨(Nat.le_of_ble_eq_true rfl), (Nat.le_of_ble_eq_true rfl)⟩) rfl rfl hl.1 (Nat.le_of_ble_eq_true rfl) dX9_agreeing_71 ⟨Nat.zero_le _, Nat.zero_le _⟩ (fun z13 μ10 n11 H locs hz13 hp12 hH hS => ?_)
              obtain ⟨hz2, hm2, hn2⟩ := hp12; rw [hz2]; rw [hm2, hn2] at hH; clear hz2 hm2 hn2
              refine j_if_eq (tgt := 93) hx hb dX9_agreeing_74 (by decide) (fun c14 => ?_) (fun c14 => ?_) (by omega)
              · skip
                have hc1 : acnt D (63 - U) (dy2 + 1) = acnt D (63 - U) dy2 + agx D (63 - U) (dy2 : Int) := rfl
                have hf1 : afst D (63 - U) (dy2 + 1) = if afst D (63 - U) dy2 = -5 ∧ agx D (63 - U) (dy2 : Int) = 1 then (dy2 : Int) else afst D (63 - U) dy2 := rfl
                rw [if_neg (by omega)] at hf1
                have hc2 : acnt D (63 - U) (dy2 + 1) = acnt D (63 - U) dy2 := by omega
                rw [← hc2, ← hf1] at hl
                refine j_iinc (lv' := [(5, .int (iv ((dy2 : Int) + 1))), (0, .int (iv D)), (1, .int (iv ((U : Nat) : Int))), (2, .int (iv b)), (3, .int (iv (acnt D (63 - U) (dy2 + 1)))), (4, .int (iv (afst D (63 - U) (dy2 + 1)))), (6, .int (iv (k : Int))), (7, .int (iv ((k % 12 + 1 : Nat) : Int))), (8, .int (iv (mlen ((k % 12 + 1 : Nat) : Int) ((k / 12 : Nat) : Int)))), (9, .int (iv oo))]) hx hb dX9_agreeing_93 hl (k := 5) rfl (by decide) rfl (fun ls hl => ?_)
                refine j_iinc (lv' := [(9, .int (iv (oo + 1))), (5, .int (iv ((dy2 : Int) + 1))), (0, .int (iv D)), (1, .int (iv ((U : Nat) : Int))), (2, .int (iv b)), (3, .int (iv (acnt D (63 - U) (dy2 + 1)))), (4, .int (iv (afst D (63 - U) (dy2 + 1)))), (6, .int (iv (k : Int))), (7, .int (iv ((k % 12 + 1 : Nat) : Int))), (8, .int (iv (mlen ((k % 12 + 1 : Nat) : Int) ((k / 12 : Nat) : Int))))]) hx hb dX9_agreeing_96 hl (k := 9) rfl (by decide) rfl (fun ls hl => ?_)
                refine lv_goto (tgt := 44) hx hb dX9_agreeing_99 (by decide) ?_
                exact ih8 (dy2 + 1) (oo + 1) (by omega) (by omega) (by omega) H locs ls hH hS (lv_sub hl [2, 3, 4, 5, 6, 1, 7, 8, 9, 0] rfl)
              · skip
                refine lv_iload_n hx hb dX9_agreeing_77 rfl (lv_at hl 3 rfl) ?_
                refine j_if_ne (tgt := 86) hx hb dX9_agreeing_78 (by decide) (fun c15 => ?_) (fun c15 => ?_) (by omega)
                · skip
                  refine lv_iload hx hb dX9_agreeing_86 (lv_at hl 4 rfl) ?_
                  have hf1 : afst D (63 - U) (dy2 + 1) = if afst D (63 - U) dy2 = -5 ∧ agx D (63 - U) (dy2 : Int) = 1 then (dy2 : Int) else afst D (63 - U) dy2 := rfl
                  rw [if_neg (by omega)] at hf1
                  refine j_norm (y := afst D (63 - U) (dy2 + 1)) hf1.symm ?_
                  refine lv_istore (lv' := [(4, .int (iv (afst D (63 - U) (dy2 + 1)))), (0, .int (iv D)), (1, .int (iv ((U : Nat) : Int))), (2, .int (iv b)), (3, .int (iv (acnt D (63 - U) dy2))), (5, .int (iv (dy2 : Int))), (6, .int (iv (k : Int))), (7, .int (iv ((k % 12 + 1 : Nat) : Int))), (8, .int (iv (mlen ((k % 12 + 1 : Nat) : Int) ((k / 12 : Nat) : Int)))), (9, .int (iv oo))]) hx hb dX9_agreeing_88 hl (by decide) rfl (fun ls hl => ?_)
                  refine j_iinc (lv' := [(3, .int (iv ((acnt D (63 - U) dy2) + 1))), (4, .int (iv (afst D (63 - U) (dy2 + 1)))), (0, .int (iv D)), (1, .int (iv ((U : Nat) : Int))), (2, .int (iv b)), (5, .int (iv (dy2 : Int))), (6, .int (iv (k : Int))), (7, .int (iv ((k % 12 + 1 : Nat) : Int))), (8, .int (iv (mlen ((k % 12 + 1 : Nat) : Int) ((k / 12 : Nat) : Int)))), (9, .int (iv oo))]) hx hb dX9_agreeing_90 hl (k := 4) rfl (by decide) rfl (fun ls hl => ?_)
                  have hc1 : acnt D (63 - U) (dy2 + 1) = acnt D (63 - U) dy2 + agx D (63 - U) (dy2 : Int) := rfl
                  have hc2 : acnt D (63 - U) (dy2 + 1) = acnt D (63 - U) dy2 + 1 := by omega
                  rw [← hc2] at hl
                  refine j_iinc (lv' := [(5, .int (iv ((dy2 : Int) + 1))), (3, .int (iv (acnt D (63 - U) (dy2 + 1)))), (4, .int (iv (afst D (63 - U) (dy2 + 1)))), (0, .int (iv D)), (1, .int (iv ((U : Nat) : Int))), (2, .int (iv b)), (6, .int (iv (k : Int))), (7, .int (iv ((k % 12 + 1 : Nat) : Int))), (8, .int (iv (mlen ((k % 12 + 1 : Nat) : Int) ((k / 12 : Nat) : Int)))), (9, .int (iv oo))]) hx hb dX9_agreeing_93 hl (k := 5) rfl (by decide) rfl (fun ls hl => ?_)
                  refine j_iinc (lv' := [(9, .int (iv (oo + 1))), (5, .int (iv ((dy2 : Int) + 1))), (3, .int (iv (acnt D (63 - U) (dy2 + 1)))), (4, .int (iv (afst D (63 - U) (dy2 + 1)))), (0, .int (iv D)), (1, .int (iv ((U : Nat) : Int))), (2, .int (iv b)), (6, .int (iv (k : Int))), (7, .int (iv ((k % 12 + 1 : Nat) : Int))), (8, .int (iv (mlen ((k % 12 + 1 : Nat) : Int) ((k / 12 : Nat) : Int))))]) hx hb dX9_agreeing_96 hl (k := 9) rfl (by decide) rfl (fun ls hl => ?_)
                  refine lv_goto (tgt := 44) hx hb dX9_agreeing_99 (by decide) ?_
                  exact ih8 (dy2 + 1) (oo + 1) (by omega) (by omega) (by omega) H locs ls hH hS (lv_sub hl [4, 5, 6, 2, 3, 1, 7, 8, 9, 0] rfl)
                · skip
                  refine lv_iload hx hb dX9_agreeing_81 (lv_at hl 5 rfl) ?_
                  refine lv_goto (tgt := 88) hx hb dX9_agreeing_83 (by decide) ?_
                  have hf1 : afst D (63 - U) (dy2 + 1) = if afst D (63 - U) dy2 = -5 ∧ agx D (63 - U) (dy2 : Int) = 1 then (dy2 : Int) else afst D (63 - U) dy2 := rfl
                  rw [if_pos (by omega)] at hf1
                  refine j_norm (y := afst D (63 - U) (dy2 + 1)) hf1.symm ?_
                  refine lv_istore (lv' := [(4, .int (iv (afst D (63 - U) (dy2 + 1)))), (0, .int (iv D)), (1, .int (iv ((U : Nat) : Int))), (2, .int (iv b)), (3, .int (iv (acnt D (63 - U) dy2))), (5, .int (iv (dy2 : Int))), (6, .int (iv (k : Int))), (7, .int (iv ((k % 12 + 1 : Nat) : Int))), (8, .int (iv (mlen ((k % 12 + 1 : Nat) : Int) ((k / 12 : Nat) : Int)))), (9, .int (iv oo))]) hx hb dX9_agreeing_88 hl (by decide) rfl (fun ls hl => ?_)
                  refine j_iinc (lv' := [(3, .int (iv ((acnt D (63 - U) dy2) + 1))), (4, .int (iv (afst D (63 - U) (dy2 + 1)))), (0, .int (iv D)), (1, .int (iv ((U : Nat) : Int))), (2, .int (iv b)), (5, .int (iv (dy2 : Int))), (6, .int (iv (k : Int))), (7, .int (iv ((k % 12 + 1 : Nat) : Int))), (8, .int (iv (mlen ((k % 12 + 1 : Nat) : Int) ((k / 12 : Nat) : Int)))), (9, .int (iv oo))]) hx hb dX9_agreeing_90 hl (k := 4) rfl (by decide) rfl (fun ls hl => ?_)
                  have hc1 : acnt D (63 - U) (dy2 + 1) = acnt D (63 - U) dy2 + agx D (63 - U) (dy2 : Int) := rfl
                  have hc2 : acnt D (63 - U) (dy2 + 1) = acnt D (63 - U) dy2 + 1 := by omega
                  rw [← hc2] at hl
                  refine j_iinc (lv' := [(5, .int (iv ((dy2 : Int) + 1))), (3, .int (iv (acnt D (63 - U) (dy2 + 1)))), (4, .int (iv (afst D (63 - U) (dy2 + 1)))), (0, .int (iv D)), (1, .int (iv ((U : Nat) : Int))), (2, .int (iv b)), (6, .int (iv (k : Int))), (7, .int (iv ((k % 12 + 1 : Nat) : Int))), (8, .int (iv (mlen ((k % 12 + 1 : Nat) : Int) ((k / 12 : Nat) : Int)))), (9, .int (iv oo))]) hx hb dX9_agreeing_93 hl (k := 5) rfl (by decide) rfl (fun ls hl => ?_)
                  refine j_iinc (lv' := [(9, .int (iv (oo + 1))), (5, .int (iv ((dy2 : Int) + 1))), (3, .int (iv (acnt D (63 - U) (dy2 + 1)))), (4, .int (iv (afst D (63 - U) (dy2 + 1)))), (0, .int (iv D)), (1, .int (iv ((U : Nat) : Int))), (2, .int (iv b)), (6, .int (iv (k : Int))), (7, .int (iv ((k % 12 + 1 : Nat) : Int))), (8, .int (iv (mlen ((k % 12 + 1 : Nat) : Int) ((k / 12 : Nat) : Int))))]) hx hb dX9_agreeing_96 hl (k := 9) rfl (by decide) rfl (fun ls hl => ?_)
                  refine lv_goto (tgt := 44) hx hb dX9_agreeing_99 (by decide) ?_
                  exact ih8 (dy2 + 1) (oo + 1) (by omega) (by omega) (by omega) H locs ls hH hS (lv_sub hl [4, 5, 6, 2, 3, 1, 7, 8, 9, 0] rfl)
        exact lp44 (33) dy 1 (by omega) (by omega) (by omega) H locs ls hH hS (lv_sub hl [3, 4, 5, 6, 7, 8, 9, 2, 1, 0] rfl)
  exact lp12 (1201) 0 0 (by omega) (by rfl) (by omega) H locs ls hH hS (lv_sub hl [4, 5, 6, 3, 2, 1, 0] rfl)

abbrev rm_t_X9_date_ : Room := { frames := 2, cells := 0, slots := 0, locals := 44 }
set_option maxHeartbeats 4000000 in
set_option maxRecDepth 100000 in
theorem t_X9_date_ (l : Launch) (G : wG) (μ : hM) (n : Nat) (yy : Nat) (u0 : aS) (en : Int) (k q : Int) (hM0 : IsM G μ yy u0 en) (hen : en ≤ 5900) (hO : OkD (aD u0)) (hBk : -2147483648 ≤ k ∧ k ≤ 2147483647) (hBq : -2147483648 ≤ q ∧ q ≤ 2147483647) : Met l yX9_date_ wsX9_date_ rm_t_X9_date_ (mPc G μ n [.ref yy, .int (iv k), .int (iv q)]) (mQi G (fun z μ1 n1 => z = a_date k q ∧ μ1 = μ ∧ n1 = n)) 0 0 (gA G) := by
  refine Met.ofW (cc := cX9_date_) (maxL := 4) (ret := (some .int)) (by decide) rfl ?_
  intro p e s m args below meth c s₁ B hml hv
  obtain ⟨hav, hK, hH⟩ := hv
  have hx := B.exec
  have hb := B.bytes
  have hr := B.returns
  have hts := atoms_spec (ws := wsX9_date_) B.pre
  have hown : s.vm.findClass RX9 = some m.cls := findClass_of_methodNamed B.named
  have hlocks := B.notSynchronized
  have hS : va_S (gA G) s.heap s.heap [] := va_S.rf
  have hl := lv_entry ([.ref yy, .int (iv k), .int (iv q)]) (n := 4) (Nat.le_of_ble_eq_true rfl)
  have hfr : entryFrame m args 4 = entryFrame m ([.ref yy, .int (iv k), .int (iv q)] : List Value).toArray 4 := by rw [hav]
  rw [hfr, lg_entry_eq]
  generalize (lg_sl ([.ref yy, .int (iv k), .int (iv q)]) ++ List.replicate (4 - (lg_sl ([.ref yy, .int (iv k), .int (iv q)])).length) Slot.unset).toArray = ls at hl ⊢
  have hl : lv_has ls 4 [(0, .ref yy), (1, .int (iv k)), (2, .int (iv q))] := hl
  generalize hQ : MQ below _ args s 0 0 (gA G) = Q
  show W p l e rm_t_X9_date_ s m args below meth c s.heap [] 0 0 Q (F0 m 0 ls [])
  obtain ⟨H, hHe⟩ : ∃ H, H = s.heap := ⟨_, rfl⟩
  obtain ⟨locs, hlo⟩ : ∃ q : List Loc, q = [] := ⟨_, rfl⟩
  have hH : gP G μ n H := by rw [hHe]; exact hH
  have hS : va_S (gA G) s.heap H locs := by rw [hHe, hlo]; exact hS
  suffices hgo : W p l e rm_t_X9_date_ s m args below meth c H locs 0 0 Q (F0 m 0 ls []) by rw [hHe, hlo] at hgo; exact hgo
  clear hHe hlo hfr hav
  have hfr : MFr yy μ μ := MFr.rf
  obtain ⟨α, β, κ, ω, fr, pl, wr, hY, hR⟩ := hM0
  have hT := hO.1
  have hOk := hT.1
  have h3 := hT.2.1
  have h5 := hT.2.2.1
  have h4 := hOk.2.2.2.1
  have hPD := hR.1
  have hen0 := hR.2.2.2.1
  have hkn := hR.2.2.2.2.1
  have hik := hR.2.2.2.2.2.1
  have hOC := hR.2.2.2.2.2.2
  have hl0 := hOC.1
  refine lv_iload_n hx hb dX9_date__0 rfl (lv_at hl 1 rfl) ?_
  refine m_callSi (As := [.int (iv k)]) (rest := []) ⟨hx, hb, hml, hown, hts⟩ hK hH hS (c_X9_isDay l G μ n k (by omega)) (va_cwS 1 hts gX9_date__X9_isDay rfl rfl rfl (by decide +kernel) ⟨(Nat.le_of_ble_eq_true rfl), (Nat.le_of_ble_eq_true rfl)⟩) rfl rfl hl.1 (Nat.le_of_ble_eq_true rfl) dX9_date__1 ⟨Nat.zero_le _, Nat.zero_le _⟩ (fun z4 μ1 n2 H locs hz4 hp3 hH hS => ?_)
  obtain ⟨hz9, hm9, hn9⟩ := hp3
  rw [hm9, hn9] at hH
  have hz4c : (z4 = 1 ∧ (0 ≤ k ∧ k ≤ 36524)) ∨ (z4 = 0 ∧ ¬ (0 ≤ k ∧ k ≤ 36524)) := by
    by_cases q9 : 0 ≤ k ∧ k ≤ 36524
    · rw [if_pos q9] at hz9; exact Or.inl ⟨hz9, q9⟩
    · rw [if_neg q9] at hz9; exact Or.inr ⟨hz9, q9⟩
  clear hz9 hm9 hn9
  refine j_if_ne (tgt := 9) hx hb dX9_date__4 (by decide) (fun c5 => ?_) (fun c5 => ?_) (by omega)
  · skip
    refine lv_iload_n hx hb dX9_date__9 rfl (lv_at hl 1 rfl) ?_
    refine m_callSi (As := [.int (iv k)]) (rest := []) ⟨hx, hb, hml, hown, hts⟩ hK hH hS (c_X9_digitsOf l G μ n k (by omega)) (va_cwS 1 hts gX9_date__X9_digitsOf rfl rfl rfl (by decide +kernel) ⟨(Nat.le_of_ble_eq_true rfl), (Nat.le_of_ble_eq_true rfl)⟩) rfl rfl hl.1 (Nat.le_of_ble_eq_true rfl) dX9_date__10 ⟨Nat.zero_le _, Nat.zero_le _⟩ (fun z9 μ6 n7 H locs hz9 hp8 hH hS => ?_)
    obtain ⟨hz2, hm2, hn2⟩ := hp8; rw [hz2]; rw [hm2, hn2] at hH; clear hz2 hm2 hn2
    have hdg := dig_rng (day := k) (by omega)
    refine lv_istore_n (lv' := [(3, .int (iv (dig k))), (0, .ref yy), (1, .int (iv k)), (2, .int (iv q))]) hx hb dX9_date__13 rfl hl (by decide) rfl (fun ls hl => ?_)
    refine lv_iload_n hx hb dX9_date__14 rfl (lv_at hl 3 rfl) ?_
    by_cases k10_0 : q = 0
    · skip
      refine j_table hx hb (tgt := 44) (0) k10_0 dX9_date__15 ?_
      refine lv_iload_n hx hb dX9_date__44 rfl (lv_at hl 0 rfl) ?_
      refine j_sipush hx hb dX9_date__45 ?_ (by decide)
      refine j_idiv hx hb dX9_date__48 ?_ (by omega) (by omega)
      subst hQ
      refine m_iret hx hb hr hlocks hH hS dX9_date__49 ?_ (by omega)
      refine ⟨?_, rfl, rfl⟩
      unfold a_date
      rw [if_pos (by omega)]
      (repeat' split) <;> first | rfl | omega
    by_cases k10_1 : q = 1
    · skip
      refine j_table hx hb (tgt := 50) (1) k10_1 dX9_date__15 ?_
      refine lv_iload_n hx hb dX9_date__50 rfl (lv_at hl 0 rfl) ?_
      refine j_bipush hx hb dX9_date__51 ?_ (by decide)
      refine j_idiv hx hb dX9_date__53 ?_ (by omega) (by omega)
      refine j_bipush hx hb dX9_date__54 ?_ (by decide)
      refine j_irem hx hb dX9_date__56 ?_ (by omega) (by omega)
      subst hQ
      refine m_iret hx hb hr hlocks hH hS dX9_date__57 ?_ (by omega)
      refine ⟨?_, rfl, rfl⟩
      unfold a_date
      rw [if_pos (by omega)]
      (repeat' split) <;> first | rfl | omega
    by_cases k10_2 : q = 2
    · skip
      refine j_table hx hb (tgt := 58) (2) k10_2 dX9_date__15 ?_
      refine lv_iload_n hx hb dX9_date__58 rfl (lv_at hl 0 rfl) ?_
      refine j_bipush hx hb dX9_date__59 ?_ (by decide)
      refine j_irem hx hb dX9_date__61 ?_ (by omega) (by omega)
      subst hQ
      refine m_iret hx hb hr hlocks hH hS dX9_date__62 ?_ (by omega)
      refine ⟨?_, rfl, rfl⟩
      unfold a_date
      rw [if_pos (by omega)]
      (repeat' split) <;> first | rfl | omega
    by_cases k10_3 : q = 3
    · skip
      refine j_table hx hb (tgt := 63) (3) k10_3 dX9_date__15 ?_
      refine lv_iload_n hx hb dX9_date__63 rfl (lv_at hl 0 rfl) ?_
      subst hQ
      refine m_iret hx hb hr hlocks hH hS dX9_date__64 ?_ (by omega)
      refine ⟨?_, rfl, rfl⟩
      unfold a_date
      rw [if_pos (by omega)]
      (repeat' split) <;> first | rfl | omega
    refine j_tableO (tgt := 65) hx hb dX9_date__15 (by omega) ?_ (by decide) (by omega)
    refine j_bipush hx hb dX9_date__65 ?_ (by decide)
    subst hQ
    refine m_iret hx hb hr hlocks hH hS dX9_date__67 ?_ (by omega)
    refine ⟨?_, rfl, rfl⟩
    unfold a_date
    rw [if_pos (by omega)]
    (repeat' split) <;> first | rfl | omega
  · skip
    refine j_const hx hb dX9_date__7 ?_
    subst hQ
    refine m_iret hx hb hr hlocks hH hS dX9_date__8 ?_ (by omega)
    refine ⟨?_, rfl, rfl⟩
    unfold a_date
    rw [if_neg (by omega)]

abbrev rm_t_X9_day : Room := { frames := 2, cells := 0, slots := 0, locals := 47 }
set_option maxHeartbeats 4000000 in
set_option maxRecDepth 100000 in
theorem t_X9_day (l : Launch) (G : wG) (μ : hM) (n : Nat) (yy : Nat) (u0 : aS) (en : Int) (k : Int) (hM0 : IsM G μ yy u0 en) (hen : en ≤ 5900) (hO : OkD (aD u0)) (hBk : -2147483648 ≤ k ∧ k ≤ 2147483647) : Met l yX9_day wsX9_day rm_t_X9_day (mPc G μ n [.ref yy, .int (iv k)]) (mQi G (fun z μ1 n1 => z = a_day k ∧ μ1 = μ ∧ n1 = n)) 0 0 (gA G) := by
  refine Met.ofW (cc := cX9_day) (maxL := 2) (ret := (some .int)) (by decide) rfl ?_
  intro p e s m args below meth c s₁ B hml hv
  obtain ⟨hav, hK, hH⟩ := hv
  have hx := B.exec
  have hb := B.bytes
  have hr := B.returns
  have hts := atoms_spec (ws := wsX9_day) B.pre
  have hown : s.vm.findClass RX9 = some m.cls := findClass_of_methodNamed B.named
  have hlocks := B.notSynchronized
  have hS : va_S (gA G) s.heap s.heap [] := va_S.rf
  have hl := lv_entry ([.ref yy, .int (iv k)]) (n := 2) (Nat.le_of_ble_eq_true rfl)
  have hfr : entryFrame m args 2 = entryFrame m ([.ref yy, .int (iv k)] : List Value).toArray 2 := by rw [hav]
  rw [hfr, lg_entry_eq]
  generalize (lg_sl ([.ref yy, .int (iv k)]) ++ List.replicate (2 - (lg_sl ([.ref yy, .int (iv k)])).length) Slot.unset).toArray = ls at hl ⊢
  have hl : lv_has ls 2 [(0, .ref yy), (1, .int (iv k))] := hl
  generalize hQ : MQ below _ args s 0 0 (gA G) = Q
  show W p l e rm_t_X9_day s m args below meth c s.heap [] 0 0 Q (F0 m 0 ls [])
  obtain ⟨H, hHe⟩ : ∃ H, H = s.heap := ⟨_, rfl⟩
  obtain ⟨locs, hlo⟩ : ∃ q : List Loc, q = [] := ⟨_, rfl⟩
  have hH : gP G μ n H := by rw [hHe]; exact hH
  have hS : va_S (gA G) s.heap H locs := by rw [hHe, hlo]; exact hS
  suffices hgo : W p l e rm_t_X9_day s m args below meth c H locs 0 0 Q (F0 m 0 ls []) by rw [hHe, hlo] at hgo; exact hgo
  clear hHe hlo hfr hav
  have f_0 := hts (.constant RX9 166 (999999)) (List.mem_of_getElem? (i := 1) rfl)
  have hfr : MFr yy μ μ := MFr.rf
  obtain ⟨α, β, κ, ω, fr, pl, wr, hY, hR⟩ := hM0
  have hT := hO.1
  have hOk := hT.1
  have h3 := hT.2.1
  have h5 := hT.2.2.1
  have h4 := hOk.2.2.2.1
  have hPD := hR.1
  have hen0 := hR.2.2.2.1
  have hkn := hR.2.2.2.2.1
  have hik := hR.2.2.2.2.2.1
  have hOC := hR.2.2.2.2.2.2
  have hl0 := hOC.1
  refine lv_iload_n hx hb dX9_day_0 rfl (lv_at hl 1 rfl) ?_
  refine j_const hx hb dX9_day_1 ?_
  refine j_ldc hx hb (999999) hown f_0 dX9_day_2 ?_ (by decide)
  refine m_callSi (As := [.int (iv k), .int (iv 0), .int (iv 999999)]) (rest := []) ⟨hx, hb, hml, hown, hts⟩ hK hH hS (c_X9_in l G μ n k 0 999999 (by omega) (by omega) (by omega)) (va_cwS 3 hts gX9_day_X9_in rfl rfl rfl (by decide +kernel) ⟨(Nat.le_of_ble_eq_true rfl), (Nat.le_of_ble_eq_true rfl)⟩) rfl rfl hl.1 (Nat.le_of_ble_eq_true rfl) dX9_day_4 ⟨Nat.zero_le _, Nat.zero_le _⟩ (fun z4 μ1 n2 H locs hz4 hp3 hH hS => ?_)
  obtain ⟨hz9, hm9, hn9⟩ := hp3
  rw [hm9, hn9] at hH
  have hz4c : (z4 = 1 ∧ (0 ≤ k ∧ k ≤ 999999)) ∨ (z4 = 0 ∧ ¬ (0 ≤ k ∧ k ≤ 999999)) := by
    by_cases q9 : 0 ≤ k ∧ k ≤ 999999
    · rw [if_pos q9] at hz9; exact Or.inl ⟨hz9, q9⟩
    · rw [if_neg q9] at hz9; exact Or.inr ⟨hz9, q9⟩
  clear hz9 hm9 hn9
  refine j_if_eq (tgt := 17) hx hb dX9_day_7 (by decide) (fun c5 => ?_) (fun c5 => ?_) (by omega)
  · skip
    refine j_bipush hx hb dX9_day_17 ?_ (by decide)
    have hdr : 0 ≤ k ∧ k ≤ 999999 → -5 ≤ dday k ∧ dday k ≤ 40000 := dday_rng
    subst hQ
    refine m_iret hx hb hr hlocks hH hS dX9_day_19 ?_ (by omega)
    refine ⟨?_, rfl, rfl⟩
    unfold a_day
    rw [if_neg (by omega)]
  · skip
    refine lv_iload_n hx hb dX9_day_10 rfl (lv_at hl 1 rfl) ?_
    refine m_callSi (As := [.int (iv k)]) (rest := []) ⟨hx, hb, hml, hown, hts⟩ hK hH hS (c_X9_dayOf l G μ n k (by omega)) (va_cwS 1 hts gX9_day_X9_dayOf rfl rfl rfl (by decide +kernel) ⟨(Nat.le_of_ble_eq_true rfl), (Nat.le_of_ble_eq_true rfl)⟩) rfl rfl hl.1 (Nat.le_of_ble_eq_true rfl) dX9_day_11 ⟨Nat.zero_le _, Nat.zero_le _⟩ (fun z9 μ6 n7 H locs hz9 hp8 hH hS => ?_)
    obtain ⟨hz2, hm2, hn2⟩ := hp8; rw [hz2]; rw [hm2, hn2] at hH; clear hz2 hm2 hn2
    refine lv_goto (tgt := 19) hx hb dX9_day_14 (by decide) ?_
    have hdr : 0 ≤ k ∧ k ≤ 999999 → -5 ≤ dday k ∧ dday k ≤ 40000 := dday_rng
    subst hQ
    refine m_iret hx hb hr hlocks hH hS dX9_day_19 ?_ (by omega)
    refine ⟨?_, rfl, rfl⟩
    unfold a_day
    rw [if_pos (by omega)]

abbrev rm_t_X9_band : Room := { frames := 2, cells := 0, slots := 0, locals := 46 }
set_option maxHeartbeats 4000000 in
set_option maxRecDepth 100000 in
theorem t_X9_band (l : Launch) (G : wG) (μ : hM) (n : Nat) (yy : Nat) (u0 : aS) (en : Int) (pa q : Int) (hM0 : IsM G μ yy u0 en) (hen : en ≤ 5900) (hO : OkD (aD u0)) (hBpa : -2147483648 ≤ pa ∧ pa ≤ 2147483647) (hBq : -2147483648 ≤ q ∧ q ≤ 2147483647) : Met l yX9_band wsX9_band rm_t_X9_band (mPc G μ n [.ref yy, .int (iv pa), .int (iv q)]) (mQi G (fun z μ1 n1 => z = a_band (aD u0).1 pa q ∧ μ1 = μ ∧ n1 = n)) 0 0 (gA G) := by
  refine Met.ofW (cc := cX9_band) (maxL := 3) (ret := (some .int)) (by decide) rfl ?_
  intro p e s m args below meth c s₁ B hml hv
  obtain ⟨hav, hK, hH⟩ := hv
  have hx := B.exec
  have hb := B.bytes
  have hr := B.returns
  have hts := atoms_spec (ws := wsX9_band) B.pre
  have hown : s.vm.findClass RX9 = some m.cls := findClass_of_methodNamed B.named
  have hlocks := B.notSynchronized
  have hS : va_S (gA G) s.heap s.heap [] := va_S.rf
  have hl := lv_entry ([.ref yy, .int (iv pa), .int (iv q)]) (n := 3) (Nat.le_of_ble_eq_true rfl)
  have hfr : entryFrame m args 3 = entryFrame m ([.ref yy, .int (iv pa), .int (iv q)] : List Value).toArray 3 := by rw [hav]
  rw [hfr, lg_entry_eq]
  generalize (lg_sl ([.ref yy, .int (iv pa), .int (iv q)]) ++ List.replicate (3 - (lg_sl ([.ref yy, .int (iv pa), .int (iv q)])).length) Slot.unset).toArray = ls at hl ⊢
  have hl : lv_has ls 3 [(0, .ref yy), (1, .int (iv pa)), (2, .int (iv q))] := hl
  generalize hQ : MQ below _ args s 0 0 (gA G) = Q
  show W p l e rm_t_X9_band s m args below meth c s.heap [] 0 0 Q (F0 m 0 ls [])
  obtain ⟨H, hHe⟩ : ∃ H, H = s.heap := ⟨_, rfl⟩
  obtain ⟨locs, hlo⟩ : ∃ q : List Loc, q = [] := ⟨_, rfl⟩
  have hH : gP G μ n H := by rw [hHe]; exact hH
  have hS : va_S (gA G) s.heap H locs := by rw [hHe, hlo]; exact hS
  suffices hgo : W p l e rm_t_X9_band s m args below meth c H locs 0 0 Q (F0 m 0 ls []) by rw [hHe, hlo] at hgo; exact hgo
  clear hHe hlo hfr hav
  have f_0 := hts (.fieldLink RX9 7 "StampDaterModel" "s" "[I") (List.mem_of_getElem? (i := 1) rfl)
  have i_X9 : ∀ w ∈ u_ws RX9 TX9 13, w ∈ wsX9_band := by decide +kernel
  have hfr : MFr yy μ μ := MFr.rf
  obtain ⟨α, β, κ, ω, fr, pl, wr, hY, hR⟩ := hM0
  have hT := hO.1
  have hOk := hT.1
  have h3 := hT.2.1
  have h5 := hT.2.2.1
  have h4 := hOk.2.2.2.1
  have hPD := hR.1
  have hen0 := hR.2.2.2.1
  have hkn := hR.2.2.2.2.1
  have hik := hR.2.2.2.2.2.1
  have hOC := hR.2.2.2.2.2.2
  have hl0 := hOC.1
  refine lv_iload_n hx hb dX9_band_0 rfl (lv_at hl 1 rfl) ?_
  refine m_callSi (As := [.int (iv pa)]) (rest := []) ⟨hx, hb, hml, hown, hts⟩ hK hH hS (c_X9_isPlace l G μ n pa (by omega)) (va_cwS 1 hts gX9_band_X9_isPlace rfl rfl rfl (by decide +kernel) ⟨(Nat.le_of_ble_eq_true rfl), (Nat.le_of_ble_eq_true rfl)⟩) rfl rfl hl.1 (Nat.le_of_ble_eq_true rfl) dX9_band_1 ⟨Nat.zero_le _, Nat.zero_le _⟩ (fun z4 μ1 n2 H locs hz4 hp3 hH hS => ?_)
  obtain ⟨hz9, hm9, hn9⟩ := hp3
  rw [hm9, hn9] at hH
  have hz4c : (z4 = 1 ∧ (0 ≤ pa ∧ pa ≤ 5)) ∨ (z4 = 0 ∧ ¬ (0 ≤ pa ∧ pa ≤ 5)) := by
    by_cases q9 : 0 ≤ pa ∧ pa ≤ 5
    · rw [if_pos q9] at hz9; exact Or.inl ⟨hz9, q9⟩
    · rw [if_neg q9] at hz9; exact Or.inr ⟨hz9, q9⟩
  clear hz9 hm9 hn9
  refine j_if_ne (tgt := 9) hx hb dX9_band_4 (by decide) (fun c5 => ?_) (fun c5 => ?_) (by omega)
  · skip
    obtain ⟨pn, hpne⟩ : ∃ q : Nat, (q : Int) = pa := ⟨pa.toNat, by omega⟩
    subst hpne
    have hpn : pn < 6 := by omega
    obtain ⟨hs1, hs2, hs3, hs4⟩ := hOk.2.2.2.2 pn hpn
    have hdr := drk_rng hOk hpn (k := 5) (by omega)
    have hbm := bmost_le (roww (aD u0).1 pn) 9
    have hbl := bleix_le (roww (aD u0).1 pn) 9
    refine lv_iload_n hx hb dX9_band_9 rfl (lv_at hl 2 rfl) ?_
    by_cases k6_0 : q = 0
    · skip
      refine j_table hx hb (tgt := 52) (0) k6_0 dX9_band_10 ?_
      refine lv_aload_n hx hb dX9_band_52 rfl (lv_at hl 0 rfl) ?_
      refine m_get (C := RX9) (T := TX9) (N := 13) (ci := 8) hx hb hts i_X9 hown hK hH hY.1 rfl 0 (by decide) f_0 rfl dX9_band_53 ?_
      refine lv_iload_n hx hb dX9_band_56 rfl (lv_at hl 1 rfl) ?_
      refine lv_iload_n hx hb dX9_band_57 rfl (lv_at hl 2 rfl) ?_
      refine m_callSi (As := [.int (iv (pn : Int)), .int (iv q)]) (rest := [.ref (yy + 1)]) ⟨hx, hb, hml, hown, hts⟩ hK hH hS (c_X9_of l G μ n (pn : Int) q (by omega) (by omega)) (va_cwS 2 hts gX9_band_X9_of rfl rfl rfl (by decide +kernel) ⟨(Nat.le_of_ble_eq_true rfl), (Nat.le_of_ble_eq_true rfl)⟩) rfl rfl hl.1 (Nat.le_of_ble_eq_true rfl) dX9_band_58 ⟨Nat.zero_le _, Nat.zero_le _⟩ (fun z10 μ7 n8 H locs hz10 hp9 hH hS => ?_)
      obtain ⟨hz9, hm9, hn9⟩ := hp9
      rw [hm9, hn9] at hH
      rw [hz9]
      clear hz9 hm9 hn9
      refine j_norm (y := ((85 + 13 * pn + ((q).toNat) : Nat) : Int)) (by omega) ?_
      refine m_iald (nA := 163) (f := ((aD u0).1)) hx hb hK hH hY.2.1 dX9_band_61 ?_ (by omega) (by omega)
      refine j_norm (y := (((aD u0).1) (85 + 13 * pn + ((q).toNat)))) rfl ?_
      have hv9 : -1000 ≤ (((aD u0).1) (85 + 13 * pn + ((q).toNat))) ∧ (((aD u0).1) (85 + 13 * pn + ((q).toNat))) ≤ 1000 := by rcases (show q = 0 ∨ q = 1 ∨ q = 2 by omega) with e | e | e <;> subst e <;> (first | (show -1000 ≤ (aD u0).1 (85 + 13 * pn) ∧ (aD u0).1 (85 + 13 * pn) ≤ 1000; omega) | (show -1000 ≤ (aD u0).1 (85 + 13 * pn + 1) ∧ (aD u0).1 (85 + 13 * pn + 1) ≤ 1000; rw [show 85 + 13 * pn + 1 = 86 + 13 * pn by omega]; omega) | (show -1000 ≤ (aD u0).1 (85 + 13 * pn + 2) ∧ (aD u0).1 (85 + 13 * pn + 2) ≤ 1000; rw [show 85 + 13 * pn + 2 = 87 + 13 * pn by omega]; omega))
      subst hQ
      refine m_iret hx hb hr hlocks hH hS dX9_band_62 ?_ (by omega)
      refine ⟨?_, rfl, rfl⟩
      unfold a_band
      rw [if_pos (by omega), show ((pn : Nat) : Int).toNat = pn from rfl]
      rcases (show q = 0 ∨ q = 1 ∨ q = 2 by omega) with e | e | e <;> subst e
      · rfl
      · show (aD u0).1 (85 + 13 * pn + 1) = (aD u0).1 (86 + 13 * pn); rw [show 85 + 13 * pn + 1 = 86 + 13 * pn by omega]
      · show (aD u0).1 (85 + 13 * pn + 2) = (aD u0).1 (87 + 13 * pn); rw [show 85 + 13 * pn + 2 = 87 + 13 * pn by omega]
    by_cases k6_1 : q = 1
    · skip
      refine j_table hx hb (tgt := 52) (1) k6_1 dX9_band_10 ?_
      refine lv_aload_n hx hb dX9_band_52 rfl (lv_at hl 0 rfl) ?_
      refine m_get (C := RX9) (T := TX9) (N := 13) (ci := 8) hx hb hts i_X9 hown hK hH hY.1 rfl 0 (by decide) f_0 rfl dX9_band_53 ?_
      refine lv_iload_n hx hb dX9_band_56 rfl (lv_at hl 1 rfl) ?_
      refine lv_iload_n hx hb dX9_band_57 rfl (lv_at hl 2 rfl) ?_
      refine m_callSi (As := [.int (iv (pn : Int)), .int (iv q)]) (rest := [.ref (yy + 1)]) ⟨hx, hb, hml, hown, hts⟩ hK hH hS (c_X9_of l G μ n (pn : Int) q (by omega) (by omega)) (va_cwS 2 hts gX9_band_X9_of rfl rfl rfl (by decide +kernel) ⟨(Nat.le_of_ble_eq_true rfl), (Nat.le_of_ble_eq_true rfl)⟩) rfl rfl hl.1 (Nat.le_of_ble_eq_true rfl) dX9_band_58 ⟨Nat.zero_le _, Nat.zero_le _⟩ (fun z14 μ11 n12 H locs hz14 hp13 hH hS => ?_)
      obtain ⟨hz9, hm9, hn9⟩ := hp13
      rw [hm9, hn9] at hH
      rw [hz9]
      clear hz9 hm9 hn9
      refine j_norm (y := ((85 + 13 * pn + ((q).toNat) : Nat) : Int)) (by omega) ?_
      refine m_iald (nA := 163) (f := ((aD u0).1)) hx hb hK hH hY.2.1 dX9_band_61 ?_ (by omega) (by omega)
      refine j_norm (y := (((aD u0).1) (85 + 13 * pn + ((q).toNat)))) rfl ?_
      have hv9 : -1000 ≤ (((aD u0).1) (85 + 13 * pn + ((q).toNat))) ∧ (((aD u0).1) (85 + 13 * pn + ((q).toNat))) ≤ 1000 := by rcases (show q = 0 ∨ q = 1 ∨ q = 2 by omega) with e | e | e <;> subst e <;> (first | (show -1000 ≤ (aD u0).1 (85 + 13 * pn) ∧ (aD u0).1 (85 + 13 * pn) ≤ 1000; omega) | (show -1000 ≤ (aD u0).1 (85 + 13 * pn + 1) ∧ (aD u0).1 (85 + 13 * pn + 1) ≤ 1000; rw [show 85 + 13 * pn + 1 = 86 + 13 * pn by omega]; omega) | (show -1000 ≤ (aD u0).1 (85 + 13 * pn + 2) ∧ (aD u0).1 (85 + 13 * pn + 2) ≤ 1000; rw [show 85 + 13 * pn + 2 = 87 + 13 * pn by omega]; omega))
      subst hQ
      refine m_iret hx hb hr hlocks hH hS dX9_band_62 ?_ (by omega)
      refine ⟨?_, rfl, rfl⟩
      unfold a_band
      rw [if_pos (by omega), show ((pn : Nat) : Int).toNat = pn from rfl]
      rcases (show q = 0 ∨ q = 1 ∨ q = 2 by omega) with e | e | e <;> subst e
      · rfl
      · show (aD u0).1 (85 + 13 * pn + 1) = (aD u0).1 (86 + 13 * pn); rw [show 85 + 13 * pn + 1 = 86 + 13 * pn by omega]
      · show (aD u0).1 (85 + 13 * pn + 2) = (aD u0).1 (87 + 13 * pn); rw [show 85 + 13 * pn + 2 = 87 + 13 * pn by omega]
    by_cases k6_2 : q = 2
    · skip
      refine j_table hx hb (tgt := 52) (2) k6_2 dX9_band_10 ?_
      refine lv_aload_n hx hb dX9_band_52 rfl (lv_at hl 0 rfl) ?_
      refine m_get (C := RX9) (T := TX9) (N := 13) (ci := 8) hx hb hts i_X9 hown hK hH hY.1 rfl 0 (by decide) f_0 rfl dX9_band_53 ?_
      refine lv_iload_n hx hb dX9_band_56 rfl (lv_at hl 1 rfl) ?_
      refine lv_iload_n hx hb dX9_band_57 rfl (lv_at hl 2 rfl) ?_
      refine m_callSi (As := [.int (iv (pn : Int)), .int (iv q)]) (rest := [.ref (yy + 1)]) ⟨hx, hb, hml, hown, hts⟩ hK hH hS (c_X9_of l G μ n (pn : Int) q (by omega) (by omega)) (va_cwS 2 hts gX9_band_X9_of rfl rfl rfl (by decide +kernel) ⟨(Nat.le_of_ble_eq_true rfl), (Nat.le_of_ble_eq_true rfl)⟩) rfl rfl hl.1 (Nat.le_of_ble_eq_true rfl) dX9_band_58 ⟨Nat.zero_le _, Nat.zero_le _⟩ (fun z18 μ15 n16 H locs hz18 hp17 hH hS => ?_)
      obtain ⟨hz9, hm9, hn9⟩ := hp17
      rw [hm9, hn9] at hH
      rw [hz9]
      clear hz9 hm9 hn9
      refine j_norm (y := ((85 + 13 * pn + ((q).toNat) : Nat) : Int)) (by omega) ?_
      refine m_iald (nA := 163) (f := ((aD u0).1)) hx hb hK hH hY.2.1 dX9_band_61 ?_ (by omega) (by omega)
      refine j_norm (y := (((aD u0).1) (85 + 13 * pn + ((q).toNat)))) rfl ?_
      have hv9 : -1000 ≤ (((aD u0).1) (85 + 13 * pn + ((q).toNat))) ∧ (((aD u0).1) (85 + 13 * pn + ((q).toNat))) ≤ 1000 := by rcases (show q = 0 ∨ q = 1 ∨ q = 2 by omega) with e | e | e <;> subst e <;> (first | (show -1000 ≤ (aD u0).1 (85 + 13 * pn) ∧ (aD u0).1 (85 + 13 * pn) ≤ 1000; omega) | (show -1000 ≤ (aD u0).1 (85 + 13 * pn + 1) ∧ (aD u0).1 (85 + 13 * pn + 1) ≤ 1000; rw [show 85 + 13 * pn + 1 = 86 + 13 * pn by omega]; omega) | (show -1000 ≤ (aD u0).1 (85 + 13 * pn + 2) ∧ (aD u0).1 (85 + 13 * pn + 2) ≤ 1000; rw [show 85 + 13 * pn + 2 = 87 + 13 * pn by omega]; omega))
      subst hQ
      refine m_iret hx hb hr hlocks hH hS dX9_band_62 ?_ (by omega)
      refine ⟨?_, rfl, rfl⟩
      unfold a_band
      rw [if_pos (by omega), show ((pn : Nat) : Int).toNat = pn from rfl]
      rcases (show q = 0 ∨ q = 1 ∨ q = 2 by omega) with e | e | e <;> subst e
      · rfl
      · show (aD u0).1 (85 + 13 * pn + 1) = (aD u0).1 (86 + 13 * pn); rw [show 85 + 13 * pn + 1 = 86 + 13 * pn by omega]
      · show (aD u0).1 (85 + 13 * pn + 2) = (aD u0).1 (87 + 13 * pn); rw [show 85 + 13 * pn + 2 = 87 + 13 * pn by omega]
    by_cases k6_3 : q = 3
    · skip
      refine j_table hx hb (tgt := 63) (3) k6_3 dX9_band_10 ?_
      refine lv_aload_n hx hb dX9_band_63 rfl (lv_at hl 0 rfl) ?_
      refine m_get (C := RX9) (T := TX9) (N := 13) (ci := 8) hx hb hts i_X9 hown hK hH hY.1 rfl 0 (by decide) f_0 rfl dX9_band_64 ?_
      refine lv_iload_n hx hb dX9_band_67 rfl (lv_at hl 1 rfl) ?_
      refine j_const hx hb dX9_band_68 ?_
      refine lv_aload_n hx hb dX9_band_69 rfl (lv_at hl 0 rfl) ?_
      refine lv_iload_n hx hb dX9_band_70 rfl (lv_at hl 1 rfl) ?_
      refine j_const hx hb dX9_band_71 ?_
      refine m_callVi (As := [.int (iv (pn : Int)), .int (iv 1)]) (rest := [.int (iv 3), .int (iv (pn : Int)), .ref (yy + 1)]) ⟨hx, hb, hml, hown, hts⟩ hK hH hS (c_X9_worn l G μ n yy ((aD u0).1) α β κ (aC u0) ω (aN u0) (aT u0) (aL u0) en fr pl wr hY pn 1 hOk (by omega) (by omega)) (cwV 2 hts gX9_band_X9_worn rfl rfl rfl (by decide +kernel) ⟨(Nat.le_of_ble_eq_true rfl), (Nat.le_of_ble_eq_true rfl)⟩) hY.1 rfl rfl rfl rfl hl.1 (Nat.le_of_ble_eq_true rfl) dX9_band_72 ⟨Nat.zero_le _, Nat.zero_le _⟩ (fun z22 μ19 n20 H locs hz22 hp21 hH hS => ?_)
      obtain ⟨hz9, hm9, hn9⟩ := hp21
      rw [hm9, hn9] at hH
      rw [hz9, if_pos rfl]
      clear hz9 hm9 hn9
      refine j_iadd hx hb dX9_band_75 ?_
      refine m_callSi (As := [.int (iv (pn : Int)), .int (iv (3 + ((bmost (roww ((aD u0).1) pn) 9 : Nat) : Int)))]) (rest := [.ref (yy + 1)]) ⟨hx, hb, hml, hown, hts⟩ hK hH hS (c_X9_of l G μ n (pn : Int) (3 + ((bmost (roww ((aD u0).1) pn) 9 : Nat) : Int)) (by omega) (by omega)) (va_cwS 2 hts gX9_band_X9_of rfl rfl rfl (by decide +kernel) ⟨(Nat.le_of_ble_eq_true rfl), (Nat.le_of_ble_eq_true rfl)⟩) rfl rfl hl.1 (Nat.le_of_ble_eq_true rfl) dX9_band_76 ⟨Nat.zero_le _, Nat.zero_le _⟩ (fun z26 μ23 n24 H locs hz26 hp25 hH hS => ?_)
      obtain ⟨hz9, hm9, hn9⟩ := hp25
      rw [hm9, hn9] at hH
      rw [hz9]
      clear hz9 hm9 hn9
      refine j_norm (y := ((88 + 13 * pn + (bmost (roww ((aD u0).1) pn) 9) : Nat) : Int)) (by omega) ?_
      refine m_iald (nA := 163) (f := ((aD u0).1)) hx hb hK hH hY.2.1 dX9_band_79 ?_ (by omega) (by omega)
      refine j_norm (y := (((aD u0).1) (88 + 13 * pn + (bmost (roww ((aD u0).1) pn) 9)))) rfl ?_
      have hw9 := hs4 (bmost (roww (aD u0).1 pn) 9) (by omega)
      subst hQ
      refine m_iret hx hb hr hlocks hH hS dX9_band_80 ?_ (by omega)
      refine ⟨?_, rfl, rfl⟩
      unfold a_band
      rw [if_pos (by omega), show ((pn : Nat) : Int).toNat = pn from rfl]
      rw [if_neg (by omega), if_neg (by omega), if_neg (by omega), if_pos (by omega)]
      exact (roww_at (by omega)).symm
    by_cases k6_4 : q = 4
    · skip
      refine j_table hx hb (tgt := 81) (4) k6_4 dX9_band_10 ?_
      refine lv_aload_n hx hb dX9_band_81 rfl (lv_at hl 0 rfl) ?_
      refine m_get (C := RX9) (T := TX9) (N := 13) (ci := 8) hx hb hts i_X9 hown hK hH hY.1 rfl 0 (by decide) f_0 rfl dX9_band_82 ?_
      refine lv_iload_n hx hb dX9_band_85 rfl (lv_at hl 1 rfl) ?_
      refine j_const hx hb dX9_band_86 ?_
      refine lv_aload_n hx hb dX9_band_87 rfl (lv_at hl 0 rfl) ?_
      refine lv_iload_n hx hb dX9_band_88 rfl (lv_at hl 1 rfl) ?_
      refine j_const hx hb dX9_band_89 ?_
      refine m_callVi (As := [.int (iv (pn : Int)), .int (iv 0)]) (rest := [.int (iv 3), .int (iv (pn : Int)), .ref (yy + 1)]) ⟨hx, hb, hml, hown, hts⟩ hK hH hS (c_X9_worn l G μ n yy ((aD u0).1) α β κ (aC u0) ω (aN u0) (aT u0) (aL u0) en fr pl wr hY pn 0 hOk (by omega) (by omega)) (cwV 2 hts gX9_band_X9_worn rfl rfl rfl (by decide +kernel) ⟨(Nat.le_of_ble_eq_true rfl), (Nat.le_of_ble_eq_true rfl)⟩) hY.1 rfl rfl rfl rfl hl.1 (Nat.le_of_ble_eq_true rfl) dX9_band_90 ⟨Nat.zero_le _, Nat.zero_le _⟩ (fun z30 μ27 n28 H locs hz30 hp29 hH hS => ?_)
      obtain ⟨hz9, hm9, hn9⟩ := hp29
      rw [hm9, hn9] at hH
      rw [hz9, if_neg (show ¬ (0 : Int) = 1 by omega)]
      clear hz9 hm9 hn9
      refine j_iadd hx hb dX9_band_93 ?_
      refine m_callSi (As := [.int (iv (pn : Int)), .int (iv (3 + ((bleix (roww ((aD u0).1) pn) 9 : Nat) : Int)))]) (rest := [.ref (yy + 1)]) ⟨hx, hb, hml, hown, hts⟩ hK hH hS (c_X9_of l G μ n (pn : Int) (3 + ((bleix (roww ((aD u0).1) pn) 9 : Nat) : Int)) (by omega) (by omega)) (va_cwS 2 hts gX9_band_X9_of rfl rfl rfl (by decide +kernel) ⟨(Nat.le_of_ble_eq_true rfl), (Nat.le_of_ble_eq_true rfl)⟩) rfl rfl hl.1 (Nat.le_of_ble_eq_true rfl) dX9_band_94 ⟨Nat.zero_le _, Nat.zero_le _⟩ (fun z34 μ31 n32 H locs hz34 hp33 hH hS => ?_)
      obtain ⟨hz9, hm9, hn9⟩ := hp33
      rw [hm9, hn9] at hH
      rw [hz9]
      clear hz9 hm9 hn9
      refine j_norm (y := ((88 + 13 * pn + (bleix (roww ((aD u0).1) pn) 9) : Nat) : Int)) (by omega) ?_
      refine m_iald (nA := 163) (f := ((aD u0).1)) hx hb hK hH hY.2.1 dX9_band_97 ?_ (by omega) (by omega)
      refine j_norm (y := (((aD u0).1) (88 + 13 * pn + (bleix (roww ((aD u0).1) pn) 9)))) rfl ?_
      have hw9 := hs4 (bleix (roww (aD u0).1 pn) 9) (by omega)
      subst hQ
      refine m_iret hx hb hr hlocks hH hS dX9_band_98 ?_ (by omega)
      refine ⟨?_, rfl, rfl⟩
      unfold a_band
      rw [if_pos (by omega), show ((pn : Nat) : Int).toNat = pn from rfl]
      rw [if_neg (by omega), if_neg (by omega), if_neg (by omega), if_neg (by omega), if_pos (by omega)]
      rw [show (10 : Nat) = 9 + 1 from rfl, bleix_v (by exact (OkS.w hOk hpn 0 (by omega)).2) 9]
      exact (roww_at (by omega)).symm
    by_cases k6_5 : q = 5
    · skip
      refine j_table hx hb (tgt := 99) (5) k6_5 dX9_band_10 ?_
      refine lv_aload_n hx hb dX9_band_99 rfl (lv_at hl 0 rfl) ?_
      refine lv_iload_n hx hb dX9_band_100 rfl (lv_at hl 1 rfl) ?_
      refine j_const hx hb dX9_band_101 ?_
      refine m_callVi (As := [.int (iv (pn : Int)), .int (iv 1)]) (rest := []) ⟨hx, hb, hml, hown, hts⟩ hK hH hS (c_X9_worn l G μ n yy ((aD u0).1) α β κ (aC u0) ω (aN u0) (aT u0) (aL u0) en fr pl wr hY pn 1 hOk (by omega) (by omega)) (cwV 2 hts gX9_band_X9_worn rfl rfl rfl (by decide +kernel) ⟨(Nat.le_of_ble_eq_true rfl), (Nat.le_of_ble_eq_true rfl)⟩) hY.1 rfl rfl rfl rfl hl.1 (Nat.le_of_ble_eq_true rfl) dX9_band_102 ⟨Nat.zero_le _, Nat.zero_le _⟩ (fun z38 μ35 n36 H locs hz38 hp37 hH hS => ?_)
      obtain ⟨hz9, hm9, hn9⟩ := hp37
      rw [hm9, hn9] at hH
      rw [hz9, if_pos rfl]
      clear hz9 hm9 hn9
      subst hQ
      refine m_iret hx hb hr hlocks hH hS dX9_band_105 ?_ (by omega)
      refine ⟨?_, rfl, rfl⟩
      unfold a_band
      rw [if_pos (by omega), show ((pn : Nat) : Int).toNat = pn from rfl]
      rw [if_neg (by omega), if_neg (by omega), if_neg (by omega), if_neg (by omega), if_neg (by omega), if_pos (by omega)]
    by_cases k6_6 : q = 6
    · skip
      refine j_table hx hb (tgt := 106) (6) k6_6 dX9_band_10 ?_
      refine lv_aload_n hx hb dX9_band_106 rfl (lv_at hl 0 rfl) ?_
      refine lv_iload_n hx hb dX9_band_107 rfl (lv_at hl 1 rfl) ?_
      refine j_const hx hb dX9_band_108 ?_
      refine m_callVi (As := [.int (iv (pn : Int)), .int (iv 5)]) (rest := []) ⟨hx, hb, hml, hown, hts⟩ hK hH hS (c_X9_darkness l G μ n yy ((aD u0).1) α β κ (aC u0) ω (aN u0) (aT u0) (aL u0) en fr pl wr hY pn 5 hOk (by omega) (by omega)) (cwV 2 hts gX9_band_X9_darkness rfl rfl rfl (by decide +kernel) ⟨(Nat.le_of_ble_eq_true rfl), (Nat.le_of_ble_eq_true rfl)⟩) hY.1 rfl rfl rfl rfl hl.1 (Nat.le_of_ble_eq_true rfl) dX9_band_109 ⟨Nat.zero_le _, Nat.zero_le _⟩ (fun z42 μ39 n40 H locs hz42 hp41 hH hS => ?_)
      obtain ⟨hz2, hm2, hn2⟩ := hp41; rw [hz2]; rw [hm2, hn2] at hH; clear hz2 hm2 hn2
      refine j_bipush hx hb dX9_band_112 ?_ (by decide)
      refine j_iadd hx hb dX9_band_114 ?_
      subst hQ
      refine m_iret hx hb hr hlocks hH hS dX9_band_115 ?_ (by omega)
      refine ⟨?_, rfl, rfl⟩
      unfold a_band
      rw [if_pos (by omega), show ((pn : Nat) : Int).toNat = pn from rfl]
      rw [if_neg (by omega), if_neg (by omega), if_neg (by omega), if_neg (by omega), if_neg (by omega), if_neg (by omega), if_pos (by omega)]
    refine j_tableO (tgt := 116) hx hb dX9_band_10 (by omega) ?_ (by decide) (by omega)
    refine j_bipush hx hb dX9_band_116 ?_ (by decide)
    subst hQ
    refine m_iret hx hb hr hlocks hH hS dX9_band_118 ?_ (by omega)
    refine ⟨?_, rfl, rfl⟩
    unfold a_band
    rw [if_pos (by omega), show ((pn : Nat) : Int).toNat = pn from rfl]
    rw [if_neg (by omega), if_neg (by omega), if_neg (by omega), if_neg (by omega), if_neg (by omega), if_neg (by omega), if_neg (by omega)]
  · skip
    refine j_const hx hb dX9_band_7 ?_
    subst hQ
    refine m_iret hx hb hr hlocks hH hS dX9_band_8 ?_ (by omega)
    refine ⟨?_, rfl, rfl⟩
    unfold a_band
    rw [if_neg (by omega)]

abbrev rm_t_X9_wear : Room := { frames := 2, cells := 0, slots := 0, locals := 42 }
set_option maxHeartbeats 4000000 in
set_option maxRecDepth 100000 in
theorem t_X9_wear (l : Launch) (G : wG) (μ : hM) (n : Nat) (yy : Nat) (u0 : aS) (en : Int) (pa k : Int) (hM0 : IsM G μ yy u0 en) (hen : en ≤ 5900) (hO : OkD (aD u0)) (hBpa : -2147483648 ≤ pa ∧ pa ≤ 2147483647) (hBk : -2147483648 ≤ k ∧ k ≤ 2147483647) : Met l yX9_wear wsX9_wear rm_t_X9_wear (mPc G μ n [.ref yy, .int (iv pa), .int (iv k)]) (mQi G (fun z μ1 n1 => z = a_wear (aD u0).1 pa k ∧ μ1 = μ ∧ n1 = n)) 0 0 (gA G) := by
  refine Met.ofW (cc := cX9_wear) (maxL := 3) (ret := (some .int)) (by decide) rfl ?_
  intro p e s m args below meth c s₁ B hml hv
  obtain ⟨hav, hK, hH⟩ := hv
  have hx := B.exec
  have hb := B.bytes
  have hr := B.returns
  have hts := atoms_spec (ws := wsX9_wear) B.pre
  have hown : s.vm.findClass RX9 = some m.cls := findClass_of_methodNamed B.named
  have hlocks := B.notSynchronized
  have hS : va_S (gA G) s.heap s.heap [] := va_S.rf
  have hl := lv_entry ([.ref yy, .int (iv pa), .int (iv k)]) (n := 3) (Nat.le_of_ble_eq_true rfl)
  have hfr : entryFrame m args 3 = entryFrame m ([.ref yy, .int (iv pa), .int (iv k)] : List Value).toArray 3 := by rw [hav]
  rw [hfr, lg_entry_eq]
  generalize (lg_sl ([.ref yy, .int (iv pa), .int (iv k)]) ++ List.replicate (3 - (lg_sl ([.ref yy, .int (iv pa), .int (iv k)])).length) Slot.unset).toArray = ls at hl ⊢
  have hl : lv_has ls 3 [(0, .ref yy), (1, .int (iv pa)), (2, .int (iv k))] := hl
  generalize hQ : MQ below _ args s 0 0 (gA G) = Q
  show W p l e rm_t_X9_wear s m args below meth c s.heap [] 0 0 Q (F0 m 0 ls [])
  obtain ⟨H, hHe⟩ : ∃ H, H = s.heap := ⟨_, rfl⟩
  obtain ⟨locs, hlo⟩ : ∃ q : List Loc, q = [] := ⟨_, rfl⟩
  have hH : gP G μ n H := by rw [hHe]; exact hH
  have hS : va_S (gA G) s.heap H locs := by rw [hHe, hlo]; exact hS
  suffices hgo : W p l e rm_t_X9_wear s m args below meth c H locs 0 0 Q (F0 m 0 ls []) by rw [hHe, hlo] at hgo; exact hgo
  clear hHe hlo hfr hav
  have f_0 := hts (.fieldLink RX9 7 "StampDaterModel" "s" "[I") (List.mem_of_getElem? (i := 1) rfl)
  have i_X9 : ∀ w ∈ u_ws RX9 TX9 13, w ∈ wsX9_wear := by decide +kernel
  have hfr : MFr yy μ μ := MFr.rf
  obtain ⟨α, β, κ, ω, fr, pl, wr, hY, hR⟩ := hM0
  have hT := hO.1
  have hOk := hT.1
  have h3 := hT.2.1
  have h5 := hT.2.2.1
  have h4 := hOk.2.2.2.1
  have hPD := hR.1
  have hen0 := hR.2.2.2.1
  have hkn := hR.2.2.2.2.1
  have hik := hR.2.2.2.2.2.1
  have hOC := hR.2.2.2.2.2.2
  have hl0 := hOC.1
  refine lv_iload_n hx hb dX9_wear_0 rfl (lv_at hl 1 rfl) ?_
  refine m_callSi (As := [.int (iv pa)]) (rest := []) ⟨hx, hb, hml, hown, hts⟩ hK hH hS (c_X9_isPlace l G μ n pa (by omega)) (va_cwS 1 hts gX9_wear_X9_isPlace rfl rfl rfl (by decide +kernel) ⟨(Nat.le_of_ble_eq_true rfl), (Nat.le_of_ble_eq_true rfl)⟩) rfl rfl hl.1 (Nat.le_of_ble_eq_true rfl) dX9_wear_1 ⟨Nat.zero_le _, Nat.zero_le _⟩ (fun z4 μ1 n2 H locs hz4 hp3 hH hS => ?_)
  obtain ⟨hz9, hm9, hn9⟩ := hp3
  rw [hm9, hn9] at hH
  have hz4c : (z4 = 1 ∧ (0 ≤ pa ∧ pa ≤ 5)) ∨ (z4 = 0 ∧ ¬ (0 ≤ pa ∧ pa ≤ 5)) := by
    by_cases q9 : 0 ≤ pa ∧ pa ≤ 5
    · rw [if_pos q9] at hz9; exact Or.inl ⟨hz9, q9⟩
    · rw [if_neg q9] at hz9; exact Or.inr ⟨hz9, q9⟩
  clear hz9 hm9 hn9
  refine j_if_ne (tgt := 9) hx hb dX9_wear_4 (by decide) (fun c5 => ?_) (fun c5 => ?_) (by omega)
  · skip
    obtain ⟨pn, hpne⟩ : ∃ q : Nat, (q : Int) = pa := ⟨pa.toNat, by omega⟩
    subst hpne
    have hpn : pn < 6 := by omega
    obtain ⟨hs1, hs2, hs3, hs4⟩ := hOk.2.2.2.2 pn hpn
    refine lv_iload_n hx hb dX9_wear_9 rfl (lv_at hl 2 rfl) ?_
    refine j_const hx hb dX9_wear_10 ?_
    refine j_bipush hx hb dX9_wear_11 ?_ (by decide)
    refine m_callSi (As := [.int (iv k), .int (iv 0), .int (iv 9)]) (rest := []) ⟨hx, hb, hml, hown, hts⟩ hK hH hS (c_X9_in l G μ n k 0 9 (by omega) (by omega) (by omega)) (va_cwS 3 hts gX9_wear_X9_in rfl rfl rfl (by decide +kernel) ⟨(Nat.le_of_ble_eq_true rfl), (Nat.le_of_ble_eq_true rfl)⟩) rfl rfl hl.1 (Nat.le_of_ble_eq_true rfl) dX9_wear_13 ⟨Nat.zero_le _, Nat.zero_le _⟩ (fun z9 μ6 n7 H locs hz9 hp8 hH hS => ?_)
    obtain ⟨hz9, hm9, hn9⟩ := hp8
    rw [hm9, hn9] at hH
    have hz9c : (z9 = 1 ∧ (0 ≤ k ∧ k ≤ 9)) ∨ (z9 = 0 ∧ ¬ (0 ≤ k ∧ k ≤ 9)) := by
      by_cases q9 : 0 ≤ k ∧ k ≤ 9
      · rw [if_pos q9] at hz9; exact Or.inl ⟨hz9, q9⟩
      · rw [if_neg q9] at hz9; exact Or.inr ⟨hz9, q9⟩
    clear hz9 hm9 hn9
    refine j_if_eq (tgt := 34) hx hb dX9_wear_16 (by decide) (fun c10 => ?_) (fun c10 => ?_) (by omega)
    · skip
      refine j_bipush hx hb dX9_wear_34 ?_ (by decide)
      subst hQ
      refine m_iret hx hb hr hlocks hH hS dX9_wear_36 ?_ (by omega)
      refine ⟨?_, rfl, rfl⟩
      unfold a_wear
      rw [if_pos (by omega), if_neg (by omega)]
    · skip
      refine lv_aload_n hx hb dX9_wear_19 rfl (lv_at hl 0 rfl) ?_
      refine m_get (C := RX9) (T := TX9) (N := 13) (ci := 8) hx hb hts i_X9 hown hK hH hY.1 rfl 0 (by decide) f_0 rfl dX9_wear_20 ?_
      refine lv_iload_n hx hb dX9_wear_23 rfl (lv_at hl 1 rfl) ?_
      refine j_const hx hb dX9_wear_24 ?_
      refine lv_iload_n hx hb dX9_wear_25 rfl (lv_at hl 2 rfl) ?_
      refine j_iadd hx hb dX9_wear_26 ?_
      refine m_callSi (As := [.int (iv (pn : Int)), .int (iv (3 + k))]) (rest := [.ref (yy + 1)]) ⟨hx, hb, hml, hown, hts⟩ hK hH hS (c_X9_of l G μ n (pn : Int) (3 + k) (by omega) (by omega)) (va_cwS 2 hts gX9_wear_X9_of rfl rfl rfl (by decide +kernel) ⟨(Nat.le_of_ble_eq_true rfl), (Nat.le_of_ble_eq_true rfl)⟩) rfl rfl hl.1 (Nat.le_of_ble_eq_true rfl) dX9_wear_27 ⟨Nat.zero_le _, Nat.zero_le _⟩ (fun z14 μ11 n12 H locs hz14 hp13 hH hS => ?_)
      obtain ⟨hz9, hm9, hn9⟩ := hp13
      rw [hm9, hn9] at hH
      rw [hz9]
      clear hz9 hm9 hn9
      refine j_norm (y := ((88 + 13 * pn + ((k).toNat) : Nat) : Int)) (by omega) ?_
      refine m_iald (nA := 163) (f := ((aD u0).1)) hx hb hK hH hY.2.1 dX9_wear_30 ?_ (by omega) (by omega)
      refine j_norm (y := (((aD u0).1) (88 + 13 * pn + ((k).toNat)))) rfl ?_
      refine lv_goto (tgt := 36) hx hb dX9_wear_31 (by decide) ?_
      have hw9 := hs4 k.toNat (by omega)
      subst hQ
      refine m_iret hx hb hr hlocks hH hS dX9_wear_36 ?_ (by omega)
      refine ⟨?_, rfl, rfl⟩
      unfold a_wear
      rw [if_pos (by omega), if_pos (by omega), show ((pn : Nat) : Int).toNat = pn from rfl]
      exact (roww_at (by omega)).symm
  · skip
    refine j_const hx hb dX9_wear_7 ?_
    subst hQ
    refine m_iret hx hb hr hlocks hH hS dX9_wear_8 ?_ (by omega)
    refine ⟨?_, rfl, rfl⟩
    unfold a_wear
    rw [if_neg (by omega)]

abbrev rm_t_X9_print : Room := { frames := 3, cells := 0, slots := 0, locals := 76 }
set_option maxHeartbeats 4000000 in
set_option maxRecDepth 100000 in
theorem t_X9_print (l : Launch) (G : wG) (μ : hM) (n : Nat) (yy : Nat) (u0 : aS) (en : Int) (i q : Int) (hM0 : IsM G μ yy u0 en) (hen : en ≤ 5900) (hO : OkD (aD u0)) (hBi : -2147483648 ≤ i ∧ i ≤ 2147483647) (hBq : -2147483648 ≤ q ∧ q ≤ 2147483647) : Met l yX9_print wsX9_print rm_t_X9_print (mPc G μ n [.ref yy, .int (iv i), .int (iv q)]) (mQi G (fun z μ1 n1 => z = a_print (aD u0).1 i q ∧ μ1 = μ ∧ n1 = n)) 0 0 (gA G) := by
  refine Met.ofW (cc := cX9_print) (maxL := 4) (ret := (some .int)) (by decide) rfl ?_
  intro p e s m args below meth c s₁ B hml hv
  obtain ⟨hav, hK, hH⟩ := hv
  have hx := B.exec
  have hb := B.bytes
  have hr := B.returns
  have hts := atoms_spec (ws := wsX9_print) B.pre
  have hown : s.vm.findClass RX9 = some m.cls := findClass_of_methodNamed B.named
  have hlocks := B.notSynchronized
  have hS : va_S (gA G) s.heap s.heap [] := va_S.rf
  have hl := lv_entry ([.ref yy, .int (iv i), .int (iv q)]) (n := 4) (Nat.le_of_ble_eq_true rfl)
  have hfr : entryFrame m args 4 = entryFrame m ([.ref yy, .int (iv i), .int (iv q)] : List Value).toArray 4 := by rw [hav]
  rw [hfr, lg_entry_eq]
  generalize (lg_sl ([.ref yy, .int (iv i), .int (iv q)]) ++ List.replicate (4 - (lg_sl ([.ref yy, .int (iv i), .int (iv q)])).length) Slot.unset).toArray = ls at hl ⊢
  have hl : lv_has ls 4 [(0, .ref yy), (1, .int (iv i)), (2, .int (iv q))] := hl
  generalize hQ : MQ below _ args s 0 0 (gA G) = Q
  show W p l e rm_t_X9_print s m args below meth c s.heap [] 0 0 Q (F0 m 0 ls [])
  obtain ⟨H, hHe⟩ : ∃ H, H = s.heap := ⟨_, rfl⟩
  obtain ⟨locs, hlo⟩ : ∃ q : List Loc, q = [] := ⟨_, rfl⟩
  have hH : gP G μ n H := by rw [hHe]; exact hH
  have hS : va_S (gA G) s.heap H locs := by rw [hHe, hlo]; exact hS
  suffices hgo : W p l e rm_t_X9_print s m args below meth c H locs 0 0 Q (F0 m 0 ls []) by rw [hHe, hlo] at hgo; exact hgo
  clear hHe hlo hfr hav
  have f_0 := hts (.fieldLink RX9 7 "StampDaterModel" "s" "[I") (List.mem_of_getElem? (i := 1) rfl)
  have i_X9 : ∀ w ∈ u_ws RX9 TX9 13, w ∈ wsX9_print := by decide +kernel
  have hfr : MFr yy μ μ := MFr.rf
  obtain ⟨α, β, κ, ω, fr, pl, wr, hY, hR⟩ := hM0
  have hT := hO.1
  have hOk := hT.1
  have h3 := hT.2.1
  have h5 := hT.2.2.1
  have h4 := hOk.2.2.2.1
  have hPD := hR.1
  have hen0 := hR.2.2.2.1
  have hkn := hR.2.2.2.2.1
  have hik := hR.2.2.2.2.2.1
  have hOC := hR.2.2.2.2.2.2
  have hl0 := hOC.1
  have h12 := hT.2.2.2.1
  refine lv_iload_n hx hb dX9_print_0 rfl (lv_at hl 1 rfl) ?_
  refine j_const hx hb dX9_print_1 ?_
  refine lv_aload_n hx hb dX9_print_2 rfl (lv_at hl 0 rfl) ?_
  refine m_get (C := RX9) (T := TX9) (N := 13) (ci := 8) hx hb hts i_X9 hown hK hH hY.1 rfl 0 (by decide) f_0 rfl dX9_print_3 ?_
  refine j_bipush hx hb dX9_print_6 ?_ (by decide)
  refine m_iald (nA := 163) (f := ((aD u0).1)) hx hb hK hH hY.2.1 dX9_print_8 ?_ (by omega) (by omega)
  refine j_norm (y := (((aD u0).1) 12)) rfl ?_
  refine j_const hx hb dX9_print_9 ?_
  refine j_isub hx hb dX9_print_10 ?_
  refine m_callSi (As := [.int (iv i), .int (iv 0), .int (iv ((((aD u0).1) 12) - 1))]) (rest := []) ⟨hx, hb, hml, hown, hts⟩ hK hH hS (c_X9_in l G μ n i 0 ((((aD u0).1) 12) - 1) (by omega) (by omega) (by omega)) (va_cwS 3 hts gX9_print_X9_in rfl rfl rfl (by decide +kernel) ⟨(Nat.le_of_ble_eq_true rfl), (Nat.le_of_ble_eq_true rfl)⟩) rfl rfl hl.1 (Nat.le_of_ble_eq_true rfl) dX9_print_11 ⟨Nat.zero_le _, Nat.zero_le _⟩ (fun z4 μ1 n2 H locs hz4 hp3 hH hS => ?_)
  obtain ⟨hz9, hm9, hn9⟩ := hp3
  rw [hm9, hn9] at hH
  have hz4c : (z4 = 1 ∧ (0 ≤ i ∧ i ≤ ((((aD u0).1) 12) - 1))) ∨ (z4 = 0 ∧ ¬ (0 ≤ i ∧ i ≤ ((((aD u0).1) 12) - 1))) := by
    by_cases q9 : 0 ≤ i ∧ i ≤ ((((aD u0).1) 12) - 1)
    · rw [if_pos q9] at hz9; exact Or.inl ⟨hz9, q9⟩
    · rw [if_neg q9] at hz9; exact Or.inr ⟨hz9, q9⟩
  clear hz9 hm9 hn9
  refine j_if_ne (tgt := 19) hx hb dX9_print_14 (by decide) (fun c5 => ?_) (fun c5 => ?_) (by omega)
  · skip
    obtain ⟨im, hime⟩ : ∃ q : Nat, (q : Int) = i := ⟨i.toNat, by omega⟩
    subst hime
    have him : im < 12 := by omega
    obtain ⟨hp0, hp1, hp2, hp3, hp4, hp5⟩ := hT.2.2.2.2 im him
    have hU9 := or_lt ((aD u0).1 (15 + 6 * im)).toNat (by omega) ((aD u0).1 (16 + 6 * im)).toNat (by omega)
    have hu6 := acnt_rng ((aD u0).1 (13 + 6 * im)) (clr (aD u0).1 im) 36525
    have hu7 := afst_rng ((aD u0).1 (13 + 6 * im)) (clr (aD u0).1 im) 36525
    refine lv_iload_n hx hb dX9_print_19 rfl (lv_at hl 2 rfl) ?_
    refine j_const hx hb dX9_print_20 ?_
    refine j_bipush hx hb dX9_print_21 ?_ (by decide)
    refine m_callSi (As := [.int (iv q), .int (iv 0), .int (iv 7)]) (rest := []) ⟨hx, hb, hml, hown, hts⟩ hK hH hS (c_X9_in l G μ n q 0 7 (by omega) (by omega) (by omega)) (va_cwS 3 hts gX9_print_X9_in rfl rfl rfl (by decide +kernel) ⟨(Nat.le_of_ble_eq_true rfl), (Nat.le_of_ble_eq_true rfl)⟩) rfl rfl hl.1 (Nat.le_of_ble_eq_true rfl) dX9_print_23 ⟨Nat.zero_le _, Nat.zero_le _⟩ (fun z9 μ6 n7 H locs hz9 hp8 hH hS => ?_)
    obtain ⟨hz9, hm9, hn9⟩ := hp8
    rw [hm9, hn9] at hH
    have hz9c : (z9 = 1 ∧ (0 ≤ q ∧ q ≤ 7)) ∨ (z9 = 0 ∧ ¬ (0 ≤ q ∧ q ≤ 7)) := by
      by_cases q9 : 0 ≤ q ∧ q ≤ 7
      · rw [if_pos q9] at hz9; exact Or.inl ⟨hz9, q9⟩
      · rw [if_neg q9] at hz9; exact Or.inr ⟨hz9, q9⟩
    clear hz9 hm9 hn9
    refine j_if_ne (tgt := 32) hx hb dX9_print_26 (by decide) (fun c10 => ?_) (fun c10 => ?_) (by omega)
    · skip
      refine j_bipush hx hb dX9_print_32 ?_ (by decide)
      refine j_bipush hx hb dX9_print_34 ?_ (by decide)
      refine lv_iload_n hx hb dX9_print_36 rfl (lv_at hl 1 rfl) ?_
      refine j_imul hx hb dX9_print_37 ?_
      refine j_iadd hx hb dX9_print_38 ?_
      refine j_norm (y := ((13 + 6 * im : Nat) : Int)) (by omega) ?_
      refine lv_istore_n (lv' := [(3, .int (iv ((13 + 6 * im : Nat) : Int))), (0, .ref yy), (1, .int (iv (im : Int))), (2, .int (iv q))]) hx hb dX9_print_39 rfl hl (by decide) rfl (fun ls hl => ?_)
      refine lv_iload_n hx hb dX9_print_40 rfl (lv_at hl 3 rfl) ?_
      refine j_bipush hx hb dX9_print_41 ?_ (by decide)
      refine j_icmp_ge (tgt := 57) hx hb dX9_print_43 (by decide) (fun c11 => ?_) (fun c11 => ?_) (by omega) (by omega)
      · skip
        refine lv_aload_n hx hb dX9_print_57 rfl (lv_at hl 1 rfl) ?_
        refine m_get (C := RX9) (T := TX9) (N := 13) (ci := 8) hx hb hts i_X9 hown hK hH hY.1 rfl 0 (by decide) f_0 rfl dX9_print_58 ?_
        refine lv_iload_n hx hb dX9_print_61 rfl (lv_at hl 0 rfl) ?_
        refine m_iald (nA := 163) (f := ((aD u0).1)) hx hb hK hH hY.2.1 dX9_print_62 ?_ (by omega) (by omega)
        refine j_norm (y := (((aD u0).1) (13 + 6 * im))) rfl ?_
        refine lv_aload_n hx hb dX9_print_63 rfl (lv_at hl 1 rfl) ?_
        refine m_get (C := RX9) (T := TX9) (N := 13) (ci := 8) hx hb hts i_X9 hown hK hH hY.1 rfl 0 (by decide) f_0 rfl dX9_print_64 ?_
        refine lv_iload_n hx hb dX9_print_67 rfl (lv_at hl 0 rfl) ?_
        refine j_const hx hb dX9_print_68 ?_
        refine j_iadd hx hb dX9_print_69 ?_
        refine j_norm (y := ((15 + 6 * im : Nat) : Int)) (by omega) ?_
        refine m_iald (nA := 163) (f := ((aD u0).1)) hx hb hK hH hY.2.1 dX9_print_70 ?_ (by omega) (by omega)
        refine j_norm (y := (((aD u0).1) (15 + 6 * im))) rfl ?_
        refine j_norm (y := ((((aD u0).1 (15 + 6 * im)).toNat : Nat) : Int)) (by omega) ?_
        refine lv_aload_n hx hb dX9_print_71 rfl (lv_at hl 1 rfl) ?_
        refine m_get (C := RX9) (T := TX9) (N := 13) (ci := 8) hx hb hts i_X9 hown hK hH hY.1 rfl 0 (by decide) f_0 rfl dX9_print_72 ?_
        refine lv_iload_n hx hb dX9_print_75 rfl (lv_at hl 0 rfl) ?_
        refine j_const hx hb dX9_print_76 ?_
        refine j_iadd hx hb dX9_print_77 ?_
        refine j_norm (y := ((16 + 6 * im : Nat) : Int)) (by omega) ?_
        refine m_iald (nA := 163) (f := ((aD u0).1)) hx hb hK hH hY.2.1 dX9_print_78 ?_ (by omega) (by omega)
        refine j_norm (y := (((aD u0).1) (16 + 6 * im))) rfl ?_
        refine j_norm (y := ((((aD u0).1 (16 + 6 * im)).toNat : Nat) : Int)) (by omega) ?_
        refine j_ior (v := ((((aD u0).1 (15 + 6 * im)).toNat ||| ((aD u0).1 (16 + 6 * im)).toNat : Nat) : Int)) hx hb dX9_print_79 (bit_or6 _ (by omega) _ (by omega)) ?_
        refine lv_iload_n hx hb dX9_print_80 rfl (lv_at hl 3 rfl) ?_
        refine j_bipush hx hb dX9_print_81 ?_ (by decide)
        refine j_icmp_ne (tgt := 90) hx hb dX9_print_83 (by decide) (fun c12 => ?_) (fun c12 => ?_) (by omega) (by omega)
        · skip
          refine j_const hx hb dX9_print_90 ?_
          refine m_callSi (As := [.int (iv (((aD u0).1) (13 + 6 * im))), .int (iv ((((aD u0).1 (15 + 6 * im)).toNat ||| ((aD u0).1 (16 + 6 * im)).toNat : Nat) : Int)), .int (iv 0)]) (rest := []) ⟨hx, hb, hml, hown, hts⟩ hK hH hS (c_X9_agreeing l G μ n (((aD u0).1) (13 + 6 * im)) (((aD u0).1 (15 + 6 * im)).toNat ||| ((aD u0).1 (16 + 6 * im)).toNat) 0 (by omega) hU9 (by omega)) (va_cwS 3 hts gX9_print_X9_agreeing rfl rfl rfl (by decide +kernel) ⟨(Nat.le_of_ble_eq_true rfl), (Nat.le_of_ble_eq_true rfl)⟩) rfl rfl hl.1 (Nat.le_of_ble_eq_true rfl) dX9_print_91 ⟨Nat.zero_le _, Nat.zero_le _⟩ (fun z16 μ13 n14 H locs hz16 hp15 hH hS => ?_)
          obtain ⟨hz9, hm9, hn9⟩ := hp15
          rw [hm9, hn9] at hH
          rw [hz9]
          clear hz9 hm9 hn9
          refine j_norm (y := (acnt (((aD u0).1) (13 + 6 * im)) (clr (aD u0).1 im) 36525)) (if_neg (show ¬ (0 : Int) = 1 by omega)) ?_
          subst hQ
          refine m_iret hx hb hr hlocks hH hS dX9_print_94 ?_ (by omega)
          refine ⟨?_, rfl, rfl⟩
          unfold a_print
          rw [if_pos (by omega), show ((im : Nat) : Int).toNat = im from rfl]
          rw [if_neg (by omega), if_neg (by omega), if_neg (by omega), if_neg (by omega), if_neg (by omega), if_neg (by omega), if_pos (by omega)]
        · skip
          refine j_const hx hb dX9_print_86 ?_
          refine lv_goto (tgt := 91) hx hb dX9_print_87 (by decide) ?_
          refine m_callSi (As := [.int (iv (((aD u0).1) (13 + 6 * im))), .int (iv ((((aD u0).1 (15 + 6 * im)).toNat ||| ((aD u0).1 (16 + 6 * im)).toNat : Nat) : Int)), .int (iv 1)]) (rest := []) ⟨hx, hb, hml, hown, hts⟩ hK hH hS (c_X9_agreeing l G μ n (((aD u0).1) (13 + 6 * im)) (((aD u0).1 (15 + 6 * im)).toNat ||| ((aD u0).1 (16 + 6 * im)).toNat) 1 (by omega) hU9 (by omega)) (va_cwS 3 hts gX9_print_X9_agreeing rfl rfl rfl (by decide +kernel) ⟨(Nat.le_of_ble_eq_true rfl), (Nat.le_of_ble_eq_true rfl)⟩) rfl rfl hl.1 (Nat.le_of_ble_eq_true rfl) dX9_print_91 ⟨Nat.zero_le _, Nat.zero_le _⟩ (fun z20 μ17 n18 H locs hz20 hp19 hH hS => ?_)
          obtain ⟨hz9, hm9, hn9⟩ := hp19
          rw [hm9, hn9] at hH
          rw [hz9]
          clear hz9 hm9 hn9
          refine j_norm (y := (afst (((aD u0).1) (13 + 6 * im)) (clr (aD u0).1 im) 36525)) (if_pos rfl) ?_
          subst hQ
          refine m_iret hx hb hr hlocks hH hS dX9_print_94 ?_ (by omega)
          refine ⟨?_, rfl, rfl⟩
          unfold a_print
          rw [if_pos (by omega), show ((im : Nat) : Int).toNat = im from rfl]
          rw [if_neg (by omega), if_neg (by omega), if_neg (by omega), if_neg (by omega), if_neg (by omega), if_neg (by omega), if_neg (by omega), if_pos (by omega)]
      · skip
        refine lv_aload_n hx hb dX9_print_46 rfl (lv_at hl 1 rfl) ?_
        refine m_get (C := RX9) (T := TX9) (N := 13) (ci := 8) hx hb hts i_X9 hown hK hH hY.1 rfl 0 (by decide) f_0 rfl dX9_print_47 ?_
        refine lv_iload_n hx hb dX9_print_50 rfl (lv_at hl 0 rfl) ?_
        refine lv_iload_n hx hb dX9_print_51 rfl (lv_at hl 3 rfl) ?_
        refine j_iadd hx hb dX9_print_52 ?_
        obtain ⟨qn, hqne⟩ : ∃ x : Nat, (x : Int) = q := ⟨q.toNat, by omega⟩
        subst hqne
        refine j_norm (y := ((13 + 6 * im + qn : Nat) : Int)) (by omega) ?_
        refine m_iald (nA := 163) (f := ((aD u0).1)) hx hb hK hH hY.2.1 dX9_print_53 ?_ (by omega) (by omega)
        refine j_norm (y := (((aD u0).1) (13 + 6 * im + qn))) rfl ?_
        have hv9 : -1000000 ≤ (aD u0).1 (13 + 6 * im + qn) ∧ (aD u0).1 (13 + 6 * im + qn) ≤ 1000000 := by rcases (show qn = 0 ∨ qn = 1 ∨ qn = 2 ∨ qn = 3 ∨ qn = 4 ∨ qn = 5 by omega) with e | e | e | e | e | e <;> subst e <;> (first | (show -1000000 ≤ (aD u0).1 (13 + 6 * im) ∧ (aD u0).1 (13 + 6 * im) ≤ 1000000; omega) | (rw [show 13 + 6 * im + 1 = 14 + 6 * im by omega]; omega) | (rw [show 13 + 6 * im + 2 = 15 + 6 * im by omega]; omega) | (rw [show 13 + 6 * im + 3 = 16 + 6 * im by omega]; omega) | (rw [show 13 + 6 * im + 4 = 17 + 6 * im by omega]; omega) | (rw [show 13 + 6 * im + 5 = 18 + 6 * im by omega]; omega))
        refine lv_goto (tgt := 94) hx hb dX9_print_54 (by decide) ?_
        subst hQ
        refine m_iret hx hb hr hlocks hH hS dX9_print_94 ?_ (by omega)
        refine ⟨?_, rfl, rfl⟩
        unfold a_print
        rw [if_pos (by omega), show ((im : Nat) : Int).toNat = im from rfl]
        rcases (show qn = 0 ∨ qn = 1 ∨ qn = 2 ∨ qn = 3 ∨ qn = 4 ∨ qn = 5 by omega) with e | e | e | e | e | e <;> subst e
        · rfl
        · show (aD u0).1 (13 + 6 * im + 1) = (aD u0).1 (14 + 6 * im); rw [show 13 + 6 * im + 1 = 14 + 6 * im by omega]
        · show (aD u0).1 (13 + 6 * im + 2) = (aD u0).1 (15 + 6 * im); rw [show 13 + 6 * im + 2 = 15 + 6 * im by omega]
        · show (aD u0).1 (13 + 6 * im + 3) = (aD u0).1 (16 + 6 * im); rw [show 13 + 6 * im + 3 = 16 + 6 * im by omega]
        · show (aD u0).1 (13 + 6 * im + 4) = (aD u0).1 (17 + 6 * im); rw [show 13 + 6 * im + 4 = 17 + 6 * im by omega]
        · show (aD u0).1 (13 + 6 * im + 5) = (aD u0).1 (18 + 6 * im); rw [show 13 + 6 * im + 5 = 18 + 6 * im by omega]
    · skip
      refine j_bipush hx hb dX9_print_29 ?_ (by decide)
      subst hQ
      refine m_iret hx hb hr hlocks hH hS dX9_print_31 ?_ (by omega)
      refine ⟨?_, rfl, rfl⟩
      unfold a_print
      rw [if_pos (by omega), show ((im : Nat) : Int).toNat = im from rfl]
      rw [if_neg (by omega), if_neg (by omega), if_neg (by omega), if_neg (by omega), if_neg (by omega), if_neg (by omega), if_neg (by omega), if_neg (by omega)]
  · skip
    refine j_const hx hb dX9_print_17 ?_
    subst hQ
    refine m_iret hx hb hr hlocks hH hS dX9_print_18 ?_ (by omega)
    refine ⟨?_, rfl, rfl⟩
    unfold a_print
    rw [if_neg (by omega)]

abbrev rm_t_X9_rightOf : Room := { frames := 2, cells := 0, slots := 0, locals := 42 }
set_option maxHeartbeats 4000000 in
set_option maxRecDepth 100000 in
theorem t_X9_rightOf (l : Launch) (G : wG) (μ : hM) (n : Nat) (yy : Nat) (u0 : aS) (en : Int) (k : Int) (hM0 : IsM G μ yy u0 en) (hen : en ≤ 5900) (hO : OkD (aD u0)) (hBk : -2147483648 ≤ k ∧ k ≤ 2147483647) : Met l yX9_rightOf wsX9_rightOf rm_t_X9_rightOf (mPc G μ n [.ref yy, .int (iv k)]) (mQi G (fun z μ1 n1 => z = a_rightOf (aD u0) k ∧ μ1 = μ ∧ n1 = n)) 0 0 (gA G) := by
  refine Met.ofW (cc := cX9_rightOf) (maxL := 3) (ret := (some .int)) (by decide) rfl ?_
  intro p e s m args below meth c s₁ B hml hv
  obtain ⟨hav, hK, hH⟩ := hv
  have hx := B.exec
  have hb := B.bytes
  have hr := B.returns
  have hts := atoms_spec (ws := wsX9_rightOf) B.pre
  have hown : s.vm.findClass RX9 = some m.cls := findClass_of_methodNamed B.named
  have hlocks := B.notSynchronized
  have hS : va_S (gA G) s.heap s.heap [] := va_S.rf
  have hl := lv_entry ([.ref yy, .int (iv k)]) (n := 3) (Nat.le_of_ble_eq_true rfl)
  have hfr : entryFrame m args 3 = entryFrame m ([.ref yy, .int (iv k)] : List Value).toArray 3 := by rw [hav]
  rw [hfr, lg_entry_eq]
  generalize (lg_sl ([.ref yy, .int (iv k)]) ++ List.replicate (3 - (lg_sl ([.ref yy, .int (iv k)])).length) Slot.unset).toArray = ls at hl ⊢
  have hl : lv_has ls 3 [(0, .ref yy), (1, .int (iv k))] := hl
  generalize hQ : MQ below _ args s 0 0 (gA G) = Q
  show W p l e rm_t_X9_rightOf s m args below meth c s.heap [] 0 0 Q (F0 m 0 ls [])
  obtain ⟨H, hHe⟩ : ∃ H, H = s.heap := ⟨_, rfl⟩
  obtain ⟨locs, hlo⟩ : ∃ q : List Loc, q = [] := ⟨_, rfl⟩
  have hH : gP G μ n H := by rw [hHe]; exact hH
  have hS : va_S (gA G) s.heap H locs := by rw [hHe, hlo]; exact hS
  suffices hgo : W p l e rm_t_X9_rightOf s m args below meth c H locs 0 0 Q (F0 m 0 ls []) by rw [hHe, hlo] at hgo; exact hgo
  clear hHe hlo hfr hav
  have f_0 := hts (.fieldLink RX9 7 "StampDaterModel" "s" "[I") (List.mem_of_getElem? (i := 1) rfl)
  have i_X9 : ∀ w ∈ u_ws RX9 TX9 13, w ∈ wsX9_rightOf := by decide +kernel
  have f_2 := hts (.fieldLink RX9 25 "StampDaterModel" "pool" "[I") (List.mem_of_getElem? (i := 2) rfl)
  have hfr : MFr yy μ μ := MFr.rf
  obtain ⟨α, β, κ, ω, fr, pl, wr, hY, hR⟩ := hM0
  have hT := hO.1
  have hOk := hT.1
  have h3 := hT.2.1
  have h5 := hT.2.2.1
  have h4 := hOk.2.2.2.1
  have hPD := hR.1
  have hen0 := hR.2.2.2.1
  have hkn := hR.2.2.2.2.1
  have hik := hR.2.2.2.2.2.1
  have hOC := hR.2.2.2.2.2.2
  have hl0 := hOC.1
  refine lv_iload_n hx hb dX9_rightOf_0 rfl (lv_at hl 1 rfl) ?_
  refine m_callSi (As := [.int (iv k)]) (rest := []) ⟨hx, hb, hml, hown, hts⟩ hK hH hS (c_X9_isDay l G μ n k (by omega)) (va_cwS 1 hts gX9_rightOf_X9_isDay rfl rfl rfl (by decide +kernel) ⟨(Nat.le_of_ble_eq_true rfl), (Nat.le_of_ble_eq_true rfl)⟩) rfl rfl hl.1 (Nat.le_of_ble_eq_true rfl) dX9_rightOf_1 ⟨Nat.zero_le _, Nat.zero_le _⟩ (fun z4 μ1 n2 H locs hz4 hp3 hH hS => ?_)
  obtain ⟨hz9, hm9, hn9⟩ := hp3
  rw [hm9, hn9] at hH
  have hz4c : (z4 = 1 ∧ (0 ≤ k ∧ k ≤ 36524)) ∨ (z4 = 0 ∧ ¬ (0 ≤ k ∧ k ≤ 36524)) := by
    by_cases q9 : 0 ≤ k ∧ k ≤ 36524
    · rw [if_pos q9] at hz9; exact Or.inl ⟨hz9, q9⟩
    · rw [if_neg q9] at hz9; exact Or.inr ⟨hz9, q9⟩
  clear hz9 hm9 hn9
  refine j_if_ne (tgt := 9) hx hb dX9_rightOf_4 (by decide) (fun c5 => ?_) (fun c5 => ?_) (by omega)
  · skip
    have hp0 := hPD.1.pos
    have hpl := hPD.2.1
    refine lv_aload_n hx hb dX9_rightOf_9 rfl (lv_at hl 0 rfl) ?_
    refine m_get (C := RX9) (T := TX9) (N := 13) (ci := 8) hx hb hts i_X9 hown hK hH hY.1 rfl 0 (by decide) f_0 rfl dX9_rightOf_10 ?_
    refine j_bipush hx hb dX9_rightOf_13 ?_ (by decide)
    refine m_iald (nA := 163) (f := ((aD u0).1)) hx hb hK hH hY.2.1 dX9_rightOf_15 ?_ (by omega) (by omega)
    refine j_norm (y := (((aD u0).1) 11)) rfl ?_
    refine lv_istore_n (lv' := [(2, .int (iv (((aD u0).1) 11))), (0, .ref yy), (1, .int (iv k))]) hx hb dX9_rightOf_16 rfl hl (by decide) rfl (fun ls hl => ?_)
    have lp17 : ∀ (fuel : Nat) (h0 : Int) (tl : List (Int × Int)) (bb : Int) (hPt : PCh ω h0 tl) (hh0 : 0 ≤ h0 ∧ h0 ≤ en) (hst : SrtL bb tl) (hce : chOf (aD u0).2 k = chOf tl k) (htr : ∀ x ∈ tl, 0 ≤ x.1 ∧ x.1 ≤ 40000) (_ : h0.toNat < fuel) (H : Heap) (locs : List Loc) (ls : Array Slot) (_ : gP G μ n H) (_ : va_S (gA G) s.heap H locs) (_ : lv_has ls 3 [(0, .ref yy), (1, .int (iv k)), (2, .int (iv h0))]), W p l e rm_t_X9_rightOf s m args below meth c H locs 0 0 Q (F0 m 17 ls []) := by
      intro fuel
      induction fuel with
      | zero => intro _ _ _ _ _ _ _ _ hfuel; exact absurd hfuel (Nat.not_lt_zero _)
      | succ fuel ih =>
        intro h0 tl bb hPt hh0 hst hce htr hfuel H locs ls hH hS hl
        have ih6 := ih; clear ih
        refine lv_iload_n hx hb dX9_rightOf_17 rfl (lv_at hl 2 rfl) ?_
        refine j_if_le (tgt := 49) hx hb dX9_rightOf_18 (by decide) (fun c7 => ?_) (fun c7 => ?_) (by omega)
        · skip
          refine lv_iload_n hx hb dX9_rightOf_49 rfl (lv_at hl 2 rfl) ?_
          refine j_if_le (tgt := 80) hx hb dX9_rightOf_50 (by decide) (fun c8 => ?_) (fun c8 => absurd c8 (by omega)) (by omega)
          refine j_const hx hb dX9_rightOf_80 ?_
          subst hQ
          refine m_iret hx hb hr hlocks hH hS dX9_rightOf_81 ?_ (by omega)
          refine ⟨?_, rfl, rfl⟩
          unfold a_rightOf
          rw [if_pos (by omega), hce]
          rw [(hPt.nil_ (by omega)).1]
          rfl
        · skip
          obtain ⟨dq, cq, tq, htl, h49, h39, h19, h29, h59⟩ := hPt.cons_ (by omega)
          subst htl
          have hd9 : 0 ≤ dq ∧ dq ≤ 40000 := htr (dq, cq) List.mem_cons_self
          refine lv_aload_n hx hb dX9_rightOf_21 rfl (lv_at hl 0 rfl) ?_
          refine m_get (C := RX9) (T := TX9) (N := 13) (ci := 8) hx hb hts i_X9 hown hK hH hY.1 rfl 8 (by decide) f_2 rfl dX9_rightOf_22 ?_
          refine j_const hx hb dX9_rightOf_25 ?_
          refine lv_iload_n hx hb dX9_rightOf_26 rfl (lv_at hl 2 rfl) ?_
          refine j_imul hx hb dX9_rightOf_27 ?_
          refine j_const hx hb dX9_rightOf_28 ?_
          refine j_isub hx hb dX9_rightOf_29 ?_
          refine m_iald (nA := 24000) (f := ω) hx hb hK hH hY.2.2.2.2.2.2 dX9_rightOf_30 ?_ (by omega) (by omega)
          refine j_norm (y := (ω (((4 * h0) - 4)).toNat)) rfl ?_
          refine lv_iload_n hx hb dX9_rightOf_31 rfl (lv_at hl 1 rfl) ?_
          refine j_icmp_le (tgt := 49) hx hb dX9_rightOf_32 (by decide) (fun c9 => ?_) (fun c9 => ?_) (by omega) (by omega)
          · skip
            refine lv_iload_n hx hb dX9_rightOf_49 rfl (lv_at hl 2 rfl) ?_
            refine j_if_le (tgt := 80) hx hb dX9_rightOf_50 (by decide) (fun c10 => absurd c10 (by omega)) (fun c10 => ?_) (by omega)
            refine lv_aload_n hx hb dX9_rightOf_53 rfl (lv_at hl 0 rfl) ?_
            refine m_get (C := RX9) (T := TX9) (N := 13) (ci := 8) hx hb hts i_X9 hown hK hH hY.1 rfl 8 (by decide) f_2 rfl dX9_rightOf_54 ?_
            refine j_const hx hb dX9_rightOf_57 ?_
            refine lv_iload_n hx hb dX9_rightOf_58 rfl (lv_at hl 2 rfl) ?_
            refine j_imul hx hb dX9_rightOf_59 ?_
            refine j_const hx hb dX9_rightOf_60 ?_
            refine j_isub hx hb dX9_rightOf_61 ?_
            refine m_iald (nA := 24000) (f := ω) hx hb hK hH hY.2.2.2.2.2.2 dX9_rightOf_62 ?_ (by omega) (by omega)
            refine j_norm (y := (ω (((4 * h0) - 4)).toNat)) rfl ?_
            refine lv_iload_n hx hb dX9_rightOf_63 rfl (lv_at hl 1 rfl) ?_
            refine j_icmp_ne (tgt := 80) hx hb dX9_rightOf_64 (by decide) (fun c11 => ?_) (fun c11 => ?_) (by omega) (by omega)
            · skip
              refine j_const hx hb dX9_rightOf_80 ?_
              subst hQ
              refine m_iret hx hb hr hlocks hH hS dX9_rightOf_81 ?_ (by omega)
              refine ⟨?_, rfl, rfl⟩
              unfold a_rightOf
              rw [if_pos (by omega), hce]
              rw [show chOf ((dq, cq) :: tq) k = chOf tq k from if_neg (by omega), chOf_lt hst.2 (by omega)]
              rfl
            · skip
              refine lv_aload_n hx hb dX9_rightOf_67 rfl (lv_at hl 0 rfl) ?_
              refine m_get (C := RX9) (T := TX9) (N := 13) (ci := 8) hx hb hts i_X9 hown hK hH hY.1 rfl 8 (by decide) f_2 rfl dX9_rightOf_68 ?_
              refine j_const hx hb dX9_rightOf_71 ?_
              refine lv_iload_n hx hb dX9_rightOf_72 rfl (lv_at hl 2 rfl) ?_
              refine j_imul hx hb dX9_rightOf_73 ?_
              refine j_const hx hb dX9_rightOf_74 ?_
              refine j_isub hx hb dX9_rightOf_75 ?_
              refine m_iald (nA := 24000) (f := ω) hx hb hK hH hY.2.2.2.2.2.2 dX9_rightOf_76 ?_ (by omega) (by omega)
              refine j_norm (y := (ω (((4 * h0) - 3)).toNat)) rfl ?_
              refine lv_goto (tgt := 81) hx hb dX9_rightOf_77 (by decide) ?_
              rw [h39, ← wr32_iv cq]
              have hwz := wr32_rng cq
              subst hQ
              refine m_iret hx hb hr hlocks hH hS dX9_rightOf_81 ?_ (by omega)
              refine ⟨?_, rfl, rfl⟩
              unfold a_rightOf
              rw [if_pos (by omega), hce]
              rw [show chOf ((dq, cq) :: tq) k = cq from if_pos (by omega)]
          · skip
            refine lv_aload_n hx hb dX9_rightOf_35 rfl (lv_at hl 0 rfl) ?_
            refine m_get (C := RX9) (T := TX9) (N := 13) (ci := 8) hx hb hts i_X9 hown hK hH hY.1 rfl 8 (by decide) f_2 rfl dX9_rightOf_36 ?_
            refine j_const hx hb dX9_rightOf_39 ?_
            refine lv_iload_n hx hb dX9_rightOf_40 rfl (lv_at hl 2 rfl) ?_
            refine j_imul hx hb dX9_rightOf_41 ?_
            refine j_const hx hb dX9_rightOf_42 ?_
            refine j_isub hx hb dX9_rightOf_43 ?_
            refine m_iald (nA := 24000) (f := ω) hx hb hK hH hY.2.2.2.2.2.2 dX9_rightOf_44 ?_ (by omega) (by omega)
            refine j_norm (y := (ω (((4 * h0) - 2)).toNat)) rfl ?_
            refine lv_istore_n (lv' := [(2, .int (iv (ω (((4 * h0) - 2)).toNat))), (0, .ref yy), (1, .int (iv k))]) hx hb dX9_rightOf_45 rfl hl (by decide) rfl (fun ls hl => ?_)
            refine lv_goto (tgt := 17) hx hb dX9_rightOf_46 (by decide) ?_
            exact ih6 (ω (((4 * h0) - 2)).toNat) tq (dq - 1) h59 (by have := h59.pos; omega) hst.2 (by rw [hce]; exact if_neg (by omega)) (fun x hx9 => htr x (List.mem_cons_of_mem _ hx9)) (by omega) H locs ls hH hS (lv_sub hl [1, 2, 0] rfl)
    exact lp17 (6001) (((aD u0).1) 11) ((aD u0).2) ((aD u0).1 3) hPD.1 (by omega) hPD.2.2 rfl hO.2 (by omega) H locs ls hH hS (lv_sub hl [1, 2, 0] rfl)
  · skip
    refine j_const hx hb dX9_rightOf_7 ?_
    subst hQ
    refine m_iret hx hb hr hlocks hH hS dX9_rightOf_8 ?_ (by omega)
    refine ⟨?_, rfl, rfl⟩
    unfold a_rightOf
    rw [if_neg (by omega)]

abbrev rm_t_X9_count : Room := { frames := 3, cells := 0, slots := 0, locals := 65 }
set_option maxHeartbeats 4000000 in
set_option maxRecDepth 100000 in
theorem t_X9_count (l : Launch) (G : wG) (μ : hM) (n : Nat) (yy : Nat) (u0 : aS) (en : Int) (q : Int) (hM0 : IsM G μ yy u0 en) (hen : en ≤ 5900) (hO : OkD (aD u0)) (hBq : -2147483648 ≤ q ∧ q ≤ 2147483647) : Met l yX9_count wsX9_count rm_t_X9_count (mPc G μ n [.ref yy, .int (iv q)]) (mQi G (fun z μ1 n1 => z = a_count u0 q ∧ μ1 = μ ∧ n1 = n)) 0 0 (gA G) := by
  refine Met.ofW (cc := cX9_count) (maxL := 2) (ret := (some .int)) (by decide) rfl ?_
  intro p e s m args below meth c s₁ B hml hv
  obtain ⟨hav, hK, hH⟩ := hv
  have hx := B.exec
  have hb := B.bytes
  have hr := B.returns
  have hts := atoms_spec (ws := wsX9_count) B.pre
  have hown : s.vm.findClass RX9 = some m.cls := findClass_of_methodNamed B.named
  have hlocks := B.notSynchronized
  have hS : va_S (gA G) s.heap s.heap [] := va_S.rf
  have hl := lv_entry ([.ref yy, .int (iv q)]) (n := 2) (Nat.le_of_ble_eq_true rfl)
  have hfr : entryFrame m args 2 = entryFrame m ([.ref yy, .int (iv q)] : List Value).toArray 2 := by rw [hav]
  rw [hfr, lg_entry_eq]
  generalize (lg_sl ([.ref yy, .int (iv q)]) ++ List.replicate (2 - (lg_sl ([.ref yy, .int (iv q)])).length) Slot.unset).toArray = ls at hl ⊢
  have hl : lv_has ls 2 [(0, .ref yy), (1, .int (iv q))] := hl
  generalize hQ : MQ below _ args s 0 0 (gA G) = Q
  show W p l e rm_t_X9_count s m args below meth c s.heap [] 0 0 Q (F0 m 0 ls [])
  obtain ⟨H, hHe⟩ : ∃ H, H = s.heap := ⟨_, rfl⟩
  obtain ⟨locs, hlo⟩ : ∃ q : List Loc, q = [] := ⟨_, rfl⟩
  have hH : gP G μ n H := by rw [hHe]; exact hH
  have hS : va_S (gA G) s.heap H locs := by rw [hHe, hlo]; exact hS
  suffices hgo : W p l e rm_t_X9_count s m args below meth c H locs 0 0 Q (F0 m 0 ls []) by rw [hHe, hlo] at hgo; exact hgo
  clear hHe hlo hfr hav
  have f_0 := hts (.fieldLink RX9 7 "StampDaterModel" "s" "[I") (List.mem_of_getElem? (i := 1) rfl)
  have i_X9 : ∀ w ∈ u_ws RX9 TX9 13, w ∈ wsX9_count := by decide +kernel
  have f_2 := hts (.fieldLink RX9 25 "StampDaterModel" "pool" "[I") (List.mem_of_getElem? (i := 2) rfl)
  have f_3 := hts (.fieldLink RX9 47 "StampDaterModel" "known" "I") (List.mem_of_getElem? (i := 3) rfl)
  have f_4 := hts (.fieldLink RX9 126 "StampDaterModel" "length" "I") (List.mem_of_getElem? (i := 4) rfl)
  have hfr : MFr yy μ μ := MFr.rf
  obtain ⟨α, β, κ, ω, fr, pl, wr, hY, hR⟩ := hM0
  have hT := hO.1
  have hOk := hT.1
  have h3 := hT.2.1
  have h5 := hT.2.2.1
  have h4 := hOk.2.2.2.1
  have hPD := hR.1
  have hen0 := hR.2.2.2.1
  have hkn := hR.2.2.2.2.1
  have hik := hR.2.2.2.2.2.1
  have hOC := hR.2.2.2.2.2.2
  have hl0 := hOC.1
  refine lv_iload_n hx hb dX9_count_0 rfl (lv_at hl 1 rfl) ?_
  by_cases k1_0 : q = 0
  · skip
    refine j_table hx hb (tgt := 80) (0) k1_0 dX9_count_1 ?_
    refine lv_aload_n hx hb dX9_count_80 rfl (lv_at hl 0 rfl) ?_
    refine m_get (C := RX9) (T := TX9) (N := 13) (ci := 8) hx hb hts i_X9 hown hK hH hY.1 rfl 0 (by decide) f_0 rfl dX9_count_81 ?_
    refine j_const hx hb dX9_count_84 ?_
    refine m_iald (nA := 163) (f := ((aD u0).1)) hx hb hK hH hY.2.1 dX9_count_85 ?_ (by omega) (by omega)
    refine j_norm (y := (((aD u0).1) 3)) rfl ?_
    subst hQ
    refine m_iret hx hb hr hlocks hH hS dX9_count_86 ?_ (by omega)
    refine ⟨?_, rfl, rfl⟩
    unfold a_count
    rw [if_pos (by omega)]
  by_cases k1_1 : q = 1
  · skip
    refine j_table hx hb (tgt := 87) (1) k1_1 dX9_count_1 ?_
    refine lv_aload_n hx hb dX9_count_87 rfl (lv_at hl 0 rfl) ?_
    refine m_get (C := RX9) (T := TX9) (N := 13) (ci := 8) hx hb hts i_X9 hown hK hH hY.1 rfl 0 (by decide) f_0 rfl dX9_count_88 ?_
    refine j_const hx hb dX9_count_91 ?_
    refine m_iald (nA := 163) (f := ((aD u0).1)) hx hb hK hH hY.2.1 dX9_count_92 ?_ (by omega) (by omega)
    refine j_norm (y := (((aD u0).1) 4)) rfl ?_
    subst hQ
    refine m_iret hx hb hr hlocks hH hS dX9_count_93 ?_ (by omega)
    refine ⟨?_, rfl, rfl⟩
    unfold a_count
    rw [if_neg (by omega), if_pos (by omega)]
  by_cases k1_2 : q = 2
  · skip
    refine j_table hx hb (tgt := 94) (2) k1_2 dX9_count_1 ?_
    obtain ⟨qn, hqne⟩ : ∃ x : Nat, (x : Int) = q := ⟨q.toNat, by omega⟩
    subst hqne
    refine lv_aload_n hx hb dX9_count_94 rfl (lv_at hl 0 rfl) ?_
    refine m_get (C := RX9) (T := TX9) (N := 13) (ci := 8) hx hb hts i_X9 hown hK hH hY.1 rfl 0 (by decide) f_0 rfl dX9_count_95 ?_
    refine j_const hx hb dX9_count_98 ?_
    refine lv_iload_n hx hb dX9_count_99 rfl (lv_at hl 1 rfl) ?_
    refine j_iadd hx hb dX9_count_100 ?_
    refine j_const hx hb dX9_count_101 ?_
    refine j_isub hx hb dX9_count_102 ?_
    refine j_norm (y := ((3 + qn : Nat) : Int)) (by omega) ?_
    refine m_iald (nA := 163) (f := ((aD u0).1)) hx hb hK hH hY.2.1 dX9_count_103 ?_ (by omega) (by omega)
    refine j_norm (y := (((aD u0).1) (3 + qn))) rfl ?_
    rw [← wr32_iv (((aD u0).1) (3 + qn))]
    have hwz := wr32_rng (((aD u0).1) (3 + qn))
    subst hQ
    refine m_iret hx hb hr hlocks hH hS dX9_count_104 ?_ (by omega)
    refine ⟨?_, rfl, rfl⟩
    unfold a_count
    rcases (show qn = 2 ∨ qn = 3 ∨ qn = 4 ∨ qn = 5 ∨ qn = 6 ∨ qn = 7 by omega) with e | e | e | e | e | e <;> subst e
    · exact wr32_id (by show -2147483648 ≤ (aD u0).1 5 ∧ (aD u0).1 5 ≤ 2147483647; omega)
    · rfl
    · rfl
    · rfl
    · rfl
    · rfl
  by_cases k1_3 : q = 3
  · skip
    refine j_table hx hb (tgt := 94) (3) k1_3 dX9_count_1 ?_
    obtain ⟨qn, hqne⟩ : ∃ x : Nat, (x : Int) = q := ⟨q.toNat, by omega⟩
    subst hqne
    refine lv_aload_n hx hb dX9_count_94 rfl (lv_at hl 0 rfl) ?_
    refine m_get (C := RX9) (T := TX9) (N := 13) (ci := 8) hx hb hts i_X9 hown hK hH hY.1 rfl 0 (by decide) f_0 rfl dX9_count_95 ?_
    refine j_const hx hb dX9_count_98 ?_
    refine lv_iload_n hx hb dX9_count_99 rfl (lv_at hl 1 rfl) ?_
    refine j_iadd hx hb dX9_count_100 ?_
    refine j_const hx hb dX9_count_101 ?_
    refine j_isub hx hb dX9_count_102 ?_
    refine j_norm (y := ((3 + qn : Nat) : Int)) (by omega) ?_
    refine m_iald (nA := 163) (f := ((aD u0).1)) hx hb hK hH hY.2.1 dX9_count_103 ?_ (by omega) (by omega)
    refine j_norm (y := (((aD u0).1) (3 + qn))) rfl ?_
    rw [← wr32_iv (((aD u0).1) (3 + qn))]
    have hwz := wr32_rng (((aD u0).1) (3 + qn))
    subst hQ
    refine m_iret hx hb hr hlocks hH hS dX9_count_104 ?_ (by omega)
    refine ⟨?_, rfl, rfl⟩
    unfold a_count
    rcases (show qn = 2 ∨ qn = 3 ∨ qn = 4 ∨ qn = 5 ∨ qn = 6 ∨ qn = 7 by omega) with e | e | e | e | e | e <;> subst e
    · exact wr32_id (by show -2147483648 ≤ (aD u0).1 5 ∧ (aD u0).1 5 ≤ 2147483647; omega)
    · rfl
    · rfl
    · rfl
    · rfl
    · rfl
  by_cases k1_4 : q = 4
  · skip
    refine j_table hx hb (tgt := 94) (4) k1_4 dX9_count_1 ?_
    obtain ⟨qn, hqne⟩ : ∃ x : Nat, (x : Int) = q := ⟨q.toNat, by omega⟩
    subst hqne
    refine lv_aload_n hx hb dX9_count_94 rfl (lv_at hl 0 rfl) ?_
    refine m_get (C := RX9) (T := TX9) (N := 13) (ci := 8) hx hb hts i_X9 hown hK hH hY.1 rfl 0 (by decide) f_0 rfl dX9_count_95 ?_
    refine j_const hx hb dX9_count_98 ?_
    refine lv_iload_n hx hb dX9_count_99 rfl (lv_at hl 1 rfl) ?_
    refine j_iadd hx hb dX9_count_100 ?_
    refine j_const hx hb dX9_count_101 ?_
    refine j_isub hx hb dX9_count_102 ?_
    refine j_norm (y := ((3 + qn : Nat) : Int)) (by omega) ?_
    refine m_iald (nA := 163) (f := ((aD u0).1)) hx hb hK hH hY.2.1 dX9_count_103 ?_ (by omega) (by omega)
    refine j_norm (y := (((aD u0).1) (3 + qn))) rfl ?_
    rw [← wr32_iv (((aD u0).1) (3 + qn))]
    have hwz := wr32_rng (((aD u0).1) (3 + qn))
    subst hQ
    refine m_iret hx hb hr hlocks hH hS dX9_count_104 ?_ (by omega)
    refine ⟨?_, rfl, rfl⟩
    unfold a_count
    rcases (show qn = 2 ∨ qn = 3 ∨ qn = 4 ∨ qn = 5 ∨ qn = 6 ∨ qn = 7 by omega) with e | e | e | e | e | e <;> subst e
    · exact wr32_id (by show -2147483648 ≤ (aD u0).1 5 ∧ (aD u0).1 5 ≤ 2147483647; omega)
    · rfl
    · rfl
    · rfl
    · rfl
    · rfl
  by_cases k1_5 : q = 5
  · skip
    refine j_table hx hb (tgt := 94) (5) k1_5 dX9_count_1 ?_
    obtain ⟨qn, hqne⟩ : ∃ x : Nat, (x : Int) = q := ⟨q.toNat, by omega⟩
    subst hqne
    refine lv_aload_n hx hb dX9_count_94 rfl (lv_at hl 0 rfl) ?_
    refine m_get (C := RX9) (T := TX9) (N := 13) (ci := 8) hx hb hts i_X9 hown hK hH hY.1 rfl 0 (by decide) f_0 rfl dX9_count_95 ?_
    refine j_const hx hb dX9_count_98 ?_
    refine lv_iload_n hx hb dX9_count_99 rfl (lv_at hl 1 rfl) ?_
    refine j_iadd hx hb dX9_count_100 ?_
    refine j_const hx hb dX9_count_101 ?_
    refine j_isub hx hb dX9_count_102 ?_
    refine j_norm (y := ((3 + qn : Nat) : Int)) (by omega) ?_
    refine m_iald (nA := 163) (f := ((aD u0).1)) hx hb hK hH hY.2.1 dX9_count_103 ?_ (by omega) (by omega)
    refine j_norm (y := (((aD u0).1) (3 + qn))) rfl ?_
    rw [← wr32_iv (((aD u0).1) (3 + qn))]
    have hwz := wr32_rng (((aD u0).1) (3 + qn))
    subst hQ
    refine m_iret hx hb hr hlocks hH hS dX9_count_104 ?_ (by omega)
    refine ⟨?_, rfl, rfl⟩
    unfold a_count
    rcases (show qn = 2 ∨ qn = 3 ∨ qn = 4 ∨ qn = 5 ∨ qn = 6 ∨ qn = 7 by omega) with e | e | e | e | e | e <;> subst e
    · exact wr32_id (by show -2147483648 ≤ (aD u0).1 5 ∧ (aD u0).1 5 ≤ 2147483647; omega)
    · rfl
    · rfl
    · rfl
    · rfl
    · rfl
  by_cases k1_6 : q = 6
  · skip
    refine j_table hx hb (tgt := 94) (6) k1_6 dX9_count_1 ?_
    obtain ⟨qn, hqne⟩ : ∃ x : Nat, (x : Int) = q := ⟨q.toNat, by omega⟩
    subst hqne
    refine lv_aload_n hx hb dX9_count_94 rfl (lv_at hl 0 rfl) ?_
    refine m_get (C := RX9) (T := TX9) (N := 13) (ci := 8) hx hb hts i_X9 hown hK hH hY.1 rfl 0 (by decide) f_0 rfl dX9_count_95 ?_
    refine j_const hx hb dX9_count_98 ?_
    refine lv_iload_n hx hb dX9_count_99 rfl (lv_at hl 1 rfl) ?_
    refine j_iadd hx hb dX9_count_100 ?_
    refine j_const hx hb dX9_count_101 ?_
    refine j_isub hx hb dX9_count_102 ?_
    refine j_norm (y := ((3 + qn : Nat) : Int)) (by omega) ?_
    refine m_iald (nA := 163) (f := ((aD u0).1)) hx hb hK hH hY.2.1 dX9_count_103 ?_ (by omega) (by omega)
    refine j_norm (y := (((aD u0).1) (3 + qn))) rfl ?_
    rw [← wr32_iv (((aD u0).1) (3 + qn))]
    have hwz := wr32_rng (((aD u0).1) (3 + qn))
    subst hQ
    refine m_iret hx hb hr hlocks hH hS dX9_count_104 ?_ (by omega)
    refine ⟨?_, rfl, rfl⟩
    unfold a_count
    rcases (show qn = 2 ∨ qn = 3 ∨ qn = 4 ∨ qn = 5 ∨ qn = 6 ∨ qn = 7 by omega) with e | e | e | e | e | e <;> subst e
    · exact wr32_id (by show -2147483648 ≤ (aD u0).1 5 ∧ (aD u0).1 5 ≤ 2147483647; omega)
    · rfl
    · rfl
    · rfl
    · rfl
    · rfl
  by_cases k1_7 : q = 7
  · skip
    refine j_table hx hb (tgt := 94) (7) k1_7 dX9_count_1 ?_
    obtain ⟨qn, hqne⟩ : ∃ x : Nat, (x : Int) = q := ⟨q.toNat, by omega⟩
    subst hqne
    refine lv_aload_n hx hb dX9_count_94 rfl (lv_at hl 0 rfl) ?_
    refine m_get (C := RX9) (T := TX9) (N := 13) (ci := 8) hx hb hts i_X9 hown hK hH hY.1 rfl 0 (by decide) f_0 rfl dX9_count_95 ?_
    refine j_const hx hb dX9_count_98 ?_
    refine lv_iload_n hx hb dX9_count_99 rfl (lv_at hl 1 rfl) ?_
    refine j_iadd hx hb dX9_count_100 ?_
    refine j_const hx hb dX9_count_101 ?_
    refine j_isub hx hb dX9_count_102 ?_
    refine j_norm (y := ((3 + qn : Nat) : Int)) (by omega) ?_
    refine m_iald (nA := 163) (f := ((aD u0).1)) hx hb hK hH hY.2.1 dX9_count_103 ?_ (by omega) (by omega)
    refine j_norm (y := (((aD u0).1) (3 + qn))) rfl ?_
    rw [← wr32_iv (((aD u0).1) (3 + qn))]
    have hwz := wr32_rng (((aD u0).1) (3 + qn))
    subst hQ
    refine m_iret hx hb hr hlocks hH hS dX9_count_104 ?_ (by omega)
    refine ⟨?_, rfl, rfl⟩
    unfold a_count
    rcases (show qn = 2 ∨ qn = 3 ∨ qn = 4 ∨ qn = 5 ∨ qn = 6 ∨ qn = 7 by omega) with e | e | e | e | e | e <;> subst e
    · exact wr32_id (by show -2147483648 ≤ (aD u0).1 5 ∧ (aD u0).1 5 ≤ 2147483647; omega)
    · rfl
    · rfl
    · rfl
    · rfl
    · rfl
  by_cases k1_8 : q = 8
  · skip
    refine j_table hx hb (tgt := 105) (8) k1_8 dX9_count_1 ?_
    refine lv_aload_n hx hb dX9_count_105 rfl (lv_at hl 0 rfl) ?_
    refine lv_aload_n hx hb dX9_count_106 rfl (lv_at hl 0 rfl) ?_
    refine m_get (C := RX9) (T := TX9) (N := 13) (ci := 8) hx hb hts i_X9 hown hK hH hY.1 rfl 0 (by decide) f_0 rfl dX9_count_107 ?_
    refine j_const hx hb dX9_count_110 ?_
    refine m_iald (nA := 163) (f := ((aD u0).1)) hx hb hK hH hY.2.1 dX9_count_111 ?_ (by omega) (by omega)
    refine j_norm (y := (((aD u0).1) 3)) rfl ?_
    refine m_callVi (As := [.int (iv (((aD u0).1) 3))]) (rest := []) ⟨hx, hb, hml, hown, hts⟩ hK hH hS (c_X9_showsDay l G μ n yy ((aD u0).1) α β κ (aC u0) ω (aN u0) (aT u0) (aL u0) en fr pl wr hY (((aD u0).1) 3) hOk (by omega)) (cwV 1 hts gX9_count_X9_showsDay rfl rfl rfl (by decide +kernel) ⟨(Nat.le_of_ble_eq_true rfl), (Nat.le_of_ble_eq_true rfl)⟩) hY.1 rfl rfl rfl rfl hl.1 (Nat.le_of_ble_eq_true rfl) dX9_count_112 ⟨Nat.zero_le _, Nat.zero_le _⟩ (fun z5 μ2 n3 H locs hz5 hp4 hH hS => ?_)
    obtain ⟨hz9, hm9, hn9⟩ := hp4
    rw [hm9, hn9] at hH
    have hz5c : (z5 = 1 ∧ (shw ((aD u0).1) 6 = dig (((aD u0).1) 3))) ∨ (z5 = 0 ∧ ¬ (shw ((aD u0).1) 6 = dig (((aD u0).1) 3))) := by
      by_cases q9 : shw ((aD u0).1) 6 = dig (((aD u0).1) 3)
      · rw [if_pos q9] at hz9; exact Or.inl ⟨hz9, q9⟩
      · rw [if_neg q9] at hz9; exact Or.inr ⟨hz9, q9⟩
    clear hz9 hm9 hn9
    refine j_if_eq (tgt := 122) hx hb dX9_count_115 (by decide) (fun c6 => ?_) (fun c6 => ?_) (by omega)
    · skip
      refine j_const hx hb dX9_count_122 ?_
      subst hQ
      refine m_iret hx hb hr hlocks hH hS dX9_count_123 ?_ (by omega)
      refine ⟨?_, rfl, rfl⟩
      unfold a_count
      rw [if_neg (by omega), if_neg (by omega), if_neg (by omega), if_neg (by omega), if_neg (by omega), if_neg (by omega), if_neg (by omega), if_neg (by omega), if_pos (by omega)]
      split <;> omega
    · skip
      refine j_const hx hb dX9_count_118 ?_
      refine lv_goto (tgt := 123) hx hb dX9_count_119 (by decide) ?_
      subst hQ
      refine m_iret hx hb hr hlocks hH hS dX9_count_123 ?_ (by omega)
      refine ⟨?_, rfl, rfl⟩
      unfold a_count
      rw [if_neg (by omega), if_neg (by omega), if_neg (by omega), if_neg (by omega), if_neg (by omega), if_neg (by omega), if_neg (by omega), if_neg (by omega), if_pos (by omega)]
      split <;> omega
  by_cases k1_9 : q = 9
  · skip
    refine j_table hx hb (tgt := 124) (9) k1_9 dX9_count_1 ?_
    have hs6 := shw_6 hOk
    refine lv_aload_n hx hb dX9_count_124 rfl (lv_at hl 0 rfl) ?_
    refine m_callVi (As := []) (rest := []) ⟨hx, hb, hml, hown, hts⟩ hK hH hS (c_X9_shows l G μ n yy ((aD u0).1) α β κ (aC u0) ω (aN u0) (aT u0) (aL u0) en fr pl wr hY hOk) (cwV 0 hts gX9_count_X9_shows rfl rfl rfl (by decide +kernel) ⟨(Nat.le_of_ble_eq_true rfl), (Nat.le_of_ble_eq_true rfl)⟩) hY.1 rfl rfl rfl rfl hl.1 (Nat.le_of_ble_eq_true rfl) dX9_count_125 ⟨Nat.zero_le _, Nat.zero_le _⟩ (fun z10 μ7 n8 H locs hz10 hp9 hH hS => ?_)
    obtain ⟨hz2, hm2, hn2⟩ := hp9; rw [hz2]; rw [hm2, hn2] at hH; clear hz2 hm2 hn2
    refine m_callSi (As := [.int (iv (shw ((aD u0).1) 6))]) (rest := []) ⟨hx, hb, hml, hown, hts⟩ hK hH hS (c_X9_dayOf l G μ n (shw ((aD u0).1) 6) (by omega)) (va_cwS 1 hts gX9_count_X9_dayOf rfl rfl rfl (by decide +kernel) ⟨(Nat.le_of_ble_eq_true rfl), (Nat.le_of_ble_eq_true rfl)⟩) rfl rfl hl.1 (Nat.le_of_ble_eq_true rfl) dX9_count_128 ⟨Nat.zero_le _, Nat.zero_le _⟩ (fun z14 μ11 n12 H locs hz14 hp13 hH hS => ?_)
    obtain ⟨hz2, hm2, hn2⟩ := hp13; rw [hz2]; rw [hm2, hn2] at hH; clear hz2 hm2 hn2
    have hdr := dday_rng (D := shw (aD u0).1 6) hs6
    subst hQ
    refine m_iret hx hb hr hlocks hH hS dX9_count_131 ?_ (by omega)
    refine ⟨?_, rfl, rfl⟩
    unfold a_count
    rw [if_neg (by omega), if_neg (by omega), if_neg (by omega), if_neg (by omega), if_neg (by omega), if_neg (by omega), if_neg (by omega), if_neg (by omega), if_neg (by omega), if_pos (by omega)]
  by_cases k1_10 : q = 10
  · skip
    refine j_table hx hb (tgt := 132) (10) k1_10 dX9_count_1 ?_
    refine lv_aload_n hx hb dX9_count_132 rfl (lv_at hl 0 rfl) ?_
    refine m_get (C := RX9) (T := TX9) (N := 13) (ci := 8) hx hb hts i_X9 hown hK hH hY.1 rfl 0 (by decide) f_0 rfl dX9_count_133 ?_
    refine j_bipush hx hb dX9_count_136 ?_ (by decide)
    refine m_iald (nA := 163) (f := ((aD u0).1)) hx hb hK hH hY.2.1 dX9_count_138 ?_ (by omega) (by omega)
    refine j_norm (y := (((aD u0).1) 11)) rfl ?_
    have hp0 := hPD.1.pos
    have hpl := hPD.2.1
    refine j_if_ne (tgt := 146) hx hb dX9_count_139 (by decide) (fun c15 => ?_) (fun c15 => ?_) (by omega)
    · skip
      obtain ⟨dq, cq, tq, htl, h49, h39, h19, h29, h59⟩ := hPD.1.cons_ (by omega)
      refine lv_aload_n hx hb dX9_count_146 rfl (lv_at hl 0 rfl) ?_
      refine m_get (C := RX9) (T := TX9) (N := 13) (ci := 8) hx hb hts i_X9 hown hK hH hY.1 rfl 8 (by decide) f_2 rfl dX9_count_147 ?_
      refine j_const hx hb dX9_count_150 ?_
      refine lv_aload_n hx hb dX9_count_151 rfl (lv_at hl 0 rfl) ?_
      refine m_get (C := RX9) (T := TX9) (N := 13) (ci := 8) hx hb hts i_X9 hown hK hH hY.1 rfl 0 (by decide) f_0 rfl dX9_count_152 ?_
      refine j_bipush hx hb dX9_count_155 ?_ (by decide)
      refine m_iald (nA := 163) (f := ((aD u0).1)) hx hb hK hH hY.2.1 dX9_count_157 ?_ (by omega) (by omega)
      refine j_norm (y := (((aD u0).1) 11)) rfl ?_
      refine j_imul hx hb dX9_count_158 ?_
      refine j_const hx hb dX9_count_159 ?_
      refine j_isub hx hb dX9_count_160 ?_
      refine m_iald (nA := 24000) (f := ω) hx hb hK hH hY.2.2.2.2.2.2 dX9_count_161 ?_ (by omega) (by omega)
      refine j_norm (y := (ω (((4 * (((aD u0).1) 11)) - 1)).toNat)) rfl ?_
      rw [h19]
      rw [← wr32_iv ((tq.length : Int) + 1)]
      have hwz := wr32_rng ((tq.length : Int) + 1)
      subst hQ
      refine m_iret hx hb hr hlocks hH hS dX9_count_162 ?_ (by omega)
      refine ⟨?_, rfl, rfl⟩
      unfold a_count
      rw [if_neg (by omega), if_neg (by omega), if_neg (by omega), if_neg (by omega), if_neg (by omega), if_neg (by omega), if_neg (by omega), if_neg (by omega), if_neg (by omega), if_neg (by omega), if_pos (by omega)]
      rw [htl]
      rfl
    · skip
      refine j_const hx hb dX9_count_142 ?_
      refine lv_goto (tgt := 162) hx hb dX9_count_143 (by decide) ?_
      subst hQ
      refine m_iret hx hb hr hlocks hH hS dX9_count_162 ?_ (by omega)
      refine ⟨?_, rfl, rfl⟩
      unfold a_count
      rw [if_neg (by omega), if_neg (by omega), if_neg (by omega), if_neg (by omega), if_neg (by omega), if_neg (by omega), if_neg (by omega), if_neg (by omega), if_neg (by omega), if_neg (by omega), if_pos (by omega)]
      rw [(hPD.1.nil_ (by omega)).1]
      rfl
  by_cases k1_11 : q = 11
  · skip
    refine j_table hx hb (tgt := 163) (11) k1_11 dX9_count_1 ?_
    refine lv_aload_n hx hb dX9_count_163 rfl (lv_at hl 0 rfl) ?_
    refine m_get (C := RX9) (T := TX9) (N := 13) (ci := 8) hx hb hts i_X9 hown hK hH hY.1 rfl 3 (by decide) f_3 rfl dX9_count_164 ?_
    subst hQ
    refine m_iret hx hb hr hlocks hH hS dX9_count_167 ?_ (by omega)
    refine ⟨?_, rfl, rfl⟩
    unfold a_count
    rw [if_neg (by omega), if_neg (by omega), if_neg (by omega), if_neg (by omega), if_neg (by omega), if_neg (by omega), if_neg (by omega), if_neg (by omega), if_neg (by omega), if_neg (by omega), if_neg (by omega), if_pos (by omega)]
  by_cases k1_12 : q = 12
  · skip
    refine j_table hx hb (tgt := 168) (12) k1_12 dX9_count_1 ?_
    refine lv_aload_n hx hb dX9_count_168 rfl (lv_at hl 0 rfl) ?_
    refine m_get (C := RX9) (T := TX9) (N := 13) (ci := 8) hx hb hts i_X9 hown hK hH hY.1 rfl 7 (by decide) f_4 rfl dX9_count_169 ?_
    subst hQ
    refine m_iret hx hb hr hlocks hH hS dX9_count_172 ?_ (by omega)
    refine ⟨?_, rfl, rfl⟩
    unfold a_count
    rw [if_neg (by omega), if_neg (by omega), if_neg (by omega), if_neg (by omega), if_neg (by omega), if_neg (by omega), if_neg (by omega), if_neg (by omega), if_neg (by omega), if_neg (by omega), if_neg (by omega), if_neg (by omega), if_pos (by omega)]
  by_cases k1_13 : q = 13
  · skip
    refine j_table hx hb (tgt := 173) (13) k1_13 dX9_count_1 ?_
    obtain ⟨qn, hqne⟩ : ∃ x : Nat, (x : Int) = q := ⟨q.toNat, by omega⟩
    subst hqne
    refine lv_aload_n hx hb dX9_count_173 rfl (lv_at hl 0 rfl) ?_
    refine m_get (C := RX9) (T := TX9) (N := 13) (ci := 8) hx hb hts i_X9 hown hK hH hY.1 rfl 0 (by decide) f_0 rfl dX9_count_174 ?_
    refine lv_iload_n hx hb dX9_count_177 rfl (lv_at hl 1 rfl) ?_
    refine j_bipush hx hb dX9_count_178 ?_ (by decide)
    refine j_isub hx hb dX9_count_180 ?_
    refine j_norm (y := ((qn - 13 : Nat) : Int)) (by omega) ?_
    refine m_iald (nA := 163) (f := ((aD u0).1)) hx hb hK hH hY.2.1 dX9_count_181 ?_ (by omega) (by omega)
    refine j_norm (y := (((aD u0).1) (qn - 13))) rfl ?_
    have hs0 := hOk.1
    have hs1 := hOk.2.1
    have hs2 := hOk.2.2.1
    have hv9 : -1000 ≤ (aD u0).1 (qn - 13) ∧ (aD u0).1 (qn - 13) ≤ 1000 := by rcases (show qn = 13 ∨ qn = 14 ∨ qn = 15 by omega) with e | e | e <;> subst e <;> (first | (show -1000 ≤ (aD u0).1 0 ∧ (aD u0).1 0 ≤ 1000; omega) | (show -1000 ≤ (aD u0).1 1 ∧ (aD u0).1 1 ≤ 1000; omega) | (show -1000 ≤ (aD u0).1 2 ∧ (aD u0).1 2 ≤ 1000; omega))
    subst hQ
    refine m_iret hx hb hr hlocks hH hS dX9_count_182 ?_ (by omega)
    refine ⟨?_, rfl, rfl⟩
    unfold a_count
    rcases (show qn = 13 ∨ qn = 14 ∨ qn = 15 by omega) with e | e | e <;> subst e <;> rfl
  by_cases k1_14 : q = 14
  · skip
    refine j_table hx hb (tgt := 173) (14) k1_14 dX9_count_1 ?_
    obtain ⟨qn, hqne⟩ : ∃ x : Nat, (x : Int) = q := ⟨q.toNat, by omega⟩
    subst hqne
    refine lv_aload_n hx hb dX9_count_173 rfl (lv_at hl 0 rfl) ?_
    refine m_get (C := RX9) (T := TX9) (N := 13) (ci := 8) hx hb hts i_X9 hown hK hH hY.1 rfl 0 (by decide) f_0 rfl dX9_count_174 ?_
    refine lv_iload_n hx hb dX9_count_177 rfl (lv_at hl 1 rfl) ?_
    refine j_bipush hx hb dX9_count_178 ?_ (by decide)
    refine j_isub hx hb dX9_count_180 ?_
    refine j_norm (y := ((qn - 13 : Nat) : Int)) (by omega) ?_
    refine m_iald (nA := 163) (f := ((aD u0).1)) hx hb hK hH hY.2.1 dX9_count_181 ?_ (by omega) (by omega)
    refine j_norm (y := (((aD u0).1) (qn - 13))) rfl ?_
    have hs0 := hOk.1
    have hs1 := hOk.2.1
    have hs2 := hOk.2.2.1
    have hv9 : -1000 ≤ (aD u0).1 (qn - 13) ∧ (aD u0).1 (qn - 13) ≤ 1000 := by rcases (show qn = 13 ∨ qn = 14 ∨ qn = 15 by omega) with e | e | e <;> subst e <;> (first | (show -1000 ≤ (aD u0).1 0 ∧ (aD u0).1 0 ≤ 1000; omega) | (show -1000 ≤ (aD u0).1 1 ∧ (aD u0).1 1 ≤ 1000; omega) | (show -1000 ≤ (aD u0).1 2 ∧ (aD u0).1 2 ≤ 1000; omega))
    subst hQ
    refine m_iret hx hb hr hlocks hH hS dX9_count_182 ?_ (by omega)
    refine ⟨?_, rfl, rfl⟩
    unfold a_count
    rcases (show qn = 13 ∨ qn = 14 ∨ qn = 15 by omega) with e | e | e <;> subst e <;> rfl
  by_cases k1_15 : q = 15
  · skip
    refine j_table hx hb (tgt := 173) (15) k1_15 dX9_count_1 ?_
    obtain ⟨qn, hqne⟩ : ∃ x : Nat, (x : Int) = q := ⟨q.toNat, by omega⟩
    subst hqne
    refine lv_aload_n hx hb dX9_count_173 rfl (lv_at hl 0 rfl) ?_
    refine m_get (C := RX9) (T := TX9) (N := 13) (ci := 8) hx hb hts i_X9 hown hK hH hY.1 rfl 0 (by decide) f_0 rfl dX9_count_174 ?_
    refine lv_iload_n hx hb dX9_count_177 rfl (lv_at hl 1 rfl) ?_
    refine j_bipush hx hb dX9_count_178 ?_ (by decide)
    refine j_isub hx hb dX9_count_180 ?_
    refine j_norm (y := ((qn - 13 : Nat) : Int)) (by omega) ?_
    refine m_iald (nA := 163) (f := ((aD u0).1)) hx hb hK hH hY.2.1 dX9_count_181 ?_ (by omega) (by omega)
    refine j_norm (y := (((aD u0).1) (qn - 13))) rfl ?_
    have hs0 := hOk.1
    have hs1 := hOk.2.1
    have hs2 := hOk.2.2.1
    have hv9 : -1000 ≤ (aD u0).1 (qn - 13) ∧ (aD u0).1 (qn - 13) ≤ 1000 := by rcases (show qn = 13 ∨ qn = 14 ∨ qn = 15 by omega) with e | e | e <;> subst e <;> (first | (show -1000 ≤ (aD u0).1 0 ∧ (aD u0).1 0 ≤ 1000; omega) | (show -1000 ≤ (aD u0).1 1 ∧ (aD u0).1 1 ≤ 1000; omega) | (show -1000 ≤ (aD u0).1 2 ∧ (aD u0).1 2 ≤ 1000; omega))
    subst hQ
    refine m_iret hx hb hr hlocks hH hS dX9_count_182 ?_ (by omega)
    refine ⟨?_, rfl, rfl⟩
    unfold a_count
    rcases (show qn = 13 ∨ qn = 14 ∨ qn = 15 by omega) with e | e | e <;> subst e <;> rfl
  refine j_tableO (tgt := 183) hx hb dX9_count_1 (by omega) ?_ (by decide) (by omega)
  refine j_bipush hx hb dX9_count_183 ?_ (by decide)
  subst hQ
  refine m_iret hx hb hr hlocks hH hS dX9_count_185 ?_ (by omega)
  refine ⟨?_, rfl, rfl⟩
  unfold a_count
  rw [if_neg (by omega), if_neg (by omega), if_neg (by omega), if_neg (by omega), if_neg (by omega), if_neg (by omega), if_neg (by omega), if_neg (by omega), if_neg (by omega), if_neg (by omega), if_neg (by omega), if_neg (by omega), if_neg (by omega), if_neg (by omega), if_neg (by omega), if_neg (by omega)]

abbrev rm_t_X9_stepsTo : Room := { frames := 4, cells := 0, slots := 0, locals := 89 }
set_option maxHeartbeats 4000000 in
set_option maxRecDepth 100000 in
theorem t_X9_stepsTo (l : Launch) (G : wG) (μ : hM) (n : Nat) (yy : Nat) (u0 : aS) (en : Int) (k : Int) (hM0 : IsM G μ yy u0 en) (hen : en ≤ 5900) (hO : OkD (aD u0)) (hBk : -2147483648 ≤ k ∧ k ≤ 2147483647) : Met l yX9_stepsTo wsX9_stepsTo rm_t_X9_stepsTo (mPc G μ n [.ref yy, .int (iv k)]) (mQi G (fun z μ1 n1 => z = a_stepsTo (aD u0).1 k ∧ μ1 = μ ∧ n1 = n)) 0 0 (gA G) := by
  refine Met.ofW (cc := cX9_stepsTo) (maxL := 2) (ret := (some .int)) (by decide) rfl ?_
  intro p e s m args below meth c s₁ B hml hv
  obtain ⟨hav, hK, hH⟩ := hv
  have hx := B.exec
  have hb := B.bytes
  have hr := B.returns
  have hts := atoms_spec (ws := wsX9_stepsTo) B.pre
  have hown : s.vm.findClass RX9 = some m.cls := findClass_of_methodNamed B.named
  have hlocks := B.notSynchronized
  have hS : va_S (gA G) s.heap s.heap [] := va_S.rf
  have hl := lv_entry ([.ref yy, .int (iv k)]) (n := 2) (Nat.le_of_ble_eq_true rfl)
  have hfr : entryFrame m args 2 = entryFrame m ([.ref yy, .int (iv k)] : List Value).toArray 2 := by rw [hav]
  rw [hfr, lg_entry_eq]
  generalize (lg_sl ([.ref yy, .int (iv k)]) ++ List.replicate (2 - (lg_sl ([.ref yy, .int (iv k)])).length) Slot.unset).toArray = ls at hl ⊢
  have hl : lv_has ls 2 [(0, .ref yy), (1, .int (iv k))] := hl
  generalize hQ : MQ below _ args s 0 0 (gA G) = Q
  show W p l e rm_t_X9_stepsTo s m args below meth c s.heap [] 0 0 Q (F0 m 0 ls [])
  obtain ⟨H, hHe⟩ : ∃ H, H = s.heap := ⟨_, rfl⟩
  obtain ⟨locs, hlo⟩ : ∃ q : List Loc, q = [] := ⟨_, rfl⟩
  have hH : gP G μ n H := by rw [hHe]; exact hH
  have hS : va_S (gA G) s.heap H locs := by rw [hHe, hlo]; exact hS
  suffices hgo : W p l e rm_t_X9_stepsTo s m args below meth c H locs 0 0 Q (F0 m 0 ls []) by rw [hHe, hlo] at hgo; exact hgo
  clear hHe hlo hfr hav
  have hfr : MFr yy μ μ := MFr.rf
  obtain ⟨α, β, κ, ω, fr, pl, wr, hY, hR⟩ := hM0
  have hT := hO.1
  have hOk := hT.1
  have h3 := hT.2.1
  have h5 := hT.2.2.1
  have h4 := hOk.2.2.2.1
  have hPD := hR.1
  have hen0 := hR.2.2.2.1
  have hkn := hR.2.2.2.2.1
  have hik := hR.2.2.2.2.2.1
  have hOC := hR.2.2.2.2.2.2
  have hl0 := hOC.1
  refine lv_iload_n hx hb dX9_stepsTo_0 rfl (lv_at hl 1 rfl) ?_
  refine m_callSi (As := [.int (iv k)]) (rest := []) ⟨hx, hb, hml, hown, hts⟩ hK hH hS (c_X9_isDay l G μ n k (by omega)) (va_cwS 1 hts gX9_stepsTo_X9_isDay rfl rfl rfl (by decide +kernel) ⟨(Nat.le_of_ble_eq_true rfl), (Nat.le_of_ble_eq_true rfl)⟩) rfl rfl hl.1 (Nat.le_of_ble_eq_true rfl) dX9_stepsTo_1 ⟨Nat.zero_le _, Nat.zero_le _⟩ (fun z4 μ1 n2 H locs hz4 hp3 hH hS => ?_)
  obtain ⟨hz9, hm9, hn9⟩ := hp3
  rw [hm9, hn9] at hH
  have hz4c : (z4 = 1 ∧ (0 ≤ k ∧ k ≤ 36524)) ∨ (z4 = 0 ∧ ¬ (0 ≤ k ∧ k ≤ 36524)) := by
    by_cases q9 : 0 ≤ k ∧ k ≤ 36524
    · rw [if_pos q9] at hz9; exact Or.inl ⟨hz9, q9⟩
    · rw [if_neg q9] at hz9; exact Or.inr ⟨hz9, q9⟩
  clear hz9 hm9 hn9
  refine j_if_eq (tgt := 15) hx hb dX9_stepsTo_4 (by decide) (fun c5 => ?_) (fun c5 => ?_) (by omega)
  · skip
    refine j_const hx hb dX9_stepsTo_15 ?_
    have hwr := wsm_rng (aD u0).1 (dig k) 0 6
    subst hQ
    refine m_iret hx hb hr hlocks hH hS dX9_stepsTo_16 ?_ (by omega)
    refine ⟨?_, rfl, rfl⟩
    unfold a_stepsTo
    rw [if_neg (by omega)]
  · skip
    refine lv_aload_n hx hb dX9_stepsTo_7 rfl (lv_at hl 0 rfl) ?_
    refine lv_iload_n hx hb dX9_stepsTo_8 rfl (lv_at hl 1 rfl) ?_
    refine m_callVi (As := [.int (iv k)]) (rest := []) ⟨hx, hb, hml, hown, hts⟩ hK hH hS (c_X9_stepsFor l G μ n yy ((aD u0).1) α β κ (aC u0) ω (aN u0) (aT u0) (aL u0) en fr pl wr hY k hOk (by omega)) (cwV 1 hts gX9_stepsTo_X9_stepsFor rfl rfl rfl (by decide +kernel) ⟨(Nat.le_of_ble_eq_true rfl), (Nat.le_of_ble_eq_true rfl)⟩) hY.1 rfl rfl rfl rfl hl.1 (Nat.le_of_ble_eq_true rfl) dX9_stepsTo_9 ⟨Nat.zero_le _, Nat.zero_le _⟩ (fun z9 μ6 n7 H locs hz9 hp8 hH hS => ?_)
    obtain ⟨hz2, hm2, hn2⟩ := hp8; rw [hz2]; rw [hm2, hn2] at hH; clear hz2 hm2 hn2
    refine lv_goto (tgt := 16) hx hb dX9_stepsTo_12 (by decide) ?_
    have hwr := wsm_rng (aD u0).1 (dig k) 0 6
    subst hQ
    refine m_iret hx hb hr hlocks hH hS dX9_stepsTo_16 ?_ (by omega)
    refine ⟨?_, rfl, rfl⟩
    unfold a_stepsTo
    rw [if_pos (by omega)]

abbrev rm_t_X9_leastPress : Room := { frames := 3, cells := 0, slots := 0, locals := 68 }
set_option maxHeartbeats 4000000 in
set_option maxRecDepth 100000 in
theorem t_X9_leastPress (l : Launch) (G : wG) (μ : hM) (n : Nat) (yy : Nat) (u0 : aS) (en : Int)  (hM0 : IsM G μ yy u0 en) (hen : en ≤ 5900) (hO : OkD (aD u0)) : Met l yX9_leastPress wsX9_leastPress rm_t_X9_leastPress (mPc G μ n [.ref yy]) (mQi G (fun z μ1 n1 => z = a_leastPress (aD u0).1 ∧ μ1 = μ ∧ n1 = n)) 0 0 (gA G) := by
  refine Met.ofW (cc := cX9_leastPress) (maxL := 2) (ret := (some .int)) (by decide) rfl ?_
  intro p e s m args below meth c s₁ B hml hv
  obtain ⟨hav, hK, hH⟩ := hv
  have hx := B.exec
  have hb := B.bytes
  have hr := B.returns
  have hts := atoms_spec (ws := wsX9_leastPress) B.pre
  have hown : s.vm.findClass RX9 = some m.cls := findClass_of_methodNamed B.named
  have hlocks := B.notSynchronized
  have hS : va_S (gA G) s.heap s.heap [] := va_S.rf
  have hl := lv_entry ([.ref yy]) (n := 2) (Nat.le_of_ble_eq_true rfl)
  have hfr : entryFrame m args 2 = entryFrame m ([.ref yy] : List Value).toArray 2 := by rw [hav]
  rw [hfr, lg_entry_eq]
  generalize (lg_sl ([.ref yy]) ++ List.replicate (2 - (lg_sl ([.ref yy])).length) Slot.unset).toArray = ls at hl ⊢
  have hl : lv_has ls 2 [(0, .ref yy)] := hl
  generalize hQ : MQ below _ args s 0 0 (gA G) = Q
  show W p l e rm_t_X9_leastPress s m args below meth c s.heap [] 0 0 Q (F0 m 0 ls [])
  obtain ⟨H, hHe⟩ : ∃ H, H = s.heap := ⟨_, rfl⟩
  obtain ⟨locs, hlo⟩ : ∃ q : List Loc, q = [] := ⟨_, rfl⟩
  have hH : gP G μ n H := by rw [hHe]; exact hH
  have hS : va_S (gA G) s.heap H locs := by rw [hHe, hlo]; exact hS
  suffices hgo : W p l e rm_t_X9_leastPress s m args below meth c H locs 0 0 Q (F0 m 0 ls []) by rw [hHe, hlo] at hgo; exact hgo
  clear hHe hlo hfr hav
  have hfr : MFr yy μ μ := MFr.rf
  obtain ⟨α, β, κ, ω, fr, pl, wr, hY, hR⟩ := hM0
  have hT := hO.1
  have hOk := hT.1
  have h3 := hT.2.1
  have h5 := hT.2.2.1
  have h4 := hOk.2.2.2.1
  have hPD := hR.1
  have hen0 := hR.2.2.2.1
  have hkn := hR.2.2.2.2.1
  have hik := hR.2.2.2.2.2.1
  have hOC := hR.2.2.2.2.2.2
  have hl0 := hOC.1
  refine j_const hx hb dX9_leastPress_0 ?_
  refine lv_istore_n (lv' := [(1, .int (iv 1)), (0, .ref yy)]) hx hb dX9_leastPress_1 rfl hl (by decide) rfl (fun ls hl => ?_)
  have lp2 : ∀ (fuel : Nat) (k : Int) (hk : 1 ≤ k ∧ k ≤ 10) (hlp : a_leastPress (aD u0).1 = lpF (aD u0).1 (10 - k).toNat k) (_ : (10 - k).toNat < fuel) (H : Heap) (locs : List Loc) (ls : Array Slot) (_ : gP G μ n H) (_ : va_S (gA G) s.heap H locs) (_ : lv_has ls 2 [(0, .ref yy), (1, .int (iv k))]), W p l e rm_t_X9_leastPress s m args below meth c H locs 0 0 Q (F0 m 2 ls []) := by
    intro fuel
    induction fuel with
    | zero => intro _ _ _ hfuel; exact absurd hfuel (Nat.not_lt_zero _)
    | succ fuel ih =>
      intro k hk hlp hfuel H locs ls hH hS hl
      have hfb6 : fbN (aD u0).1 k 6 < 64 := fbN_lt (aD u0).1 k 6
      have hsb6 : sbN (aD u0).1 k 6 < 64 := sbN_lt (aD u0).1 k 6
      have hor := or_0 (fbN (aD u0).1 k 6) hfb6 (sbN (aD u0).1 k 6) hsb6
      have hol := or_lt (fbN (aD u0).1 k 6) hfb6 (sbN (aD u0).1 k 6) hsb6
      have ih1 := ih; clear ih
      refine lv_iload_n hx hb dX9_leastPress_2 rfl (lv_at hl 1 rfl) ?_
      refine j_bipush hx hb dX9_leastPress_3 ?_ (by decide)
      refine j_icmp_ge (tgt := 32) hx hb dX9_leastPress_5 (by decide) (fun c2 => ?_) (fun c2 => ?_) (by omega) (by omega)
      · skip
        refine j_bipush hx hb dX9_leastPress_32 ?_ (by decide)
        subst hQ
        refine m_iret hx hb hr hlocks hH hS dX9_leastPress_34 ?_ (by omega)
        refine ⟨?_, rfl, rfl⟩
        rw [hlp]
        rw [show k = 10 by omega]
        rfl
      · skip
        refine lv_aload_n hx hb dX9_leastPress_8 rfl (lv_at hl 0 rfl) ?_
        refine lv_iload_n hx hb dX9_leastPress_9 rfl (lv_at hl 1 rfl) ?_
        refine j_const hx hb dX9_leastPress_10 ?_
        refine m_callVi (As := [.int (iv k), .int (iv 1)]) (rest := []) ⟨hx, hb, hml, hown, hts⟩ hK hH hS (c_X9_unclear l G μ n yy ((aD u0).1) α β κ (aC u0) ω (aN u0) (aT u0) (aL u0) en fr pl wr hY k 1 hOk (by omega) (by omega)) (cwV 2 hts gX9_leastPress_X9_unclear rfl rfl rfl (by decide +kernel) ⟨(Nat.le_of_ble_eq_true rfl), (Nat.le_of_ble_eq_true rfl)⟩) hY.1 rfl rfl rfl rfl hl.1 (Nat.le_of_ble_eq_true rfl) dX9_leastPress_11 ⟨Nat.zero_le _, Nat.zero_le _⟩ (fun z6 μ3 n4 H locs hz6 hp5 hH hS => ?_)
        obtain ⟨hz9, hm9, hn9⟩ := hp5
        rw [hm9, hn9] at hH
        rw [hz9, if_pos rfl]
        clear hz9 hm9 hn9
        refine lv_aload_n hx hb dX9_leastPress_14 rfl (lv_at hl 0 rfl) ?_
        refine lv_iload_n hx hb dX9_leastPress_15 rfl (lv_at hl 1 rfl) ?_
        refine j_const hx hb dX9_leastPress_16 ?_
        refine m_callVi (As := [.int (iv k), .int (iv 0)]) (rest := [.int (iv ((fbN ((aD u0).1) k 6 : Nat) : Int))]) ⟨hx, hb, hml, hown, hts⟩ hK hH hS (c_X9_unclear l G μ n yy ((aD u0).1) α β κ (aC u0) ω (aN u0) (aT u0) (aL u0) en fr pl wr hY k 0 hOk (by omega) (by omega)) (cwV 2 hts gX9_leastPress_X9_unclear rfl rfl rfl (by decide +kernel) ⟨(Nat.le_of_ble_eq_true rfl), (Nat.le_of_ble_eq_true rfl)⟩) hY.1 rfl rfl rfl rfl hl.1 (Nat.le_of_ble_eq_true rfl) dX9_leastPress_17 ⟨Nat.zero_le _, Nat.zero_le _⟩ (fun z10 μ7 n8 H locs hz10 hp9 hH hS => ?_)
        obtain ⟨hz9, hm9, hn9⟩ := hp9
        rw [hm9, hn9] at hH
        rw [hz9, if_neg (show ¬ (0 : Int) = 1 by omega)]
        clear hz9 hm9 hn9
        refine j_ior (v := ((fbN (aD u0).1 k 6 ||| sbN (aD u0).1 k 6 : Nat) : Int)) hx hb dX9_leastPress_20 (bit_or6 _ hfb6 _ hsb6) ?_
        refine j_if_ne (tgt := 26) hx hb dX9_leastPress_21 (by decide) (fun c11 => ?_) (fun c11 => ?_) (by omega)
        · skip
          refine j_iinc (lv' := [(1, .int (iv (k + 1))), (0, .ref yy)]) hx hb dX9_leastPress_26 hl (k := 1) rfl (by decide) rfl (fun ls hl => ?_)
          refine lv_goto (tgt := 2) hx hb dX9_leastPress_29 (by decide) ?_
          exact ih1 (k + 1) (by omega) (by rw [hlp, show (10 - k).toNat = (10 - (k + 1)).toNat + 1 by omega]; exact lp_n (fun q9 => by have q8 := hor.mpr q9; omega)) (by omega) H locs ls hH hS (lv_sub hl [1, 0] rfl)
        · skip
          refine lv_iload_n hx hb dX9_leastPress_24 rfl (lv_at hl 1 rfl) ?_
          subst hQ
          refine m_iret hx hb hr hlocks hH hS dX9_leastPress_25 ?_ (by omega)
          refine ⟨?_, rfl, rfl⟩
          rw [hlp]
          rw [show (10 - k).toNat = (10 - (k + 1)).toNat + 1 by omega]
          exact (lp_y (hor.mp (by omega))).symm
  exact lp2 (11) 1 (by omega) rfl (by omega) H locs ls hH hS (lv_sub hl [1, 0] rfl)
