abbrev rm_t_X9_even : Room := { frames := 1, cells := 0, slots := 0, locals := 21 }
set_option maxHeartbeats 4000000 in
set_option maxRecDepth 100000 in
theorem t_X9_even (l : Launch) (G : wG) (μ : hM) (n : Nat) (yy : Nat) (u0 : aS) (en : Int)  (hM0 : IsM G μ yy u0 en) (hen : en ≤ 5900) (hO : OkD (aD u0)) : Met l yX9_even wsX9_even rm_t_X9_even (mPc G μ n [.ref yy]) (mQd G (fun z μ1 n1 => z = a_even ((aD u0).1) ∧ μ1 = μ ∧ n1 = n)) 0 0 (gA G) := by
  refine Met.ofW (cc := cX9_even) (maxL := 5) (ret := (some .double)) (by decide) rfl ?_
  intro p e s m args below meth c s₁ B hml hv
  obtain ⟨hav, hK, hH⟩ := hv
  have hx := B.exec
  have hb := B.bytes
  have hr := B.returns
  have hts := atoms_spec (ws := wsX9_even) B.pre
  have hown : s.vm.findClass RX9 = some m.cls := findClass_of_methodNamed B.named
  have hlocks := B.notSynchronized
  have hS : va_S (gA G) s.heap s.heap [] := va_S.rf
  have hl := lv_entry ([.ref yy]) (n := 5) (Nat.le_of_ble_eq_true rfl)
  have hfr : entryFrame m args 5 = entryFrame m ([.ref yy] : List Value).toArray 5 := by rw [hav]
  rw [hfr, lg_entry_eq]
  generalize (lg_sl ([.ref yy]) ++ List.replicate (5 - (lg_sl ([.ref yy])).length) Slot.unset).toArray = ls at hl ⊢
  have hl : lv_has ls 5 [(0, .ref yy)] := hl
  generalize hQ : MQ below _ args s 0 0 (gA G) = Q
  show W p l e rm_t_X9_even s m args below meth c s.heap [] 0 0 Q (F0 m 0 ls [])
  obtain ⟨H, hHe⟩ : ∃ H, H = s.heap := ⟨_, rfl⟩
  obtain ⟨locs, hlo⟩ : ∃ q : List Loc, q = [] := ⟨_, rfl⟩
  have hH : gP G μ n H := by rw [hHe]; exact hH
  have hS : va_S (gA G) s.heap H locs := by rw [hHe, hlo]; exact hS
  suffices hgo : W p l e rm_t_X9_even s m args below meth c H locs 0 0 Q (F0 m 0 ls []) by rw [hHe, hlo] at hgo; exact hgo
  clear hHe hlo hfr hav
  have f_0 := hts (.constantDouble RX9 177 (4633641066610819072)) (List.mem_of_getElem? (i := 2) rfl)
  have f_1 := hts (.fieldLink RX9 7 "StampDaterModel" "s" "[I") (List.mem_of_getElem? (i := 1) rfl)
  have i_X9 : ∀ w ∈ u_ws RX9 TX9 13, w ∈ wsX9_even := by decide +kernel
  have hfr : MFr yy μ μ := MFr.rf
  obtain ⟨α, β, κ, ω, fr, pl, wr, hY, hR⟩ := hM0
  have hT := hO.1
  have hOk := hT.1
  have h3 := hT.2.1
  have h5 := hT.2.2.1
  have h4 := hOk.2.2.2.1
  have hPD := hR.1
  have hen0 := hR.2.2.2.1
  have hkn := hR.2.2.2.2.1
  have hik := hR.2.2.2.2.2.1
  have hOC := hR.2.2.2.2.2.2
  have hl0 := hOC.1
  refine j_const hx hb dX9_even_0 ?_
  refine lv_istore_n (lv' := [(1, .int (iv 0)), (0, .ref yy)]) hx hb dX9_even_1 rfl hl (by decide) rfl (fun ls hl => ?_)
  refine j_const hx hb dX9_even_2 ?_
  refine lv_istore_n (lv' := [(2, .int (iv 0)), (1, .int (iv 0)), (0, .ref yy)]) hx hb dX9_even_3 rfl hl (by decide) rfl (fun ls hl => ?_)
  refine j_const hx hb dX9_even_4 ?_
  refine lv_istore_n (lv' := [(3, .int (iv 0)), (2, .int (iv 0)), (1, .int (iv 0)), (0, .ref yy)]) hx hb dX9_even_5 rfl hl (by decide) rfl (fun ls hl => ?_)
  have lp6 : ∀ (fuel : Nat) (kk : Nat) (hkk : kk ≤ 60) (_ : 60 - kk < fuel) (H : Heap) (locs : List Loc) (ls : Array Slot) (_ : gP G μ n H) (_ : va_S (gA G) s.heap H locs) (_ : lv_has ls 5 [(0, .ref yy), (1, .int (iv (esum ((aD u0).1) kk))), (2, .int (iv (emax ((aD u0).1) kk))), (3, .int (iv (kk : Int)))]), W p l e rm_t_X9_even s m args below meth c H locs 0 0 Q (F0 m 6 ls []) := by
    intro fuel
    induction fuel with
    | zero => intro _ _ hfuel; exact absurd hfuel (Nat.not_lt_zero _)
    | succ fuel ih =>
      intro kk hkk hfuel H locs ls hH hS hl
      have ih1 := ih; clear ih
      refine lv_iload_n hx hb dX9_even_6 rfl (lv_at hl 3 rfl) ?_
      refine j_bipush hx hb dX9_even_7 ?_ (by decide)
      refine j_icmp_ge (tgt := 56) hx hb dX9_even_9 (by decide) (fun c2 => ?_) (fun c2 => ?_) (by omega) (by omega)
      · skip
        have h60 : kk = 60 := by omega
        subst h60
        have her := e_rng hOk 60 (by omega)
        refine lv_iload_n hx hb dX9_even_56 rfl (lv_at hl 2 rfl) ?_
        refine j_if_ne (tgt := 64) hx hb dX9_even_57 (by decide) (fun c3 => ?_) (fun c3 => ?_) (by omega)
        · skip
          refine lv_iload_n hx hb dX9_even_64 rfl (lv_at hl 1 rfl) ?_
          refine lv_i2d hx hb dX9_even_65 ?_
          refine lv_ldc2d hx hb hown f_0 dX9_even_66 ?_
          refine lv_ddiv hx hb dX9_even_69 (n64_of (ev_n1 _)) ?_
          refine lv_iload_n hx hb dX9_even_70 rfl (lv_at hl 2 rfl) ?_
          refine lv_i2d hx hb dX9_even_71 ?_
          refine lv_ddiv hx hb dX9_even_72 (n64_of (ev_n2 _ _ (iv_n0 (by omega)))) ?_
          subst hQ
          refine m_dret hx hb hr hlocks hH hS dX9_even_73 ?_
          refine ⟨?_, rfl, rfl⟩
          unfold a_even
          exact (if_neg (by omega)).symm
        · skip
          refine lv_dconst1 hx hb dX9_even_60 ?_
          refine lv_goto (tgt := 73) hx hb dX9_even_61 (by decide) ?_
          subst hQ
          refine m_dret hx hb hr hlocks hH hS dX9_even_73 ?_
          refine ⟨?_, rfl, rfl⟩
          unfold a_even
          exact (if_pos (by omega)).symm
      · skip
        have hwv := (hOk.2.2.2.2 (kk / 10) (by omega)).2.2.2 (kk % 10) (by omega)
        have her := e_rng hOk kk (by omega)
        refine lv_aload_n hx hb dX9_even_12 rfl (lv_at hl 0 rfl) ?_
        refine m_get (C := RX9) (T := TX9) (N := 13) (ci := 8) hx hb hts i_X9 hown hK hH hY.1 rfl 0 (by decide) f_1 rfl dX9_even_13 ?_
        refine lv_iload_n hx hb dX9_even_16 rfl (lv_at hl 3 rfl) ?_
        refine j_bipush hx hb dX9_even_17 ?_ (by decide)
        refine j_idiv hx hb dX9_even_19 ?_ (by omega) (by omega)
        refine j_norm (y := ((kk / 10 : Nat) : Int)) (by omega) ?_
        refine j_const hx hb dX9_even_20 ?_
        refine lv_iload_n hx hb dX9_even_21 rfl (lv_at hl 3 rfl) ?_
        refine j_bipush hx hb dX9_even_22 ?_ (by decide)
        refine j_irem hx hb dX9_even_24 ?_ (by omega) (by omega)
        refine j_norm (y := ((kk % 10 : Nat) : Int)) (by omega) ?_
        refine j_iadd hx hb dX9_even_25 ?_
        refine m_callSi (As := [.int (iv ((kk / 10 : Nat) : Int)), .int (iv (3 + ((kk % 10 : Nat) : Int)))]) (rest := [.ref (yy + 1)]) ⟨hx, hb, hml, hown, hts⟩ hK hH hS (c_X9_of l G μ n ((kk / 10 : Nat) : Int) (3 + ((kk % 10 : Nat) : Int)) (by omega) (by omega)) (va_cwS 2 hts gX9_even_X9_of rfl rfl rfl (by decide +kernel) ⟨(Nat.le_of_ble_eq_true rfl), (Nat.le_of_ble_eq_true rfl)⟩) rfl rfl hl.1 (Nat.le_of_ble_eq_true rfl) dX9_even_26 ⟨Nat.zero_le _, Nat.zero_le _⟩ (fun z7 μ4 n5 H locs hz7 hp6 hH hS => ?_)
        obtain ⟨hz9, hm9, hn9⟩ := hp6
        rw [hm9, hn9] at hH
        rw [hz9]
        clear hz9 hm9 hn9
        refine j_norm (y := ((88 + 13 * (kk / 10) + (kk % 10) : Nat) : Int)) (by omega) ?_
        refine m_iald (nA := 163) (f := ((aD u0).1)) hx hb hK hH hY.2.1 dX9_even_29 ?_ (by omega) (by omega)
        refine j_norm (y := (((aD u0).1) (88 + 13 * (kk / 10) + (kk % 10)))) rfl ?_
        refine lv_istore (lv' := [(4, .int (iv (((aD u0).1) (88 + 13 * (kk / 10) + (kk % 10))))), (0, .ref yy), (1, .int (iv (esum ((aD u0).1) kk))), (2, .int (iv (emax ((aD u0).1) kk))), (3, .int (iv (kk : Int)))]) hx hb dX9_even_30 hl (by decide) rfl (fun ls hl => ?_)
        refine lv_iload_n hx hb dX9_even_32 rfl (lv_at hl 2 rfl) ?_
        refine lv_iload hx hb dX9_even_33 (lv_at hl 0 rfl) ?_
        refine j_iadd hx hb dX9_even_35 ?_
        refine lv_istore_n (lv' := [(1, .int (iv ((esum ((aD u0).1) kk) + (((aD u0).1) (88 + 13 * (kk / 10) + (kk % 10)))))), (4, .int (iv (((aD u0).1) (88 + 13 * (kk / 10) + (kk % 10))))), (0, .ref yy), (2, .int (iv (emax ((aD u0).1) kk))), (3, .int (iv (kk : Int)))]) hx hb dX9_even_36 rfl hl (by decide) rfl (fun ls hl => ?_)
        refine lv_iload hx hb dX9_even_37 (lv_at hl 1 rfl) ?_
        refine lv_iload_n hx hb dX9_even_39 rfl (lv_at hl 3 rfl) ?_
        refine j_icmp_le (tgt := 48) hx hb dX9_even_40 (by decide) (fun c8 => ?_) (fun c8 => ?_) (by omega) (by omega)
        · skip
          refine lv_iload_n hx hb dX9_even_48 rfl (lv_at hl 3 rfl) ?_
          refine lv_istore_n (lv' := [(2, .int (iv (emax ((aD u0).1) kk))), (1, .int (iv ((esum ((aD u0).1) kk) + (((aD u0).1) (88 + 13 * (kk / 10) + (kk % 10)))))), (4, .int (iv (((aD u0).1) (88 + 13 * (kk / 10) + (kk % 10))))), (0, .ref yy), (3, .int (iv (kk : Int)))]) hx hb dX9_even_49 rfl hl (by decide) rfl (fun ls hl => ?_)
          have hs1 : ((esum ((aD u0).1) kk) + (((aD u0).1) (88 + 13 * (kk / 10) + (kk % 10)))) = esum ((aD u0).1) (kk + 1) := rfl
          have hm1 : (emax ((aD u0).1) kk) = emax ((aD u0).1) (kk + 1) := by show _ = max (emax ((aD u0).1) kk) (((aD u0).1) (88 + 13 * (kk / 10) + kk % 10)); omega
          rw [hs1, hm1] at hl
          refine j_iinc (lv' := [(3, .int (iv ((kk : Int) + 1))), (2, .int (iv (emax ((aD u0).1) (kk + 1)))), (1, .int (iv (esum ((aD u0).1) (kk + 1)))), (4, .int (iv (((aD u0).1) (88 + 13 * (kk / 10) + (kk % 10))))), (0, .ref yy)]) hx hb dX9_even_50 hl (k := 4) rfl (by decide) rfl (fun ls hl => ?_)
          refine lv_goto (tgt := 6) hx hb dX9_even_53 (by decide) ?_
          exact ih1 (kk + 1) (by omega) (by omega) H locs ls hH hS (lv_sub hl [4, 2, 1, 0] rfl)
        · skip
          refine lv_iload hx hb dX9_even_43 (lv_at hl 1 rfl) ?_
          refine lv_goto (tgt := 49) hx hb dX9_even_45 (by decide) ?_
          refine lv_istore_n (lv' := [(2, .int (iv (((aD u0).1) (88 + 13 * (kk / 10) + (kk % 10))))), (1, .int (iv ((esum ((aD u0).1) kk) + (((aD u0).1) (88 + 13 * (kk / 10) + (kk % 10)))))), (4, .int (iv (((aD u0).1) (88 + 13 * (kk / 10) + (kk % 10))))), (0, .ref yy), (3, .int (iv (kk : Int)))]) hx hb dX9_even_49 rfl hl (by decide) rfl (fun ls hl => ?_)
          have hs1 : ((esum ((aD u0).1) kk) + (((aD u0).1) (88 + 13 * (kk / 10) + (kk % 10)))) = esum ((aD u0).1) (kk + 1) := rfl
          have hm1 : (((aD u0).1) (88 + 13 * (kk / 10) + (kk % 10))) = emax ((aD u0).1) (kk + 1) := by show _ = max (emax ((aD u0).1) kk) (((aD u0).1) (88 + 13 * (kk / 10) + kk % 10)); omega
          rw [hs1, hm1] at hl
          refine j_iinc (lv' := [(3, .int (iv ((kk : Int) + 1))), (2, .int (iv (emax ((aD u0).1) (kk + 1)))), (1, .int (iv (esum ((aD u0).1) (kk + 1)))), (4, .int (iv (emax ((aD u0).1) (kk + 1)))), (0, .ref yy)]) hx hb dX9_even_50 hl (k := 4) rfl (by decide) rfl (fun ls hl => ?_)
          refine lv_goto (tgt := 6) hx hb dX9_even_53 (by decide) ?_
          exact ih1 (kk + 1) (by omega) (by omega) H locs ls hH hS (lv_sub hl [4, 2, 1, 0] rfl)
  exact lp6 (61) 0 (by omega) (by omega) H locs ls hH hS (lv_sub hl [3, 2, 1, 0] rfl)
