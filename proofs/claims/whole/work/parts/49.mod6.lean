abbrev rm_c_X9_lastsFor : Room := { frames := 5, cells := 0, slots := 0, locals := 113 }
set_option maxHeartbeats 4000000 in
set_option maxRecDepth 100000 in
theorem c_X9_lastsFor (l : Launch) (G : wG) (μ : hM) (n : Nat) (yy : Nat) (σ α β κ χ ω : Nat → Int) (kn ik ln en fr pl wr : Int) (hY : IsMM G μ yy σ α β κ χ ω kn ik ln en fr pl wr) (k t : Int) (hOk : OkS σ) (h3 : 0 ≤ σ 3 ∧ σ 3 ≤ 36524) (hk : 1 ≤ k ∧ k ≤ 9) (ht : 1 ≤ t ∧ t ≤ 20) : Met l yX9_lastsFor wsX9_lastsFor rm_c_X9_lastsFor (mPc G μ n [.ref yy, .int (iv k), .int (iv t)]) (mQi G (fun z μ1 n1 => z = farV (lasF σ k t) ∧ (∃ σ1 : Nat → Int, IsMM G μ1 yy σ1 α β κ χ ω kn ik ln en fr pl wr) ∧ MFr yy μ μ1)) 0 0 (gA G) := by
  refine Met.ofW (cc := cX9_lastsFor) (maxL := 7) (ret := (some .int)) (by decide) rfl ?_
  intro p e s m args below meth c s₁ B hml hv
  obtain ⟨hav, hK, hH⟩ := hv
  have hx := B.exec
  have hb := B.bytes
  have hr := B.returns
  have hts := atoms_spec (ws := wsX9_lastsFor) B.pre
  have hown : s.vm.findClass RX9 = some m.cls := findClass_of_methodNamed B.named
  have hlocks := B.notSynchronized
  have hS : va_S (gA G) s.heap s.heap [] := va_S.rf
  have hl := lv_entry ([.ref yy, .int (iv k), .int (iv t)]) (n := 7) (Nat.le_of_ble_eq_true rfl)
  have hfr : entryFrame m args 7 = entryFrame m ([.ref yy, .int (iv k), .int (iv t)] : List Value).toArray 7 := by rw [hav]
  rw [hfr, lg_entry_eq]
  generalize (lg_sl ([.ref yy, .int (iv k), .int (iv t)]) ++ List.replicate (7 - (lg_sl ([.ref yy, .int (iv k), .int (iv t)])).length) Slot.unset).toArray = ls at hl ⊢
  have hl : lv_has ls 7 [(0, .ref yy), (1, .int (iv k)), (2, .int (iv t))] := hl
  generalize hQ : MQ below _ args s 0 0 (gA G) = Q
  show W p l e rm_c_X9_lastsFor s m args below meth c s.heap [] 0 0 Q (F0 m 0 ls [])
  obtain ⟨H, hHe⟩ : ∃ H, H = s.heap := ⟨_, rfl⟩
  obtain ⟨locs, hlo⟩ : ∃ q : List Loc, q = [] := ⟨_, rfl⟩
  have hH : gP G μ n H := by rw [hHe]; exact hH
  have hS : va_S (gA G) s.heap H locs := by rw [hHe, hlo]; exact hS
  suffices hgo : W p l e rm_c_X9_lastsFor s m args below meth c H locs 0 0 Q (F0 m 0 ls []) by rw [hHe, hlo] at hgo; exact hgo
  clear hHe hlo hfr hav
  have f_0 := hts (.fieldLink RX9 7 "StampDaterModel" "s" "[I") (List.mem_of_getElem? (i := 1) rfl)
  have i_X9 : ∀ w ∈ u_ws RX9 TX9 13, w ∈ wsX9_lastsFor := by decide +kernel
  have f_2 := hts (.constant RX9 179 (1000000)) (List.mem_of_getElem? (i := 3) rfl)
  have f_3 := hts (.constant RX9 36 (36524)) (List.mem_of_getElem? (i := 2) rfl)
  have hfr : MFr yy μ μ := MFr.rf
  have h4 := hOk.2.2.2.1
  refine lv_aload_n hx hb dX9_lastsFor_0 rfl (lv_at hl 0 rfl) ?_
  refine m_get (C := RX9) (T := TX9) (N := 13) (ci := 8) hx hb hts i_X9 hown hK hH hY.1 rfl 0 (by decide) f_0 rfl dX9_lastsFor_1 ?_
  refine j_const hx hb dX9_lastsFor_4 ?_
  refine m_iald (nA := 163) (f := σ) hx hb hK hH hY.2.1 dX9_lastsFor_5 ?_ (by omega) (by omega)
  refine j_norm (y := (σ 4)) rfl ?_
  refine lv_istore_n (lv' := [(3, .int (iv (σ 4))), (0, .ref yy), (1, .int (iv k)), (2, .int (iv t))]) hx hb dX9_lastsFor_6 rfl hl (by decide) rfl (fun ls hl => ?_)
  refine j_const hx hb dX9_lastsFor_7 ?_
  refine lv_istore (lv' := [(4, .int (iv 0)), (3, .int (iv (σ 4))), (0, .ref yy), (1, .int (iv k)), (2, .int (iv t))]) hx hb dX9_lastsFor_8 hl (by decide) rfl (fun ls hl => ?_)
  have lp10 : ∀ (fuel : Nat) (d0 : Nat) (ξ0 : Nat → Int) (τ : Nat → Int) (ν : hM) (ν0 : Nat) (hY : IsMM G ν yy τ α β κ χ ω kn ik ln en fr pl wr) (hfr : MFr yy μ ν) (hd0 : d0 ≤ 200) (hE : EqS τ ξ0) (h3t : τ 3 = σ 3 + d0) (hOr : OkS ξ0) (hls : lasF σ k t = lsF (σ 3) k t (σ 4) (200 - d0) (d0 : Int) ξ0) (_ : 200 - d0 < fuel) (H : Heap) (locs : List Loc) (ls : Array Slot) (_ : gP G ν ν0 H) (_ : va_S (gA G) s.heap H locs) (_ : lv_has ls 7 [(0, .ref yy), (1, .int (iv k)), (2, .int (iv t)), (3, .int (iv (σ 4))), (4, .int (iv (d0 : Int)))]), W p l e rm_c_X9_lastsFor s m args below meth c H locs 0 0 Q (F0 m 10 ls []) := by
    intro fuel
    induction fuel with
    | zero => intro _ _ _ _ _ _ _ _ _ _ _ _ hfuel; exact absurd hfuel (Nat.not_lt_zero _)
    | succ fuel ih =>
      intro d0 ξ0 τ ν ν0 hY hfr hd0 hE h3t hOr hls hfuel H locs ls hH hS hl
      have hOkt : OkS τ := hE.ok hOr
      have ih1 := ih; clear ih
      refine lv_iload hx hb dX9_lastsFor_10 (lv_at hl 4 rfl) ?_
      refine j_sipush hx hb dX9_lastsFor_12 ?_ (by decide)
      refine j_icmp_ge (tgt := 95) hx hb dX9_lastsFor_15 (by decide) (fun c2 => ?_) (fun c2 => ?_) (by omega) (by omega)
      · skip
        refine j_ldc hx hb (1000000) hown f_2 dX9_lastsFor_95 ?_ (by decide)
        subst hQ
        refine m_iret hx hb hr hlocks hH hS dX9_lastsFor_97 ?_ (by omega)
        refine ⟨?_, ⟨_, hY⟩, hfr⟩
        have hd9 : lasF σ k t = 200 := by
          rw [hls]
          by_cases h200 : d0 = 200
          · rw [h200]; rfl
          · exact lsF_e (by omega)
        rw [hd9]
        rfl
      · skip
        refine lv_aload_n hx hb dX9_lastsFor_18 rfl (lv_at hl 0 rfl) ?_
        refine m_get (C := RX9) (T := TX9) (N := 13) (ci := 8) hx hb hts i_X9 hown hK hH hY.1 rfl 0 (by decide) f_0 rfl dX9_lastsFor_19 ?_
        refine j_const hx hb dX9_lastsFor_22 ?_
        refine m_iald (nA := 163) (f := τ) hx hb hK hH hY.2.1 dX9_lastsFor_23 ?_ (by omega) (by omega)
        refine j_norm (y := (τ 3)) rfl ?_
        refine j_norm (y := (σ 3 + d0)) h3t ?_
        refine j_ldc hx hb (36524) hown f_3 dX9_lastsFor_24 ?_ (by decide)
        refine j_icmp_gt (tgt := 95) hx hb dX9_lastsFor_26 (by decide) (fun c3 => ?_) (fun c3 => ?_) (by omega) (by omega)
        · skip
          refine j_ldc hx hb (1000000) hown f_2 dX9_lastsFor_95 ?_ (by decide)
          subst hQ
          refine m_iret hx hb hr hlocks hH hS dX9_lastsFor_97 ?_ (by omega)
          refine ⟨?_, ⟨_, hY⟩, hfr⟩
          have hd9 : lasF σ k t = 200 := by
            rw [hls]
            by_cases h200 : d0 = 200
            · rw [h200]; rfl
            · exact lsF_e (by omega)
          rw [hd9]
          rfl
        · skip
          refine lv_aload_n hx hb dX9_lastsFor_29 rfl (lv_at hl 0 rfl) ?_
          refine lv_aload_n hx hb dX9_lastsFor_30 rfl (lv_at hl 0 rfl) ?_
          refine m_get (C := RX9) (T := TX9) (N := 13) (ci := 8) hx hb hts i_X9 hown hK hH hY.1 rfl 0 (by decide) f_0 rfl dX9_lastsFor_31 ?_
          refine j_const hx hb dX9_lastsFor_34 ?_
          refine m_iald (nA := 163) (f := τ) hx hb hK hH hY.2.1 dX9_lastsFor_35 ?_ (by omega) (by omega)
          refine j_norm (y := (τ 3)) rfl ?_
          refine j_norm (y := (σ 3 + d0)) h3t ?_
          refine m_callVi (As := [.int (iv (σ 3 + d0))]) (rest := []) ⟨hx, hb, hml, hown, hts⟩ hK hH hS (c_X9_adjusts l G ν ν0 yy τ α β κ χ ω kn ik ln en fr pl wr hY (σ 3 + d0) hOkt (by omega)) (cwV 1 hts gX9_lastsFor_X9_adjusts rfl rfl rfl (by decide +kernel) ⟨(Nat.le_of_ble_eq_true rfl), (Nat.le_of_ble_eq_true rfl)⟩) hY.1 rfl rfl rfl rfl hl.1 (Nat.le_of_ble_eq_true rfl) dX9_lastsFor_36 ⟨Nat.zero_le _, Nat.zero_le _⟩ (fun z7 μ4 n5 H locs hz7 hp6 hH hS => ?_)
          obtain ⟨hz9, hY, hfr1⟩ := hp6
          have hfr := hfr.tr hfr1
          clear hfr1
          rw [hz9]
          clear hz9
          have hEa : EqS (adj τ (dig (σ 3 + d0))) (adj ξ0 (dig (σ 3 + d0))) := hE.adjE _
          have hOx : OkS (adj ξ0 (dig (σ 3 + d0))) := okS_adj hOr _ _ _
          refine lv_istore (lv' := [(5, .int (iv (wsm τ (dig (σ 3 + d0)) 0 6))), (0, .ref yy), (1, .int (iv k)), (2, .int (iv t)), (3, .int (iv (σ 4))), (4, .int (iv (d0 : Int)))]) hx hb dX9_lastsFor_39 hl (by decide) rfl (fun ls hl => ?_)
          refine j_const hx hb dX9_lastsFor_41 ?_
          refine lv_istore (lv' := [(6, .int (iv 0)), (5, .int (iv (wsm τ (dig (σ 3 + d0)) 0 6))), (0, .ref yy), (1, .int (iv k)), (2, .int (iv t)), (3, .int (iv (σ 4))), (4, .int (iv (d0 : Int)))]) hx hb dX9_lastsFor_42 hl (by decide) rfl (fun ls hl => ?_)
          have lp44 : ∀ (fuel : Nat) (j0 : Nat) (τ2 : Nat → Int) (ν : hM) (ν0 : Nat) (hY : IsMM G ν yy τ2 α β κ χ ω kn ik ln en fr pl wr) (hfr : MFr yy μ ν) (hj0 : (j0 : Int) ≤ t) (hτ2 : τ2 = nOnce (adj τ (dig (σ 3 + d0))) k j0) (hok : okN (adj τ (dig (σ 3 + d0))) (dig (σ 3 + d0)) k j0 = 1) (_ : (t.toNat - j0) < fuel) (H : Heap) (locs : List Loc) (ls : Array Slot) (_ : gP G ν ν0 H) (_ : va_S (gA G) s.heap H locs) (_ : lv_has ls 7 [(0, .ref yy), (1, .int (iv k)), (2, .int (iv t)), (3, .int (iv (σ 4))), (4, .int (iv (d0 : Int))), (6, .int (iv (j0 : Int)))]), W p l e rm_c_X9_lastsFor s m args below meth c H locs 0 0 Q (F0 m 44 ls []) := by
            intro fuel
            induction fuel with
            | zero => intro _ _ _ _ _ _ _ _ _ hfuel; exact absurd hfuel (Nat.not_lt_zero _)
            | succ fuel ih =>
              intro j0 τ2 ν ν0 hY hfr hj0 hτ2 hok hfuel H locs ls hH hS hl
              have hOa : OkS (adj τ (dig (σ 3 + d0))) := okS_adj hOkt _ _ _
              have hO2 : OkS τ2 := by rw [hτ2]; exact okS_n hOa (by omega) j0
              have h32 : τ2 3 = σ 3 + d0 := by rw [hτ2, nOnce_3 hOa (by omega) j0]; unfold adj; rw [adj_ot (by omega) (by omega)]; exact h3t
              have ih8 := ih; clear ih
              refine lv_iload hx hb dX9_lastsFor_44 (lv_at hl 5 rfl) ?_
              refine lv_iload_n hx hb dX9_lastsFor_46 rfl (lv_at hl 2 rfl) ?_
              refine j_icmp_ge (tgt := 72) hx hb dX9_lastsFor_47 (by decide) (fun c9 => ?_) (fun c9 => ?_) (by omega) (by omega)
              · skip
                have hj9 : j0 = t.toNat := by omega
                have hok9 : okN (adj ξ0 (dig (σ 3 + d0))) (dig (σ 3 + d0)) k t.toNat = 1 := by rw [← hEa.okE hOx _ (by omega), ← hj9]; exact hok
                have hls9 : lasF σ k t = lsF (σ 3) k t (σ 4) (200 - (d0 + 1)) ((d0 + 1 : Nat) : Int) (fu (nOnce (adj ξ0 (dig (σ 3 + d0))) k t.toNat) 4 (σ 4)) := by rw [hls, show 200 - d0 = (200 - (d0 + 1)) + 1 by omega]; exact lsF_y (by omega) hok9
                have hτ9 : τ2 = nOnce (adj τ (dig (σ 3 + d0))) k t.toNat := by rw [hτ2, hj9]
                have h33 : τ2 3 = σ 3 + d0 := h32
                have hE8 : EqS τ2 (nOnce (adj ξ0 (dig (σ 3 + d0))) k t.toNat) := by rw [hτ9]; exact hEa.n hOx (by omega) _
                have hO9 : OkS (fu (nOnce (adj ξ0 (dig (σ 3 + d0))) k t.toNat) 4 (σ 4)) := okS_4 (okS_n hOx (by omega) _) h4
                refine lv_aload_n hx hb dX9_lastsFor_72 rfl (lv_at hl 0 rfl) ?_
                refine m_get (C := RX9) (T := TX9) (N := 13) (ci := 8) hx hb hts i_X9 hown hK hH hY.1 rfl 0 (by decide) f_0 rfl dX9_lastsFor_73 ?_
                refine j_const hx hb dX9_lastsFor_76 ?_
                refine lv_iload_n hx hb dX9_lastsFor_77 rfl (lv_at hl 3 rfl) ?_
                refine m_iast (nA := 163) (f := τ2) hx hb hK hH hS hY.2.1 dX9_lastsFor_78 (fun H locs hH hS => ?_) (by omega) (by omega)
                obtain ⟨ν10, hY, hfr, hH⟩ : ∃ ξ : hM, IsMM G ξ yy (fu τ2 4 (σ 4)) α β κ χ ω kn ik ln en fr pl wr ∧ MFr yy μ ξ ∧ gP G ξ ν0 H := hY.w1 hfr hH
                have hH : gP G ν10 ν0 H := hH
                refine lv_aload_n hx hb dX9_lastsFor_79 rfl (lv_at hl 0 rfl) ?_
                refine m_get (C := RX9) (T := TX9) (N := 13) (ci := 8) hx hb hts i_X9 hown hK hH hY.1 rfl 0 (by decide) f_0 rfl dX9_lastsFor_80 ?_
                refine j_const hx hb dX9_lastsFor_83 ?_
                refine lv_dup2_11 hx hb dX9_lastsFor_84 rfl rfl ?_
                refine m_iald (nA := 163) (f := (fu τ2 4 (σ 4))) hx hb hK hH hY.2.1 dX9_lastsFor_85 ?_ (by omega) (by omega)
                refine j_norm (y := ((fu τ2 4 (σ 4)) 3)) rfl ?_
                refine j_const hx hb dX9_lastsFor_86 ?_
                refine j_iadd hx hb dX9_lastsFor_87 ?_
                refine m_iast (nA := 163) (f := (fu τ2 4 (σ 4))) hx hb hK hH hS hY.2.1 dX9_lastsFor_88 (fun H locs hH hS => ?_) (by omega) (by omega)
                obtain ⟨ν11, hY, hfr, hH⟩ : ∃ ξ : hM, IsMM G ξ yy (fu (fu τ2 4 (σ 4)) 3 (((fu τ2 4 (σ 4)) 3) + 1)) α β κ χ ω kn ik ln en fr pl wr ∧ MFr yy μ ξ ∧ gP G ξ ν0 H := hY.w1 hfr hH
                have hH : gP G ν11 ν0 H := hH
                have hE9 : EqS (fu (fu τ2 4 (σ 4)) 3 (((fu τ2 4 (σ 4)) 3) + 1)) (fu (nOnce (adj ξ0 (dig (σ 3 + d0))) k t.toNat) 4 (σ 4)) := (hE8.fuE 4 (σ 4)).fl (by omega) _
                refine j_iinc (lv' := [(4, .int (iv ((d0 : Int) + 1))), (0, .ref yy), (1, .int (iv k)), (2, .int (iv t)), (3, .int (iv (σ 4))), (6, .int (iv (j0 : Int)))]) hx hb dX9_lastsFor_89 hl (k := 4) rfl (by decide) rfl (fun ls hl => ?_)
                refine lv_goto (tgt := 10) hx hb dX9_lastsFor_92 (by decide) ?_
                exact ih1 (d0 + 1) (fu (nOnce (adj ξ0 (dig (σ 3 + d0))) k t.toNat) 4 (σ 4)) (fu (fu τ2 4 (σ 4)) 3 (((fu τ2 4 (σ 4)) 3) + 1)) ν11 ν0 hY hfr (by omega) hE9 (by rw [fu_s, fu_n (by omega), h33]; omega) hO9 hls9 (by omega) H locs ls hH hS (lv_sub hl [1, 2, 3, 4, 0] rfl)
              · skip
                refine lv_aload_n hx hb dX9_lastsFor_50 rfl (lv_at hl 0 rfl) ?_
                refine lv_iload_n hx hb dX9_lastsFor_51 rfl (lv_at hl 1 rfl) ?_
                refine m_callVi (As := [.int (iv k)]) (rest := []) ⟨hx, hb, hml, hown, hts⟩ hK hH hS (c_X9_isRight l G ν ν0 yy τ2 α β κ χ ω kn ik ln en fr pl wr hY k hO2 (by omega) (by omega)) (cwV 1 hts gX9_lastsFor_X9_isRight rfl rfl rfl (by decide +kernel) ⟨(Nat.le_of_ble_eq_true rfl), (Nat.le_of_ble_eq_true rfl)⟩) hY.1 rfl rfl rfl rfl hl.1 (Nat.le_of_ble_eq_true rfl) dX9_lastsFor_52 ⟨Nat.zero_le _, Nat.zero_le _⟩ (fun z15 μ12 n13 H locs hz15 hp14 hH hS => ?_)
                obtain ⟨hz2, hm2, hn2⟩ := hp14; rw [hz2]; rw [hm2, hn2] at hH; clear hz2 hm2 hn2
                have hr01 := rtF_01 τ2 (dig (σ 3 + d0)) k
                refine j_norm (y := (rtF τ2 (dig (σ 3 + d0)) k)) (by rw [h32]) ?_
                refine j_if_ne (tgt := 61) hx hb dX9_lastsFor_55 (by decide) (fun c16 => ?_) (fun c16 => ?_) (by omega)
                · skip
                  refine lv_aload_n hx hb dX9_lastsFor_61 rfl (lv_at hl 0 rfl) ?_
                  refine lv_iload_n hx hb dX9_lastsFor_62 rfl (lv_at hl 1 rfl) ?_
                  refine m_callVv (As := [.int (iv k)]) (rest := []) ⟨hx, hb, hml, hown, hts⟩ hK hH hS (c_X9_wearOut l G ν ν0 yy τ2 α β κ χ ω kn ik ln en fr pl wr hY k hO2 (by omega)) (cwV 1 hts gX9_lastsFor_X9_wearOut rfl rfl rfl (by decide +kernel) ⟨(Nat.le_of_ble_eq_true rfl), (Nat.le_of_ble_eq_true rfl)⟩) hY.1 rfl rfl rfl rfl hl.1 (Nat.le_of_ble_eq_true rfl) dX9_lastsFor_63 ⟨Nat.zero_le _, Nat.zero_le _⟩ (fun μ17 n18 H locs hp19 hH hS => ?_)
                  obtain ⟨hY, hfr1⟩ := hp19
                  have hfr := hfr.tr hfr1
                  clear hfr1
                  refine j_iinc (lv' := [(6, .int (iv ((j0 : Int) + 1))), (0, .ref yy), (1, .int (iv k)), (2, .int (iv t)), (3, .int (iv (σ 4))), (4, .int (iv (d0 : Int)))]) hx hb dX9_lastsFor_66 hl (k := 5) rfl (by decide) rfl (fun ls hl => ?_)
                  refine lv_goto (tgt := 44) hx hb dX9_lastsFor_69 (by decide) ?_
                  exact ih8 (j0 + 1) (onceF τ2 k) μ17 n18 hY hfr (by omega) (by rw [hτ2]; rfl) (by show (if okN (adj τ (dig (σ 3 + d0))) (dig (σ 3 + d0)) k j0 = 1 ∧ rtF (nOnce (adj τ (dig (σ 3 + d0))) k j0) (dig (σ 3 + d0)) k = 1 then 1 else 0) = (1 : Int); rw [← hτ2, if_pos ⟨hok, by omega⟩]) (by omega) H locs ls hH hS (lv_sub hl [1, 2, 3, 4, 5, 0] rfl)
                · skip
                  refine lv_iload hx hb dX9_lastsFor_58 (lv_at hl 4 rfl) ?_
                  subst hQ
                  refine m_iret hx hb hr hlocks hH hS dX9_lastsFor_60 ?_ (by omega)
                  refine ⟨?_, ⟨_, hY⟩, hfr⟩
                  have hno : okN (adj ξ0 (dig (σ 3 + d0))) (dig (σ 3 + d0)) k t.toNat = 0 := by
                    rw [← hEa.okE hOx _ (by omega)]
                    refine okN_0 (i := j0 + 1) (by omega) ?_
                    show (if okN (adj τ (dig (σ 3 + d0))) (dig (σ 3 + d0)) k j0 = 1 ∧ rtF (nOnce (adj τ (dig (σ 3 + d0))) k j0) (dig (σ 3 + d0)) k = 1 then 1 else 0) = (0 : Int)
                    rw [← hτ2, if_neg (fun q9 => by have q8 := q9.2; omega)]
                  have hd9 : lasF σ k t = (d0 : Int) := by rw [hls, show 200 - d0 = (200 - (d0 + 1)) + 1 by omega]; exact lsF_n (by omega) (by rw [hno]; omega)
                  rw [hd9]
                  exact (if_neg (by omega)).symm
          exact lp44 (21) 0 (adj τ (dig (σ 3 + d0))) μ4 n5 hY hfr (by omega) rfl rfl (by omega) H locs ls hH hS (lv_sub hl [2, 3, 4, 5, 6, 0] rfl)
  exact lp10 (201) 0 σ σ μ n hY hfr (by omega) EqS.rf (by show σ 3 = σ 3 + ((0 : Nat) : Int); omega) hOk rfl (by omega) H locs ls hH hS (lv_sub hl [2, 3, 4, 1, 0] rfl)

abbrev rm_t_X9_lasts : Room := { frames := 6, cells := 0, slots := 0, locals := 139 }
set_option maxHeartbeats 4000000 in
set_option maxRecDepth 100000 in
theorem t_X9_lasts (l : Launch) (G : wG) (μ : hM) (n : Nat) (yy : Nat) (u0 : aS) (en : Int) (k t : Int) (hM0 : IsM G μ yy u0 en) (hen : en ≤ 5900) (hO : OkD (aD u0)) (hBk : -2147483648 ≤ k ∧ k ≤ 2147483647) (hBt : -2147483648 ≤ t ∧ t ≤ 2147483647) : Met l yX9_lasts wsX9_lasts rm_t_X9_lasts (mPc G μ n [.ref yy, .int (iv k), .int (iv t)]) (mQi G (fun z μ1 n1 => z = a_lasts (aD u0).1 k t ∧ IsM G μ1 yy u0 en ∧ MFr yy μ μ1)) 0 0 (gA G) := by
  refine Met.ofW (cc := cX9_lasts) (maxL := 4) (ret := (some .int)) (by decide) rfl ?_
  intro p e s m args below meth c s₁ B hml hv
  obtain ⟨hav, hK, hH⟩ := hv
  have hx := B.exec
  have hb := B.bytes
  have hr := B.returns
  have hts := atoms_spec (ws := wsX9_lasts) B.pre
  have hown : s.vm.findClass RX9 = some m.cls := findClass_of_methodNamed B.named
  have hlocks := B.notSynchronized
  have hS : va_S (gA G) s.heap s.heap [] := va_S.rf
  have hl := lv_entry ([.ref yy, .int (iv k), .int (iv t)]) (n := 4) (Nat.le_of_ble_eq_true rfl)
  have hfr : entryFrame m args 4 = entryFrame m ([.ref yy, .int (iv k), .int (iv t)] : List Value).toArray 4 := by rw [hav]
  rw [hfr, lg_entry_eq]
  generalize (lg_sl ([.ref yy, .int (iv k), .int (iv t)]) ++ List.replicate (4 - (lg_sl ([.ref yy, .int (iv k), .int (iv t)])).length) Slot.unset).toArray = ls at hl ⊢
  have hl : lv_has ls 4 [(0, .ref yy), (1, .int (iv k)), (2, .int (iv t))] := hl
  generalize hQ : MQ below _ args s 0 0 (gA G) = Q
  show W p l e rm_t_X9_lasts s m args below meth c s.heap [] 0 0 Q (F0 m 0 ls [])
  obtain ⟨H, hHe⟩ : ∃ H, H = s.heap := ⟨_, rfl⟩
  obtain ⟨locs, hlo⟩ : ∃ q : List Loc, q = [] := ⟨_, rfl⟩
  have hH : gP G μ n H := by rw [hHe]; exact hH
  have hS : va_S (gA G) s.heap H locs := by rw [hHe, hlo]; exact hS
  suffices hgo : W p l e rm_t_X9_lasts s m args below meth c H locs 0 0 Q (F0 m 0 ls []) by rw [hHe, hlo] at hgo; exact hgo
  clear hHe hlo hfr hav
  have f_0 := hts (.constant RX9 179 (1000000)) (List.mem_of_getElem? (i := 1) rfl)
  have hfr : MFr yy μ μ := MFr.rf
  obtain ⟨α, β, κ, ω, fr, pl, wr, hY, hR⟩ := hM0
  have hT := hO.1
  have hOk := hT.1
  have h3 := hT.2.1
  have h5 := hT.2.2.1
  have h4 := hOk.2.2.2.1
  have hPD := hR.1
  have hen0 := hR.2.2.2.1
  have hkn := hR.2.2.2.2.1
  have hik := hR.2.2.2.2.2.1
  have hOC := hR.2.2.2.2.2.2
  have hl0 := hOC.1
  refine lv_iload_n hx hb dX9_lasts_0 rfl (lv_at hl 1 rfl) ?_
  refine lv_iload_n hx hb dX9_lasts_1 rfl (lv_at hl 2 rfl) ?_
  refine m_callSi (As := [.int (iv k), .int (iv t)]) (rest := []) ⟨hx, hb, hml, hown, hts⟩ hK hH hS (c_X9_arePresses l G μ n k t (by omega) (by omega)) (va_cwS 2 hts gX9_lasts_X9_arePresses rfl rfl rfl (by decide +kernel) ⟨(Nat.le_of_ble_eq_true rfl), (Nat.le_of_ble_eq_true rfl)⟩) rfl rfl hl.1 (Nat.le_of_ble_eq_true rfl) dX9_lasts_2 ⟨Nat.zero_le _, Nat.zero_le _⟩ (fun z4 μ1 n2 H locs hz4 hp3 hH hS => ?_)
  obtain ⟨hz9, hm9, hn9⟩ := hp3
  rw [hm9, hn9] at hH
  have hz4c : (z4 = 1 ∧ ((1 ≤ k ∧ k ≤ 9) ∧ 1 ≤ t ∧ t ≤ 20)) ∨ (z4 = 0 ∧ ¬ ((1 ≤ k ∧ k ≤ 9) ∧ 1 ≤ t ∧ t ≤ 20)) := by
    by_cases q9 : (1 ≤ k ∧ k ≤ 9) ∧ 1 ≤ t ∧ t ≤ 20
    · rw [if_pos q9] at hz9; exact Or.inl ⟨hz9, q9⟩
    · rw [if_neg q9] at hz9; exact Or.inr ⟨hz9, q9⟩
  clear hz9 hm9 hn9
  refine j_if_ne (tgt := 11) hx hb dX9_lasts_5 (by decide) (fun c5 => ?_) (fun c5 => ?_) (by omega)
  · skip
    refine lv_aload_n hx hb dX9_lasts_11 rfl (lv_at hl 0 rfl) ?_
    refine m_callVv (As := []) (rest := []) ⟨hx, hb, hml, hown, hts⟩ hK hH hS (c_X9_putAside l G μ n yy ((aD u0).1) α β κ (aC u0) ω (aN u0) (aT u0) (aL u0) en fr pl wr hY ) (cwV 0 hts gX9_lasts_X9_putAside rfl rfl rfl (by decide +kernel) ⟨(Nat.le_of_ble_eq_true rfl), (Nat.le_of_ble_eq_true rfl)⟩) hY.1 rfl rfl rfl rfl hl.1 (Nat.le_of_ble_eq_true rfl) dX9_lasts_12 ⟨Nat.zero_le _, Nat.zero_le _⟩ (fun μ6 n7 H locs hp8 hH hS => ?_)
    obtain ⟨hY, hfr1⟩ := hp8
    have hfr := hfr.tr hfr1
    clear hfr1
    refine lv_aload_n hx hb dX9_lasts_15 rfl (lv_at hl 0 rfl) ?_
    refine lv_iload_n hx hb dX9_lasts_16 rfl (lv_at hl 1 rfl) ?_
    refine lv_iload_n hx hb dX9_lasts_17 rfl (lv_at hl 2 rfl) ?_
    refine m_callVi (As := [.int (iv k), .int (iv t)]) (rest := []) ⟨hx, hb, hml, hown, hts⟩ hK hH hS (c_X9_lastsFor l G μ6 n7 yy ((aD u0).1) ((aD u0).1) β κ (aC u0) ω (aN u0) (aT u0) (aL u0) en (en + 1) pl wr hY k t hOk (by omega) (by omega) (by omega)) (cwV 2 hts gX9_lasts_X9_lastsFor rfl rfl rfl (by decide +kernel) ⟨(Nat.le_of_ble_eq_true rfl), (Nat.le_of_ble_eq_true rfl)⟩) hY.1 rfl rfl rfl rfl hl.1 (Nat.le_of_ble_eq_true rfl) dX9_lasts_18 ⟨Nat.zero_le _, Nat.zero_le _⟩ (fun z12 μ9 n10 H locs hz12 hp11 hH hS => ?_)
    obtain ⟨hz9, ⟨σ13, hY⟩, hfr1⟩ := hp11
    have hfr := hfr.tr hfr1
    clear hfr1
    rw [hz9]
    clear hz9
    have hlrσ13 := lasF_rng ((aD u0).1) k t
    have hfvσ13 : (lasF ((aD u0).1) k t = 200 ∧ farV (lasF ((aD u0).1) k t) = 1000000) ∨ (lasF ((aD u0).1) k t ≠ 200 ∧ farV (lasF ((aD u0).1) k t) = lasF ((aD u0).1) k t) := by unfold farV; split; exact Or.inl ⟨by assumption, rfl⟩; exact Or.inr ⟨by assumption, rfl⟩
    refine lv_istore_n (lv' := [(3, .int (iv (farV (lasF ((aD u0).1) k t)))), (0, .ref yy), (1, .int (iv k)), (2, .int (iv t))]) hx hb dX9_lasts_21 rfl hl (by decide) rfl (fun ls hl => ?_)
    refine lv_aload_n hx hb dX9_lasts_22 rfl (lv_at hl 1 rfl) ?_
    refine m_callVv (As := []) (rest := []) ⟨hx, hb, hml, hown, hts⟩ hK hH hS (c_X9_putBack l G μ9 n10 yy σ13 ((aD u0).1) β κ (aC u0) ω (aN u0) (aT u0) (aL u0) en (en + 1) pl wr hY ) (cwV 0 hts gX9_lasts_X9_putBack rfl rfl rfl (by decide +kernel) ⟨(Nat.le_of_ble_eq_true rfl), (Nat.le_of_ble_eq_true rfl)⟩) hY.1 rfl rfl rfl rfl hl.1 (Nat.le_of_ble_eq_true rfl) dX9_lasts_23 ⟨Nat.zero_le _, Nat.zero_le _⟩ (fun μ14 n15 H locs hp16 hH hS => ?_)
    obtain ⟨hY, hfr1⟩ := hp16
    have hfr := hfr.tr hfr1
    clear hfr1
    have hq9 : ((en + 1) - 1) = en := (by omega)
    rw [hq9] at hY
    clear hq9
    refine lv_iload_n hx hb dX9_lasts_26 rfl (lv_at hl 0 rfl) ?_
    refine j_ldc hx hb (1000000) hown f_0 dX9_lasts_27 ?_ (by decide)
    refine j_icmp_ne (tgt := 37) hx hb dX9_lasts_29 (by decide) (fun c17 => ?_) (fun c17 => ?_) (by omega) (by omega)
    · skip
      refine lv_iload_n hx hb dX9_lasts_37 rfl (lv_at hl 0 rfl) ?_
      subst hQ
      refine m_iret hx hb hr hlocks hH hS dX9_lasts_38 ?_ (by omega)
      unfold a_lasts
      rw [if_pos (by omega)]
      rw [if_neg (by omega)]
      exact ⟨by omega, ⟨_, _, _, _, _, _, _, hY, hR⟩, hfr⟩
    · skip
      refine j_bipush hx hb dX9_lasts_32 ?_ (by decide)
      refine lv_goto (tgt := 38) hx hb dX9_lasts_34 (by decide) ?_
      subst hQ
      refine m_iret hx hb hr hlocks hH hS dX9_lasts_38 ?_ (by omega)
      unfold a_lasts
      rw [if_pos (by omega)]
      rw [if_pos (by omega)]
      exact ⟨rfl, ⟨_, _, _, _, _, _, _, hY, hR⟩, hfr⟩
  · skip
    refine j_bipush hx hb dX9_lasts_8 ?_ (by decide)
    subst hQ
    refine m_iret hx hb hr hlocks hH hS dX9_lasts_10 ?_ (by omega)
    unfold a_lasts
    rw [if_neg (by omega)]
    exact ⟨rfl, ⟨_, _, _, _, _, _, _, hY, hR⟩, hfr⟩

abbrev rm_t_X9_bestExchange : Room := { frames := 6, cells := 0, slots := 0, locals := 139 }
set_option maxHeartbeats 4000000 in
set_option maxRecDepth 100000 in
theorem t_X9_bestExchange (l : Launch) (G : wG) (μ : hM) (n : Nat) (yy : Nat) (u0 : aS) (en : Int) (k t : Int) (hM0 : IsM G μ yy u0 en) (hen : en ≤ 5900) (hO : OkD (aD u0)) (hBk : -2147483648 ≤ k ∧ k ≤ 2147483647) (hBt : -2147483648 ≤ t ∧ t ≤ 2147483647) : Met l yX9_bestExchange wsX9_bestExchange rm_t_X9_bestExchange (mPc G μ n [.ref yy, .int (iv k), .int (iv t)]) (mQi G (fun z μ1 n1 => z = a_best (aD u0).1 k t ∧ IsM G μ1 yy u0 en ∧ MFr yy μ μ1)) 0 0 (gA G) := by
  refine Met.ofW (cc := cX9_bestExchange) (maxL := 9) (ret := (some .int)) (by decide) rfl ?_
  intro p e s m args below meth c s₁ B hml hv
  obtain ⟨hav, hK, hH⟩ := hv
  have hx := B.exec
  have hb := B.bytes
  have hr := B.returns
  have hts := atoms_spec (ws := wsX9_bestExchange) B.pre
  have hown : s.vm.findClass RX9 = some m.cls := findClass_of_methodNamed B.named
  have hlocks := B.notSynchronized
  have hS : va_S (gA G) s.heap s.heap [] := va_S.rf
  have hl := lv_entry ([.ref yy, .int (iv k), .int (iv t)]) (n := 9) (Nat.le_of_ble_eq_true rfl)
  have hfr : entryFrame m args 9 = entryFrame m ([.ref yy, .int (iv k), .int (iv t)] : List Value).toArray 9 := by rw [hav]
  rw [hfr, lg_entry_eq]
  generalize (lg_sl ([.ref yy, .int (iv k), .int (iv t)]) ++ List.replicate (9 - (lg_sl ([.ref yy, .int (iv k), .int (iv t)])).length) Slot.unset).toArray = ls at hl ⊢
  have hl : lv_has ls 9 [(0, .ref yy), (1, .int (iv k)), (2, .int (iv t))] := hl
  generalize hQ : MQ below _ args s 0 0 (gA G) = Q
  show W p l e rm_t_X9_bestExchange s m args below meth c s.heap [] 0 0 Q (F0 m 0 ls [])
  obtain ⟨H, hHe⟩ : ∃ H, H = s.heap := ⟨_, rfl⟩
  obtain ⟨locs, hlo⟩ : ∃ q : List Loc, q = [] := ⟨_, rfl⟩
  have hH : gP G μ n H := by rw [hHe]; exact hH
  have hS : va_S (gA G) s.heap H locs := by rw [hHe, hlo]; exact hS
  suffices hgo : W p l e rm_t_X9_bestExchange s m args below meth c H locs 0 0 Q (F0 m 0 ls []) by rw [hHe, hlo] at hgo; exact hgo
  clear hHe hlo hfr hav
  have hfr : MFr yy μ μ := MFr.rf
  obtain ⟨α, β, κ, ω, fr, pl, wr, hY, hR⟩ := hM0
  have hT := hO.1
  have hOk := hT.1
  have h3 := hT.2.1
  have h5 := hT.2.2.1
  have h4 := hOk.2.2.2.1
  have hPD := hR.1
  have hen0 := hR.2.2.2.1
  have hkn := hR.2.2.2.2.1
  have hik := hR.2.2.2.2.2.1
  have hOC := hR.2.2.2.2.2.2
  have hl0 := hOC.1
  refine lv_iload_n hx hb dX9_bestExchange_0 rfl (lv_at hl 1 rfl) ?_
  refine lv_iload_n hx hb dX9_bestExchange_1 rfl (lv_at hl 2 rfl) ?_
  refine m_callSi (As := [.int (iv k), .int (iv t)]) (rest := []) ⟨hx, hb, hml, hown, hts⟩ hK hH hS (c_X9_arePresses l G μ n k t (by omega) (by omega)) (va_cwS 2 hts gX9_bestExchange_X9_arePresses rfl rfl rfl (by decide +kernel) ⟨(Nat.le_of_ble_eq_true rfl), (Nat.le_of_ble_eq_true rfl)⟩) rfl rfl hl.1 (Nat.le_of_ble_eq_true rfl) dX9_bestExchange_2 ⟨Nat.zero_le _, Nat.zero_le _⟩ (fun z4 μ1 n2 H locs hz4 hp3 hH hS => ?_)
  obtain ⟨hz9, hm9, hn9⟩ := hp3
  rw [hm9, hn9] at hH
  have hz4c : (z4 = 1 ∧ ((1 ≤ k ∧ k ≤ 9) ∧ 1 ≤ t ∧ t ≤ 20)) ∨ (z4 = 0 ∧ ¬ ((1 ≤ k ∧ k ≤ 9) ∧ 1 ≤ t ∧ t ≤ 20)) := by
    by_cases q9 : (1 ≤ k ∧ k ≤ 9) ∧ 1 ≤ t ∧ t ≤ 20
    · rw [if_pos q9] at hz9; exact Or.inl ⟨hz9, q9⟩
    · rw [if_neg q9] at hz9; exact Or.inr ⟨hz9, q9⟩
  clear hz9 hm9 hn9
  refine j_if_ne (tgt := 11) hx hb dX9_bestExchange_5 (by decide) (fun c5 => ?_) (fun c5 => ?_) (by omega)
  · skip
    refine lv_aload_n hx hb dX9_bestExchange_11 rfl (lv_at hl 0 rfl) ?_
    refine m_callVv (As := []) (rest := []) ⟨hx, hb, hml, hown, hts⟩ hK hH hS (c_X9_putAside l G μ n yy ((aD u0).1) α β κ (aC u0) ω (aN u0) (aT u0) (aL u0) en fr pl wr hY ) (cwV 0 hts gX9_bestExchange_X9_putAside rfl rfl rfl (by decide +kernel) ⟨(Nat.le_of_ble_eq_true rfl), (Nat.le_of_ble_eq_true rfl)⟩) hY.1 rfl rfl rfl rfl hl.1 (Nat.le_of_ble_eq_true rfl) dX9_bestExchange_12 ⟨Nat.zero_le _, Nat.zero_le _⟩ (fun μ6 n7 H locs hp8 hH hS => ?_)
    obtain ⟨hY, hfr1⟩ := hp8
    have hfr := hfr.tr hfr1
    clear hfr1
    refine lv_aload_n hx hb dX9_bestExchange_15 rfl (lv_at hl 0 rfl) ?_
    refine lv_iload_n hx hb dX9_bestExchange_16 rfl (lv_at hl 1 rfl) ?_
    refine lv_iload_n hx hb dX9_bestExchange_17 rfl (lv_at hl 2 rfl) ?_
    refine m_callVi (As := [.int (iv k), .int (iv t)]) (rest := []) ⟨hx, hb, hml, hown, hts⟩ hK hH hS (c_X9_lastsFor l G μ6 n7 yy ((aD u0).1) ((aD u0).1) β κ (aC u0) ω (aN u0) (aT u0) (aL u0) en (en + 1) pl wr hY k t hOk (by omega) (by omega) (by omega)) (cwV 2 hts gX9_bestExchange_X9_lastsFor rfl rfl rfl (by decide +kernel) ⟨(Nat.le_of_ble_eq_true rfl), (Nat.le_of_ble_eq_true rfl)⟩) hY.1 rfl rfl rfl rfl hl.1 (Nat.le_of_ble_eq_true rfl) dX9_bestExchange_18 ⟨Nat.zero_le _, Nat.zero_le _⟩ (fun z12 μ9 n10 H locs hz12 hp11 hH hS => ?_)
    obtain ⟨hz9, ⟨σ13, hY⟩, hfr1⟩ := hp11
    have hfr := hfr.tr hfr1
    clear hfr1
    rw [hz9]
    clear hz9
    have hlrσ13 := lasF_rng ((aD u0).1) k t
    have hfvσ13 : (lasF ((aD u0).1) k t = 200 ∧ farV (lasF ((aD u0).1) k t) = 1000000) ∨ (lasF ((aD u0).1) k t ≠ 200 ∧ farV (lasF ((aD u0).1) k t) = lasF ((aD u0).1) k t) := by unfold farV; split; exact Or.inl ⟨by assumption, rfl⟩; exact Or.inr ⟨by assumption, rfl⟩
    refine lv_istore_n (lv' := [(3, .int (iv (farV (lasF ((aD u0).1) k t)))), (0, .ref yy), (1, .int (iv k)), (2, .int (iv t))]) hx hb dX9_bestExchange_21 rfl hl (by decide) rfl (fun ls hl => ?_)
    refine lv_aload_n hx hb dX9_bestExchange_22 rfl (lv_at hl 1 rfl) ?_
    refine m_callVv (As := []) (rest := []) ⟨hx, hb, hml, hown, hts⟩ hK hH hS (c_X9_putBack l G μ9 n10 yy σ13 ((aD u0).1) β κ (aC u0) ω (aN u0) (aT u0) (aL u0) en (en + 1) pl wr hY ) (cwV 0 hts gX9_bestExchange_X9_putBack rfl rfl rfl (by decide +kernel) ⟨(Nat.le_of_ble_eq_true rfl), (Nat.le_of_ble_eq_true rfl)⟩) hY.1 rfl rfl rfl rfl hl.1 (Nat.le_of_ble_eq_true rfl) dX9_bestExchange_23 ⟨Nat.zero_le _, Nat.zero_le _⟩ (fun μ14 n15 H locs hp16 hH hS => ?_)
    obtain ⟨hY, hfr1⟩ := hp16
    have hfr := hfr.tr hfr1
    clear hfr1
    have hq9 : ((en + 1) - 1) = en := (by omega)
    rw [hq9] at hY
    clear hq9
    refine j_bipush hx hb dX9_bestExchange_26 ?_ (by decide)
    refine lv_istore (lv' := [(4, .int (iv (-5))), (3, .int (iv (farV (lasF ((aD u0).1) k t)))), (0, .ref yy), (1, .int (iv k)), (2, .int (iv t))]) hx hb dX9_bestExchange_28 hl (by decide) rfl (fun ls hl => ?_)
    refine j_const hx hb dX9_bestExchange_30 ?_
    refine lv_istore (lv' := [(5, .int (iv 0)), (4, .int (iv (-5))), (3, .int (iv (farV (lasF ((aD u0).1) k t)))), (0, .ref yy), (1, .int (iv k)), (2, .int (iv t))]) hx hb dX9_bestExchange_31 hl (by decide) rfl (fun ls hl => ?_)
    have lp33 : ∀ (fuel : Nat) (kk : Nat) (m0 : Int) (f0 : Int) (ν : hM) (ν0 : Nat) (hY : IsMM G ν yy ((aD u0).1) ((aD u0).1) β κ (aC u0) ω (aN u0) (aT u0) (aL u0) en (en + 1) pl wr) (hfr : MFr yy μ ν) (hkk : kk ≤ 36) (hm : m0 = farV (beL (aD u0).1 k t (lasF (aD u0).1 k t, -5) kk).1) (hf : f0 = (beL (aD u0).1 k t (lasF (aD u0).1 k t, -5) kk).2) (hf9 : -5 ≤ f0 ∧ f0 ≤ 100) (_ : 36 - kk < fuel) (H : Heap) (locs : List Loc) (ls : Array Slot) (_ : gP G ν ν0 H) (_ : va_S (gA G) s.heap H locs) (_ : lv_has ls 9 [(0, .ref yy), (1, .int (iv k)), (2, .int (iv t)), (3, .int (iv m0)), (4, .int (iv f0)), (5, .int (iv (kk : Int)))]), W p l e rm_t_X9_bestExchange s m args below meth c H locs 0 0 Q (F0 m 33 ls []) := by
      intro fuel
      induction fuel with
      | zero => intro _ _ _ _ _ _ _ _ _ _ _ hfuel; exact absurd hfuel (Nat.not_lt_zero _)
      | succ fuel ih =>
        intro kk m0 f0 ν ν0 hY hfr hkk hm hf hf9 hfuel H locs ls hH hS hl
        have hbr := beL_rng (σ := (aD u0).1) (k := k) (t := t) (x := (lasF (aD u0).1 k t, -5)) (lasF_rng (aD u0).1 k t) kk
        have hfm : ((beL (aD u0).1 k t (lasF (aD u0).1 k t, -5) kk).1 = 200 ∧ m0 = 1000000) ∨ ((beL (aD u0).1 k t (lasF (aD u0).1 k t, -5) kk).1 ≠ 200 ∧ m0 = (beL (aD u0).1 k t (lasF (aD u0).1 k t, -5) kk).1) := by rw [hm]; unfold farV; split; exact Or.inl ⟨by assumption, rfl⟩; exact Or.inr ⟨by assumption, rfl⟩
        have ih17 := ih; clear ih
        refine lv_iload hx hb dX9_bestExchange_33 (lv_at hl 5 rfl) ?_
        refine j_bipush hx hb dX9_bestExchange_35 ?_ (by decide)
        refine j_icmp_ge (tgt := 121) hx hb dX9_bestExchange_37 (by decide) (fun c18 => ?_) (fun c18 => ?_) (by omega) (by omega)
        · skip
          refine lv_iload hx hb dX9_bestExchange_121 (lv_at hl 4 rfl) ?_
          subst hQ
          refine m_iret hx hb hr hlocks hH hS dX9_bestExchange_123 ?_ (by omega)
          unfold a_best
          rw [if_pos (by omega), ← beL_36, ← show kk = 36 by omega]
          exact ⟨hf, ⟨_, _, _, _, _, _, _, hY, hR⟩, hfr⟩
        · skip
          refine lv_iload hx hb dX9_bestExchange_40 (lv_at hl 5 rfl) ?_
          refine j_bipush hx hb dX9_bestExchange_42 ?_ (by decide)
          refine j_idiv hx hb dX9_bestExchange_44 ?_ (by omega) (by omega)
          refine j_norm (y := ((kk / 6 : Nat) : Int)) (by omega) ?_
          refine lv_istore (lv' := [(6, .int (iv ((kk / 6 : Nat) : Int))), (0, .ref yy), (1, .int (iv k)), (2, .int (iv t)), (3, .int (iv m0)), (4, .int (iv f0)), (5, .int (iv (kk : Int)))]) hx hb dX9_bestExchange_45 hl (by decide) rfl (fun ls hl => ?_)
          refine lv_iload hx hb dX9_bestExchange_47 (lv_at hl 6 rfl) ?_
          refine j_bipush hx hb dX9_bestExchange_49 ?_ (by decide)
          refine j_irem hx hb dX9_bestExchange_51 ?_ (by omega) (by omega)
          refine j_norm (y := ((kk % 6 : Nat) : Int)) (by omega) ?_
          refine lv_istore (lv' := [(7, .int (iv ((kk % 6 : Nat) : Int))), (6, .int (iv ((kk / 6 : Nat) : Int))), (0, .ref yy), (1, .int (iv k)), (2, .int (iv t)), (3, .int (iv m0)), (4, .int (iv f0)), (5, .int (iv (kk : Int)))]) hx hb dX9_bestExchange_52 hl (by decide) rfl (fun ls hl => ?_)
          refine lv_iload hx hb dX9_bestExchange_54 (lv_at hl 1 rfl) ?_
          refine lv_iload hx hb dX9_bestExchange_56 (lv_at hl 0 rfl) ?_
          refine j_icmp_ge (tgt := 115) hx hb dX9_bestExchange_58 (by decide) (fun c19 => ?_) (fun c19 => ?_) (by omega) (by omega)
          · skip
            have hstep : (beL (aD u0).1 k t (lasF (aD u0).1 k t, -5) (kk + 1)) = if kk / 6 < kk % 6 then beS (aD u0).1 k t (kk / 6) (kk % 6) (beL (aD u0).1 k t (lasF (aD u0).1 k t, -5) kk) else (beL (aD u0).1 k t (lasF (aD u0).1 k t, -5) kk) := rfl
            rw [if_neg (by omega)] at hstep
            have hm9 : m0 = farV (beL (aD u0).1 k t (lasF (aD u0).1 k t, -5) (kk + 1)).1 := by rw [hstep]; exact hm
            have hf8 : f0 = (beL (aD u0).1 k t (lasF (aD u0).1 k t, -5) (kk + 1)).2 := by rw [hstep]; exact hf
            refine j_iinc (lv' := [(5, .int (iv ((kk : Int) + 1))), (7, .int (iv ((kk % 6 : Nat) : Int))), (6, .int (iv ((kk / 6 : Nat) : Int))), (0, .ref yy), (1, .int (iv k)), (2, .int (iv t)), (3, .int (iv m0)), (4, .int (iv f0))]) hx hb dX9_bestExchange_115 hl (k := 7) rfl (by decide) rfl (fun ls hl => ?_)
            refine lv_goto (tgt := 33) hx hb dX9_bestExchange_118 (by decide) ?_
            exact ih17 (kk + 1) m0 f0 ν ν0 hY hfr (by omega) hm9 hf8 (by omega) (by omega) H locs ls hH hS (lv_sub hl [3, 4, 5, 6, 7, 0] rfl)
          · skip
            have hpq : kk / 6 < kk % 6 := by omega
            have hOs := okS_swp hOk (a := kk / 6) (b := kk % 6) (by omega) (by omega)
            have h3s : swpS (aD u0).1 (kk / 6) (kk % 6) 3 = (aD u0).1 3 := swpS_ot (by omega)
            refine lv_aload_n hx hb dX9_bestExchange_61 rfl (lv_at hl 2 rfl) ?_
            refine lv_iload hx hb dX9_bestExchange_62 (lv_at hl 1 rfl) ?_
            refine lv_iload hx hb dX9_bestExchange_64 (lv_at hl 0 rfl) ?_
            refine m_callVv (As := [.int (iv ((kk / 6 : Nat) : Int)), .int (iv ((kk % 6 : Nat) : Int))]) (rest := []) ⟨hx, hb, hml, hown, hts⟩ hK hH hS (c_X9_exchanges l G ν ν0 yy ((aD u0).1) ((aD u0).1) β κ (aC u0) ω (aN u0) (aT u0) (aL u0) en (en + 1) pl wr hY (kk / 6) (kk % 6) (by omega) (by omega) (by omega)) (cwV 2 hts gX9_bestExchange_X9_exchanges rfl rfl rfl (by decide +kernel) ⟨(Nat.le_of_ble_eq_true rfl), (Nat.le_of_ble_eq_true rfl)⟩) hY.1 rfl rfl rfl rfl hl.1 (Nat.le_of_ble_eq_true rfl) dX9_bestExchange_66 ⟨Nat.zero_le _, Nat.zero_le _⟩ (fun μ20 n21 H locs hp22 hH hS => ?_)
            obtain ⟨hY, hfr1⟩ := hp22
            have hfr := hfr.tr hfr1
            clear hfr1
            refine lv_aload_n hx hb dX9_bestExchange_69 rfl (lv_at hl 2 rfl) ?_
            refine lv_iload_n hx hb dX9_bestExchange_70 rfl (lv_at hl 3 rfl) ?_
            refine lv_iload_n hx hb dX9_bestExchange_71 rfl (lv_at hl 4 rfl) ?_
            refine m_callVi (As := [.int (iv k), .int (iv t)]) (rest := []) ⟨hx, hb, hml, hown, hts⟩ hK hH hS (c_X9_lastsFor l G μ20 n21 yy (swpS ((aD u0).1) (kk / 6) (kk % 6)) ((aD u0).1) β κ (aC u0) ω (aN u0) (aT u0) (aL u0) en (en + 1) pl wr hY k t hOs (by rw [h3s]; exact h3) (by omega) (by omega)) (cwV 2 hts gX9_bestExchange_X9_lastsFor rfl rfl rfl (by decide +kernel) ⟨(Nat.le_of_ble_eq_true rfl), (Nat.le_of_ble_eq_true rfl)⟩) hY.1 rfl rfl rfl rfl hl.1 (Nat.le_of_ble_eq_true rfl) dX9_bestExchange_72 ⟨Nat.zero_le _, Nat.zero_le _⟩ (fun z26 μ23 n24 H locs hz26 hp25 hH hS => ?_)
            obtain ⟨hz9, ⟨σ27, hY⟩, hfr1⟩ := hp25
            have hfr := hfr.tr hfr1
            clear hfr1
            rw [hz9]
            clear hz9
            have hlrσ27 := lasF_rng (swpS ((aD u0).1) (kk / 6) (kk % 6)) k t
            have hfvσ27 : (lasF (swpS ((aD u0).1) (kk / 6) (kk % 6)) k t = 200 ∧ farV (lasF (swpS ((aD u0).1) (kk / 6) (kk % 6)) k t) = 1000000) ∨ (lasF (swpS ((aD u0).1) (kk / 6) (kk % 6)) k t ≠ 200 ∧ farV (lasF (swpS ((aD u0).1) (kk / 6) (kk % 6)) k t) = lasF (swpS ((aD u0).1) (kk / 6) (kk % 6)) k t) := by unfold farV; split; exact Or.inl ⟨by assumption, rfl⟩; exact Or.inr ⟨by assumption, rfl⟩
            refine lv_istore (lv' := [(8, .int (iv (farV (lasF (swpS ((aD u0).1) (kk / 6) (kk % 6)) k t)))), (7, .int (iv ((kk % 6 : Nat) : Int))), (6, .int (iv ((kk / 6 : Nat) : Int))), (0, .ref yy), (1, .int (iv k)), (2, .int (iv t)), (3, .int (iv m0)), (4, .int (iv f0)), (5, .int (iv (kk : Int)))]) hx hb dX9_bestExchange_75 hl (by decide) rfl (fun ls hl => ?_)
            refine lv_aload_n hx hb dX9_bestExchange_77 rfl (lv_at hl 3 rfl) ?_
            refine m_callVv (As := []) (rest := []) ⟨hx, hb, hml, hown, hts⟩ hK hH hS (c_X9_putBack l G μ23 n24 yy σ27 ((aD u0).1) β κ (aC u0) ω (aN u0) (aT u0) (aL u0) en (en + 1) pl wr hY ) (cwV 0 hts gX9_bestExchange_X9_putBack rfl rfl rfl (by decide +kernel) ⟨(Nat.le_of_ble_eq_true rfl), (Nat.le_of_ble_eq_true rfl)⟩) hY.1 rfl rfl rfl rfl hl.1 (Nat.le_of_ble_eq_true rfl) dX9_bestExchange_78 ⟨Nat.zero_le _, Nat.zero_le _⟩ (fun μ28 n29 H locs hp30 hH hS => ?_)
            obtain ⟨hY, hfr1⟩ := hp30
            have hfr := hfr.tr hfr1
            clear hfr1
            have hq9 : ((en + 1) - 1) = en := (by omega)
            rw [hq9] at hY
            clear hq9
            refine lv_iload hx hb dX9_bestExchange_81 (lv_at hl 0 rfl) ?_
            refine lv_iload_n hx hb dX9_bestExchange_83 rfl (lv_at hl 6 rfl) ?_
            refine j_icmp_le (tgt := 98) hx hb dX9_bestExchange_84 (by decide) (fun c31 => ?_) (fun c31 => ?_) (by omega) (by omega)
            · skip
              refine lv_iload hx hb dX9_bestExchange_98 (lv_at hl 7 rfl) ?_
              refine lv_istore (lv' := [(4, .int (iv f0)), (8, .int (iv (farV (lasF (swpS ((aD u0).1) (kk / 6) (kk % 6)) k t)))), (7, .int (iv ((kk % 6 : Nat) : Int))), (6, .int (iv ((kk / 6 : Nat) : Int))), (0, .ref yy), (1, .int (iv k)), (2, .int (iv t)), (3, .int (iv m0)), (5, .int (iv (kk : Int)))]) hx hb dX9_bestExchange_100 hl (by decide) rfl (fun ls hl => ?_)
              refine lv_iload hx hb dX9_bestExchange_102 (lv_at hl 1 rfl) ?_
              refine lv_iload_n hx hb dX9_bestExchange_104 rfl (lv_at hl 7 rfl) ?_
              refine j_icmp_le (tgt := 113) hx hb dX9_bestExchange_105 (by decide) (fun c32 => ?_) (fun c32 => absurd c32 (by omega)) (by omega) (by omega)
              refine lv_iload_n hx hb dX9_bestExchange_113 rfl (lv_at hl 7 rfl) ?_
              refine lv_istore_n (lv' := [(3, .int (iv m0)), (4, .int (iv f0)), (8, .int (iv (farV (lasF (swpS ((aD u0).1) (kk / 6) (kk % 6)) k t)))), (7, .int (iv ((kk % 6 : Nat) : Int))), (6, .int (iv ((kk / 6 : Nat) : Int))), (0, .ref yy), (1, .int (iv k)), (2, .int (iv t)), (5, .int (iv (kk : Int)))]) hx hb dX9_bestExchange_114 rfl hl (by decide) rfl (fun ls hl => ?_)
              have hstep : (beL (aD u0).1 k t (lasF (aD u0).1 k t, -5) (kk + 1)) = if kk / 6 < kk % 6 then beS (aD u0).1 k t (kk / 6) (kk % 6) (beL (aD u0).1 k t (lasF (aD u0).1 k t, -5) kk) else (beL (aD u0).1 k t (lasF (aD u0).1 k t, -5) kk) := rfl
              rw [if_pos hpq] at hstep
              unfold beS at hstep
              rw [if_neg (by omega)] at hstep
              have hm9 : m0 = farV (beL (aD u0).1 k t (lasF (aD u0).1 k t, -5) (kk + 1)).1 := by rw [hstep]; exact hm
              have hf8 : f0 = (beL (aD u0).1 k t (lasF (aD u0).1 k t, -5) (kk + 1)).2 := by rw [hstep]; exact hf
              refine j_iinc (lv' := [(5, .int (iv ((kk : Int) + 1))), (3, .int (iv m0)), (4, .int (iv f0)), (8, .int (iv (farV (lasF (swpS ((aD u0).1) (kk / 6) (kk % 6)) k t)))), (7, .int (iv ((kk % 6 : Nat) : Int))), (6, .int (iv ((kk / 6 : Nat) : Int))), (0, .ref yy), (1, .int (iv k)), (2, .int (iv t))]) hx hb dX9_bestExchange_115 hl (k := 8) rfl (by decide) rfl (fun ls hl => ?_)
              refine lv_goto (tgt := 33) hx hb dX9_bestExchange_118 (by decide) ?_
              exact ih17 (kk + 1) m0 f0 μ28 n29 hY hfr (by omega) hm9 hf8 (by omega) (by omega) H locs ls hH hS (lv_sub hl [6, 7, 8, 1, 2, 0] rfl)
            · skip
              refine j_bipush hx hb dX9_bestExchange_87 ?_ (by decide)
              refine lv_iload hx hb dX9_bestExchange_89 (lv_at hl 2 rfl) ?_
              refine j_imul hx hb dX9_bestExchange_91 ?_
              refine lv_iload hx hb dX9_bestExchange_92 (lv_at hl 1 rfl) ?_
              refine j_iadd hx hb dX9_bestExchange_94 ?_
              refine lv_goto (tgt := 100) hx hb dX9_bestExchange_95 (by decide) ?_
              refine lv_istore (lv' := [(4, .int (iv ((10 * ((kk / 6 : Nat) : Int)) + ((kk % 6 : Nat) : Int)))), (8, .int (iv (farV (lasF (swpS ((aD u0).1) (kk / 6) (kk % 6)) k t)))), (7, .int (iv ((kk % 6 : Nat) : Int))), (6, .int (iv ((kk / 6 : Nat) : Int))), (0, .ref yy), (1, .int (iv k)), (2, .int (iv t)), (3, .int (iv m0)), (5, .int (iv (kk : Int)))]) hx hb dX9_bestExchange_100 hl (by decide) rfl (fun ls hl => ?_)
              refine lv_iload hx hb dX9_bestExchange_102 (lv_at hl 1 rfl) ?_
              refine lv_iload_n hx hb dX9_bestExchange_104 rfl (lv_at hl 7 rfl) ?_
              refine j_icmp_le (tgt := 113) hx hb dX9_bestExchange_105 (by decide) (fun c33 => absurd c33 (by omega)) (fun c33 => ?_) (by omega) (by omega)
              refine lv_iload hx hb dX9_bestExchange_108 (lv_at hl 1 rfl) ?_
              refine lv_goto (tgt := 114) hx hb dX9_bestExchange_110 (by decide) ?_
              refine lv_istore_n (lv' := [(3, .int (iv (farV (lasF (swpS ((aD u0).1) (kk / 6) (kk % 6)) k t)))), (4, .int (iv ((10 * ((kk / 6 : Nat) : Int)) + ((kk % 6 : Nat) : Int)))), (8, .int (iv (farV (lasF (swpS ((aD u0).1) (kk / 6) (kk % 6)) k t)))), (7, .int (iv ((kk % 6 : Nat) : Int))), (6, .int (iv ((kk / 6 : Nat) : Int))), (0, .ref yy), (1, .int (iv k)), (2, .int (iv t)), (5, .int (iv (kk : Int)))]) hx hb dX9_bestExchange_114 rfl hl (by decide) rfl (fun ls hl => ?_)
              have hstep : (beL (aD u0).1 k t (lasF (aD u0).1 k t, -5) (kk + 1)) = if kk / 6 < kk % 6 then beS (aD u0).1 k t (kk / 6) (kk % 6) (beL (aD u0).1 k t (lasF (aD u0).1 k t, -5) kk) else (beL (aD u0).1 k t (lasF (aD u0).1 k t, -5) kk) := rfl
              rw [if_pos hpq] at hstep
              unfold beS at hstep
              rw [if_pos (by omega)] at hstep
              have hm9 : (farV (lasF (swpS ((aD u0).1) (kk / 6) (kk % 6)) k t)) = farV (beL (aD u0).1 k t (lasF (aD u0).1 k t, -5) (kk + 1)).1 := by rw [hstep]
              have hf8 : ((10 * ((kk / 6 : Nat) : Int)) + ((kk % 6 : Nat) : Int)) = (beL (aD u0).1 k t (lasF (aD u0).1 k t, -5) (kk + 1)).2 := by rw [hstep]
              refine j_iinc (lv' := [(5, .int (iv ((kk : Int) + 1))), (3, .int (iv (farV (lasF (swpS ((aD u0).1) (kk / 6) (kk % 6)) k t)))), (4, .int (iv ((10 * ((kk / 6 : Nat) : Int)) + ((kk % 6 : Nat) : Int)))), (8, .int (iv (farV (lasF (swpS ((aD u0).1) (kk / 6) (kk % 6)) k t)))), (7, .int (iv ((kk % 6 : Nat) : Int))), (6, .int (iv ((kk / 6 : Nat) : Int))), (0, .ref yy), (1, .int (iv k)), (2, .int (iv t))]) hx hb dX9_bestExchange_115 hl (k := 8) rfl (by decide) rfl (fun ls hl => ?_)
              refine lv_goto (tgt := 33) hx hb dX9_bestExchange_118 (by decide) ?_
              exact ih17 (kk + 1) (farV (lasF (swpS ((aD u0).1) (kk / 6) (kk % 6)) k t)) ((10 * ((kk / 6 : Nat) : Int)) + ((kk % 6 : Nat) : Int)) μ28 n29 hY hfr (by omega) hm9 hf8 (by omega) (by omega) H locs ls hH hS (lv_sub hl [6, 7, 8, 1, 2, 0] rfl)
    exact lp33 (37) 0 (farV (lasF ((aD u0).1) k t)) (-5) μ14 n15 hY hfr (by omega) rfl rfl (by omega) (by omega) H locs ls hH hS (lv_sub hl [3, 4, 5, 2, 1, 0] rfl)
  · skip
    refine j_bipush hx hb dX9_bestExchange_8 ?_ (by decide)
    subst hQ
    refine m_iret hx hb hr hlocks hH hS dX9_bestExchange_10 ?_ (by omega)
    unfold a_best
    rw [if_neg (by omega)]
    exact ⟨rfl, ⟨_, _, _, _, _, _, _, hY, hR⟩, hfr⟩
