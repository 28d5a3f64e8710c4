abbrev rm_c_X9_go0 : Room := { frames := 5, cells := 0, slots := 0, locals := 119 }
set_option maxHeartbeats 4000000 in
set_option maxRecDepth 100000 in
theorem c_X9_go0 (l : Launch) (G : wG) (μ : hM) (n : Nat) (yy : Nat) (σ α β κ χ ω : Nat → Int) (kn ik ln en fr pl wr : Int) (hY : IsMM G μ yy σ α β κ χ ω kn ik ln en fr pl wr)  (hOC : OkC χ ln) (h3 : 0 ≤ σ 3 ∧ σ 3 ≤ 36524) : Met l yX9_go wsX9_go rm_c_X9_go0 (mPc G μ n [.ref yy, .int (iv 0)]) (mQi G (fun z μ1 n1 => (∃ pl1 wr1 : Int, IsMM G μ1 yy σ α β κ χ ω kn ik ln en fr pl1 wr1 ∧ (((fltF χ ln 61 0 0 0).1 = -5 ∧ wr1 = 0) ∨ ((fltF χ ln 61 0 0 0).1 = pl1 ∧ 0 ≤ pl1 ∧ wr1 = 1))) ∧ MFr yy μ μ1)) 0 0 (gA G) := by
  refine Met.ofW (cc := cX9_go) (maxL := 5) (ret := (some .int)) (by decide) rfl ?_
  intro p e s m args below meth c s₁ B hml hv
  obtain ⟨hav, hK, hH⟩ := hv
  have hx := B.exec
  have hb := B.bytes
  have hr := B.returns
  have hts := atoms_spec (ws := wsX9_go) B.pre
  have hown : s.vm.findClass RX9 = some m.cls := findClass_of_methodNamed B.named
  have hlocks := B.notSynchronized
  have hS : va_S (gA G) s.heap s.heap [] := va_S.rf
  have hl := lv_entry ([.ref yy, .int (iv 0)]) (n := 5) (Nat.le_of_ble_eq_true rfl)
  have hfr : entryFrame m args 5 = entryFrame m ([.ref yy, .int (iv 0)] : List Value).toArray 5 := by rw [hav]
  rw [hfr, lg_entry_eq]
  generalize (lg_sl ([.ref yy, .int (iv 0)]) ++ List.replicate (5 - (lg_sl ([.ref yy, .int (iv 0)])).length) Slot.unset).toArray = ls at hl ⊢
  have hl : lv_has ls 5 [(0, .ref yy), (1, .int (iv 0))] := hl
  generalize hQ : MQ below _ args s 0 0 (gA G) = Q
  show W p l e rm_c_X9_go0 s m args below meth c s.heap [] 0 0 Q (F0 m 0 ls [])
  obtain ⟨H, hHe⟩ : ∃ H, H = s.heap := ⟨_, rfl⟩
  obtain ⟨locs, hlo⟩ : ∃ q : List Loc, q = [] := ⟨_, rfl⟩
  have hH : gP G μ n H := by rw [hHe]; exact hH
  have hS : va_S (gA G) s.heap H locs := by rw [hHe, hlo]; exact hS
  suffices hgo : W p l e rm_c_X9_go0 s m args below meth c H locs 0 0 Q (F0 m 0 ls []) by rw [hHe, hlo] at hgo; exact hgo
  clear hHe hlo hfr hav
  have f_0 := hts (.fieldLink RX9 129 "StampDaterModel" "place" "I") (List.mem_of_getElem? (i := 1) rfl)
  have i_X9 : ∀ w ∈ u_ws RX9 TX9 13, w ∈ wsX9_go := by decide +kernel
  have f_2 := hts (.fieldLink RX9 132 "StampDaterModel" "isWrong" "Z") (List.mem_of_getElem? (i := 2) rfl)
  have f_3 := hts (.fieldLink RX9 126 "StampDaterModel" "length" "I") (List.mem_of_getElem? (i := 3) rfl)
  have hfr : MFr yy μ μ := MFr.rf
  have hl0 := hOC.1
  refine lv_aload_n hx hb dX9_go_0 rfl (lv_at hl 0 rfl) ?_
  refine j_const hx hb dX9_go_1 ?_
  refine m_put (C := RX9) (T := TX9) (N := 13) (ci := 8) hx hb hts i_X9 tyX9 tyX9_ok nmX9 hown hK hH hS hY.1 rfl 11 (by decide) f_0 rfl rfl rfl (Nat.le_of_ble_eq_true rfl) dX9_go_2 (fun H locs hH hS => ?_)
  obtain ⟨ν1, hY, hfr, hH⟩ : ∃ ξ : hM, IsMM G ξ yy σ α β κ χ ω kn ik ln en fr 0 wr ∧ MFr yy μ ξ ∧ gP G ξ n H := hY.w0 hfr hH
  have hH : gP G ν1 n H := hH
  refine lv_aload_n hx hb dX9_go_5 rfl (lv_at hl 0 rfl) ?_
  refine j_const hx hb dX9_go_6 ?_
  refine m_put (C := RX9) (T := TX9) (N := 13) (ci := 8) hx hb hts i_X9 tyX9 tyX9_ok nmX9 hown hK hH hS hY.1 rfl 12 (by decide) f_2 rfl (nar_z (by omega)) (fit_z (by omega)) (Nat.le_of_ble_eq_true rfl) dX9_go_7 (fun H locs hH hS => ?_)
  obtain ⟨ν2, hY, hfr, hH⟩ : ∃ ξ : hM, IsMM G ξ yy σ α β κ χ ω kn ik ln en fr 0 0 ∧ MFr yy μ ξ ∧ gP G ξ n H := hY.w0 hfr hH
  have hH : gP G ν2 n H := hH
  refine j_const hx hb dX9_go_10 ?_
  refine lv_istore_n (lv' := [(2, .int (iv 0)), (0, .ref yy), (1, .int (iv 0))]) hx hb dX9_go_11 rfl hl (by decide) rfl (fun ls hl => ?_)
  refine j_const hx hb dX9_go_12 ?_
  refine lv_istore_n (lv' := [(3, .int (iv 1)), (2, .int (iv 0)), (0, .ref yy), (1, .int (iv 0))]) hx hb dX9_go_13 rfl hl (by decide) rfl (fun ls hl => ?_)
  have lp14 : ∀ (fuel : Nat) (nn : Int) (mo : Int) (f0 : Nat) (oo : Int) (dd : Int) (pl2 : Int) (wr2 : Int) (ν : hM) (ν0 : Nat) (hY : IsMM G ν yy σ α β κ χ ω kn ik ln en fr pl2 wr2) (hfr : MFr yy μ ν) (hmo : 0 ≤ mo ∧ mo ≤ 1) (hnn : 0 ≤ nn ∧ nn + f0 ≤ 61) (hc : (mo = 1 ∧ wr2 = 0 ∧ (0 ≤ pl2 ∧ pl2 ≤ ln) ∧ ln - pl2 + 1 ≤ f0 ∧ (fltF χ ln 61 0 0 0) = fltF χ ln f0 pl2 oo dd) ∨ (mo = 0 ∧ (((fltF χ ln 61 0 0 0).1 = -5 ∧ wr2 = 0) ∨ ((fltF χ ln 61 0 0 0).1 = pl2 ∧ 0 ≤ pl2 ∧ wr2 = 1)))) (_ : f0 + mo.toNat < fuel) (H : Heap) (locs : List Loc) (ls : Array Slot) (_ : gP G ν ν0 H) (_ : va_S (gA G) s.heap H locs) (_ : lv_has ls 5 [(0, .ref yy), (1, .int (iv 0)), (2, .int (iv nn)), (3, .int (iv mo))]), W p l e rm_c_X9_go0 s m args below meth c H locs 0 0 Q (F0 m 14 ls []) := by
    intro fuel
    induction fuel with
    | zero => intro _ _ _ _ _ _ _ _ _ _ _ _ _ _ hfuel; exact absurd hfuel (Nat.not_lt_zero _)
    | succ fuel ih =>
      intro nn mo f0 oo dd pl2 wr2 ν ν0 hY hfr hmo hnn hc hfuel H locs ls hH hS hl
      have ih3 := ih; clear ih
      refine lv_iload_n hx hb dX9_go_14 rfl (lv_at hl 3 rfl) ?_
      refine j_if_eq (tgt := 86) hx hb dX9_go_15 (by decide) (fun c4 => ?_) (fun c4 => ?_) (by omega)
      · skip
        refine lv_iload_n hx hb dX9_go_86 rfl (lv_at hl 2 rfl) ?_
        subst hQ
        refine m_iret hx hb hr hlocks hH hS dX9_go_87 ?_ (by omega)
        have hc1 := hc.resolve_left (fun q => by have q1 := q.1; omega)
        exact ⟨⟨_, _, hY, hc1.2⟩, hfr⟩
      · skip
        have hc1 := hc.resolve_right (fun q => by have q1 := q.1; omega)
        clear hc
        obtain ⟨e1, e2, e3, e4, e5⟩ := hc1
        obtain ⟨f1, hf1⟩ : ∃ f, f0 = f + 1 := ⟨f0 - 1, by omega⟩
        subst hf1
        have hr := ordF_rng (c := χ) (L := ln) e3
        have hr0 := hr.1
        have hr1 := hr.2.1
        have hr2 := hr.2.2.1
        have hr3 := hr.2.2.2
        clear hr
        refine lv_aload_n hx hb dX9_go_18 rfl (lv_at hl 0 rfl) ?_
        refine lv_iload_n hx hb dX9_go_19 rfl (lv_at hl 1 rfl) ?_
        refine m_callVi (As := [.int (iv 0)]) (rest := []) ⟨hx, hb, hml, hown, hts⟩ hK hH hS (c_X9_order0 l G ν ν0 yy σ α β κ χ ω kn ik ln en fr pl2 wr2 hY hOC e3 e2 h3) (cwV 1 hts gX9_go_X9_order rfl rfl rfl (by decide +kernel) ⟨(Nat.le_of_ble_eq_true rfl), (Nat.le_of_ble_eq_true rfl)⟩) hY.1 rfl rfl rfl rfl hl.1 (Nat.le_of_ble_eq_true rfl) dX9_go_20 ⟨Nat.zero_le _, Nat.zero_le _⟩ (fun z8 μ5 n6 H locs hz8 hp7 hH hS => ?_)
        obtain ⟨hz9, hrest⟩ := hp7
        have hz8 := hz9
        obtain ⟨⟨pl9, wr10, hY, ⟨hq1, hq2⟩⟩, hfr1⟩ := hrest
        have hfr := hfr.tr hfr1
        clear hfr1
        rw [hz9]
        clear hz9
        refine j_if_ne (tgt := 29) hx hb dX9_go_23 (by decide) (fun c11 => ?_) (fun c11 => absurd c11 (by omega)) (by omega)
        refine j_iinc (lv' := [(2, .int (iv (nn + 1))), (0, .ref yy), (1, .int (iv 0)), (3, .int (iv mo))]) hx hb dX9_go_29 hl (k := 2) rfl (by decide) rfl (fun ls hl => ?_)
        refine lv_aload_n hx hb dX9_go_32 rfl (lv_at hl 1 rfl) ?_
        refine m_get (C := RX9) (T := TX9) (N := 13) (ci := 8) hx hb hts i_X9 hown hK hH hY.1 rfl 12 (by decide) f_2 rfl dX9_go_33 ?_
        refine j_if_ne (tgt := 54) hx hb dX9_go_36 (by decide) (fun c12 => ?_) (fun c12 => ?_) (by omega)
        · skip
          refine j_const hx hb dX9_go_54 ?_
          refine lv_istore_n (lv' := [(3, .int (iv 0)), (2, .int (iv (nn + 1))), (0, .ref yy), (1, .int (iv 0))]) hx hb dX9_go_55 rfl hl (by decide) rfl (fun ls hl => ?_)
          refine lv_iload_n hx hb dX9_go_56 rfl (lv_at hl 0 rfl) ?_
          refine j_if_eq (tgt := 14) hx hb dX9_go_57 (by decide) (fun c13 => ?_) (fun c13 => absurd c13 (by omega)) (by omega)
          exact ih3 (nn + 1) 0 f1 (oo + 1) (dd + (if nxt χ ln pl2 = 43 then (ordF χ ln pl2).2.2.1 else 0)) pl9 wr10 μ5 n6 hY hfr (by omega) (by omega) (Or.inr ⟨rfl, Or.inr ⟨by rw [e5, fltF_0 (by omega)]; exact hq1.symm, by omega, by omega⟩⟩) (by omega) H locs ls hH hS (lv_sub hl [2, 3, 1, 0] rfl)
        · skip
          refine lv_aload_n hx hb dX9_go_39 rfl (lv_at hl 1 rfl) ?_
          refine m_get (C := RX9) (T := TX9) (N := 13) (ci := 8) hx hb hts i_X9 hown hK hH hY.1 rfl 11 (by decide) f_0 rfl dX9_go_40 ?_
          refine lv_aload_n hx hb dX9_go_43 rfl (lv_at hl 1 rfl) ?_
          refine m_get (C := RX9) (T := TX9) (N := 13) (ci := 8) hx hb hts i_X9 hown hK hH hY.1 rfl 7 (by decide) f_3 rfl dX9_go_44 ?_
          refine j_icmp_ge (tgt := 54) hx hb dX9_go_47 (by decide) (fun c14 => ?_) (fun c14 => ?_) (by omega) (by omega)
          · skip
            refine j_const hx hb dX9_go_54 ?_
            refine lv_istore_n (lv' := [(3, .int (iv 0)), (2, .int (iv (nn + 1))), (0, .ref yy), (1, .int (iv 0))]) hx hb dX9_go_55 rfl hl (by decide) rfl (fun ls hl => ?_)
            refine lv_iload_n hx hb dX9_go_56 rfl (lv_at hl 0 rfl) ?_
            refine j_if_eq (tgt := 14) hx hb dX9_go_57 (by decide) (fun c15 => ?_) (fun c15 => absurd c15 (by omega)) (by omega)
            exact ih3 (nn + 1) 0 f1 (oo + 1) (dd + (if nxt χ ln pl2 = 43 then (ordF χ ln pl2).2.2.1 else 0)) pl9 wr10 μ5 n6 hY hfr (by omega) (by omega) (Or.inr ⟨rfl, Or.inl ⟨by rw [e5, fltF_e (by omega) (by omega)], by omega⟩⟩) (by omega) H locs ls hH hS (lv_sub hl [2, 3, 1, 0] rfl)
          · skip
            refine j_const hx hb dX9_go_50 ?_
            refine lv_goto (tgt := 55) hx hb dX9_go_51 (by decide) ?_
            refine lv_istore_n (lv' := [(3, .int (iv 1)), (2, .int (iv (nn + 1))), (0, .ref yy), (1, .int (iv 0))]) hx hb dX9_go_55 rfl hl (by decide) rfl (fun ls hl => ?_)
            refine lv_iload_n hx hb dX9_go_56 rfl (lv_at hl 0 rfl) ?_
            refine j_if_eq (tgt := 14) hx hb dX9_go_57 (by decide) (fun c16 => absurd c16 (by omega)) (fun c16 => ?_) (by omega)
            have hny := nxt_or (c := χ) (L := ln) (a := pl9) (by omega)
            refine lv_aload_n hx hb dX9_go_60 rfl (lv_at hl 2 rfl) ?_
            refine j_bipush hx hb dX9_go_61 ?_ (by decide)
            refine j_bipush hx hb dX9_go_63 ?_ (by decide)
            refine m_callVi (As := [.int (iv 59), .int (iv 59)]) (rest := []) ⟨hx, hb, hml, hown, hts⟩ hK hH hS (c_X9_sign l G μ5 n6 yy σ α β κ χ ω kn ik ln en fr pl9 wr10 hY 59 59 hOC (by omega) (by omega) (by omega) (by omega)) (cwV 2 hts gX9_go_X9_sign rfl rfl rfl (by decide +kernel) ⟨(Nat.le_of_ble_eq_true rfl), (Nat.le_of_ble_eq_true rfl)⟩) hY.1 rfl rfl rfl rfl hl.1 (Nat.le_of_ble_eq_true rfl) dX9_go_65 ⟨Nat.zero_le _, Nat.zero_le _⟩ (fun z20 μ17 n18 H locs hz20 hp19 hH hS => ?_)
            obtain ⟨hz20s, ⟨pl21, wr22, hY, hsg⟩, hfr1⟩ := hp19
            have hfr := hfr.tr hfr1
            clear hfr1
            refine lv_istore (lv' := [(4, .int (iv z20)), (3, .int (iv 1)), (2, .int (iv (nn + 1))), (0, .ref yy), (1, .int (iv 0))]) hx hb dX9_go_68 hl (by decide) rfl (fun ls hl => ?_)
            refine lv_aload_n hx hb dX9_go_70 rfl (lv_at hl 3 rfl) ?_
            refine m_get (C := RX9) (T := TX9) (N := 13) (ci := 8) hx hb hts i_X9 hown hK hH hY.1 rfl 12 (by decide) f_2 rfl dX9_go_71 ?_
            refine j_if_ne (tgt := 81) hx hb dX9_go_74 (by decide) (fun c23 => ?_) (fun c23 => ?_) (by omega)
            · skip
              refine j_const hx hb dX9_go_81 ?_
              refine lv_istore_n (lv' := [(3, .int (iv 0)), (4, .int (iv z20)), (2, .int (iv (nn + 1))), (0, .ref yy), (1, .int (iv 0))]) hx hb dX9_go_82 rfl hl (by decide) rfl (fun ls hl => ?_)
              refine lv_goto (tgt := 14) hx hb dX9_go_83 (by decide) ?_
              exact ih3 (nn + 1) 0 f1 (oo + 1) (dd + (if nxt χ ln pl2 = 43 then (ordF χ ln pl2).2.2.1 else 0)) pl21 wr22 μ17 n18 hY hfr (by omega) (by omega) (Or.inr ⟨rfl, Or.inr ⟨by rw [e5, fltF_n (by omega) (by omega) (by rw [← hq1]; omega)]; omega, by omega, by omega⟩⟩) (by omega) H locs ls hH hS (lv_sub hl [3, 4, 2, 0] rfl)
            · skip
              refine j_const hx hb dX9_go_77 ?_
              refine lv_goto (tgt := 82) hx hb dX9_go_78 (by decide) ?_
              refine lv_istore_n (lv' := [(3, .int (iv 1)), (4, .int (iv z20)), (2, .int (iv (nn + 1))), (0, .ref yy), (1, .int (iv 0))]) hx hb dX9_go_82 rfl hl (by decide) rfl (fun ls hl => ?_)
              refine lv_goto (tgt := 14) hx hb dX9_go_83 (by decide) ?_
              exact ih3 (nn + 1) 1 f1 (oo + 1) (dd + (if nxt χ ln pl2 = 43 then (ordF χ ln pl2).2.2.1 else 0)) pl21 wr22 μ17 n18 hY hfr (by omega) (by omega) (Or.inl ⟨rfl, by omega, by omega, by omega, by rw [e5, fltF_s (by omega) (by omega) (by rw [← hq1]; omega), ← hq1, show pl21 = pl9 + 1 by omega]⟩) (by omega) H locs ls hH hS (lv_sub hl [3, 4, 2, 0] rfl)
  exact lp14 (63) 0 1 61 0 0 0 0 ν2 n hY hfr (by omega) (by omega) (Or.inl ⟨rfl, rfl, by omega, by omega, rfl⟩) (by omega) H locs ls hH hS (lv_sub hl [2, 3, 1, 0] rfl)

abbrev rm_c_X9_go1 : Room := { frames := 7, cells := 0, slots := 0, locals := 164 }
set_option maxHeartbeats 4000000 in
set_option maxRecDepth 100000 in
theorem c_X9_go1 (l : Launch) (G : wG) (μ : hM) (n : Nat) (yy : Nat) (σ α β κ χ ω : Nat → Int) (kn ik ln en fr pl wr : Int) (hY : IsMM G μ yy σ α β κ χ ω kn ik ln en fr pl wr) (cl : List (Int × Int)) (hOC : OkC χ ln) (hO : OkD (σ, cl)) (h5 : σ 5 + 6200 ≤ 2000000000) (hPC : PCh ω (σ 11) cl) (hle : σ 11 ≤ en) (hsr : SrtL (σ 3) cl) (hen : 0 ≤ en ∧ en ≤ 5970) (hfx : fr = en + 1) (hF : (fltF χ ln 61 0 0 0).1 = -5) : Met l yX9_go wsX9_go rm_c_X9_go1 (mPc G μ n [.ref yy, .int (iv 1)]) (mQi G (fun z μ1 n1 => ((σ 3 + (fltF χ ln 61 0 0 0).2.2 ≤ 36524 ∧ z = (fltF χ ln 61 0 0 0).2.1 ∧ ∃ (ω1 : Nat → Int) (e1 h1 pl1 wr1 : Int), IsMM G μ1 yy (fu (allD χ ln (fltF χ ln 61 0 0 0).2.1.toNat 0 (σ, cl)).1 11 h1) α β κ χ ω1 kn ik ln e1 fr pl1 wr1 ∧ PCh ω1 h1 (allD χ ln (fltF χ ln 61 0 0 0).2.1.toNat 0 (σ, cl)).2 ∧ h1 ≤ e1 ∧ (en ≤ e1 ∧ e1 ≤ en + 10) ∧ (∀ j : Nat, (j : Int) < 4 * en → ω1 j = ω j) ∧ SrtL ((allD χ ln (fltF χ ln 61 0 0 0).2.1.toNat 0 (σ, cl)).1 3) (allD χ ln (fltF χ ln 61 0 0 0).2.1.toNat 0 (σ, cl)).2) ∨ (36524 < σ 3 + (fltF χ ln 61 0 0 0).2.2 ∧ z = -3 ∧ ∃ (σ1 ω1 : Nat → Int) (e1 pl1 wr1 : Int), IsMM G μ1 yy σ1 α β κ χ ω1 kn ik ln e1 fr pl1 wr1 ∧ ∀ j : Nat, (j : Int) < 4 * en → ω1 j = ω j)) ∧ MFr yy μ μ1)) 0 0 (gA G) := by
  refine Met.ofW (cc := cX9_go) (maxL := 5) (ret := (some .int)) (by decide) rfl ?_
  intro p e s m args below meth c s₁ B hml hv
  obtain ⟨hav, hK, hH⟩ := hv
  have hx := B.exec
  have hb := B.bytes
  have hr := B.returns
  have hts := atoms_spec (ws := wsX9_go) B.pre
  have hown : s.vm.findClass RX9 = some m.cls := findClass_of_methodNamed B.named
  have hlocks := B.notSynchronized
  have hS : va_S (gA G) s.heap s.heap [] := va_S.rf
  have hl := lv_entry ([.ref yy, .int (iv 1)]) (n := 5) (Nat.le_of_ble_eq_true rfl)
  have hfr : entryFrame m args 5 = entryFrame m ([.ref yy, .int (iv 1)] : List Value).toArray 5 := by rw [hav]
  rw [hfr, lg_entry_eq]
  generalize (lg_sl ([.ref yy, .int (iv 1)]) ++ List.replicate (5 - (lg_sl ([.ref yy, .int (iv 1)])).length) Slot.unset).toArray = ls at hl ⊢
  have hl : lv_has ls 5 [(0, .ref yy), (1, .int (iv 1))] := hl
  generalize hQ : MQ below _ args s 0 0 (gA G) = Q
  show W p l e rm_c_X9_go1 s m args below meth c s.heap [] 0 0 Q (F0 m 0 ls [])
  obtain ⟨H, hHe⟩ : ∃ H, H = s.heap := ⟨_, rfl⟩
  obtain ⟨locs, hlo⟩ : ∃ q : List Loc, q = [] := ⟨_, rfl⟩
  have hH : gP G μ n H := by rw [hHe]; exact hH
  have hS : va_S (gA G) s.heap H locs := by rw [hHe, hlo]; exact hS
  suffices hgo : W p l e rm_c_X9_go1 s m args below meth c H locs 0 0 Q (F0 m 0 ls []) by rw [hHe, hlo] at hgo; exact hgo
  clear hHe hlo hfr hav
  have f_0 := hts (.fieldLink RX9 129 "StampDaterModel" "place" "I") (List.mem_of_getElem? (i := 1) rfl)
  have i_X9 : ∀ w ∈ u_ws RX9 TX9 13, w ∈ wsX9_go := by decide +kernel
  have f_2 := hts (.fieldLink RX9 132 "StampDaterModel" "isWrong" "Z") (List.mem_of_getElem? (i := 2) rfl)
  have f_3 := hts (.fieldLink RX9 126 "StampDaterModel" "length" "I") (List.mem_of_getElem? (i := 3) rfl)
  have hfr : MFr yy μ μ := MFr.rf
  have hl0 := hOC.1
  have hFr := fltF_rng (c := χ) (L := ln) 61 0 0 0 (by omega) (by omega) (by omega)
  have hT0 := hO.1
  have ht3 := hT0.2.1
  refine lv_aload_n hx hb dX9_go_0 rfl (lv_at hl 0 rfl) ?_
  refine j_const hx hb dX9_go_1 ?_
  refine m_put (C := RX9) (T := TX9) (N := 13) (ci := 8) hx hb hts i_X9 tyX9 tyX9_ok nmX9 hown hK hH hS hY.1 rfl 11 (by decide) f_0 rfl rfl rfl (Nat.le_of_ble_eq_true rfl) dX9_go_2 (fun H locs hH hS => ?_)
  obtain ⟨ν1, hY, hfr, hH⟩ : ∃ ξ : hM, IsMM G ξ yy σ α β κ χ ω kn ik ln en fr 0 wr ∧ MFr yy μ ξ ∧ gP G ξ n H := hY.w0 hfr hH
  have hH : gP G ν1 n H := hH
  refine lv_aload_n hx hb dX9_go_5 rfl (lv_at hl 0 rfl) ?_
  refine j_const hx hb dX9_go_6 ?_
  refine m_put (C := RX9) (T := TX9) (N := 13) (ci := 8) hx hb hts i_X9 tyX9 tyX9_ok nmX9 hown hK hH hS hY.1 rfl 12 (by decide) f_2 rfl (nar_z (by omega)) (fit_z (by omega)) (Nat.le_of_ble_eq_true rfl) dX9_go_7 (fun H locs hH hS => ?_)
  obtain ⟨ν2, hY, hfr, hH⟩ : ∃ ξ : hM, IsMM G ξ yy σ α β κ χ ω kn ik ln en fr 0 0 ∧ MFr yy μ ξ ∧ gP G ξ n H := hY.w0 hfr hH
  have hH : gP G ν2 n H := hH
  refine j_const hx hb dX9_go_10 ?_
  refine lv_istore_n (lv' := [(2, .int (iv 0)), (0, .ref yy), (1, .int (iv 1))]) hx hb dX9_go_11 rfl hl (by decide) rfl (fun ls hl => ?_)
  refine j_const hx hb dX9_go_12 ?_
  refine lv_istore_n (lv' := [(3, .int (iv 1)), (2, .int (iv 0)), (0, .ref yy), (1, .int (iv 1))]) hx hb dX9_go_13 rfl hl (by decide) rfl (fun ls hl => ?_)
  have lp14 : ∀ (fuel : Nat) (nn : Int) (mo : Int) (δ : dT) (h0 : Int) (dd : Int) (f0 : Nat) (σ2 : Nat → Int) (ω2 : Nat → Int) (en2 : Int) (pl2 : Int) (wr2 : Int) (ν : hM) (ν0 : Nat) (hY : IsMM G ν yy σ2 α β κ χ ω2 kn ik ln en2 fr pl2 wr2) (hfr : MFr yy μ ν) (hmo : 0 ≤ mo ∧ mo ≤ 1) (hwr2 : wr2 = 0) (hσ2 : σ2 = fu δ.1 11 h0) (hOd : OkD δ) (hsr2 : SrtL (δ.1 3) δ.2) (hnn : 0 ≤ nn ∧ nn ≤ 61 ∧ δ.1 5 ≤ σ 5 + 99 * nn) (hP2 : PCh ω2 h0 δ.2) (hle2 : h0 ≤ en2) (hpool : ∀ j : Nat, (j : Int) < 4 * en → ω2 j = ω j) (hee : en ≤ en2 ∧ en2 ≤ en + 10) (hc : (mo = 1 ∧ (0 ≤ pl2 ∧ pl2 ≤ ln) ∧ fltF χ ln f0 pl2 nn dd = (-5, (fltF χ ln 61 0 0 0).2.1, (fltF χ ln 61 0 0 0).2.2) ∧ (allD χ ln (fltF χ ln 61 0 0 0).2.1.toNat 0 (σ, cl)) = allD χ ln ((fltF χ ln 61 0 0 0).2.1 - nn).toNat pl2 δ ∧ (δ.1 3 = σ 3 + dd ∧ 0 ≤ dd) ∧ Pot ω2 h0 (δ.1 3) fr en2 en pl2 ∧ ln - pl2 + 1 ≤ f0 ∧ nn + f0 ≤ 61) ∨ (mo = 0 ∧ (fltF χ ln 61 0 0 0).2.1 = nn ∧ δ = (allD χ ln (fltF χ ln 61 0 0 0).2.1.toNat 0 (σ, cl)) ∧ δ.1 3 = σ 3 + (fltF χ ln 61 0 0 0).2.2)) (_ : f0 + mo.toNat < fuel) (H : Heap) (locs : List Loc) (ls : Array Slot) (_ : gP G ν ν0 H) (_ : va_S (gA G) s.heap H locs) (_ : lv_has ls 5 [(0, .ref yy), (1, .int (iv 1)), (2, .int (iv nn)), (3, .int (iv mo))]), W p l e rm_c_X9_go1 s m args below meth c H locs 0 0 Q (F0 m 14 ls []) := by
    intro fuel
    induction fuel with
    | zero => intro _ _ _ _ _ _ _ _ _ _ _ _ _ _ _ _ _ _ _ _ _ _ _ _ _ _ hfuel; exact absurd hfuel (Nat.not_lt_zero _)
    | succ fuel ih =>
      intro nn mo δ h0 dd f0 σ2 ω2 en2 pl2 wr2 ν ν0 hY hfr hmo hwr2 hσ2 hOd hsr2 hnn hP2 hle2 hpool hee hc hfuel H locs ls hH hS hl
      have ih3 := ih; clear ih
      refine lv_iload_n hx hb dX9_go_14 rfl (lv_at hl 3 rfl) ?_
      refine j_if_eq (tgt := 86) hx hb dX9_go_15 (by decide) (fun c4 => ?_) (fun c4 => ?_) (by omega)
      · skip
        refine lv_iload_n hx hb dX9_go_86 rfl (lv_at hl 2 rfl) ?_
        subst hQ
        refine m_iret hx hb hr hlocks hH hS dX9_go_87 ?_ (by omega)
        have hc1 := hc.resolve_left (fun q => by have q1 := q.1; omega)
        obtain ⟨hc2, hc3, hc4, hc5⟩ := hc1
        have htd := hOd.1.2.1
        rw [hσ2, hc4] at hY
        rw [hc4] at hP2 hsr2
        exact ⟨Or.inl ⟨by omega, hc3.symm, _, _, _, _, _, hY, hP2, hle2, hee, hpool, hsr2⟩, hfr⟩
      · skip
        have hc1 := hc.resolve_right (fun q => by have q1 := q.1; omega)
        clear hc
        obtain ⟨hc1, hc2, hc3, hc4, hc5, hc6, hc7, hc8⟩ := hc1
        obtain ⟨f1, hf1⟩ : ∃ f, f0 = f + 1 := ⟨f0 - 1, by omega⟩
        subst hf1
        have hst := flt_st (c := χ) (L := ln) hc2 hc3
        have hro := ord_rng (c := χ) (L := ln) hc2 hst.1
        have hr := ordF_rng (c := χ) (L := ln) hc2
        have hr3 := hr.2.2.2 hst.1
        have hr2 := hr.2.2.1
        clear hr
        have hTd := hOd.1
        have htd := hTd.2.1
        subst hσ2
        have hTT := okT_11 hTd h0
        have hpls := plus_rng (c := χ) (L := ln) hc2
        have hofu := ordD_fu (h := h0) hTd (fun q => hro.2.1 q) (k := nxt χ ln pl2) (nu := (ordF χ ln pl2).2.2.1) (ti := (ordF χ ln pl2).2.2.2) (by omega)
        have h35 := ordD_35 (k := nxt χ ln pl2) (nu := (ordF χ ln pl2).2.2.1) (ti := (ordF χ ln pl2).2.2.2) hTd (fun q => hro.2.1 q) (by omega)
        obtain ⟨h35a, h35b, h35c⟩ := h35
        refine lv_aload_n hx hb dX9_go_18 rfl (lv_at hl 0 rfl) ?_
        refine lv_iload_n hx hb dX9_go_19 rfl (lv_at hl 1 rfl) ?_
        rw [hwr2] at hY
        refine m_callVi (As := [.int (iv 1)]) (rest := []) ⟨hx, hb, hml, hown, hts⟩ hK hH hS (c_X9_order1 l G ν ν0 yy (fu δ.1 11 h0) α β κ χ ω2 kn ik ln en2 fr pl2 0 hY δ.2 hOC hc2 rfl hTT (by rw [fu_n (by omega)]; omega) (by rw [fu_s]; exact hP2) (by rw [fu_s]; exact hle2) (by omega) (by omega) hOd.2 hst.1) (cwV 1 hts gX9_go_X9_order rfl rfl rfl (by decide +kernel) ⟨(Nat.le_of_ble_eq_true rfl), (Nat.le_of_ble_eq_true rfl)⟩) hY.1 rfl rfl rfl rfl hl.1 (Nat.le_of_ble_eq_true rfl) dX9_go_20 ⟨Nat.zero_le _, Nat.zero_le _⟩ (fun z8 μ5 n6 H locs hz8 hp7 hH hS => ?_)
        obtain ⟨hz9, ⟨ω3, e9, h3, hY, hOP⟩, hfr1⟩ := hp7
        have hfr := hfr.tr hfr1
        clear hfr1
        rw [hofu] at hz9 hY hOP
        dsimp only at hz9 hY hOP
        rw [fu_u] at hY
        have e39 : fu (ordD (nxt χ ln pl2) (ordF χ ln pl2).2.2.1 (ordF χ ln pl2).2.2.2 δ).1 11 h0 3 = (ordD (nxt χ ln pl2) (ordF χ ln pl2).2.2.1 (ordF χ ln pl2).2.2.2 δ).1 3 := fu_n (by omega)
        rw [fu_s, fu_n (show (3 : Nat) ≠ 11 by omega)] at hOP
        have hzc : (z8 = 1 ∧ (ordD (nxt χ ln pl2) (ordF χ ln pl2).2.2.1 (ordF χ ln pl2).2.2.2 δ).1 3 ≤ 36524) ∨ (z8 = 0 ∧ 36524 < (ordD (nxt χ ln pl2) (ordF χ ln pl2).2.2.1 (ordF χ ln pl2).2.2.2 δ).1 3) := by
          by_cases q9 : fu (ordD (nxt χ ln pl2) (ordF χ ln pl2).2.2.1 (ordF χ ln pl2).2.2.2 δ).1 11 h0 3 ≤ 36524
          · rw [if_pos q9] at hz9; exact Or.inl ⟨hz9, by omega⟩
          · rw [if_neg q9] at hz9; exact Or.inr ⟨hz9, by omega⟩
        clear hz9
        obtain ⟨hP3, hle3, hen3, hpool3, -⟩ := id hOP
        have hpool9 : ∀ j : Nat, (j : Int) < 4 * en → ω3 j = ω j := fun j hj => (hpool3 j (by omega)).trans (hpool j hj)
        refine j_if_ne (tgt := 29) hx hb dX9_go_23 (by decide) (fun c9 => ?_) (fun c9 => ?_) (by omega)
        · skip
          have ht9 : (ordD (nxt χ ln pl2) (ordF χ ln pl2).2.2.1 (ordF χ ln pl2).2.2.2 δ).1 3 ≤ 36524 := by omega
          have hOk9 : OkD (ordD (nxt χ ln pl2) (ordF χ ln pl2).2.2.1 (ordF χ ln pl2).2.2.2 δ) ∧ SrtL ((ordD (nxt χ ln pl2) (ordF χ ln pl2).2.2.1 (ordF χ ln pl2).2.2.2 δ).1 3) (ordD (nxt χ ln pl2) (ordF χ ln pl2).2.2.1 (ordF χ ln pl2).2.2.2 δ).2 := okD_ord hOd hsr2 (fun q => hro.2.1 q) (fun q => by rw [if_pos q] at h35a hpls; omega) (fun q => by have := hro.2.2.1 q; omega) (by omega)
          have hpot9 := hc6.step (td1 := (ordD (nxt χ ln pl2) (ordF χ ln pl2).2.2.1 (ordF χ ln pl2).2.2.2 δ).1 3) hOP (fun q => by rw [h35a, if_neg q]; omega) hr3 (fun q => ord_len hst.1 q)
          clear hro hofu hOP hc6
          refine j_iinc (lv' := [(2, .int (iv (nn + 1))), (0, .ref yy), (1, .int (iv 1)), (3, .int (iv mo))]) hx hb dX9_go_29 hl (k := 2) rfl (by decide) rfl (fun ls hl => ?_)
          refine lv_aload_n hx hb dX9_go_32 rfl (lv_at hl 1 rfl) ?_
          refine m_get (C := RX9) (T := TX9) (N := 13) (ci := 8) hx hb hts i_X9 hown hK hH hY.1 rfl 12 (by decide) f_2 rfl dX9_go_33 ?_
          refine j_if_ne (tgt := 54) hx hb dX9_go_36 (by decide) (fun c10 => absurd c10 (by omega)) (fun c10 => ?_) (by omega)
          refine lv_aload_n hx hb dX9_go_39 rfl (lv_at hl 1 rfl) ?_
          refine m_get (C := RX9) (T := TX9) (N := 13) (ci := 8) hx hb hts i_X9 hown hK hH hY.1 rfl 11 (by decide) f_0 rfl dX9_go_40 ?_
          refine lv_aload_n hx hb dX9_go_43 rfl (lv_at hl 1 rfl) ?_
          refine m_get (C := RX9) (T := TX9) (N := 13) (ci := 8) hx hb hts i_X9 hown hK hH hY.1 rfl 7 (by decide) f_3 rfl dX9_go_44 ?_
          refine j_icmp_ge (tgt := 54) hx hb dX9_go_47 (by decide) (fun c11 => ?_) (fun c11 => ?_) (by omega) (by omega)
          · skip
            have hs2 := hst.2.resolve_right (fun q => by have q1 := q.1; omega)
            have hend : ((0 : Int) = 1 ∧ (0 ≤ (ordF χ ln pl2).2.1 ∧ (ordF χ ln pl2).2.1 ≤ ln) ∧ fltF χ ln f1 (ordF χ ln pl2).2.1 (nn + 1) (dd + (if nxt χ ln pl2 = 43 then (ordF χ ln pl2).2.2.1 else 0)) = (-5, (fltF χ ln 61 0 0 0).2.1, (fltF χ ln 61 0 0 0).2.2) ∧ (allD χ ln (fltF χ ln 61 0 0 0).2.1.toNat 0 (σ, cl)) = allD χ ln ((fltF χ ln 61 0 0 0).2.1 - (nn + 1)).toNat (ordF χ ln pl2).2.1 (ordD (nxt χ ln pl2) (ordF χ ln pl2).2.2.1 (ordF χ ln pl2).2.2.2 δ) ∧ ((ordD (nxt χ ln pl2) (ordF χ ln pl2).2.2.1 (ordF χ ln pl2).2.2.2 δ).1 3 = σ 3 + (dd + (if nxt χ ln pl2 = 43 then (ordF χ ln pl2).2.2.1 else 0)) ∧ 0 ≤ dd + (if nxt χ ln pl2 = 43 then (ordF χ ln pl2).2.2.1 else 0)) ∧ Pot ω3 h3 ((ordD (nxt χ ln pl2) (ordF χ ln pl2).2.2.1 (ordF χ ln pl2).2.2.2 δ).1 3) fr e9 en (ordF χ ln pl2).2.1 ∧ ln - (ordF χ ln pl2).2.1 + 1 ≤ f1 ∧ nn + 1 + f1 ≤ 61) ∨ ((0 : Int) = 0 ∧ (fltF χ ln 61 0 0 0).2.1 = nn + 1 ∧ (ordD (nxt χ ln pl2) (ordF χ ln pl2).2.2.1 (ordF χ ln pl2).2.2.2 δ) = (allD χ ln (fltF χ ln 61 0 0 0).2.1.toNat 0 (σ, cl)) ∧ (ordD (nxt χ ln pl2) (ordF χ ln pl2).2.2.1 (ordF χ ln pl2).2.2.2 δ).1 3 = σ 3 + (fltF χ ln 61 0 0 0).2.2) := by
              refine Or.inr ⟨rfl, hs2.2.1, ?_, by rw [h35a, hs2.2.2]; omega⟩
              rw [hc4, hs2.2.1, show (nn + 1 - nn).toNat = 0 + 1 by omega, allD_s, allD_0]
            refine j_const hx hb dX9_go_54 ?_
            refine lv_istore_n (lv' := [(3, .int (iv 0)), (2, .int (iv (nn + 1))), (0, .ref yy), (1, .int (iv 1))]) hx hb dX9_go_55 rfl hl (by decide) rfl (fun ls hl => ?_)
            refine lv_iload_n hx hb dX9_go_56 rfl (lv_at hl 0 rfl) ?_
            refine j_if_eq (tgt := 14) hx hb dX9_go_57 (by decide) (fun c12 => ?_) (fun c12 => absurd c12 (by omega)) (by omega)
            exact ih3 (nn + 1) 0 (ordD (nxt χ ln pl2) (ordF χ ln pl2).2.2.1 (ordF χ ln pl2).2.2.2 δ) h3 (dd + (if nxt χ ln pl2 = 43 then (ordF χ ln pl2).2.2.1 else 0)) f1 (fu (ordD (nxt χ ln pl2) (ordF χ ln pl2).2.2.1 (ordF χ ln pl2).2.2.2 δ).1 11 h3) ω3 e9 ((ordF χ ln pl2).2.1) 0 μ5 n6 hY hfr (by omega) rfl rfl hOk9.1 hOk9.2 (by omega) hP3 hle3 hpool9 (by have := hpot9.1; omega) hend (by omega) H locs ls hH hS (lv_sub hl [2, 3, 1, 0] rfl)
          · skip
            refine j_const hx hb dX9_go_50 ?_
            refine lv_goto (tgt := 55) hx hb dX9_go_51 (by decide) ?_
            refine lv_istore_n (lv' := [(3, .int (iv 1)), (2, .int (iv (nn + 1))), (0, .ref yy), (1, .int (iv 1))]) hx hb dX9_go_55 rfl hl (by decide) rfl (fun ls hl => ?_)
            refine lv_iload_n hx hb dX9_go_56 rfl (lv_at hl 0 rfl) ?_
            refine j_if_eq (tgt := 14) hx hb dX9_go_57 (by decide) (fun c13 => absurd c13 (by omega)) (fun c13 => ?_) (by omega)
            have hs2 := hst.2.resolve_left (fun q => by have q1 := q.1; omega)
            have hny := nxt_or (c := χ) (L := ln) (a := (ordF χ ln pl2).2.1) (by omega)
            refine lv_aload_n hx hb dX9_go_60 rfl (lv_at hl 2 rfl) ?_
            refine j_bipush hx hb dX9_go_61 ?_ (by decide)
            refine j_bipush hx hb dX9_go_63 ?_ (by decide)
            refine m_callVi (As := [.int (iv 59), .int (iv 59)]) (rest := []) ⟨hx, hb, hml, hown, hts⟩ hK hH hS (c_X9_sign l G μ5 n6 yy (fu (ordD (nxt χ ln pl2) (ordF χ ln pl2).2.2.1 (ordF χ ln pl2).2.2.2 δ).1 11 h3) α β κ χ ω3 kn ik ln e9 fr ((ordF χ ln pl2).2.1) 0 hY 59 59 hOC (by omega) (by omega) (by omega) (by omega)) (cwV 2 hts gX9_go_X9_sign rfl rfl rfl (by decide +kernel) ⟨(Nat.le_of_ble_eq_true rfl), (Nat.le_of_ble_eq_true rfl)⟩) hY.1 rfl rfl rfl rfl hl.1 (Nat.le_of_ble_eq_true rfl) dX9_go_65 ⟨Nat.zero_le _, Nat.zero_le _⟩ (fun z17 μ14 n15 H locs hz17 hp16 hH hS => ?_)
            obtain ⟨hz17s, ⟨pl18, wr19, hY, hsg⟩, hfr1⟩ := hp16
            have hfr := hfr.tr hfr1
            clear hfr1
            refine lv_istore (lv' := [(4, .int (iv z17)), (3, .int (iv 1)), (2, .int (iv (nn + 1))), (0, .ref yy), (1, .int (iv 1))]) hx hb dX9_go_68 hl (by decide) rfl (fun ls hl => ?_)
            refine lv_aload_n hx hb dX9_go_70 rfl (lv_at hl 3 rfl) ?_
            refine m_get (C := RX9) (T := TX9) (N := 13) (ci := 8) hx hb hts i_X9 hown hK hH hY.1 rfl 12 (by decide) f_2 rfl dX9_go_71 ?_
            refine j_if_ne (tgt := 81) hx hb dX9_go_74 (by decide) (fun c20 => absurd c20 (by omega)) (fun c20 => ?_) (by omega)
            have hFr2 := fltF_rng (c := χ) (L := ln) f1 ((ordF χ ln pl2).2.1 + 1) (nn + 1) (dd + (if nxt χ ln pl2 = 43 then (ordF χ ln pl2).2.2.1 else 0)) (by omega) (by omega) (by omega)
            rw [hs2.2.2] at hFr2
            dsimp only at hFr2
            have hFr3 := hFr2.2.1
            clear hFr2
            have hp3 : pl18 = (ordF χ ln pl2).2.1 + 1 := by omega
            have hmore : ((1 : Int) = 1 ∧ (0 ≤ pl18 ∧ pl18 ≤ ln) ∧ fltF χ ln f1 pl18 (nn + 1) (dd + (if nxt χ ln pl2 = 43 then (ordF χ ln pl2).2.2.1 else 0)) = (-5, (fltF χ ln 61 0 0 0).2.1, (fltF χ ln 61 0 0 0).2.2) ∧ (allD χ ln (fltF χ ln 61 0 0 0).2.1.toNat 0 (σ, cl)) = allD χ ln ((fltF χ ln 61 0 0 0).2.1 - (nn + 1)).toNat pl18 (ordD (nxt χ ln pl2) (ordF χ ln pl2).2.2.1 (ordF χ ln pl2).2.2.2 δ) ∧ ((ordD (nxt χ ln pl2) (ordF χ ln pl2).2.2.1 (ordF χ ln pl2).2.2.2 δ).1 3 = σ 3 + (dd + (if nxt χ ln pl2 = 43 then (ordF χ ln pl2).2.2.1 else 0)) ∧ 0 ≤ dd + (if nxt χ ln pl2 = 43 then (ordF χ ln pl2).2.2.1 else 0)) ∧ Pot ω3 h3 ((ordD (nxt χ ln pl2) (ordF χ ln pl2).2.2.1 (ordF χ ln pl2).2.2.2 δ).1 3) fr e9 en pl18 ∧ ln - pl18 + 1 ≤ f1 ∧ nn + 1 + f1 ≤ 61) ∨ ((1 : Int) = 0 ∧ (fltF χ ln 61 0 0 0).2.1 = nn + 1 ∧ (ordD (nxt χ ln pl2) (ordF χ ln pl2).2.2.1 (ordF χ ln pl2).2.2.2 δ) = (allD χ ln (fltF χ ln 61 0 0 0).2.1.toNat 0 (σ, cl)) ∧ (ordD (nxt χ ln pl2) (ordF χ ln pl2).2.2.1 (ordF χ ln pl2).2.2.2 δ).1 3 = σ 3 + (fltF χ ln 61 0 0 0).2.2) := by
              rw [hp3]
              refine Or.inl ⟨rfl, by omega, hs2.2.2, ?_, ⟨by rw [h35a]; omega, by omega⟩, hpot9, by omega, by omega⟩
              rw [hc4, show ((fltF χ ln 61 0 0 0).2.1 - nn).toNat = ((fltF χ ln 61 0 0 0).2.1 - (nn + 1)).toNat + 1 by omega, allD_s]
            refine j_const hx hb dX9_go_77 ?_
            refine lv_goto (tgt := 82) hx hb dX9_go_78 (by decide) ?_
            refine lv_istore_n (lv' := [(3, .int (iv 1)), (4, .int (iv z17)), (2, .int (iv (nn + 1))), (0, .ref yy), (1, .int (iv 1))]) hx hb dX9_go_82 rfl hl (by decide) rfl (fun ls hl => ?_)
            refine lv_goto (tgt := 14) hx hb dX9_go_83 (by decide) ?_
            exact ih3 (nn + 1) 1 (ordD (nxt χ ln pl2) (ordF χ ln pl2).2.2.1 (ordF χ ln pl2).2.2.2 δ) h3 (dd + (if nxt χ ln pl2 = 43 then (ordF χ ln pl2).2.2.1 else 0)) f1 (fu (ordD (nxt χ ln pl2) (ordF χ ln pl2).2.2.1 (ordF χ ln pl2).2.2.2 δ).1 11 h3) ω3 e9 pl18 wr19 μ14 n15 hY hfr (by omega) (by omega) rfl hOk9.1 hOk9.2 (by omega) hP3 hle3 hpool9 (by have := hpot9.1; omega) hmore (by omega) H locs ls hH hS (lv_sub hl [3, 4, 2, 0] rfl)
        · skip
          refine j_bipush hx hb dX9_go_26 ?_ (by decide)
          subst hQ
          refine m_iret hx hb hr hlocks hH hS dX9_go_28 ?_ (by omega)
          have hs4 : dd + (if nxt χ ln pl2 = 43 then (ordF χ ln pl2).2.2.1 else 0) ≤ (fltF χ ln 61 0 0 0).2.2 := by
            rcases hst.2 with ⟨q1, q2, q3⟩ | ⟨q1, q2, q3⟩
            · omega
            · have hFr2 := fltF_rng (c := χ) (L := ln) f1 ((ordF χ ln pl2).2.1 + 1) (nn + 1) (dd + (if nxt χ ln pl2 = 43 then (ordF χ ln pl2).2.2.1 else 0)) (by omega) (by omega) (by omega)
              rw [q3] at hFr2
              have := hFr2.2.2.2.1
              exact this
          exact ⟨Or.inr ⟨by rw [h35a] at hzc; omega, rfl, _, _, _, _, _, hY, hpool9⟩, hfr⟩
  exact lp14 (63) 0 1 (σ, cl) (σ 11) 0 61 σ ω en 0 0 ν2 n hY hfr (by omega) rfl (fu_i rfl).symm hO hsr (by show (0 : Int) ≤ 0 ∧ (0 : Int) ≤ 61 ∧ σ 5 ≤ _; omega) hPC hle (fun j hj => rfl) (by omega) (Or.inl ⟨rfl, by omega, Prod.ext hF rfl, by rw [Int.sub_zero], ⟨(Int.add_zero _).symm, by omega⟩, ⟨by omega, fun _ => by omega⟩, by omega, by omega⟩) (by omega) H locs ls hH hS (lv_sub hl [2, 3, 1, 0] rfl)

abbrev rm_t_X9_fault : Room := { frames := 6, cells := 0, slots := 0, locals := 143 }
set_option maxHeartbeats 4000000 in
set_option maxRecDepth 100000 in
theorem t_X9_fault (l : Launch) (G : wG) (μ : hM) (n : Nat) (yy : Nat) (u0 : aS) (en : Int)  (hM0 : IsM G μ yy u0 en) (hen : en ≤ 5900) (hO : OkD (aD u0)) : Met l yX9_fault wsX9_fault rm_t_X9_fault (mPc G μ n [.ref yy]) (mQi G (fun z μ1 n1 => z = (a_fault u0).2 ∧ IsM G μ1 yy (a_fault u0).1 en ∧ MFr yy μ μ1)) 0 0 (gA G) := by
  refine Met.ofW (cc := cX9_fault) (maxL := 2) (ret := (some .int)) (by decide) rfl ?_
  intro p e s m args below meth c s₁ B hml hv
  obtain ⟨hav, hK, hH⟩ := hv
  have hx := B.exec
  have hb := B.bytes
  have hr := B.returns
  have hts := atoms_spec (ws := wsX9_fault) B.pre
  have hown : s.vm.findClass RX9 = some m.cls := findClass_of_methodNamed B.named
  have hlocks := B.notSynchronized
  have hS : va_S (gA G) s.heap s.heap [] := va_S.rf
  have hl := lv_entry ([.ref yy]) (n := 2) (Nat.le_of_ble_eq_true rfl)
  have hfr : entryFrame m args 2 = entryFrame m ([.ref yy] : List Value).toArray 2 := by rw [hav]
  rw [hfr, lg_entry_eq]
  generalize (lg_sl ([.ref yy]) ++ List.replicate (2 - (lg_sl ([.ref yy])).length) Slot.unset).toArray = ls at hl ⊢
  have hl : lv_has ls 2 [(0, .ref yy)] := hl
  generalize hQ : MQ below _ args s 0 0 (gA G) = Q
  show W p l e rm_t_X9_fault s m args below meth c s.heap [] 0 0 Q (F0 m 0 ls [])
  obtain ⟨H, hHe⟩ : ∃ H, H = s.heap := ⟨_, rfl⟩
  obtain ⟨locs, hlo⟩ : ∃ q : List Loc, q = [] := ⟨_, rfl⟩
  have hH : gP G μ n H := by rw [hHe]; exact hH
  have hS : va_S (gA G) s.heap H locs := by rw [hHe, hlo]; exact hS
  suffices hgo : W p l e rm_t_X9_fault s m args below meth c H locs 0 0 Q (F0 m 0 ls []) by rw [hHe, hlo] at hgo; exact hgo
  clear hHe hlo hfr hav
  have f_0 := hts (.fieldLink RX9 132 "StampDaterModel" "isWrong" "Z") (List.mem_of_getElem? (i := 1) rfl)
  have i_X9 : ∀ w ∈ u_ws RX9 TX9 13, w ∈ wsX9_fault := by decide +kernel
  have f_2 := hts (.fieldLink RX9 129 "StampDaterModel" "place" "I") (List.mem_of_getElem? (i := 2) rfl)
  have hfr : MFr yy μ μ := MFr.rf
  obtain ⟨α, β, κ, ω, fr, pl, wr, hY, hR⟩ := hM0
  have hT := hO.1
  have hOk := hT.1
  have h3 := hT.2.1
  have h5 := hT.2.2.1
  have h4 := hOk.2.2.2.1
  have hPD := hR.1
  have hen0 := hR.2.2.2.1
  have hkn := hR.2.2.2.2.1
  have hik := hR.2.2.2.2.2.1
  have hOC := hR.2.2.2.2.2.2
  have hl0 := hOC.1
  refine lv_aload_n hx hb dX9_fault_0 rfl (lv_at hl 0 rfl) ?_
  refine j_const hx hb dX9_fault_1 ?_
  refine m_callVi (As := [.int (iv 0)]) (rest := []) ⟨hx, hb, hml, hown, hts⟩ hK hH hS (c_X9_go0 l G μ n yy ((aD u0).1) α β κ (aC u0) ω (aN u0) (aT u0) (aL u0) en fr pl wr hY hOC h3) (cwV 1 hts gX9_fault_X9_go rfl rfl rfl (by decide +kernel) ⟨(Nat.le_of_ble_eq_true rfl), (Nat.le_of_ble_eq_true rfl)⟩) hY.1 rfl rfl rfl rfl hl.1 (Nat.le_of_ble_eq_true rfl) dX9_fault_2 ⟨Nat.zero_le _, Nat.zero_le _⟩ (fun z4 μ1 n2 H locs hz4 hp3 hH hS => ?_)
  obtain ⟨⟨pl5, wr6, hY, hgo⟩, hfr1⟩ := hp3
  have hfr := hfr.tr hfr1
  clear hfr1
  refine lv_istore_n (lv' := [(1, .int (iv z4)), (0, .ref yy)]) hx hb dX9_fault_5 rfl hl (by decide) rfl (fun ls hl => ?_)
  have hFr := fltF_rng (c := aC u0) (L := aL u0) 61 0 0 0 (by omega) (by omega) (by omega)
  have hw01 : 0 ≤ wr6 ∧ wr6 ≤ 1 := by omega
  refine lv_aload_n hx hb dX9_fault_6 rfl (lv_at hl 1 rfl) ?_
  refine m_get (C := RX9) (T := TX9) (N := 13) (ci := 8) hx hb hts i_X9 hown hK hH hY.1 rfl 12 (by decide) f_0 rfl dX9_fault_7 ?_
  refine j_if_eq (tgt := 20) hx hb dX9_fault_10 (by decide) (fun c7 => ?_) (fun c7 => ?_) (by omega)
  · skip
    refine j_bipush hx hb dX9_fault_20 ?_ (by decide)
    subst hQ
    refine m_iret hx hb hr hlocks hH hS dX9_fault_22 ?_ (by omega)
    exact ⟨by show _ = (fltF (aC u0) (aL u0) 61 0 0 0).1; omega, ⟨_, _, _, _, _, _, _, hY, hR⟩, hfr⟩
  · skip
    refine lv_aload_n hx hb dX9_fault_13 rfl (lv_at hl 1 rfl) ?_
    refine m_get (C := RX9) (T := TX9) (N := 13) (ci := 8) hx hb hts i_X9 hown hK hH hY.1 rfl 11 (by decide) f_2 rfl dX9_fault_14 ?_
    refine lv_goto (tgt := 22) hx hb dX9_fault_17 (by decide) ?_
    subst hQ
    refine m_iret hx hb hr hlocks hH hS dX9_fault_22 ?_ (by omega)
    exact ⟨by show _ = (fltF (aC u0) (aL u0) 61 0 0 0).1; omega, ⟨_, _, _, _, _, _, _, hY, hR⟩, hfr⟩

abbrev rm_t_X9_doAll : Room := { frames := 8, cells := 0, slots := 0, locals := 188 }
set_option maxHeartbeats 4000000 in
set_option maxRecDepth 100000 in
theorem t_X9_doAll (l : Launch) (G : wG) (μ : hM) (n : Nat) (yy : Nat) (u0 : aS) (en : Int)  (hM0 : IsM G μ yy u0 en) (hen : en ≤ 5900) (hO : OkD (aD u0)) (hB5 : (aD u0).1 5 + 6200 ≤ 2000000000) : Met l yX9_doAll wsX9_doAll rm_t_X9_doAll (mPc G μ n [.ref yy]) (mQi G (fun z μ1 n1 => z = (a_doAll u0).2 ∧ (∃ h1 e1 : Int, (en ≤ e1 ∧ e1 ≤ en + 10) ∧ IsM G μ1 yy (hd11 (a_doAll u0).1 h1) e1) ∧ MFr yy μ μ1)) 0 0 (gA G) := by
  refine Met.ofW (cc := cX9_doAll) (maxL := 2) (ret := (some .int)) (by decide) rfl ?_
  intro p e s m args below meth c s₁ B hml hv
  obtain ⟨hav, hK, hH⟩ := hv
  have hx := B.exec
  have hb := B.bytes
  have hr := B.returns
  have hts := atoms_spec (ws := wsX9_doAll) B.pre
  have hown : s.vm.findClass RX9 = some m.cls := findClass_of_methodNamed B.named
  have hlocks := B.notSynchronized
  have hS : va_S (gA G) s.heap s.heap [] := va_S.rf
  have hl := lv_entry ([.ref yy]) (n := 2) (Nat.le_of_ble_eq_true rfl)
  have hfr : entryFrame m args 2 = entryFrame m ([.ref yy] : List Value).toArray 2 := by rw [hav]
  rw [hfr, lg_entry_eq]
  generalize (lg_sl ([.ref yy]) ++ List.replicate (2 - (lg_sl ([.ref yy])).length) Slot.unset).toArray = ls at hl ⊢
  have hl : lv_has ls 2 [(0, .ref yy)] := hl
  generalize hQ : MQ below _ args s 0 0 (gA G) = Q
  show W p l e rm_t_X9_doAll s m args below meth c s.heap [] 0 0 Q (F0 m 0 ls [])
  obtain ⟨H, hHe⟩ : ∃ H, H = s.heap := ⟨_, rfl⟩
  obtain ⟨locs, hlo⟩ : ∃ q : List Loc, q = [] := ⟨_, rfl⟩
  have hH : gP G μ n H := by rw [hHe]; exact hH
  have hS : va_S (gA G) s.heap H locs := by rw [hHe, hlo]; exact hS
  suffices hgo : W p l e rm_t_X9_doAll s m args below meth c H locs 0 0 Q (F0 m 0 ls []) by rw [hHe, hlo] at hgo; exact hgo
  clear hHe hlo hfr hav
  have f_0 := hts (.fieldLink RX9 132 "StampDaterModel" "isWrong" "Z") (List.mem_of_getElem? (i := 1) rfl)
  have i_X9 : ∀ w ∈ u_ws RX9 TX9 13, w ∈ wsX9_doAll := by decide +kernel
  have f_2 := hts (.fieldLink RX9 129 "StampDaterModel" "place" "I") (List.mem_of_getElem? (i := 2) rfl)
  have hfr : MFr yy μ μ := MFr.rf
  obtain ⟨α, β, κ, ω, fr, pl, wr, hY, hR⟩ := hM0
  have hT := hO.1
  have hOk := hT.1
  have h3 := hT.2.1
  have h5 := hT.2.2.1
  have h4 := hOk.2.2.2.1
  have hPD := hR.1
  have hen0 := hR.2.2.2.1
  have hkn := hR.2.2.2.2.1
  have hik := hR.2.2.2.2.2.1
  have hOC := hR.2.2.2.2.2.2
  have hl0 := hOC.1
  refine lv_aload_n hx hb dX9_doAll_0 rfl (lv_at hl 0 rfl) ?_
  refine j_const hx hb dX9_doAll_1 ?_
  refine m_callVi (As := [.int (iv 0)]) (rest := []) ⟨hx, hb, hml, hown, hts⟩ hK hH hS (c_X9_go0 l G μ n yy ((aD u0).1) α β κ (aC u0) ω (aN u0) (aT u0) (aL u0) en fr pl wr hY hOC h3) (cwV 1 hts gX9_doAll_X9_go rfl rfl rfl (by decide +kernel) ⟨(Nat.le_of_ble_eq_true rfl), (Nat.le_of_ble_eq_true rfl)⟩) hY.1 rfl rfl rfl rfl hl.1 (Nat.le_of_ble_eq_true rfl) dX9_doAll_2 ⟨Nat.zero_le _, Nat.zero_le _⟩ (fun z4 μ1 n2 H locs hz4 hp3 hH hS => ?_)
  obtain ⟨⟨pl5, wr6, hY, hgo⟩, hfr1⟩ := hp3
  have hfr := hfr.tr hfr1
  clear hfr1
  refine lv_istore_n (lv' := [(1, .int (iv z4)), (0, .ref yy)]) hx hb dX9_doAll_5 rfl hl (by decide) rfl (fun ls hl => ?_)
  have hFr := fltF_rng (c := aC u0) (L := aL u0) 61 0 0 0 (by omega) (by omega) (by omega)
  have hw01 : 0 ≤ wr6 ∧ wr6 ≤ 1 := by omega
  refine lv_aload_n hx hb dX9_doAll_6 rfl (lv_at hl 1 rfl) ?_
  refine m_get (C := RX9) (T := TX9) (N := 13) (ci := 8) hx hb hts i_X9 hown hK hH hY.1 rfl 12 (by decide) f_0 rfl dX9_doAll_7 ?_
  refine j_if_eq (tgt := 21) hx hb dX9_doAll_10 (by decide) (fun c7 => ?_) (fun c7 => ?_) (by omega)
  · skip
    refine lv_aload_n hx hb dX9_doAll_21 rfl (lv_at hl 1 rfl) ?_
    refine m_callVv (As := []) (rest := []) ⟨hx, hb, hml, hown, hts⟩ hK hH hS (c_X9_putAside l G μ1 n2 yy ((aD u0).1) α β κ (aC u0) ω (aN u0) (aT u0) (aL u0) en fr pl5 wr6 hY ) (cwV 0 hts gX9_doAll_X9_putAside rfl rfl rfl (by decide +kernel) ⟨(Nat.le_of_ble_eq_true rfl), (Nat.le_of_ble_eq_true rfl)⟩) hY.1 rfl rfl rfl rfl hl.1 (Nat.le_of_ble_eq_true rfl) dX9_doAll_22 ⟨Nat.zero_le _, Nat.zero_le _⟩ (fun μ8 n9 H locs hp10 hH hS => ?_)
    obtain ⟨hY, hfr1⟩ := hp10
    have hfr := hfr.tr hfr1
    clear hfr1
    refine lv_aload_n hx hb dX9_doAll_25 rfl (lv_at hl 1 rfl) ?_
    refine lv_aload_n hx hb dX9_doAll_26 rfl (lv_at hl 1 rfl) ?_
    refine j_const hx hb dX9_doAll_27 ?_
    refine m_callVi (As := [.int (iv 1)]) (rest := [.ref yy]) ⟨hx, hb, hml, hown, hts⟩ hK hH hS (c_X9_go1 l G μ8 n9 yy ((aD u0).1) ((aD u0).1) β κ (aC u0) ω (aN u0) (aT u0) (aL u0) en (en + 1) pl5 wr6 hY (aD u0).2 hOC hO hB5 hPD.1 hPD.2.1 hPD.2.2 (by omega) rfl (by omega)) (cwV 1 hts gX9_doAll_X9_go rfl rfl rfl (by decide +kernel) ⟨(Nat.le_of_ble_eq_true rfl), (Nat.le_of_ble_eq_true rfl)⟩) hY.1 rfl rfl rfl rfl hl.1 (Nat.le_of_ble_eq_true rfl) dX9_doAll_28 ⟨Nat.zero_le _, Nat.zero_le _⟩ (fun z14 μ11 n12 H locs hz14 hp13 hH hS => ?_)
    obtain ⟨hgo2, hfr1⟩ := hp13
    have hfr := hfr.tr hfr1
    clear hfr1
    rcases hgo2 with ⟨hle1, hz9, ω1, e1, h1, pl1, wr1, hY, hP1, hh1, hee, hpool, hs1⟩ | ⟨hle1, hz9, σ1, ω1, e1, pl1, wr1, hY, hpool⟩
    · skip
      rw [hz9]
      refine m_callVi (As := [.int (iv ((fltF (aC u0) (aL u0) 61 0 0 0).2.1))]) (rest := []) ⟨hx, hb, hml, hown, hts⟩ hK hH hS (c_X9_act l G μ11 n12 yy (fu (allD (aC u0) (aL u0) (fltF (aC u0) (aL u0) 61 0 0 0).2.1.toNat 0 (aD u0)).1 11 h1) ((aD u0).1) β κ (aC u0) ω1 (aN u0) (aT u0) (aL u0) e1 (en + 1) pl1 wr1 hY ((fltF (aC u0) (aL u0) 61 0 0 0).2.1) (by omega) (by omega)) (cwV 1 hts gX9_doAll_X9_act rfl rfl rfl (by decide +kernel) ⟨(Nat.le_of_ble_eq_true rfl), (Nat.le_of_ble_eq_true rfl)⟩) hY.1 rfl rfl rfl rfl hl.1 (Nat.le_of_ble_eq_true rfl) dX9_doAll_31 ⟨Nat.zero_le _, Nat.zero_le _⟩ (fun z18 μ15 n16 H locs hz18 hp17 hH hS => ?_)
      obtain ⟨hz9, hfr1, hn9, hp9⟩ := hp17
      have hfr := hfr.tr hfr1
      clear hfr1
      obtain ⟨β1, hY, hrel⟩ := hp9 (by omega)
      rw [hz9]
      clear hz9 hn9 hp9
      subst hQ
      refine m_iret hx hb hr hlocks hH hS dX9_doAll_34 ?_ (by omega)
      unfold a_doAll
      rw [if_pos (by omega), if_pos (by omega)]
      refine ⟨rfl, ⟨h1, e1, hee, _, _, _, _, _, _, _, hY, hR.act (d := (fu (allD (aC u0) (aL u0) (fltF (aC u0) (aL u0) 61 0 0 0).2.1.toNat 0 (aD u0)).1 11 h1, (allD (aC u0) (aL u0) (fltF (aC u0) (aL u0) 61 0 0 0).2.1.toNat 0 (aD u0)).2)) hrel hee.1 hpool ⟨?_, ?_, ?_⟩⟩, hfr⟩
      · show PCh ω1 (fu (allD (aC u0) (aL u0) (fltF (aC u0) (aL u0) 61 0 0 0).2.1.toNat 0 (aD u0)).1 11 h1 11) _; rw [fu_s]; exact hP1
      · show fu (allD (aC u0) (aL u0) (fltF (aC u0) (aL u0) 61 0 0 0).2.1.toNat 0 (aD u0)).1 11 h1 11 ≤ e1; rw [fu_s]; exact hh1
      · show SrtL (fu (allD (aC u0) (aL u0) (fltF (aC u0) (aL u0) 61 0 0 0).2.1.toNat 0 (aD u0)).1 11 h1 3) _; rw [fu_n (by omega)]; exact hs1
    · skip
      rw [hz9]
      refine m_callVi (As := [.int (iv (-3))]) (rest := []) ⟨hx, hb, hml, hown, hts⟩ hK hH hS (c_X9_act l G μ11 n12 yy σ1 ((aD u0).1) β κ (aC u0) ω1 (aN u0) (aT u0) (aL u0) e1 (en + 1) pl1 wr1 hY (-3) (by omega) (by omega)) (cwV 1 hts gX9_doAll_X9_act rfl rfl rfl (by decide +kernel) ⟨(Nat.le_of_ble_eq_true rfl), (Nat.le_of_ble_eq_true rfl)⟩) hY.1 rfl rfl rfl rfl hl.1 (Nat.le_of_ble_eq_true rfl) dX9_doAll_31 ⟨Nat.zero_le _, Nat.zero_le _⟩ (fun z22 μ19 n20 H locs hz22 hp21 hH hS => ?_)
      obtain ⟨hz9, hfr1, hn9, hp9⟩ := hp21
      have hfr := hfr.tr hfr1
      clear hfr1
      have hY := hn9 (by omega)
      rw [hz9]
      clear hz9 hn9 hp9
      subst hQ
      refine m_iret hx hb hr hlocks hH hS dX9_doAll_34 ?_ (by omega)
      unfold a_doAll
      rw [if_pos (by omega), if_neg (by omega)]
      have hR2 : IsMR ω1 κ β (en + 1 - 1) u0 := by
        rw [show en + 1 - 1 = en by omega]
        exact ⟨hR.1.fr hpool (Int.le_refl _), fun r hr hrn => ⟨(hR.2.1 r hr hrn).1, (hR.2.1 r hr hrn).2.fr hpool (Int.le_refl _)⟩, fun ht => ⟨(hR.2.2.1 ht).1, (hR.2.2.1 ht).2.fr hpool (Int.le_refl _)⟩, hR.2.2.2⟩
      exact ⟨rfl, ⟨(aD u0).1 11, en + 1 - 1, by omega, _, _, _, _, _, _, _, (by show IsMM G _ yy (fu (aD u0).1 11 ((aD u0).1 11)) _ _ _ _ _ _ _ _ _ _ _ _; rw [fu_i rfl]; exact hY), hid11 hR2⟩, hfr⟩
  · skip
    refine j_bipush hx hb dX9_doAll_13 ?_ (by decide)
    refine lv_aload_n hx hb dX9_doAll_15 rfl (lv_at hl 1 rfl) ?_
    refine m_get (C := RX9) (T := TX9) (N := 13) (ci := 8) hx hb hts i_X9 hown hK hH hY.1 rfl 11 (by decide) f_2 rfl dX9_doAll_16 ?_
    refine j_isub hx hb dX9_doAll_19 ?_
    subst hQ
    refine m_iret hx hb hr hlocks hH hS dX9_doAll_20 ?_ (by omega)
    unfold a_doAll
    rw [if_neg (by omega)]
    exact ⟨by show _ = -100 - (fltF (aC u0) (aL u0) 61 0 0 0).1; omega, ⟨(aD u0).1 11, en, by omega, _, _, _, _, _, _, _, (by show IsMM G _ yy (fu (aD u0).1 11 ((aD u0).1 11)) _ _ _ _ _ _ _ _ _ _ _ _; rw [fu_i rfl]; exact hY), hid11 hR⟩, hfr⟩
