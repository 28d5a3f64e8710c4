abbrev rm_c_X8_doAll : Room := { frames := 6, cells := 62, slots := 248, locals := 137 }
set_option maxHeartbeats 4000000 in
set_option maxRecDepth 100000 in
theorem c_X8_doAll (l : Launch) (G : wG) (μ : hM) (n : Nat) (x rb : Nat) (u0 : aS)  (hD : IsD G μ x rb u0) (hB5 : (aD u0).1 5 + 6200 ≤ 2000000000) : Met l yX8_doAll wsX8_doAll rm_c_X8_doAll (mPc G μ n [.ref x]) (mQi G (fun z μ1 n1 => z = (a_doAll u0).2 ∧ IsD G μ1 x rb (a_doAll u0).1 ∧ DFr x μ μ1)) 62 248 (gA G) := by
  refine Met.ofW (cc := cX8_doAll) (maxL := 4) (ret := (some .int)) (by decide) rfl ?_
  intro p e s m args below meth c s₁ B hml hv
  obtain ⟨hav, hK, hH⟩ := hv
  have hx := B.exec
  have hb := B.bytes
  have hr := B.returns
  have hts := atoms_spec (ws := wsX8_doAll) B.pre
  have hown : s.vm.findClass RX8 = some m.cls := findClass_of_methodNamed B.named
  have hlocks := B.notSynchronized
  have hS : va_S (gA G) s.heap s.heap [] := va_S.rf
  have hl := lv_entry ([.ref x]) (n := 4) (Nat.le_of_ble_eq_true rfl)
  have hfr : entryFrame m args 4 = entryFrame m ([.ref x] : List Value).toArray 4 := by rw [hav]
  rw [hfr, lg_entry_eq]
  generalize (lg_sl ([.ref x]) ++ List.replicate (4 - (lg_sl ([.ref x])).length) Slot.unset).toArray = ls at hl ⊢
  have hl : lv_has ls 4 [(0, .ref x)] := hl
  generalize hQ : MQ below _ args s 62 248 (gA G) = Q
  show W p l e rm_c_X8_doAll s m args below meth c s.heap [] 0 0 Q (F0 m 0 ls [])
  obtain ⟨H, hHe⟩ : ∃ H, H = s.heap := ⟨_, rfl⟩
  obtain ⟨locs, hlo⟩ : ∃ q : List Loc, q = [] := ⟨_, rfl⟩
  have hH : gP G μ n H := by rw [hHe]; exact hH
  have hS : va_S (gA G) s.heap H locs := by rw [hHe, hlo]; exact hS
  suffices hgo : W p l e rm_c_X8_doAll s m args below meth c H locs 0 0 Q (F0 m 0 ls []) by rw [hHe, hlo] at hgo; exact hgo
  clear hHe hlo hfr hav
  have f_0 := hts (.fieldLink RX8 33 "StampDater" "text" "LStampDater$Text;") (List.mem_of_getElem? (i := 1) rfl)
  have i_X8 : ∀ w ∈ u_ws RX8 TX8 6, w ∈ wsX8_doAll := by decide +kernel
  have f_2 := hts (.fieldLink RX8 10 "StampDater" "state" "LStampDater$State;") (List.mem_of_getElem? (i := 2) rfl)
  have f_3 := hts (.fieldLink RX8 48 "StampDater$State" "today" "I") (List.mem_of_getElem? (i := 3) rfl)
  have i_X6 : ∀ w ∈ u_ws RX6 TX6 8, w ∈ wsX8_doAll := by decide +kernel
  have f_5 := hts (.fieldLink RX8 142 "StampDater$Text" "days" "I") (List.mem_of_getElem? (i := 4) rfl)
  have i_X7 : ∀ w ∈ u_ws RX7 TX7 8, w ∈ wsX8_doAll := by decide +kernel
  have f_7 := hts (.constant RX8 52 (36524)) (List.mem_of_getElem? (i := 5) rfl)
  have f_8 := hts (.fieldLink RX8 19 "StampDater" "history" "LStampDater$History;") (List.mem_of_getElem? (i := 6) rfl)
  have f_9 := hts (.fieldLink RX8 145 "StampDater$Text" "orders" "I") (List.mem_of_getElem? (i := 7) rfl)
  have hfr : DFr x μ μ := DFr.rf
  have hD9 := hD
  obtain ⟨hX, ⟨π, fp, sp, rd, hZ, hC, hT, hch⟩, ⟨ρ, πs, fps, sps, rds, hL, hLs⟩, ⟨πk, fpk, spk, rdk, hY, hCk, hTk, hchk⟩, ⟨to, td, tk, tn, tt, ta, hTX⟩, ⟨πr, τr, fpr, spr, hI2, hOk2⟩, hsz, hkt, hOC, hrb, hlast⟩ := hD9
  have h3 := hT.2.1
  have h5 := hT.2.2.1
  have hS0 := hT.1
  have h4 := hS0.2.2.2.1
  obtain ⟨fl, hfl0⟩ : ∃ q : Int × Int × Int, q = fltF (aC u0) (aL u0) 61 0 0 0 := ⟨_, rfl⟩
  refine lv_aload_n hx hb dX8_doAll_0 rfl (lv_at hl 0 rfl) ?_
  refine m_get (C := RX8) (T := TX8) (N := 6) (ci := 7) hx hb hts i_X8 hown hK hH hX rfl 4 (by decide) f_0 rfl dX8_doAll_1 ?_
  refine m_callVi (As := []) (rest := []) ⟨hx, hb, hml, hown, hts⟩ hK hH hS (c_X7_findFault l G μ n (x + 177) (aC u0) (aL u0) to td tk tn tt ta hTX hOC) (cwV 0 hts gX8_doAll_X7_findFault rfl rfl rfl (by decide +kernel) ⟨(Nat.le_of_ble_eq_true rfl), (Nat.le_of_ble_eq_true rfl)⟩) hTX.1 rfl rfl rfl rfl hl.1 (Nat.le_of_ble_eq_true rfl) dX8_doAll_4 ⟨Nat.zero_le _, Nat.zero_le _⟩ (fun z4 μ1 n2 H locs hz4 hp3 hH hS => ?_)
  obtain ⟨hzr, ⟨ki1, nu1, ti1, at1, hx1⟩, hfr1⟩ := hp3
  have hfl := fltF_rng (c := aC u0) (L := aL u0) 61 0 0 0 (by have := hOC.1; omega) (by omega) (by omega)
  rw [← hfl0] at hzr hx1 hfl
  have hTY : IsText G μ1 (x + 177) (aC u0) (aL u0) (fl.2.1) (fl.2.2) ki1 nu1 ti1 at1 := hx1
  obtain ⟨hD, hfr2⟩ : IsD G μ1 x rb u0 ∧ DFr x _ μ1 := hD.pX ⟨_, _, _, _, _, _, hTY⟩ hOC (fun q e a b => (hfr1 q (by omega)).trans b)
  have hfr := hfr.tr hfr2
  clear hfr2
  clear hX hZ hC hT hch hL hLs hY hCk hTk hchk hTX hI2 hOk2 hsz hkt hOC hrb hlast
  have hD9 := hD
  obtain ⟨hX, ⟨π, fp, sp, rd, hZ, hC, hT, hch⟩, ⟨ρ, πs, fps, sps, rds, hL, hLs⟩, ⟨πk, fpk, spk, rdk, hY, hCk, hTk, hchk⟩, ⟨to, td, tk, tn, tt, ta, hTX⟩, ⟨πr, τr, fpr, spr, hI2, hOk2⟩, hsz, hkt, hOC, hrb, hlast⟩ := hD9
  refine lv_istore_n (lv' := [(1, .int (iv z4)), (0, .ref x)]) hx hb dX8_doAll_7 rfl hl (by decide) rfl (fun ls hl => ?_)
  refine lv_iload_n hx hb dX8_doAll_8 rfl (lv_at hl 0 rfl) ?_
  refine j_bipush hx hb dX8_doAll_9 ?_ (by decide)
  refine j_icmp_eq (tgt := 19) hx hb dX8_doAll_11 (by decide) (fun c5 => ?_) (fun c5 => ?_) (by omega) (by omega)
  · skip
    refine lv_aload_n hx hb dX8_doAll_19 rfl (lv_at hl 1 rfl) ?_
    refine m_get (C := RX8) (T := TX8) (N := 6) (ci := 7) hx hb hts i_X8 hown hK hH hX rfl 0 (by decide) f_2 rfl dX8_doAll_20 ?_
    refine m_get (C := RX6) (T := TX6) (N := 8) (ci := 5) hx hb hts i_X6 hown hK hH hZ.1 rfl 2 (by decide) f_3 rfl dX8_doAll_23 ?_
    refine lv_aload_n hx hb dX8_doAll_26 rfl (lv_at hl 1 rfl) ?_
    refine m_get (C := RX8) (T := TX8) (N := 6) (ci := 7) hx hb hts i_X8 hown hK hH hX rfl 4 (by decide) f_0 rfl dX8_doAll_27 ?_
    refine m_get (C := RX7) (T := TX7) (N := 8) (ci := 6) hx hb hts i_X7 hown hK hH hTY.1 rfl 3 (by decide) f_5 rfl dX8_doAll_30 ?_
    refine j_iadd hx hb dX8_doAll_33 ?_
    refine j_ldc hx hb (36524) hown f_7 dX8_doAll_34 ?_ (by decide)
    refine j_icmp_le (tgt := 42) hx hb dX8_doAll_36 (by decide) (fun c6 => ?_) (fun c6 => ?_) (by omega) (by omega)
    · skip
      have hf5 : fl.1 = -5 := by omega
      have hOC0 := hOC
      have hN61 : fl.2.1 ≤ 61 := by omega
      have hDD3 : (aD u0).1 3 + fl.2.2 ≤ 36524 := by omega
      refine lv_aload_n hx hb dX8_doAll_42 rfl (lv_at hl 1 rfl) ?_
      refine m_get (C := RX8) (T := TX8) (N := 6) (ci := 7) hx hb hts i_X8 hown hK hH hX rfl 1 (by decide) f_8 rfl dX8_doAll_43 ?_
      refine lv_aload_n hx hb dX8_doAll_46 rfl (lv_at hl 1 rfl) ?_
      refine m_get (C := RX8) (T := TX8) (N := 6) (ci := 7) hx hb hts i_X8 hown hK hH hX rfl 0 (by decide) f_2 rfl dX8_doAll_47 ?_
      refine m_callVv (As := [.ref (x + 1)]) (rest := []) ⟨hx, hb, hml, hown, hts⟩ hK hH hS (c_X2_remember l G μ1 n2 (x + 30) ρ (aN u0) πs (fun r => (aH u0 r).1) fps sps rds (x + 1) π ((aD u0).1) fp sp rd hL hsz hZ hT (by omega)) (cwV 1 hts gX8_doAll_X2_remember rfl rfl rfl (by decide +kernel) ⟨(Nat.le_of_ble_eq_true rfl), (Nat.le_of_ble_eq_true rfl)⟩) hL.1 rfl rfl rfl rfl hl.1 (Nat.le_of_ble_eq_true rfl) dX8_doAll_50 ⟨Nat.zero_le _, Nat.zero_le _⟩ (fun μ7 n8 H locs hp9 hH hS => ?_)
      obtain ⟨ρ1, πs1, fps1, sps1, hL1, hfr1⟩ := hp9
      have hTY : IsText G μ7 (x + 177) (aC u0) (aL u0) (fl.2.1) (fl.2.2) ki1 nu1 ti1 at1 := hTY.fr (fun q a b => hfr1 q (by omega))
      obtain ⟨hD, hfr2⟩ : IsD G μ7 x rb (aAct u0 (aD u0)) ∧ DFr x _ μ7 := hD.rem hC hLs hL1 (fun q hq => hfr1 q (by omega))
      have hfr := hfr.tr hfr2
      clear hfr2
      clear hX hZ hC hT hch hL hLs hY hCk hTk hchk hTX hI2 hOk2 hsz hkt hOC hrb hlast
      have hD9 := hD
      obtain ⟨hX, ⟨π, fp, sp, rd, hZ, hC, hT, hch⟩, ⟨ρ, πs, fps, sps, rds, hL, hLs⟩, ⟨πk, fpk, spk, rdk, hY, hCk, hTk, hchk⟩, ⟨to, td, tk, tn, tt, ta, hTX⟩, ⟨πr, τr, fpr, spr, hI2, hOk2⟩, hsz, hkt, hOC, hrb, hlast⟩ := hD9
      refine lv_aload_n hx hb dX8_doAll_53 rfl (lv_at hl 1 rfl) ?_
      refine m_get (C := RX8) (T := TX8) (N := 6) (ci := 7) hx hb hts i_X8 hown hK hH hX rfl 4 (by decide) f_0 rfl dX8_doAll_54 ?_
      refine m_get (C := RX7) (T := TX7) (N := 8) (ci := 6) hx hb hts i_X7 hown hK hH hTY.1 rfl 2 (by decide) f_9 rfl dX8_doAll_57 ?_
      refine lv_istore_n (lv' := [(2, .int (iv (fl.2.1))), (1, .int (iv z4)), (0, .ref x)]) hx hb dX8_doAll_60 rfl hl (by decide) rfl (fun ls hl => ?_)
      refine lv_aload_n hx hb dX8_doAll_61 rfl (lv_at hl 2 rfl) ?_
      refine m_get (C := RX8) (T := TX8) (N := 6) (ci := 7) hx hb hts i_X8 hown hK hH hX rfl 4 (by decide) f_0 rfl dX8_doAll_62 ?_
      refine m_callVv (As := []) (rest := []) ⟨hx, hb, hml, hown, hts⟩ hK hH hS (c_X7_begin l G μ7 n8 (x + 177) (aC u0) (aL u0) (fl.2.1) (fl.2.2) ki1 nu1 ti1 at1 hTY) (cwV 0 hts gX8_doAll_X7_begin rfl rfl rfl (by decide +kernel) ⟨(Nat.le_of_ble_eq_true rfl), (Nat.le_of_ble_eq_true rfl)⟩) hTY.1 rfl rfl rfl rfl hl.1 (Nat.le_of_ble_eq_true rfl) dX8_doAll_65 ⟨Nat.zero_le _, Nat.zero_le _⟩ (fun μ10 n11 H locs hp12 hH hS => ?_)
      obtain ⟨hTY, hfr1⟩ := hp12
      have hTY : IsText G μ10 (x + 177) (aC u0) (aL u0) (fl.2.1) (fl.2.2) ki1 nu1 ti1 0 := hTY
      obtain ⟨hD, hfr2⟩ : IsD G μ10 x rb (aAct u0 (aD u0)) ∧ DFr x _ μ10 := hD.pX ⟨_, _, _, _, _, _, hTY⟩ hOC (fun q e a b => (hfr1 q (by omega)).trans b)
      have hfr := hfr.tr hfr2
      clear hfr2
      clear hX hZ hC hT hch hL hLs hY hCk hTk hchk hTX hI2 hOk2 hsz hkt hOC hrb hlast
      have hD9 := hD
      obtain ⟨hX, ⟨π, fp, sp, rd, hZ, hC, hT, hch⟩, ⟨ρ, πs, fps, sps, rds, hL, hLs⟩, ⟨πk, fpk, spk, rdk, hY, hCk, hTk, hchk⟩, ⟨to, td, tk, tn, tt, ta, hTX⟩, ⟨πr, τr, fpr, spr, hI2, hOk2⟩, hsz, hkt, hOC, hrb, hlast⟩ := hD9
      refine j_const hx hb dX8_doAll_68 ?_
      refine lv_istore_n (lv' := [(3, .int (iv 0)), (2, .int (iv (fl.2.1))), (1, .int (iv z4)), (0, .ref x)]) hx hb dX8_doAll_69 rfl hl (by decide) rfl (fun ls hl => ?_)
      have lp70 : ∀ (fuel : Nat) (i : Int) (dc : dT) (bp : Int) (dd : Int) (ki2 : Int) (nu2 : Int) (ti2 : Int) (ν : hM) (ν0 : Nat) (hi : 0 ≤ i ∧ i ≤ (fl.2.1)) (hD : IsD G ν x rb (dc, (aAct u0 (aD u0)).2)) (hTY : IsText G ν (x + 177) (aC u0) (aL u0) (fl.2.1) (fl.2.2) ki2 nu2 ti2 bp) (hfr : DFr x μ ν) (hdo : DoI (aC u0) (aL u0) fl (aD u0) dc i bp dd) (_ : ((fl.2.1) - i).toNat < fuel) (H : Heap) (locs : List Loc) (ls : Array Slot) (_ : gP G ν ν0 H) (_ : va_S (gA G) s.heap H locs) (_ : lv_has ls 4 [(0, .ref x), (2, .int (iv (fl.2.1))), (3, .int (iv i))]), W p l e rm_c_X8_doAll s m args below meth c H locs i.toNat (4 * i.toNat) Q (F0 m 70 ls []) := by
        intro fuel
        induction fuel with
        | zero => intro _ _ _ _ _ _ _ _ _ _ _ _ _ _ hfuel; exact absurd hfuel (Nat.not_lt_zero _)
        | succ fuel ih =>
          intro i dc bp dd ki2 nu2 ti2 ν ν0 hi hD hTY hfr hdo hfuel H locs ls hH hS hl
          clear hX hZ hC hT hch hL hLs hY hCk hTk hchk hTX hI2 hOk2 hsz hkt hOC hrb hlast
          have hD9 := hD
          obtain ⟨hX, ⟨π, fp, sp, rd, hZ, hC, hT, hch⟩, ⟨ρ, πs, fps, sps, rds, hL, hLs⟩, ⟨πk, fpk, spk, rdk, hY, hCk, hTk, hchk⟩, ⟨to, td, tk, tn, tt, ta, hTX⟩, ⟨πr, τr, fpr, spr, hI2, hOk2⟩, hsz, hkt, hOC, hrb, hlast⟩ := hD9
          have ih13 := ih; clear ih
          refine lv_iload_n hx hb dX8_doAll_70 rfl (lv_at hl 2 rfl) ?_
          refine lv_iload_n hx hb dX8_doAll_71 rfl (lv_at hl 1 rfl) ?_
          refine j_icmp_ge (tgt := 103) hx hb dX8_doAll_72 (by decide) (fun c14 => ?_) (fun c14 => ?_) (by omega) (by omega)
          · skip
            refine lv_iload_n hx hb dX8_doAll_103 rfl (lv_at hl 1 rfl) ?_
            refine W.widen (k := 62) (n := 248) (by omega) (by omega) ?_
            subst hQ
            refine m_iret hx hb hr hlocks hH hS dX8_doAll_104 ?_ (by omega)
            have hdc := hdo.fin (by omega)
            rw [hdc] at hD
            unfold a_doAll
            rw [← hfl0]
            rw [if_pos (by omega), if_pos (by omega)]
            exact ⟨rfl, hD, hfr⟩
          · skip
            refine lv_aload_n hx hb dX8_doAll_75 rfl (lv_at hl 0 rfl) ?_
            refine m_get (C := RX8) (T := TX8) (N := 6) (ci := 7) hx hb hts i_X8 hown hK hH hX rfl 4 (by decide) f_0 rfl dX8_doAll_76 ?_
            obtain ⟨hbp, hor1, hofr, h55, -⟩ := hdo.at_ (by omega) hN61
            refine m_callVi (As := []) (rest := []) ⟨hx, hb, hml, hown, hts⟩ hK hH hS (c_X7_readOrder l G ν ν0 (x + 177) (aC u0) (aL u0) (fl.2.1) (fl.2.2) ki2 nu2 ti2 bp hTY hOC0 hbp) (cwV 0 hts gX8_doAll_X7_readOrder rfl rfl rfl (by decide +kernel) ⟨(Nat.le_of_ble_eq_true rfl), (Nat.le_of_ble_eq_true rfl)⟩) hTY.1 rfl rfl rfl rfl hl.1 (Nat.le_of_ble_eq_true rfl) dX8_doAll_79 ⟨(by show _ ≤ 62; omega), (by show _ ≤ 248; omega)⟩ (fun z18 μ15 n16 H locs hz18 hp17 hH hS => ?_)
            obtain ⟨nu3, ti3, hzo, hTY, hnt, hfr1⟩ := hp17
            have hz1 : z18 = 1 := hzo.trans hor1
            have hnt9 : PLift _ := PLift.up (hnt hz1)
            clear hnt hzo
            have hTY : IsText G μ15 (x + 177) (aC u0) (aL u0) (fl.2.1) (fl.2.2) (nxt (aC u0) (aL u0) bp) nu3 ti3 ((ordF (aC u0) (aL u0) bp).2.1) := hTY
            obtain ⟨hD, hfr2⟩ : IsD G μ15 x rb (dc, (aAct u0 (aD u0)).2) ∧ DFr x _ μ15 := hD.pX ⟨_, _, _, _, _, _, hTY⟩ hOC (fun q e a b => (hfr1 q (by omega)).trans b)
            have hfr := hfr.tr hfr2
            clear hfr2
            clear hX hZ hC hT hch hL hLs hY hCk hTk hchk hTX hI2 hOk2 hsz hkt hOC hrb hlast
            have hD9 := hD
            obtain ⟨hX, ⟨π, fp, sp, rd, hZ, hC, hT, hch⟩, ⟨ρ, πs, fps, sps, rds, hL, hLs⟩, ⟨πk, fpk, spk, rdk, hY, hCk, hTk, hchk⟩, ⟨to, td, tk, tn, tt, ta, hTX⟩, ⟨πr, τr, fpr, spr, hI2, hOk2⟩, hsz, hkt, hOC, hrb, hlast⟩ := hD9
            refine j_if_eq (tgt := 89) hx hb dX8_doAll_82 (by decide) (fun c19 => absurd c19 (by omega)) (fun c19 => ?_) (by omega)
            refine lv_aload_n hx hb dX8_doAll_85 rfl (lv_at hl 0 rfl) ?_
            have hnr := nxt_rng hOC0 bp
            have hdo2 := hdo.step (by omega) hN61 hT hDD3 hB5 hnt9.down
            refine m_callVv (As := []) (rest := []) ⟨hx, hb, hml, hown, hts⟩ hK hH hS (c_X8_doOrder l G μ15 n16 x rb (dc, (aAct u0 (aD u0)).2) (fl.2.1) (fl.2.2) (nxt (aC u0) (aL u0) bp) nu3 ti3 ((ordF (aC u0) (aL u0) bp).2.1) hD hTY (by omega) (hdo.pre (by omega) hN61 hT hDD3 hnt9.down).1 (hdo.pre (by omega) hN61 hT hDD3 hnt9.down).2.1 (hdo.pre (by omega) hN61 hT hDD3 hnt9.down).2.2.1 (hdo.pre (by omega) hN61 hT hDD3 hnt9.down).2.2.2 (by show dc.1 5 + 99 ≤ _; omega)) (cwV 0 hts gX8_doAll_X8_doOrder rfl rfl rfl (by decide +kernel) ⟨(Nat.le_of_ble_eq_true rfl), (Nat.le_of_ble_eq_true rfl)⟩) hX rfl rfl rfl rfl hl.1 (Nat.le_of_ble_eq_true rfl) dX8_doAll_86 ⟨(by show _ ≤ 62; omega), (by show _ ≤ 248; omega)⟩ (fun μ20 n21 H locs hp22 hH hS => ?_)
            obtain ⟨hD1, hTY1, hfr1⟩ := hp22
            have hTY : IsText G μ20 (x + 177) (aC u0) (aL u0) (fl.2.1) (fl.2.2) (nxt (aC u0) (aL u0) bp) nu3 ti3 ((ordF (aC u0) (aL u0) bp).2.1) := hTY1
            obtain ⟨hD, hfr2⟩ : IsD G μ20 x rb (ordD (nxt (aC u0) (aL u0) bp) nu3 ti3 dc, (aAct u0 (aD u0)).2) ∧ DFr x _ μ20 := ⟨hD1, hfr1⟩
            have hfr := hfr.tr hfr2
            clear hfr2
            clear hX hZ hC hT hch hL hLs hY hCk hTk hchk hTX hI2 hOk2 hsz hkt hOC hrb hlast
            have hD9 := hD
            obtain ⟨hX, ⟨π, fp, sp, rd, hZ, hC, hT, hch⟩, ⟨ρ, πs, fps, sps, rds, hL, hLs⟩, ⟨πk, fpk, spk, rdk, hY, hCk, hTk, hchk⟩, ⟨to, td, tk, tn, tt, ta, hTX⟩, ⟨πr, τr, fpr, spr, hI2, hOk2⟩, hsz, hkt, hOC, hrb, hlast⟩ := hD9
            refine lv_aload_n hx hb dX8_doAll_89 rfl (lv_at hl 0 rfl) ?_
            refine m_get (C := RX8) (T := TX8) (N := 6) (ci := 7) hx hb hts i_X8 hown hK hH hX rfl 4 (by decide) f_0 rfl dX8_doAll_90 ?_
            refine m_callVi (As := []) (rest := []) ⟨hx, hb, hml, hown, hts⟩ hK hH hS (c_X7_readMore l G μ20 n21 (x + 177) (aC u0) (aL u0) (fl.2.1) (fl.2.2) (nxt (aC u0) (aL u0) bp) nu3 ti3 ((ordF (aC u0) (aL u0) bp).2.1) hTY hOC0 (by omega)) (cwV 0 hts gX8_doAll_X7_readMore rfl rfl rfl (by decide +kernel) ⟨(Nat.le_of_ble_eq_true rfl), (Nat.le_of_ble_eq_true rfl)⟩) hTY.1 rfl rfl rfl rfl hl.1 (Nat.le_of_ble_eq_true rfl) dX8_doAll_93 ⟨(by show _ ≤ 62; omega), (by show _ ≤ 248; omega)⟩ (fun z26 μ23 n24 H locs hz26 hp25 hH hS => ?_)
            obtain ⟨hz3, hTY, hfr1⟩ := hp25
            have hTY : IsText G μ23 (x + 177) (aC u0) (aL u0) (fl.2.1) (fl.2.2) (nxt (aC u0) (aL u0) bp) nu3 ti3 (if nxt (aC u0) (aL u0) (ordF (aC u0) (aL u0) bp).2.1 = 59 then (ordF (aC u0) (aL u0) bp).2.1 + 1 else (ordF (aC u0) (aL u0) bp).2.1) := hTY
            obtain ⟨hD, hfr2⟩ : IsD G μ23 x rb (ordD (nxt (aC u0) (aL u0) bp) nu3 ti3 dc, (aAct u0 (aD u0)).2) ∧ DFr x _ μ23 := hD.pX ⟨_, _, _, _, _, _, hTY⟩ hOC (fun q e a b => (hfr1 q (by omega)).trans b)
            have hfr := hfr.tr hfr2
            clear hfr2
            clear hX hZ hC hT hch hL hLs hY hCk hTk hchk hTX hI2 hOk2 hsz hkt hOC hrb hlast
            have hD9 := hD
            obtain ⟨hX, ⟨π, fp, sp, rd, hZ, hC, hT, hch⟩, ⟨ρ, πs, fps, sps, rds, hL, hLs⟩, ⟨πk, fpk, spk, rdk, hY, hCk, hTk, hchk⟩, ⟨to, td, tk, tn, tt, ta, hTX⟩, ⟨πr, τr, fpr, spr, hI2, hOk2⟩, hsz, hkt, hOC, hrb, hlast⟩ := hD9
            refine lv_pop hx hb dX8_doAll_96 rfl ?_
            refine j_iinc (lv' := [(3, .int (iv (i + 1))), (0, .ref x), (2, .int (iv (fl.2.1)))]) hx hb dX8_doAll_97 hl (k := 2) rfl (by decide) rfl (fun ls hl => ?_)
            refine lv_goto (tgt := 70) hx hb dX8_doAll_100 (by decide) ?_
            refine W.widen (k := (i + 1).toNat) (n := (4 * (i + 1).toNat)) (by omega) (by omega) ?_
            exact ih13 (i + 1) (ordD (nxt (aC u0) (aL u0) bp) nu3 ti3 dc) (if nxt (aC u0) (aL u0) (ordF (aC u0) (aL u0) bp).2.1 = 59 then (ordF (aC u0) (aL u0) bp).2.1 + 1 else (ordF (aC u0) (aL u0) bp).2.1) (dd + (if (nxt (aC u0) (aL u0) bp) = 43 then (ordF (aC u0) (aL u0) bp).2.2.1 else 0)) (nxt (aC u0) (aL u0) bp) nu3 ti3 μ23 n24 (by omega) hD hTY hfr hdo2 (by omega) H locs ls hH hS (lv_sub hl [1, 2, 0] rfl)
      refine W.widen (k := (0 : Int).toNat) (n := (4 * (0 : Int).toNat)) (by omega) (by omega) ?_
      exact lp70 ((fl.2.1).toNat + 1) 0 (aD u0) 0 0 _ _ _ μ10 n11 (by omega) hD hTY hfr (DoI.init hOC0.1 hfl0 hf5) (by omega) H locs ls hH hS (lv_sub hl [3, 1, 0] rfl)
    · skip
      refine j_bipush hx hb dX8_doAll_39 ?_ (by decide)
      refine W.widen (k := 62) (n := 248) (by omega) (by omega) ?_
      subst hQ
      refine m_iret hx hb hr hlocks hH hS dX8_doAll_41 ?_ (by omega)
      unfold a_doAll
      rw [← hfl0]
      rw [if_pos (by omega), if_neg (by omega)]
      exact ⟨rfl, hD, hfr⟩
  · skip
    have hl60 := hOC.1
    refine j_bipush hx hb dX8_doAll_14 ?_ (by decide)
    refine lv_iload_n hx hb dX8_doAll_16 rfl (lv_at hl 0 rfl) ?_
    refine j_isub hx hb dX8_doAll_17 ?_
    refine W.widen (k := 62) (n := 248) (by omega) (by omega) ?_
    subst hQ
    refine m_iret hx hb hr hlocks hH hS dX8_doAll_18 ?_ (by omega)
    unfold a_doAll
    rw [← hfl0, if_neg (by omega)]
    exact ⟨by omega, hD, hfr⟩
