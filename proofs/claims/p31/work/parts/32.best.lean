theorem c_X8_daysOfTrialI (l : Launch) (G : wG) (μ : hM) (n : Nat) (x rb : Nat) (u0 : aS) (a b k t : Int) (hD : IsD G μ x rb u0) (ha : 0 ≤ a ∧ a ≤ 5) (hb9 : 0 ≤ b ∧ b ≤ 5) (hk : 1 ≤ k ∧ k ≤ 9) (ht : 1 ≤ t ∧ t ≤ 20) : Met l yX8_daysOfTrial wsX8_daysOfTrial rm_c_X8_daysOfTrial (mPc G μ n [.ref x, .int (iv a), .int (iv b), .int (iv k), .int (iv t)]) (mQi G (fun z μ1 n1 => z = lasF (swpS (aD u0).1 a.toNat b.toNat) k t ∧ IsD G μ1 x rb u0 ∧ DFr x μ μ1)) 0 0 (gA G) := by
  obtain ⟨pn, hpn⟩ : ∃ pn : Nat, pn = a.toNat := ⟨_, rfl⟩
  obtain ⟨qn, hqn⟩ : ∃ qn : Nat, qn = b.toNat := ⟨_, rfl⟩
  have ea : a = (pn : Int) := by omega
  have eb : b = (qn : Int) := by omega
  clear hpn hqn
  subst ea
  subst eb
  exact c_X8_daysOfTrial l G μ n x rb u0 pn qn k t hD (by omega) (by omega) hk ht
theorem beS_rng {σ : Nat → Int} {k t : Int} {p q : Nat} {x : Int × Int} (h : 0 ≤ x.1 ∧ x.1 ≤ 200) : 0 ≤ (beS σ k t p q x).1 ∧ (beS σ k t p q x).1 ≤ 200 := by
  have := lasF_rng (swpS σ p q) k t
  unfold beS
  split
  · exact this
  · exact h
theorem beQ_200 {σ : Nat → Int} {k t : Int} {p : Nat} : ∀ (f q : Nat) (x : Int × Int), 200 ≤ x.1 → beQ σ k t p f q x = x := by
  intro f
  induction f with
  | zero => intro q x _; rfl
  | succ f ih =>
    intro q x h
    have hl := lasF_rng (swpS σ p q) k t
    have hs : beS σ k t p q x = x := if_neg (by omega)
    show beQ σ k t p f (q + 1) (beS σ k t p q x) = x
    rw [hs]
    exact ih _ _ h

abbrev rm_c_X8_bestExchange : Room := { frames := 6, cells := 0, slots := 0, locals := 142 }
set_option maxHeartbeats 4000000 in
set_option maxRecDepth 100000 in
theorem c_X8_bestExchange (l : Launch) (G : wG) (μ : hM) (n : Nat) (x rb : Nat) (u0 : aS) (k t : Int) (hD : IsD G μ x rb u0) (hk1 : -2147483648 ≤ k ∧ k ≤ 2147483647) (ht1 : -2147483648 ≤ t ∧ t ≤ 2147483647) : Met l yX8_bestExchange wsX8_bestExchange rm_c_X8_bestExchange (mPc G μ n [.ref x, .int (iv k), .int (iv t)]) (mQi G (fun z μ1 n1 => z = a_best ((aD u0).1) k t ∧ IsD G μ1 x rb u0 ∧ DFr x μ μ1)) 0 0 (gA G) := by
  refine Met.ofW (cc := cX8_bestExchange) (maxL := 8) (ret := (some .int)) (by decide) rfl ?_
  intro p e s m args below meth c s₁ B hml hv
  obtain ⟨hav, hK, hH⟩ := hv
  have hx := B.exec
  have hb := B.bytes
  have hr := B.returns
  have hts := atoms_spec (ws := wsX8_bestExchange) B.pre
  have hown : s.vm.findClass RX8 = some m.cls := findClass_of_methodNamed B.named
  have hlocks := B.notSynchronized
  have hS : va_S (gA G) s.heap s.heap [] := va_S.rf
  have hl := lv_entry ([.ref x, .int (iv k), .int (iv t)]) (n := 8) (Nat.le_of_ble_eq_true rfl)
  have hfr : entryFrame m args 8 = entryFrame m ([.ref x, .int (iv k), .int (iv t)] : List Value).toArray 8 := by rw [hav]
  rw [hfr, lg_entry_eq]
  generalize (lg_sl ([.ref x, .int (iv k), .int (iv t)]) ++ List.replicate (8 - (lg_sl ([.ref x, .int (iv k), .int (iv t)])).length) Slot.unset).toArray = ls at hl ⊢
  have hl : lv_has ls 8 [(0, .ref x), (1, .int (iv k)), (2, .int (iv t))] := hl
  generalize hQ : MQ below _ args s 0 0 (gA G) = Q
  show W p l e rm_c_X8_bestExchange s m args below meth c s.heap [] 0 0 Q (F0 m 0 ls [])
  obtain ⟨H, hHe⟩ : ∃ H, H = s.heap := ⟨_, rfl⟩
  obtain ⟨locs, hlo⟩ : ∃ q : List Loc, q = [] := ⟨_, rfl⟩
  have hH : gP G μ n H := by rw [hHe]; exact hH
  have hS : va_S (gA G) s.heap H locs := by rw [hHe, hlo]; exact hS
  suffices hgo : W p l e rm_c_X8_bestExchange s m args below meth c H locs 0 0 Q (F0 m 0 ls []) by rw [hHe, hlo] at hgo; exact hgo
  clear hHe hlo hfr hav
  have hfr : DFr x μ μ := DFr.rf
  have hD9 := hD
  obtain ⟨hX, ⟨π, fp, sp, rd, hZ, hC, hT, hch⟩, ⟨ρ, πs, fps, sps, rds, hL, hLs⟩, ⟨πk, fpk, spk, rdk, hY, hCk, hTk, hchk⟩, ⟨to, td, tk, tn, tt, ta, hTX⟩, ⟨πr, τr, fpr, spr, hI2, hOk2⟩, hsz, hkt, hOC, hrb, hlast⟩ := hD9
  have h3 := hT.2.1
  have h5 := hT.2.2.1
  have hS0 := hT.1
  have h4 := hS0.2.2.2.1
  refine lv_iload_n hx hb dX8_bestExchange_0 rfl (lv_at hl 1 rfl) ?_
  refine m_callSi (As := [.int (iv k)]) (rest := []) ⟨hx, hb, hml, hown, hts⟩ hK hH hS (c_X8_isStrength l G μ n k (by omega)) (va_cwS 1 hts gX8_bestExchange_X8_isStrength rfl rfl rfl (by decide +kernel) ⟨(Nat.le_of_ble_eq_true rfl), (Nat.le_of_ble_eq_true rfl)⟩) rfl rfl hl.1 (Nat.le_of_ble_eq_true rfl) dX8_bestExchange_1 ⟨Nat.zero_le _, Nat.zero_le _⟩ (fun z4 μ1 n2 H locs hz4 hp3 hH hS => ?_)
  obtain ⟨hz9, hm9, hn9⟩ := hp3
  rw [hm9, hn9] at hH
  have hz4c : (z4 = 1 ∧ (1 ≤ k ∧ k ≤ 9)) ∨ (z4 = 0 ∧ ¬ (1 ≤ k ∧ k ≤ 9)) := by
    by_cases q9 : 1 ≤ k ∧ k ≤ 9
    · rw [if_pos q9] at hz9; exact Or.inl ⟨hz9, q9⟩
    · rw [if_neg q9] at hz9; exact Or.inr ⟨hz9, q9⟩
  clear hz9 hm9 hn9
  refine j_if_eq (tgt := 17) hx hb dX8_bestExchange_4 (by decide) (fun c5 => ?_) (fun c5 => ?_) (by omega)
  · skip
    refine j_bipush hx hb dX8_bestExchange_17 ?_ (by decide)
    subst hQ
    refine m_iret hx hb hr hlocks hH hS dX8_bestExchange_19 ?_ (by omega)
    refine ⟨?_, hD, hfr⟩
    unfold a_best
    rw [if_neg (by omega)]
  · skip
    refine lv_iload_n hx hb dX8_bestExchange_7 rfl (lv_at hl 2 rfl) ?_
    refine j_const hx hb dX8_bestExchange_8 ?_
    refine j_bipush hx hb dX8_bestExchange_9 ?_ (by decide)
    refine m_callSi (As := [.int (iv t), .int (iv 1), .int (iv 20)]) (rest := []) ⟨hx, hb, hml, hown, hts⟩ hK hH hS (c_X8_isWithin l G μ n t 1 20 (by omega) (by omega) (by omega)) (va_cwS 3 hts gX8_bestExchange_X8_isWithin rfl rfl rfl (by decide +kernel) ⟨(Nat.le_of_ble_eq_true rfl), (Nat.le_of_ble_eq_true rfl)⟩) rfl rfl hl.1 (Nat.le_of_ble_eq_true rfl) dX8_bestExchange_11 ⟨Nat.zero_le _, Nat.zero_le _⟩ (fun z9 μ6 n7 H locs hz9 hp8 hH hS => ?_)
    obtain ⟨hz9, hm9, hn9⟩ := hp8
    rw [hm9, hn9] at hH
    have hz9c : (z9 = 1 ∧ (1 ≤ t ∧ t ≤ 20)) ∨ (z9 = 0 ∧ ¬ (1 ≤ t ∧ t ≤ 20)) := by
      by_cases q9 : 1 ≤ t ∧ t ≤ 20
      · rw [if_pos q9] at hz9; exact Or.inl ⟨hz9, q9⟩
      · rw [if_neg q9] at hz9; exact Or.inr ⟨hz9, q9⟩
    clear hz9 hm9 hn9
    refine j_if_ne (tgt := 20) hx hb dX8_bestExchange_14 (by decide) (fun c10 => ?_) (fun c10 => ?_) (by omega)
    · skip
      refine lv_aload_n hx hb dX8_bestExchange_20 rfl (lv_at hl 0 rfl) ?_
      refine j_const hx hb dX8_bestExchange_21 ?_
      refine j_const hx hb dX8_bestExchange_22 ?_
      refine lv_iload_n hx hb dX8_bestExchange_23 rfl (lv_at hl 1 rfl) ?_
      refine lv_iload_n hx hb dX8_bestExchange_24 rfl (lv_at hl 2 rfl) ?_
      refine m_callVi (As := [.int (iv 0), .int (iv 0), .int (iv k), .int (iv t)]) (rest := []) ⟨hx, hb, hml, hown, hts⟩ hK hH hS (c_X8_daysOfTrialI l G μ n x rb u0 0 0 k t hD (by omega) (by omega) (by omega) (by omega)) (cwV 4 hts gX8_bestExchange_X8_daysOfTrial rfl rfl rfl (by decide +kernel) ⟨(Nat.le_of_ble_eq_true rfl), (Nat.le_of_ble_eq_true rfl)⟩) hX rfl rfl rfl rfl hl.1 (Nat.le_of_ble_eq_true rfl) dX8_bestExchange_25 ⟨Nat.zero_le _, Nat.zero_le _⟩ (fun z14 μ11 n12 H locs hz14 hp13 hH hS => ?_)
      obtain ⟨hzr15, hD1, hfr1⟩ := hp13
      have hzr15 : z14 = lasF ((aD u0).1) k t := by rw [hzr15]; exact congrArg (fun q => lasF q k t) (swpS_00 _)
      have hlr := lasF_rng ((aD u0).1) k t
      obtain ⟨hD, hfr2⟩ : IsD G μ11 x rb u0 ∧ DFr x _ μ11 := ⟨hD1, hfr1⟩
      have hfr := hfr.tr hfr2
      clear hfr2
      clear hX hZ hC hT hch hL hLs hY hCk hTk hchk hTX hI2 hOk2 hsz hkt hOC hrb hlast
      have hD9 := hD
      obtain ⟨hX, ⟨π, fp, sp, rd, hZ, hC, hT, hch⟩, ⟨ρ, πs, fps, sps, rds, hL, hLs⟩, ⟨πk, fpk, spk, rdk, hY, hCk, hTk, hchk⟩, ⟨to, td, tk, tn, tt, ta, hTX⟩, ⟨πr, τr, fpr, spr, hI2, hOk2⟩, hsz, hkt, hOC, hrb, hlast⟩ := hD9
      refine lv_istore_n (lv' := [(3, .int (iv z14)), (0, .ref x), (1, .int (iv k)), (2, .int (iv t))]) hx hb dX8_bestExchange_28 rfl hl (by decide) rfl (fun ls hl => ?_)
      refine j_bipush hx hb dX8_bestExchange_29 ?_ (by decide)
      refine lv_istore (lv' := [(4, .int (iv (-5))), (3, .int (iv z14)), (0, .ref x), (1, .int (iv k)), (2, .int (iv t))]) hx hb dX8_bestExchange_31 hl (by decide) rfl (fun ls hl => ?_)
      refine j_const hx hb dX8_bestExchange_33 ?_
      refine lv_istore (lv' := [(5, .int (iv 0)), (4, .int (iv (-5))), (3, .int (iv z14)), (0, .ref x), (1, .int (iv k)), (2, .int (iv t))]) hx hb dX8_bestExchange_34 hl (by decide) rfl (fun ls hl => ?_)
      have lp36 : ∀ (fuel : Nat) (i : Int) (lo : Int) (be : Int) (ν : hM) (ν0 : Nat) (hi : 0 ≤ i ∧ i ≤ 6) (he : beP ((aD u0).1) k t 6 0 (lasF ((aD u0).1) k t, -5) = beP ((aD u0).1) k t (6 - i).toNat i.toNat (lo, be)) (hkt9 : (1 ≤ k ∧ k ≤ 9) ∧ 1 ≤ t ∧ t ≤ 20) (hlo : 0 ≤ lo ∧ lo ≤ 200) (hbe : -5 ≤ be ∧ be ≤ 100) (hD : IsD G ν x rb u0) (hfr : DFr x μ ν) (_ : (6 - i).toNat < fuel) (H : Heap) (locs : List Loc) (ls : Array Slot) (_ : gP G ν ν0 H) (_ : va_S (gA G) s.heap H locs) (_ : lv_has ls 8 [(0, .ref x), (1, .int (iv k)), (2, .int (iv t)), (3, .int (iv lo)), (4, .int (iv be)), (5, .int (iv i))]), W p l e rm_c_X8_bestExchange s m args below meth c H locs 0 0 Q (F0 m 36 ls []) := by
        intro fuel
        induction fuel with
        | zero => intro _ _ _ _ _ _ _ _ _ _ _ _ hfuel; exact absurd hfuel (Nat.not_lt_zero _)
        | succ fuel ih =>
          intro i lo be ν ν0 hi he hkt9 hlo hbe hD hfr hfuel H locs ls hH hS hl
          clear hX hZ hC hT hch hL hLs hY hCk hTk hchk hTX hI2 hOk2 hsz hkt hOC hrb hlast
          have hD9 := hD
          obtain ⟨hX, ⟨π, fp, sp, rd, hZ, hC, hT, hch⟩, ⟨ρ, πs, fps, sps, rds, hL, hLs⟩, ⟨πk, fpk, spk, rdk, hY, hCk, hTk, hchk⟩, ⟨to, td, tk, tn, tt, ta, hTX⟩, ⟨πr, τr, fpr, spr, hI2, hOk2⟩, hsz, hkt, hOC, hrb, hlast⟩ := hD9
          have ih16 := ih; clear ih
          refine lv_iload hx hb dX8_bestExchange_36 (lv_at hl 5 rfl) ?_
          refine j_bipush hx hb dX8_bestExchange_38 ?_ (by decide)
          refine j_icmp_ge (tgt := 106) hx hb dX8_bestExchange_40 (by decide) (fun c17 => ?_) (fun c17 => ?_) (by omega) (by omega)
          · skip
            refine lv_iload hx hb dX8_bestExchange_106 (lv_at hl 4 rfl) ?_
            subst hQ
            refine m_iret hx hb hr hlocks hH hS dX8_bestExchange_108 ?_ (by omega)
            refine ⟨?_, hD, hfr⟩
            unfold a_best
            rw [if_pos (by omega), he, show (6 - i).toNat = 0 by omega]
            rfl
          · skip
            refine lv_iload hx hb dX8_bestExchange_43 (lv_at hl 5 rfl) ?_
            refine j_const hx hb dX8_bestExchange_45 ?_
            refine j_iadd hx hb dX8_bestExchange_46 ?_
            refine lv_istore (lv' := [(6, .int (iv (i + 1))), (0, .ref x), (1, .int (iv k)), (2, .int (iv t)), (3, .int (iv lo)), (4, .int (iv be)), (5, .int (iv i))]) hx hb dX8_bestExchange_47 hl (by decide) rfl (fun ls hl => ?_)
            have lp49 : ∀ (fuel : Nat) (j : Int) (lo : Int) (be : Int) (ν : hM) (ν0 : Nat) (hj : i + 1 ≤ j ∧ j ≤ 6) (he2 : beP ((aD u0).1) k t 6 0 (lasF ((aD u0).1) k t, -5) = beP ((aD u0).1) k t (6 - (i + 1)).toNat (i.toNat + 1) (beQ ((aD u0).1) k t i.toNat (6 - j).toNat j.toNat (lo, be))) (hkt9 : (1 ≤ k ∧ k ≤ 9) ∧ 1 ≤ t ∧ t ≤ 20) (hlo : 0 ≤ lo ∧ lo ≤ 200) (hbe : -5 ≤ be ∧ be ≤ 100) (hD : IsD G ν x rb u0) (hfr : DFr x μ ν) (_ : (6 - j).toNat < fuel) (H : Heap) (locs : List Loc) (ls : Array Slot) (_ : gP G ν ν0 H) (_ : va_S (gA G) s.heap H locs) (_ : lv_has ls 8 [(0, .ref x), (1, .int (iv k)), (2, .int (iv t)), (3, .int (iv lo)), (4, .int (iv be)), (5, .int (iv i)), (6, .int (iv j))]), W p l e rm_c_X8_bestExchange s m args below meth c H locs 0 0 Q (F0 m 49 ls []) := by
              intro fuel
              induction fuel with
              | zero => intro _ _ _ _ _ _ _ _ _ _ _ _ hfuel; exact absurd hfuel (Nat.not_lt_zero _)
              | succ fuel ih =>
                intro j lo be ν ν0 hj he2 hkt9 hlo hbe hD hfr hfuel H locs ls hH hS hl
                clear hX hZ hC hT hch hL hLs hY hCk hTk hchk hTX hI2 hOk2 hsz hkt hOC hrb hlast
                have hD9 := hD
                obtain ⟨hX, ⟨π, fp, sp, rd, hZ, hC, hT, hch⟩, ⟨ρ, πs, fps, sps, rds, hL, hLs⟩, ⟨πk, fpk, spk, rdk, hY, hCk, hTk, hchk⟩, ⟨to, td, tk, tn, tt, ta, hTX⟩, ⟨πr, τr, fpr, spr, hI2, hOk2⟩, hsz, hkt, hOC, hrb, hlast⟩ := hD9
                have ih18 := ih; clear ih
                refine lv_iload hx hb dX8_bestExchange_49 (lv_at hl 6 rfl) ?_
                refine j_bipush hx hb dX8_bestExchange_51 ?_ (by decide)
                refine j_icmp_ge (tgt := 100) hx hb dX8_bestExchange_53 (by decide) (fun c19 => ?_) (fun c19 => ?_) (by omega) (by omega)
                · skip
                  have hqe : beQ ((aD u0).1) k t i.toNat (6 - j).toNat j.toNat (lo, be) = (lo, be) := by
                    by_cases h6 : j = 6
                    · rw [show (6 - j).toNat = 0 by omega]; rfl
                    · exact beQ_200 _ _ _ (by show 200 ≤ lo; omega)
                  have heo : beP ((aD u0).1) k t 6 0 (lasF ((aD u0).1) k t, -5) = beP ((aD u0).1) k t (6 - (i + 1)).toNat (i + 1).toNat (lo, be) := by rw [he2, hqe, show i.toNat + 1 = (i + 1).toNat by omega]
                  refine j_iinc (lv' := [(5, .int (iv (i + 1))), (0, .ref x), (1, .int (iv k)), (2, .int (iv t)), (3, .int (iv lo)), (4, .int (iv be)), (6, .int (iv j))]) hx hb dX8_bestExchange_100 hl (k := 5) rfl (by decide) rfl (fun ls hl => ?_)
                  refine lv_goto (tgt := 36) hx hb dX8_bestExchange_103 (by decide) ?_
                  exact ih16 (i + 1) lo be ν ν0 (by omega) heo (by omega) (by omega) (by omega) hD hfr (by omega) H locs ls hH hS (lv_sub hl [1, 2, 3, 4, 5, 0] rfl)
                · skip
                  refine lv_iload_n hx hb dX8_bestExchange_56 rfl (lv_at hl 3 rfl) ?_
                  refine j_sipush hx hb dX8_bestExchange_57 ?_ (by decide)
                  refine j_icmp_ge (tgt := 100) hx hb dX8_bestExchange_60 (by decide) (fun c20 => ?_) (fun c20 => ?_) (by omega) (by omega)
                  · skip
                    have hqe : beQ ((aD u0).1) k t i.toNat (6 - j).toNat j.toNat (lo, be) = (lo, be) := by
                      by_cases h6 : j = 6
                      · rw [show (6 - j).toNat = 0 by omega]; rfl
                      · exact beQ_200 _ _ _ (by show 200 ≤ lo; omega)
                    have heo : beP ((aD u0).1) k t 6 0 (lasF ((aD u0).1) k t, -5) = beP ((aD u0).1) k t (6 - (i + 1)).toNat (i + 1).toNat (lo, be) := by rw [he2, hqe, show i.toNat + 1 = (i + 1).toNat by omega]
                    refine j_iinc (lv' := [(5, .int (iv (i + 1))), (0, .ref x), (1, .int (iv k)), (2, .int (iv t)), (3, .int (iv lo)), (4, .int (iv be)), (6, .int (iv j))]) hx hb dX8_bestExchange_100 hl (k := 5) rfl (by decide) rfl (fun ls hl => ?_)
                    refine lv_goto (tgt := 36) hx hb dX8_bestExchange_103 (by decide) ?_
                    exact ih16 (i + 1) lo be ν ν0 (by omega) heo (by omega) (by omega) (by omega) hD hfr (by omega) H locs ls hH hS (lv_sub hl [1, 2, 3, 4, 5, 0] rfl)
                  · skip
                    refine lv_aload_n hx hb dX8_bestExchange_63 rfl (lv_at hl 0 rfl) ?_
                    refine lv_iload hx hb dX8_bestExchange_64 (lv_at hl 5 rfl) ?_
                    refine lv_iload hx hb dX8_bestExchange_66 (lv_at hl 6 rfl) ?_
                    refine lv_iload_n hx hb dX8_bestExchange_68 rfl (lv_at hl 1 rfl) ?_
                    refine lv_iload_n hx hb dX8_bestExchange_69 rfl (lv_at hl 2 rfl) ?_
                    refine m_callVi (As := [.int (iv i), .int (iv j), .int (iv k), .int (iv t)]) (rest := []) ⟨hx, hb, hml, hown, hts⟩ hK hH hS (c_X8_daysOfTrialI l G ν ν0 x rb u0 i j k t hD (by omega) (by omega) (by omega) (by omega)) (cwV 4 hts gX8_bestExchange_X8_daysOfTrial rfl rfl rfl (by decide +kernel) ⟨(Nat.le_of_ble_eq_true rfl), (Nat.le_of_ble_eq_true rfl)⟩) hX rfl rfl rfl rfl hl.1 (Nat.le_of_ble_eq_true rfl) dX8_bestExchange_70 ⟨Nat.zero_le _, Nat.zero_le _⟩ (fun z24 μ21 n22 H locs hz24 hp23 hH hS => ?_)
                    obtain ⟨hzr25, hD1, hfr1⟩ := hp23
                    have hlr := lasF_rng (swpS ((aD u0).1) i.toNat j.toNat) k t
                    obtain ⟨hD, hfr2⟩ : IsD G μ21 x rb u0 ∧ DFr x _ μ21 := ⟨hD1, hfr1⟩
                    have hfr := hfr.tr hfr2
                    clear hfr2
                    clear hX hZ hC hT hch hL hLs hY hCk hTk hchk hTX hI2 hOk2 hsz hkt hOC hrb hlast
                    have hD9 := hD
                    obtain ⟨hX, ⟨π, fp, sp, rd, hZ, hC, hT, hch⟩, ⟨ρ, πs, fps, sps, rds, hL, hLs⟩, ⟨πk, fpk, spk, rdk, hY, hCk, hTk, hchk⟩, ⟨to, td, tk, tn, tt, ta, hTX⟩, ⟨πr, τr, fpr, spr, hI2, hOk2⟩, hsz, hkt, hOC, hrb, hlast⟩ := hD9
                    refine lv_istore (lv' := [(7, .int (iv z24)), (0, .ref x), (1, .int (iv k)), (2, .int (iv t)), (3, .int (iv lo)), (4, .int (iv be)), (5, .int (iv i)), (6, .int (iv j))]) hx hb dX8_bestExchange_73 hl (by decide) rfl (fun ls hl => ?_)
                    refine lv_iload hx hb dX8_bestExchange_75 (lv_at hl 0 rfl) ?_
                    refine lv_iload_n hx hb dX8_bestExchange_77 rfl (lv_at hl 4 rfl) ?_
                    refine j_icmp_le (tgt := 94) hx hb dX8_bestExchange_78 (by decide) (fun c26 => ?_) (fun c26 => ?_) (by omega) (by omega)
                    · skip
                      have hen : beP ((aD u0).1) k t 6 0 (lasF ((aD u0).1) k t, -5) = beP ((aD u0).1) k t (6 - (i + 1)).toNat (i.toNat + 1) (beQ ((aD u0).1) k t i.toNat (6 - (j + 1)).toNat (j + 1).toNat (lo, be)) := by
                        rw [he2, show (6 - j).toNat = (6 - (j + 1)).toNat + 1 by omega]
                        show beP ((aD u0).1) k t (6 - (i + 1)).toNat (i.toNat + 1) (beQ ((aD u0).1) k t i.toNat (6 - (j + 1)).toNat (j.toNat + 1) (beS ((aD u0).1) k t i.toNat j.toNat (lo, be))) = _
                        have hbs : beS ((aD u0).1) k t i.toNat j.toNat (lo, be) = (lo, be) := by
                          exact if_neg (by show ¬ lo < _; rw [← hzr25]; omega)
                        rw [hbs, show j.toNat + 1 = (j + 1).toNat by omega]
                      refine j_iinc (lv' := [(6, .int (iv (j + 1))), (7, .int (iv z24)), (0, .ref x), (1, .int (iv k)), (2, .int (iv t)), (3, .int (iv lo)), (4, .int (iv be)), (5, .int (iv i))]) hx hb dX8_bestExchange_94 hl (k := 7) rfl (by decide) rfl (fun ls hl => ?_)
                      refine lv_goto (tgt := 49) hx hb dX8_bestExchange_97 (by decide) ?_
                      exact ih18 (j + 1) lo be μ21 n22 (by omega) hen (by omega) (by omega) (by omega) hD hfr (by omega) H locs ls hH hS (lv_sub hl [2, 3, 4, 5, 6, 7, 0] rfl)
                    · skip
                      refine lv_iload hx hb dX8_bestExchange_81 (lv_at hl 0 rfl) ?_
                      refine lv_istore_n (lv' := [(3, .int (iv z24)), (7, .int (iv z24)), (0, .ref x), (1, .int (iv k)), (2, .int (iv t)), (4, .int (iv be)), (5, .int (iv i)), (6, .int (iv j))]) hx hb dX8_bestExchange_83 rfl hl (by decide) rfl (fun ls hl => ?_)
                      refine j_bipush hx hb dX8_bestExchange_84 ?_ (by decide)
                      refine lv_iload hx hb dX8_bestExchange_86 (lv_at hl 6 rfl) ?_
                      refine j_imul hx hb dX8_bestExchange_88 ?_
                      refine lv_iload hx hb dX8_bestExchange_89 (lv_at hl 7 rfl) ?_
                      refine j_iadd hx hb dX8_bestExchange_91 ?_
                      refine lv_istore (lv' := [(4, .int (iv ((10 * i) + j))), (3, .int (iv z24)), (7, .int (iv z24)), (0, .ref x), (1, .int (iv k)), (2, .int (iv t)), (5, .int (iv i)), (6, .int (iv j))]) hx hb dX8_bestExchange_92 hl (by decide) rfl (fun ls hl => ?_)
                      have hen : beP ((aD u0).1) k t 6 0 (lasF ((aD u0).1) k t, -5) = beP ((aD u0).1) k t (6 - (i + 1)).toNat (i.toNat + 1) (beQ ((aD u0).1) k t i.toNat (6 - (j + 1)).toNat (j + 1).toNat (z24, ((10 * i) + j))) := by
                        rw [he2, show (6 - j).toNat = (6 - (j + 1)).toNat + 1 by omega]
                        show beP ((aD u0).1) k t (6 - (i + 1)).toNat (i.toNat + 1) (beQ ((aD u0).1) k t i.toNat (6 - (j + 1)).toNat (j.toNat + 1) (beS ((aD u0).1) k t i.toNat j.toNat (lo, be))) = _
                        have hbs : beS ((aD u0).1) k t i.toNat j.toNat (lo, be) = (z24, ((10 * i) + j)) := by
                          refine (if_pos (by show lo < _; rw [← hzr25]; omega)).trans ?_
                          rw [← hzr25, show (i.toNat : Int) = i by omega, show (j.toNat : Int) = j by omega]
                        rw [hbs, show j.toNat + 1 = (j + 1).toNat by omega]
                      refine j_iinc (lv' := [(6, .int (iv (j + 1))), (4, .int (iv ((10 * i) + j))), (3, .int (iv z24)), (7, .int (iv z24)), (0, .ref x), (1, .int (iv k)), (2, .int (iv t)), (5, .int (iv i))]) hx hb dX8_bestExchange_94 hl (k := 7) rfl (by decide) rfl (fun ls hl => ?_)
                      refine lv_goto (tgt := 49) hx hb dX8_bestExchange_97 (by decide) ?_
                      exact ih18 (j + 1) z24 ((10 * i) + j) μ21 n22 (by omega) hen (by omega) (by omega) (by omega) hD hfr (by omega) H locs ls hH hS (lv_sub hl [4, 5, 6, 2, 1, 7, 0] rfl)
            exact lp49 (7) (i + 1) lo be ν ν0 (by omega) (by rw [he, show (6 - i).toNat = (6 - (i + 1)).toNat + 1 by omega]; show beP ((aD u0).1) k t (6 - (i + 1)).toNat (i.toNat + 1) (beQ ((aD u0).1) k t i.toNat (5 - i.toNat) (i.toNat + 1) (lo, be)) = _; rw [show 5 - i.toNat = (6 - (i + 1)).toNat by omega, show i.toNat + 1 = (i + 1).toNat by omega]) (by omega) (by omega) (by omega) hD hfr (by omega) H locs ls hH hS (lv_sub hl [1, 2, 3, 4, 5, 6, 0] rfl)
      exact lp36 (7) 0 z14 (-5) μ11 n12 (by omega) (by rw [hzr15]; rfl) (by omega) (by omega) (by omega) hD hfr (by omega) H locs ls hH hS (lv_sub hl [3, 4, 5, 2, 1, 0] rfl)
    · skip
      refine j_bipush hx hb dX8_bestExchange_17 ?_ (by decide)
      subst hQ
      refine m_iret hx hb hr hlocks hH hS dX8_bestExchange_19 ?_ (by omega)
      refine ⟨?_, hD, hfr⟩
      unfold a_best
      rw [if_neg (by omega)]
