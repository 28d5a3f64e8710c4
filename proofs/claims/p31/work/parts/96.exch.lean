abbrev rm_c_L_isExchangeSo : Room := { frames := 7, cells := 0, slots := 0, locals := 169 }
set_option maxHeartbeats 4000000 in
set_option maxRecDepth 100000 in
theorem c_L_isExchangeSo (l : Launch) (G : wG) (μ : hM) (n : Nat) (x rb : Nat) (u0 : aS) (b0 : Int) (k t v : Int) (hD : IsD G μ x rb u0) (hU : UI u0 b0) (hb0 : 0 ≤ b0 ∧ b0 ≤ 500000000) (hk : 1 ≤ k ∧ k ≤ 9) (ht : 1 ≤ t ∧ t ≤ 3) (hv1 : -2147483648 ≤ v ∧ v ≤ 2147483647) : Met l yL_isExchangeSo wsL_isExchangeSo rm_c_L_isExchangeSo (mPc G μ n [.ref x, .int (iv k), .int (iv t), .int (iv v)]) (mQi G (fun z μ1 n1 => z = 1 ∧ ∃ u1 : aS, IsD G μ1 x rb u1 ∧ UI u1 (b0 + 3000))) 0 0 (gA G) := by
  refine Met.ofW (cc := cL_isExchangeSo) (maxL := 13) (ret := (some .boolean)) (by decide) rfl ?_
  intro p e s m args below meth c s₁ B hml hv
  obtain ⟨hav, hK, hH⟩ := hv
  have hx := B.exec
  have hb := B.bytes
  have hr := B.returns
  have hts := atoms_spec (ws := wsL_isExchangeSo) B.pre
  have hown : s.vm.findClass RL = some m.cls := findClass_of_methodNamed B.named
  have hlocks := B.notSynchronized
  have hS : va_S (gA G) s.heap s.heap [] := va_S.rf
  have hl := lv_entry ([.ref x, .int (iv k), .int (iv t), .int (iv v)]) (n := 13) (Nat.le_of_ble_eq_true rfl)
  have hfr : entryFrame m args 13 = entryFrame m ([.ref x, .int (iv k), .int (iv t), .int (iv v)] : List Value).toArray 13 := by rw [hav]
  rw [hfr, lg_entry_eq]
  generalize (lg_sl ([.ref x, .int (iv k), .int (iv t), .int (iv v)]) ++ List.replicate (13 - (lg_sl ([.ref x, .int (iv k), .int (iv t), .int (iv v)])).length) Slot.unset).toArray = ls at hl ⊢
  have hl : lv_has ls 13 [(0, .ref x), (1, .int (iv k)), (2, .int (iv t)), (3, .int (iv v))] := hl
  generalize hQ : MQ below _ args s 0 0 (gA G) = Q
  show W p l e rm_c_L_isExchangeSo s m args below meth c s.heap [] 0 0 Q (F0 m 0 ls [])
  obtain ⟨H, hHe⟩ : ∃ H, H = s.heap := ⟨_, rfl⟩
  obtain ⟨locs, hlo⟩ : ∃ q : List Loc, q = [] := ⟨_, rfl⟩
  have hH : gP G μ n H := by rw [hHe]; exact hH
  have hS : va_S (gA G) s.heap H locs := by rw [hHe, hlo]; exact hS
  suffices hgo : W p l e rm_c_L_isExchangeSo s m args below meth c H locs 0 0 Q (F0 m 0 ls []) by rw [hHe, hlo] at hgo; exact hgo
  clear hHe hlo hfr hav
  have hO := hD.okD
  have hbs := best_spec (σ := (aD u0).1) (k := k) (t := t) hk (by omega)
  obtain ⟨be, hbe⟩ : ∃ q : Int, q = a_best (aD u0).1 k t := ⟨_, rfl⟩
  rw [← hbe] at hbs
  obtain ⟨L, hL⟩ : ∃ q : Int, q = lasF (aD u0).1 k t := ⟨_, rfl⟩
  have hLr := lasF_rng (aD u0).1 k t
  rw [← hL] at hLr hbs
  have hnN := hD.nN
  obtain ⟨bp, bq, M, hbv⟩ : ∃ (bp bq M : Int), ((be = -5 ∧ M = L ∧ ∀ p q : Nat, p < q → q < 6 → lasF (swpS (aD u0).1 p q) k t ≤ M) ∨ ((0 ≤ bp ∧ bp < bq ∧ bq ≤ 5) ∧ be = 10 * bp + bq ∧ L < M ∧ M = lasF (swpS (aD u0).1 bp.toNat bq.toNat) k t ∧ ∀ p q : Nat, p < q → q < 6 → lasF (swpS (aD u0).1 p q) k t < M ∨ (lasF (swpS (aD u0).1 p q) k t = M ∧ be ≤ 10 * (p : Int) + q))) := by
    rcases hbs with ⟨h1, h2⟩ | ⟨p, q, h1, h2, h3, h4, h5⟩
    · exact ⟨0, 0, L, Or.inl ⟨h1, rfl, h2⟩⟩
    · refine ⟨(p : Int), (q : Int), lasF (swpS (aD u0).1 p q) k t, Or.inr ⟨by omega, h3, h4, rfl, fun p2 q2 a b => ?_⟩⟩
      rcases h5 p2 q2 a b with h6 | h6
      · exact Or.inl h6
      · exact Or.inr ⟨h6.1, by omega⟩
  clear hbs
  have hMr : 0 ≤ M ∧ M ≤ 200 := hbv.elim (fun h => by rw [h.2.1]; exact hLr) (fun h => by rw [h.2.2.2.1]; exact lasF_rng _ k t)
  have hbr : (be = -5 ∧ M = L) ∨ ((0 ≤ bp ∧ bp < bq ∧ bq ≤ 5) ∧ be = 10 * bp + bq ∧ L < M) := hbv.elim (fun h => Or.inl ⟨h.1, h.2.1⟩) (fun h => Or.inr ⟨h.1, h.2.1, h.2.2.1⟩)
  obtain ⟨lo, hlo⟩ : ∃ q : Int, q = if L = 200 then -5 else L := ⟨_, rfl⟩
  have hlv : (L = 200 ∧ lo = -5) ∨ (¬ L = 200 ∧ lo = L) := ite_or hlo
  have hm9 : most9 L = if L = 200 then 999 else L := rfl
  have hmL : (L = 200 ∧ most9 L = 999) ∨ (¬ L = 200 ∧ most9 L = L) := ite_or hm9
  have hm8 : most9 M = if M = 200 then 999 else M := rfl
  have hmM : (M = 200 ∧ most9 M = 999) ∨ (¬ M = 200 ∧ most9 M = M) := ite_or hm8
  obtain ⟨mL, hmLe⟩ : ∃ q : Int, q = most9 L := ⟨_, rfl⟩
  obtain ⟨mM, hmMe⟩ : ∃ q : Int, q = most9 M := ⟨_, rfl⟩
  rw [← hmLe] at hmL
  rw [← hmMe] at hmM
  clear hm9 hm8 hlo hmLe hmMe
  refine lv_aload_n hx hb dL_isExchangeSo_0 rfl (lv_at hl 0 rfl) ?_
  refine lv_iload_n hx hb dL_isExchangeSo_1 rfl (lv_at hl 1 rfl) ?_
  refine lv_iload_n hx hb dL_isExchangeSo_2 rfl (lv_at hl 2 rfl) ?_
  refine m_callVi (As := [.int (iv k), .int (iv t)]) (rest := []) ⟨hx, hb, hml, hown, hts⟩ hK hH hS (c_X8_bestExchange l G μ n x rb u0 k t hD (by omega) (by omega)) (cwV 2 hts gL_isExchangeSo_X8_bestExchange rfl rfl rfl (by decide +kernel) ⟨(Nat.le_of_ble_eq_true rfl), (Nat.le_of_ble_eq_true rfl)⟩) hD.1 rfl rfl rfl rfl hl.1 (Nat.le_of_ble_eq_true rfl) dL_isExchangeSo_3 ⟨Nat.zero_le _, Nat.zero_le _⟩ (fun z4 μ1 n2 H locs hz4 hp3 hH hS => ?_)
  obtain ⟨hz2, hD, hf1⟩ := hp3
  have hz2 := hz2.trans (show a_best (aD u0).1 k t = be from hbe.symm)
  rw [hz2] at hz4
  rw [hz2]
  clear hz2
  refine lv_istore (lv' := [(4, .int (iv be)), (0, .ref x), (1, .int (iv k)), (2, .int (iv t)), (3, .int (iv v))]) hx hb dL_isExchangeSo_6 hl (by decide) rfl (fun ls hl => ?_)
  refine lv_aload_n hx hb dL_isExchangeSo_8 rfl (lv_at hl 1 rfl) ?_
  refine lv_iload_n hx hb dL_isExchangeSo_9 rfl (lv_at hl 2 rfl) ?_
  refine lv_iload_n hx hb dL_isExchangeSo_10 rfl (lv_at hl 3 rfl) ?_
  refine m_callVi (As := [.int (iv k), .int (iv t)]) (rest := []) ⟨hx, hb, hml, hown, hts⟩ hK hH hS (c_X8_lasts l G μ1 n2 x rb u0 k t hD (by omega) (by omega)) (cwV 2 hts gL_isExchangeSo_X8_lasts rfl rfl rfl (by decide +kernel) ⟨(Nat.le_of_ble_eq_true rfl), (Nat.le_of_ble_eq_true rfl)⟩) hD.1 rfl rfl rfl rfl hl.1 (Nat.le_of_ble_eq_true rfl) dL_isExchangeSo_11 ⟨Nat.zero_le _, Nat.zero_le _⟩ (fun z8 μ5 n6 H locs hz8 hp7 hH hS => ?_)
  obtain ⟨hz2, hD, hf1⟩ := hp7
  have hz2 := hz2.trans (show a_lasts (aD u0).1 k t = lo from (by rw [las_of hk (by omega), ← hL]; exact ite_of hlv))
  rw [hz2] at hz8
  rw [hz2]
  clear hz2
  refine lv_istore (lv' := [(5, .int (iv lo)), (4, .int (iv be)), (0, .ref x), (1, .int (iv k)), (2, .int (iv t)), (3, .int (iv v))]) hx hb dL_isExchangeSo_14 hl (by decide) rfl (fun ls hl => ?_)
  have jn31_9 : ∀ (H : Heap) (locs : List Loc) (ls : Array Slot) (_ : gP G μ5 n6 H) (_ : va_S (gA G) s.heap H locs) (_ : lv_has ls 13 [(5, .int (iv lo)), (4, .int (iv be)), (0, .ref x), (1, .int (iv k)), (2, .int (iv t)), (3, .int (iv v))]), W p l e rm_c_L_isExchangeSo s m args below meth c H locs 0 0 Q (F0 m 31 ls [.int (iv mL)]) := by
    intro H locs ls hH hS hl
    refine lv_istore (lv' := [(6, .int (iv mL)), (5, .int (iv lo)), (4, .int (iv be)), (0, .ref x), (1, .int (iv k)), (2, .int (iv t)), (3, .int (iv v))]) hx hb dL_isExchangeSo_31 hl (by decide) rfl (fun ls hl => ?_)
    have jn75_10 : ∀ (H : Heap) (locs : List Loc) (ls : Array Slot) (_ : gP G μ5 n6 H) (_ : va_S (gA G) s.heap H locs) (_ : lv_has ls 13 [(6, .int (iv mL)), (5, .int (iv lo)), (4, .int (iv be)), (0, .ref x), (1, .int (iv k)), (2, .int (iv t)), (3, .int (iv v))]), W p l e rm_c_L_isExchangeSo s m args below meth c H locs 0 0 Q (F0 m 75 ls [.int (iv 1)]) := by
      intro H locs ls hH hS hl
      refine lv_istore (lv' := [(7, .int (iv 1)), (6, .int (iv mL)), (5, .int (iv lo)), (4, .int (iv be)), (0, .ref x), (1, .int (iv k)), (2, .int (iv t)), (3, .int (iv v))]) hx hb dL_isExchangeSo_75 hl (by decide) rfl (fun ls hl => ?_)
      refine lv_iload hx hb dL_isExchangeSo_77 (lv_at hl 1 rfl) ?_
      refine lv_istore (lv' := [(8, .int (iv mL)), (7, .int (iv 1)), (6, .int (iv mL)), (5, .int (iv lo)), (4, .int (iv be)), (0, .ref x), (1, .int (iv k)), (2, .int (iv t)), (3, .int (iv v))]) hx hb dL_isExchangeSo_79 hl (by decide) rfl (fun ls hl => ?_)
      have jr157 : ∀ (ul : aS) (ν : hM) (ν0 : Nat) (H : Heap) (locs : List Loc) (ls : Array Slot) (_ : aD ul = aD u0) (_ : IsD G ν x rb ul) (_ : UI ul (b0 + 1000)) (_ : gP G ν ν0 H) (_ : va_S (gA G) s.heap H locs) (_ : lv_has ls 13 [(0, .ref x), (1, .int (iv k)), (2, .int (iv t)), (3, .int (iv v)), (4, .int (iv be)), (7, .int (iv 1)), (8, .int (iv mM))]), W p l e rm_c_L_isExchangeSo s m args below meth c H locs 0 0 Q (F0 m 157 ls []) := by
        intro ul ν ν0 H locs ls hd0 hD hU hH hS hl
        have hnN2 := hD.nN
        refine lv_iload_n hx hb dL_isExchangeSo_157 rfl (lv_at hl 3 rfl) ?_
        refine j_const hx hb dL_isExchangeSo_158 ?_
        refine m_callSi (As := [.int (iv v), .int (iv 5)]) (rest := []) ⟨hx, hb, hml, hown, hts⟩ hK hH hS (c_L_low l G ν ν0 v 5 (by omega) (by omega)) (va_cwS 2 hts gL_isExchangeSo_L_low rfl rfl rfl (by decide +kernel) ⟨(Nat.le_of_ble_eq_true rfl), (Nat.le_of_ble_eq_true rfl)⟩) rfl rfl hl.1 (Nat.le_of_ble_eq_true rfl) dL_isExchangeSo_159 ⟨Nat.zero_le _, Nat.zero_le _⟩ (fun z14 μ11 n12 H locs hz14 hp13 hH hS => ?_)
        obtain ⟨hqz14, hm2, hn2⟩ := hp13
        rw [hm2, hn2] at hH
        clear hm2 hn2
        refine lv_istore (lv' := [(9, .int (iv z14)), (0, .ref x), (1, .int (iv k)), (2, .int (iv t)), (3, .int (iv v)), (4, .int (iv be)), (7, .int (iv 1)), (8, .int (iv mM))]) hx hb dL_isExchangeSo_162 hl (by decide) rfl (fun ls hl => ?_)
        refine lv_iload hx hb dL_isExchangeSo_164 (lv_at hl 0 rfl) ?_
        refine j_const hx hb dL_isExchangeSo_166 ?_
        refine j_iadd hx hb dL_isExchangeSo_167 ?_
        refine lv_iload_n hx hb dL_isExchangeSo_168 rfl (lv_at hl 4 rfl) ?_
        refine j_const hx hb dL_isExchangeSo_169 ?_
        refine lv_ishr hx hb dL_isExchangeSo_170 ?_
        obtain ⟨y15, hy15, hry15⟩ : ∃ z : Int, iv v >>> (iv 3 &&& 31) = iv z ∧ -2147483648 ≤ z ∧ z ≤ 2147483647 := ⟨_, (iv_of _).symm, iv_rng _⟩
        rw [hy15]
        clear hy15
        refine j_const hx hb dL_isExchangeSo_171 ?_
        refine lv_iload hx hb dL_isExchangeSo_172 (lv_at hl 0 rfl) ?_
        refine j_isub hx hb dL_isExchangeSo_174 ?_
        refine m_callSi (As := [.int (iv y15), .int (iv (5 - z14))]) (rest := [.int (iv (z14 + 1))]) ⟨hx, hb, hml, hown, hts⟩ hK hH hS (c_L_low l G ν ν0 y15 (5 - z14) (by omega) (by omega)) (va_cwS 2 hts gL_isExchangeSo_L_low rfl rfl rfl (by decide +kernel) ⟨(Nat.le_of_ble_eq_true rfl), (Nat.le_of_ble_eq_true rfl)⟩) rfl rfl hl.1 (Nat.le_of_ble_eq_true rfl) dL_isExchangeSo_175 ⟨Nat.zero_le _, Nat.zero_le _⟩ (fun z19 μ16 n17 H locs hz19 hp18 hH hS => ?_)
        obtain ⟨hqz19, hm2, hn2⟩ := hp18
        rw [hm2, hn2] at hH
        clear hm2 hn2
        refine j_iadd hx hb dL_isExchangeSo_178 ?_
        refine lv_istore (lv' := [(10, .int (iv ((z14 + 1) + z19))), (9, .int (iv z14)), (0, .ref x), (1, .int (iv k)), (2, .int (iv t)), (3, .int (iv v)), (4, .int (iv be)), (7, .int (iv 1)), (8, .int (iv mM))]) hx hb dL_isExchangeSo_179 hl (by decide) rfl (fun ls hl => ?_)
        refine lv_aload_n hx hb dL_isExchangeSo_181 rfl (lv_at hl 2 rfl) ?_
        refine lv_iload hx hb dL_isExchangeSo_182 (lv_at hl 1 rfl) ?_
        refine lv_iload hx hb dL_isExchangeSo_184 (lv_at hl 0 rfl) ?_
        have hDo := hD
        refine m_callVi (As := [.int (iv z14), .int (iv ((z14 + 1) + z19))]) (rest := []) ⟨hx, hb, hml, hown, hts⟩ hK hH hS (c_X8_exchange l G ν ν0 x rb ul z14 ((z14 + 1) + z19) hD (by omega) (by omega)) (cwV 2 hts gL_isExchangeSo_X8_exchange rfl rfl rfl (by decide +kernel) ⟨(Nat.le_of_ble_eq_true rfl), (Nat.le_of_ble_eq_true rfl)⟩) hD.1 rfl rfl rfl rfl hl.1 (Nat.le_of_ble_eq_true rfl) dL_isExchangeSo_186 ⟨Nat.zero_le _, Nat.zero_le _⟩ (fun z23 μ20 n21 H locs hz23 hp22 hH hS => ?_)
        obtain ⟨hvz23, hD, hf1⟩ := hp22
        obtain ⟨u24, hu24⟩ : ∃ q : aS, q = (a_exchange ul z14 ((z14 + 1) + z19)).1 := ⟨_, rfl⟩
        rw [← hu24] at hD
        have hU : UI u24 ((b0 + 1000) + 1000) := by rw [hu24]; exact hU.exchange
        have hO := hD.okD
        have hey := v_exchange2 (u := ul) (p := z14) (q := ((z14 + 1) + z19)) hDo.okD (by omega) (by omega)
        rw [hd0] at hey
        have hvw : 0 ≤ z23 := by rw [hvz23]; exact hey.2
        have hu24 : u24 = aAct ul (swpS (aD u0).1 (z14).toNat (((z14 + 1) + z19)).toNat, (aD u0).2) := by rw [hu24, hey.1]
        have hdy : (aD u24).1 = swpS (aD u0).1 (z14).toNat (((z14 + 1) + z19)).toNat := by first | (rw [hu24]; done) | (rw [hu24]; rfl)
        obtain ⟨N2, hN2⟩ : ∃ q : Int, q = lasF (swpS (aD u0).1 (z14).toNat (((z14 + 1) + z19)).toNat) k t := ⟨_, rfl⟩
        have hN2r : 0 ≤ N2 ∧ N2 ≤ 200 := by rw [hN2]; exact lasF_rng _ k t
        have hNb : (be = -5 ∧ N2 ≤ M) ∨ (0 ≤ be ∧ (N2 < M ∨ (N2 = M ∧ be ≤ 10 * z14 + ((z14 + 1) + z19)))) := by
          rcases hbv with h | h
          · exact Or.inl ⟨h.1, by rw [hN2]; exact h.2.2 _ _ (by omega) (by omega)⟩
          · right
            refine ⟨by have h8 := h.1; have h7 := h.2.1; omega, ?_⟩
            have h9 := h.2.2.2.2 (z14).toNat (((z14 + 1) + z19)).toNat (by omega) (by omega)
            rw [← hN2] at h9
            rcases h9 with h9 | h9
            · exact Or.inl h9
            · exact Or.inr ⟨h9.1, by omega⟩
        obtain ⟨l2, hl2⟩ : ∃ q : Int, q = if N2 = 200 then -5 else N2 := ⟨_, rfl⟩
        have hl2v : (N2 = 200 ∧ l2 = -5) ∨ (¬ N2 = 200 ∧ l2 = N2) := ite_or hl2
        clear hl2
        obtain ⟨mN, hmN⟩ : ∃ q : Int, q = if N2 = 200 then 999 else N2 := ⟨_, rfl⟩
        have hmNv : (N2 = 200 ∧ mN = 999) ∨ (¬ N2 = 200 ∧ mN = N2) := ite_or hmN
        clear hmN
        clear hbv
        refine lv_istore (lv' := [(11, .int (iv z23)), (10, .int (iv ((z14 + 1) + z19))), (9, .int (iv z14)), (0, .ref x), (1, .int (iv k)), (2, .int (iv t)), (3, .int (iv v)), (4, .int (iv be)), (7, .int (iv 1)), (8, .int (iv mM))]) hx hb dL_isExchangeSo_189 hl (by decide) rfl (fun ls hl => ?_)
        refine lv_aload_n hx hb dL_isExchangeSo_191 rfl (lv_at hl 3 rfl) ?_
        refine lv_iload_n hx hb dL_isExchangeSo_192 rfl (lv_at hl 4 rfl) ?_
        refine lv_iload_n hx hb dL_isExchangeSo_193 rfl (lv_at hl 5 rfl) ?_
        refine m_callVi (As := [.int (iv k), .int (iv t)]) (rest := []) ⟨hx, hb, hml, hown, hts⟩ hK hH hS (c_X8_lasts l G μ20 n21 x rb u24 k t hD (by omega) (by omega)) (cwV 2 hts gL_isExchangeSo_X8_lasts rfl rfl rfl (by decide +kernel) ⟨(Nat.le_of_ble_eq_true rfl), (Nat.le_of_ble_eq_true rfl)⟩) hD.1 rfl rfl rfl rfl hl.1 (Nat.le_of_ble_eq_true rfl) dL_isExchangeSo_194 ⟨Nat.zero_le _, Nat.zero_le _⟩ (fun z28 μ25 n26 H locs hz28 hp27 hH hS => ?_)
        obtain ⟨hz2, hD, hf1⟩ := hp27
        have hz2 := hz2.trans (show a_lasts (aD u24).1 k t = l2 from (by rw [hdy]; rw [las_of hk (by omega), ← hN2]; exact ite_of hl2v))
        rw [hz2] at hz28
        rw [hz2]
        clear hz2
        refine lv_istore (lv' := [(12, .int (iv l2)), (11, .int (iv z23)), (10, .int (iv ((z14 + 1) + z19))), (9, .int (iv z14)), (0, .ref x), (1, .int (iv k)), (2, .int (iv t)), (3, .int (iv v)), (4, .int (iv be)), (7, .int (iv 1)), (8, .int (iv mM))]) hx hb dL_isExchangeSo_197 hl (by decide) rfl (fun ls hl => ?_)
        have jn214_29 : ∀ (H : Heap) (locs : List Loc) (ls : Array Slot) (_ : gP G μ25 n26 H) (_ : va_S (gA G) s.heap H locs) (_ : lv_has ls 13 [(12, .int (iv l2)), (11, .int (iv z23)), (10, .int (iv ((z14 + 1) + z19))), (9, .int (iv z14)), (0, .ref x), (1, .int (iv k)), (2, .int (iv t)), (3, .int (iv v)), (4, .int (iv be)), (7, .int (iv 1)), (8, .int (iv mM))]), W p l e rm_c_L_isExchangeSo s m args below meth c H locs 0 0 Q (F0 m 214 ls [.int (iv mN)]) := by
          intro H locs ls hH hS hl
          refine lv_istore (lv' := [(12, .int (iv mN)), (11, .int (iv z23)), (10, .int (iv ((z14 + 1) + z19))), (9, .int (iv z14)), (0, .ref x), (1, .int (iv k)), (2, .int (iv t)), (3, .int (iv v)), (4, .int (iv be)), (7, .int (iv 1)), (8, .int (iv mM))]) hx hb dL_isExchangeSo_214 hl (by decide) rfl (fun ls hl => ?_)
          refine lv_iload hx hb dL_isExchangeSo_216 (lv_at hl 9 rfl) ?_
          refine j_if_eq (tgt := 262) hx hb dL_isExchangeSo_218 (by decide) (fun c30 => absurd c30 (by omega)) (fun c30 => ?_) (by omega)
          refine lv_iload hx hb dL_isExchangeSo_221 (lv_at hl 1 rfl) ?_
          refine j_if_lt (tgt := 262) hx hb dL_isExchangeSo_223 (by decide) (fun c31 => absurd c31 (by omega)) (fun c31 => ?_) (by omega)
          have jn258_32 : ∀ (H : Heap) (locs : List Loc) (ls : Array Slot) (_ : gP G μ25 n26 H) (_ : va_S (gA G) s.heap H locs) (_ : lv_has ls 13 [(12, .int (iv mN)), (11, .int (iv z23)), (10, .int (iv ((z14 + 1) + z19))), (9, .int (iv z14)), (0, .ref x), (1, .int (iv k)), (2, .int (iv t)), (3, .int (iv v)), (4, .int (iv be)), (7, .int (iv 1)), (8, .int (iv mM))]), W p l e rm_c_L_isExchangeSo s m args below meth c H locs 0 0 Q (F0 m 258 ls []) := by
            intro H locs ls hH hS hl
            refine j_const hx hb dL_isExchangeSo_258 ?_
            refine lv_goto (tgt := 263) hx hb dL_isExchangeSo_259 (by decide) ?_
            refine lv_istore (lv' := [(7, .int (iv 1)), (12, .int (iv mN)), (11, .int (iv z23)), (10, .int (iv ((z14 + 1) + z19))), (9, .int (iv z14)), (0, .ref x), (1, .int (iv k)), (2, .int (iv t)), (3, .int (iv v)), (4, .int (iv be)), (8, .int (iv mM))]) hx hb dL_isExchangeSo_263 hl (by decide) rfl (fun ls hl => ?_)
            refine lv_aload_n hx hb dL_isExchangeSo_265 rfl (lv_at hl 5 rfl) ?_
            have hDo := hD
            refine m_callVi (As := []) (rest := []) ⟨hx, hb, hml, hown, hts⟩ hK hH hS (c_X8_undo l G μ25 n26 x rb u24 hD) (cwV 0 hts gL_isExchangeSo_X8_undo rfl rfl rfl (by decide +kernel) ⟨(Nat.le_of_ble_eq_true rfl), (Nat.le_of_ble_eq_true rfl)⟩) hD.1 rfl rfl rfl rfl hl.1 (Nat.le_of_ble_eq_true rfl) dL_isExchangeSo_266 ⟨Nat.zero_le _, Nat.zero_le _⟩ (fun z36 μ33 n34 H locs hz36 hp35 hH hS => ?_)
            obtain ⟨hvz36, hD, hf1⟩ := hp35
            obtain ⟨u37, hu37⟩ : ∃ q : aS, q = (a_undo u24).1 := ⟨_, rfl⟩
            rw [← hu37] at hD
            have hU : UI u37 ((b0 + 1000) + 1000) := by rw [hu37]; exact hU.undo hDo.nN
            have hO := hD.okD
            have huy := undo_act (u := ul) (d := (swpS (aD u0).1 (z14).toNat (((z14 + 1) + z19)).toNat, (aD u0).2)) hnN2
            rw [← hu24] at huy
            rw [← hu37, ← hvz36] at huy
            refine lv_istore (lv' := [(11, .int (iv z36)), (7, .int (iv 1)), (12, .int (iv mN)), (10, .int (iv ((z14 + 1) + z19))), (9, .int (iv z14)), (0, .ref x), (1, .int (iv k)), (2, .int (iv t)), (3, .int (iv v)), (4, .int (iv be)), (8, .int (iv mM))]) hx hb dL_isExchangeSo_269 hl (by decide) rfl (fun ls hl => ?_)
            refine lv_iload hx hb dL_isExchangeSo_271 (lv_at hl 1 rfl) ?_
            refine j_if_eq (tgt := 285) hx hb dL_isExchangeSo_273 (by decide) (fun c38 => absurd c38 (by omega)) (fun c38 => ?_) (by omega)
            refine lv_iload hx hb dL_isExchangeSo_276 (lv_at hl 0 rfl) ?_
            refine j_if_lt (tgt := 285) hx hb dL_isExchangeSo_278 (by decide) (fun c39 => absurd c39 (by omega)) (fun c39 => ?_) (by omega)
            refine j_const hx hb dL_isExchangeSo_281 ?_
            refine lv_goto (tgt := 286) hx hb dL_isExchangeSo_282 (by decide) ?_
            subst hQ
            refine m_zret hx hb hr hlocks hH hS dL_isExchangeSo_286 ?_ (by omega)
            exact ⟨rfl, u37, hD, hU.mono (by omega)⟩
          refine lv_iload hx hb dL_isExchangeSo_226 (lv_at hl 0 rfl) ?_
          refine lv_iload hx hb dL_isExchangeSo_228 (lv_at hl 10 rfl) ?_
          refine j_icmp_lt (tgt := 258) hx hb dL_isExchangeSo_230 (by decide) (fun c40 => ?_) (fun c40 => ?_) (by omega) (by omega)
          · skip
            exact jn258_32 H locs ls hH hS (lv_sub hl [0, 1, 2, 3, 4, 5, 6, 7, 8, 9, 10] rfl)
          · skip
            refine lv_iload hx hb dL_isExchangeSo_233 (lv_at hl 0 rfl) ?_
            refine lv_iload hx hb dL_isExchangeSo_235 (lv_at hl 10 rfl) ?_
            refine j_icmp_ne (tgt := 262) hx hb dL_isExchangeSo_237 (by decide) (fun c41 => ?_) (fun c41 => ?_) (by omega) (by omega)
            · skip
              exfalso; omega
            · skip
              refine lv_iload hx hb dL_isExchangeSo_240 (lv_at hl 8 rfl) ?_
              refine j_if_lt (tgt := 258) hx hb dL_isExchangeSo_242 (by decide) (fun c42 => ?_) (fun c42 => ?_) (by omega)
              · skip
                exact jn258_32 H locs ls hH hS (lv_sub hl [0, 1, 2, 3, 4, 5, 6, 7, 8, 9, 10] rfl)
              · skip
                refine j_bipush hx hb dL_isExchangeSo_245 ?_ (by decide)
                refine lv_iload hx hb dL_isExchangeSo_247 (lv_at hl 3 rfl) ?_
                refine j_imul hx hb dL_isExchangeSo_249 ?_
                refine lv_iload hx hb dL_isExchangeSo_250 (lv_at hl 2 rfl) ?_
                refine j_iadd hx hb dL_isExchangeSo_252 ?_
                refine lv_iload hx hb dL_isExchangeSo_253 (lv_at hl 8 rfl) ?_
                refine j_icmp_lt (tgt := 262) hx hb dL_isExchangeSo_255 (by decide) (fun c43 => ?_) (fun c43 => ?_) (by omega) (by omega)
                · skip
                  exfalso; omega
                · skip
                  exact jn258_32 H locs ls hH hS (lv_sub hl [0, 1, 2, 3, 4, 5, 6, 7, 8, 9, 10] rfl)
        refine lv_iload hx hb dL_isExchangeSo_199 (lv_at hl 0 rfl) ?_
        refine j_bipush hx hb dL_isExchangeSo_201 ?_ (by decide)
        refine j_icmp_ne (tgt := 212) hx hb dL_isExchangeSo_203 (by decide) (fun c44 => ?_) (fun c44 => ?_) (by omega) (by omega)
        · skip
          refine lv_iload hx hb dL_isExchangeSo_212 (lv_at hl 0 rfl) ?_
          refine j_norm (y := mN) (by omega) ?_
          exact jn214_29 H locs ls hH hS (lv_sub hl [0, 1, 2, 3, 4, 5, 6, 7, 8, 9, 10] rfl)
        · skip
          refine j_sipush hx hb dL_isExchangeSo_206 ?_ (by decide)
          refine lv_goto (tgt := 214) hx hb dL_isExchangeSo_209 (by decide) ?_
          refine j_norm (y := mN) (by omega) ?_
          exact jn214_29 H locs ls hH hS (lv_sub hl [0, 1, 2, 3, 4, 5, 6, 7, 8, 9, 10] rfl)
      refine lv_iload hx hb dL_isExchangeSo_81 (lv_at hl 4 rfl) ?_
      refine j_if_lt (tgt := 157) hx hb dL_isExchangeSo_83 (by decide) (fun c45 => ?_) (fun c45 => ?_) (by omega)
      · skip
        have hmm : mL = mM := by omega
        rw [hmm] at hl
        exact jr157 u0 μ5 n6 H locs ls rfl hD (hU.mono (by omega)) hH hS (lv_sub hl [5, 6, 7, 8, 4, 1, 0] rfl)
      · skip
        refine lv_aload_n hx hb dL_isExchangeSo_86 rfl (lv_at hl 5 rfl) ?_
        refine lv_iload hx hb dL_isExchangeSo_87 (lv_at hl 4 rfl) ?_
        refine j_bipush hx hb dL_isExchangeSo_89 ?_ (by decide)
        refine j_idiv hx hb dL_isExchangeSo_91 ?_ (by omega) (by omega)
        refine lv_iload hx hb dL_isExchangeSo_92 (lv_at hl 4 rfl) ?_
        refine j_bipush hx hb dL_isExchangeSo_94 ?_ (by decide)
        refine j_irem hx hb dL_isExchangeSo_96 ?_ (by omega) (by omega)
        have hDo := hD
        refine m_callVi (As := [.int (iv (be / 10)), .int (iv (be % 10))]) (rest := []) ⟨hx, hb, hml, hown, hts⟩ hK hH hS (c_X8_exchange l G μ5 n6 x rb u0 (be / 10) (be % 10) hD (by omega) (by omega)) (cwV 2 hts gL_isExchangeSo_X8_exchange rfl rfl rfl (by decide +kernel) ⟨(Nat.le_of_ble_eq_true rfl), (Nat.le_of_ble_eq_true rfl)⟩) hD.1 rfl rfl rfl rfl hl.1 (Nat.le_of_ble_eq_true rfl) dL_isExchangeSo_97 ⟨Nat.zero_le _, Nat.zero_le _⟩ (fun z49 μ46 n47 H locs hz49 hp48 hH hS => ?_)
        obtain ⟨hvz49, hD, hf1⟩ := hp48
        obtain ⟨u50, hu50⟩ : ∃ q : aS, q = (a_exchange u0 (be / 10) (be % 10)).1 := ⟨_, rfl⟩
        rw [← hu50] at hD
        have hU : UI u50 (b0 + 1000) := by rw [hu50]; exact hU.exchange
        have hO := hD.okD
        have hex := v_exchange2 (u := u0) (p := (be / 10)) (q := (be % 10)) hDo.okD (by omega) (by omega)
        have hvv : 0 ≤ z49 := by rw [hvz49]; exact hex.2
        have hu50 : u50 = aAct u0 (swpS (aD u0).1 ((be / 10)).toNat ((be % 10)).toNat, (aD u0).2) := by rw [hu50, hex.1]
        have hdx : (aD u50).1 = swpS (aD u0).1 bp.toNat bq.toNat := by rw [hu50, show (be / 10) = bp by omega, show (be % 10) = bq by omega]; rfl
        have hM1 : M = lasF (swpS (aD u0).1 bp.toNat bq.toNat) k t := hbv.elim (fun h => absurd h.1 (by omega)) (fun h => h.2.2.2.1)
        obtain ⟨l1, hl1⟩ : ∃ q : Int, q = if M = 200 then -5 else M := ⟨_, rfl⟩
        have hl1v : (M = 200 ∧ l1 = -5) ∨ (¬ M = 200 ∧ l1 = M) := ite_or hl1
        clear hl1
        refine lv_istore (lv' := [(9, .int (iv z49)), (8, .int (iv mL)), (7, .int (iv 1)), (6, .int (iv mL)), (5, .int (iv lo)), (4, .int (iv be)), (0, .ref x), (1, .int (iv k)), (2, .int (iv t)), (3, .int (iv v))]) hx hb dL_isExchangeSo_100 hl (by decide) rfl (fun ls hl => ?_)
        refine lv_aload_n hx hb dL_isExchangeSo_102 rfl (lv_at hl 6 rfl) ?_
        refine lv_iload_n hx hb dL_isExchangeSo_103 rfl (lv_at hl 7 rfl) ?_
        refine lv_iload_n hx hb dL_isExchangeSo_104 rfl (lv_at hl 8 rfl) ?_
        refine m_callVi (As := [.int (iv k), .int (iv t)]) (rest := []) ⟨hx, hb, hml, hown, hts⟩ hK hH hS (c_X8_lasts l G μ46 n47 x rb u50 k t hD (by omega) (by omega)) (cwV 2 hts gL_isExchangeSo_X8_lasts rfl rfl rfl (by decide +kernel) ⟨(Nat.le_of_ble_eq_true rfl), (Nat.le_of_ble_eq_true rfl)⟩) hD.1 rfl rfl rfl rfl hl.1 (Nat.le_of_ble_eq_true rfl) dL_isExchangeSo_105 ⟨Nat.zero_le _, Nat.zero_le _⟩ (fun z54 μ51 n52 H locs hz54 hp53 hH hS => ?_)
        obtain ⟨hz2, hD, hf1⟩ := hp53
        have hz2 := hz2.trans (show a_lasts (aD u50).1 k t = l1 from (by rw [hdx]; rw [las_of hk (by omega), ← hM1]; exact ite_of hl1v))
        rw [hz2] at hz54
        rw [hz2]
        clear hz2
        refine lv_istore (lv' := [(8, .int (iv l1)), (9, .int (iv z49)), (7, .int (iv 1)), (6, .int (iv mL)), (5, .int (iv lo)), (4, .int (iv be)), (0, .ref x), (1, .int (iv k)), (2, .int (iv t)), (3, .int (iv v))]) hx hb dL_isExchangeSo_108 hl (by decide) rfl (fun ls hl => ?_)
        have jn125_55 : ∀ (H : Heap) (locs : List Loc) (ls : Array Slot) (_ : gP G μ51 n52 H) (_ : va_S (gA G) s.heap H locs) (_ : lv_has ls 13 [(8, .int (iv l1)), (9, .int (iv z49)), (7, .int (iv 1)), (6, .int (iv mL)), (5, .int (iv lo)), (4, .int (iv be)), (0, .ref x), (1, .int (iv k)), (2, .int (iv t)), (3, .int (iv v))]), W p l e rm_c_L_isExchangeSo s m args below meth c H locs 0 0 Q (F0 m 125 ls [.int (iv mM)]) := by
          intro H locs ls hH hS hl
          refine lv_istore (lv' := [(8, .int (iv mM)), (9, .int (iv z49)), (7, .int (iv 1)), (6, .int (iv mL)), (5, .int (iv lo)), (4, .int (iv be)), (0, .ref x), (1, .int (iv k)), (2, .int (iv t)), (3, .int (iv v))]) hx hb dL_isExchangeSo_125 hl (by decide) rfl (fun ls hl => ?_)
          refine lv_iload hx hb dL_isExchangeSo_127 (lv_at hl 2 rfl) ?_
          refine j_if_eq (tgt := 148) hx hb dL_isExchangeSo_129 (by decide) (fun c56 => absurd c56 (by omega)) (fun c56 => ?_) (by omega)
          refine lv_iload hx hb dL_isExchangeSo_132 (lv_at hl 1 rfl) ?_
          refine j_if_lt (tgt := 148) hx hb dL_isExchangeSo_134 (by decide) (fun c57 => absurd c57 (by omega)) (fun c57 => ?_) (by omega)
          refine lv_iload hx hb dL_isExchangeSo_137 (lv_at hl 0 rfl) ?_
          refine lv_iload hx hb dL_isExchangeSo_139 (lv_at hl 3 rfl) ?_
          refine j_icmp_le (tgt := 148) hx hb dL_isExchangeSo_141 (by decide) (fun c58 => absurd c58 (by omega)) (fun c58 => ?_) (by omega) (by omega)
          refine j_const hx hb dL_isExchangeSo_144 ?_
          refine lv_goto (tgt := 149) hx hb dL_isExchangeSo_145 (by decide) ?_
          refine lv_istore (lv' := [(7, .int (iv 1)), (8, .int (iv mM)), (9, .int (iv z49)), (6, .int (iv mL)), (5, .int (iv lo)), (4, .int (iv be)), (0, .ref x), (1, .int (iv k)), (2, .int (iv t)), (3, .int (iv v))]) hx hb dL_isExchangeSo_149 hl (by decide) rfl (fun ls hl => ?_)
          refine lv_aload_n hx hb dL_isExchangeSo_151 rfl (lv_at hl 6 rfl) ?_
          have hDo := hD
          refine m_callVi (As := []) (rest := []) ⟨hx, hb, hml, hown, hts⟩ hK hH hS (c_X8_undo l G μ51 n52 x rb u50 hD) (cwV 0 hts gL_isExchangeSo_X8_undo rfl rfl rfl (by decide +kernel) ⟨(Nat.le_of_ble_eq_true rfl), (Nat.le_of_ble_eq_true rfl)⟩) hD.1 rfl rfl rfl rfl hl.1 (Nat.le_of_ble_eq_true rfl) dL_isExchangeSo_152 ⟨Nat.zero_le _, Nat.zero_le _⟩ (fun z62 μ59 n60 H locs hz62 hp61 hH hS => ?_)
          obtain ⟨hvz62, hD, hf1⟩ := hp61
          obtain ⟨u63, hu63⟩ : ∃ q : aS, q = (a_undo u50).1 := ⟨_, rfl⟩
          rw [← hu63] at hD
          have hU : UI u63 (b0 + 1000) := by rw [hu63]; exact hU.undo hDo.nN
          have hO := hD.okD
          have hun := undo_act (u := u0) (d := (swpS (aD u0).1 ((be / 10)).toNat ((be % 10)).toNat, (aD u0).2)) hnN
          rw [← hu50] at hun
          rw [← hu63, ← hvz62] at hun
          have hd0 : aD u63 = aD u0 := hun.1
          have hnN := hD.nN
          refine lv_istore (lv' := [(9, .int (iv z62)), (7, .int (iv 1)), (8, .int (iv mM)), (6, .int (iv mL)), (5, .int (iv lo)), (4, .int (iv be)), (0, .ref x), (1, .int (iv k)), (2, .int (iv t)), (3, .int (iv v))]) hx hb dL_isExchangeSo_155 hl (by decide) rfl (fun ls hl => ?_)
          exact jr157 u63 μ59 n60 H locs ls hd0 hD hU hH hS (lv_sub hl [6, 7, 8, 9, 5, 1, 2] rfl)
        refine lv_iload hx hb dL_isExchangeSo_110 (lv_at hl 0 rfl) ?_
        refine j_bipush hx hb dL_isExchangeSo_112 ?_ (by decide)
        refine j_icmp_ne (tgt := 123) hx hb dL_isExchangeSo_114 (by decide) (fun c64 => ?_) (fun c64 => ?_) (by omega) (by omega)
        · skip
          refine lv_iload hx hb dL_isExchangeSo_123 (lv_at hl 0 rfl) ?_
          refine j_norm (y := mM) (by omega) ?_
          exact jn125_55 H locs ls hH hS (lv_sub hl [0, 1, 2, 3, 4, 5, 6, 7, 8, 9] rfl)
        · skip
          refine j_sipush hx hb dL_isExchangeSo_117 ?_ (by decide)
          refine lv_goto (tgt := 125) hx hb dL_isExchangeSo_120 (by decide) ?_
          refine j_norm (y := mM) (by omega) ?_
          exact jn125_55 H locs ls hH hS (lv_sub hl [0, 1, 2, 3, 4, 5, 6, 7, 8, 9] rfl)
    refine lv_iload hx hb dL_isExchangeSo_33 (lv_at hl 2 rfl) ?_
    refine j_bipush hx hb dL_isExchangeSo_35 ?_ (by decide)
    refine j_icmp_eq (tgt := 70) hx hb dL_isExchangeSo_37 (by decide) (fun c65 => ?_) (fun c65 => ?_) (by omega) (by omega)
    · skip
      refine j_const hx hb dL_isExchangeSo_70 ?_
      refine lv_goto (tgt := 75) hx hb dL_isExchangeSo_71 (by decide) ?_
      exact jn75_10 H locs ls hH hS (lv_sub hl [0, 1, 2, 3, 4, 5, 6] rfl)
    · skip
      refine lv_iload hx hb dL_isExchangeSo_40 (lv_at hl 1 rfl) ?_
      refine j_bipush hx hb dL_isExchangeSo_42 ?_ (by decide)
      refine j_icmp_eq (tgt := 74) hx hb dL_isExchangeSo_44 (by decide) (fun c66 => absurd c66 (by omega)) (fun c66 => ?_) (by omega) (by omega)
      refine lv_iload hx hb dL_isExchangeSo_47 (lv_at hl 2 rfl) ?_
      refine j_bipush hx hb dL_isExchangeSo_49 ?_ (by decide)
      refine j_idiv hx hb dL_isExchangeSo_51 ?_ (by omega) (by omega)
      refine lv_iload hx hb dL_isExchangeSo_52 (lv_at hl 2 rfl) ?_
      refine j_bipush hx hb dL_isExchangeSo_54 ?_ (by decide)
      refine j_irem hx hb dL_isExchangeSo_56 ?_ (by omega) (by omega)
      refine j_icmp_ge (tgt := 74) hx hb dL_isExchangeSo_57 (by decide) (fun c67 => absurd c67 (by omega)) (fun c67 => ?_) (by omega) (by omega)
      refine lv_iload hx hb dL_isExchangeSo_60 (lv_at hl 2 rfl) ?_
      refine j_bipush hx hb dL_isExchangeSo_62 ?_ (by decide)
      refine j_irem hx hb dL_isExchangeSo_64 ?_ (by omega) (by omega)
      refine j_bipush hx hb dL_isExchangeSo_65 ?_ (by decide)
      refine j_icmp_ge (tgt := 74) hx hb dL_isExchangeSo_67 (by decide) (fun c68 => absurd c68 (by omega)) (fun c68 => ?_) (by omega) (by omega)
      refine j_const hx hb dL_isExchangeSo_70 ?_
      refine lv_goto (tgt := 75) hx hb dL_isExchangeSo_71 (by decide) ?_
      exact jn75_10 H locs ls hH hS (lv_sub hl [0, 1, 2, 3, 4, 5, 6] rfl)
  refine lv_iload hx hb dL_isExchangeSo_16 (lv_at hl 0 rfl) ?_
  refine j_bipush hx hb dL_isExchangeSo_18 ?_ (by decide)
  refine j_icmp_ne (tgt := 29) hx hb dL_isExchangeSo_20 (by decide) (fun c69 => ?_) (fun c69 => ?_) (by omega) (by omega)
  · skip
    refine lv_iload hx hb dL_isExchangeSo_29 (lv_at hl 0 rfl) ?_
    refine j_norm (y := mL) (by omega) ?_
    exact jn31_9 H locs ls hH hS (lv_sub hl [0, 1, 2, 3, 4, 5] rfl)
  · skip
    refine j_sipush hx hb dL_isExchangeSo_23 ?_ (by decide)
    refine lv_goto (tgt := 31) hx hb dL_isExchangeSo_26 (by decide) ?_
    refine j_norm (y := mL) (by omega) ?_
    exact jn31_9 H locs ls hH hS (lv_sub hl [0, 1, 2, 3, 4, 5] rfl)
