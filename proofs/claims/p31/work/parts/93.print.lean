abbrev rm_c_L_isPrintSo : Room := { frames := 6, cells := 4, slots := 22, locals := 140 }
set_option maxHeartbeats 4000000 in
set_option maxRecDepth 100000 in
theorem c_L_isPrintSo (l : Launch) (G : wG) (μ : hM) (n : Nat) (x rb : Nat) (u0 : aS) (b0 : Int) (k : Int) (hD : IsD G μ x rb u0) (hU : UI u0 b0) (hb0 : 0 ≤ b0 ∧ b0 ≤ 500000000) (hk : 1 ≤ k ∧ k ≤ 9) : Met l yL_isPrintSo wsL_isPrintSo rm_c_L_isPrintSo (mPc G μ n [.ref x, .int (iv k)]) (mQi G (fun z μ1 n1 => z = 1 ∧ ∃ u1 : aS, IsD G μ1 x rb u1 ∧ UI u1 (b0 + 1000))) 4 22 (gA G) := by
  refine Met.ofW (cc := cL_isPrintSo) (maxL := 19) (ret := (some .boolean)) (by decide) rfl ?_
  intro p e s m args below meth c s₁ B hml hv
  obtain ⟨hav, hK, hH⟩ := hv
  have hx := B.exec
  have hb := B.bytes
  have hr := B.returns
  have hts := atoms_spec (ws := wsL_isPrintSo) B.pre
  have hown : s.vm.findClass RL = some m.cls := findClass_of_methodNamed B.named
  have hlocks := B.notSynchronized
  have hS : va_S (gA G) s.heap s.heap [] := va_S.rf
  have hl := lv_entry ([.ref x, .int (iv k)]) (n := 19) (Nat.le_of_ble_eq_true rfl)
  have hfr : entryFrame m args 19 = entryFrame m ([.ref x, .int (iv k)] : List Value).toArray 19 := by rw [hav]
  rw [hfr, lg_entry_eq]
  generalize (lg_sl ([.ref x, .int (iv k)]) ++ List.replicate (19 - (lg_sl ([.ref x, .int (iv k)])).length) Slot.unset).toArray = ls at hl ⊢
  have hl : lv_has ls 19 [(0, .ref x), (1, .int (iv k))] := hl
  generalize hQ : MQ below _ args s 4 22 (gA G) = Q
  show W p l e rm_c_L_isPrintSo s m args below meth c s.heap [] 0 0 Q (F0 m 0 ls [])
  obtain ⟨H, hHe⟩ : ∃ H, H = s.heap := ⟨_, rfl⟩
  obtain ⟨locs, hlo⟩ : ∃ q : List Loc, q = [] := ⟨_, rfl⟩
  have hH : gP G μ n H := by rw [hHe]; exact hH
  have hS : va_S (gA G) s.heap H locs := by rw [hHe, hlo]; exact hS
  suffices hgo : W p l e rm_c_L_isPrintSo s m args below meth c H locs 0 0 Q (F0 m 0 ls []) by rw [hHe, hlo] at hgo; exact hgo
  clear hHe hlo hfr hav
  have f_0 := hts (.arrayClass .int) (List.mem_of_getElem? (i := 1) rfl)
  have hO := hD.okD
  have hOS := hO.1.1
  have hT3 := hO.1.2.1
  have hT5 := hO.1.2.2.1
  have hsh := (shw_rng hOS).2.2.2.2.2.2
  have hnx0 := hD.lt hH
  have hnN := hD.nN
  have hU0 := hU
  have hset := hOS
  obtain ⟨hUm, hUc, hUs, hU5, hU7, hU8, hU9⟩ := hU.1
  have hs0 : (aD u0).1 0 ≤ (aD u0).1 1 := by have := hOS.1; have := hOS.2.1; omega
  have hl0 := hOS.1
  have hl1 := hOS.2.1
  have hl2 := hOS.2.2.1
  have hl4 := hOS.2.2.2.1
  have hch := cOk.of ((aD u0).1 3) hUc
  have hcs := cOk.sum hUc
  obtain ⟨rt, hrt⟩ : ∃ q : Int, q = rtF (aD u0).1 (dig ((aD u0).1 3)) k := ⟨_, rfl⟩
  have hrt1 := rtF_01 (aD u0).1 (dig ((aD u0).1 3)) k
  rw [← hrt] at hrt1
  have hf6 := fb64 (aD u0).1 k
  have hup := ucl_pc (k := k) hs0 6 (Nat.le_refl _)
  have hur := ucl_rng (aD u0).1 k 6
  have hpf := pc6_rng (fbN (aD u0).1 k 6)
  have hps := pc6_rng (sbN (aD u0).1 k 6)
  have hrtu := rtF_ucl (σ := (aD u0).1) (D := dig ((aD u0).1 3)) (k := k) hs0
  rw [← hrt] at hrtu
  have hcadd := cOk.add (mo := rt) hUc (by omega)
  refine j_const hx hb dL_isPrintSo_0 ?_
  refine lv_istore_n (lv' := [(2, .int (iv 0)), (0, .ref x), (1, .int (iv k))]) hx hb dL_isPrintSo_1 rfl hl (by decide) rfl (fun ls hl => ?_)
  refine j_const hx hb dL_isPrintSo_2 ?_
  refine lv_istore_n (lv' := [(3, .int (iv 0)), (2, .int (iv 0)), (0, .ref x), (1, .int (iv k))]) hx hb dL_isPrintSo_3 rfl hl (by decide) rfl (fun ls hl => ?_)
  refine j_const hx hb dL_isPrintSo_4 ?_
  refine lv_istore (lv' := [(4, .int (iv 0)), (3, .int (iv 0)), (2, .int (iv 0)), (0, .ref x), (1, .int (iv k))]) hx hb dL_isPrintSo_5 hl (by decide) rfl (fun ls hl => ?_)
  refine lv_aload_n hx hb dL_isPrintSo_7 rfl (lv_at hl 3 rfl) ?_
  refine m_callSi (As := [.ref x]) (rest := []) ⟨hx, hb, hml, hown, hts⟩ hK hH hS (c_L_shown l G μ n x rb u0 b0 hD hU (by omega)) (va_cwS 1 hts gL_isPrintSo_L_shown rfl rfl rfl (by decide +kernel) ⟨(Nat.le_of_ble_eq_true rfl), (Nat.le_of_ble_eq_true rfl)⟩) rfl rfl hl.1 (Nat.le_of_ble_eq_true rfl) dL_isPrintSo_8 ⟨Nat.zero_le _, Nat.zero_le _⟩ (fun z4 μ1 n2 H locs hz4 hp3 hH hS => ?_)
  obtain ⟨hz2, hm2, hn2⟩ := hp3
  rw [hm2, hn2] at hH
  rw [hz2] at hz4
  rw [hz2]
  clear hz2 hm2 hn2
  refine lv_istore (lv' := [(5, .int (iv (shw (aD u0).1 6))), (4, .int (iv 0)), (3, .int (iv 0)), (2, .int (iv 0)), (0, .ref x), (1, .int (iv k))]) hx hb dL_isPrintSo_11 hl (by decide) rfl (fun ls hl => ?_)
  refine lv_aload_n hx hb dL_isPrintSo_13 rfl (lv_at hl 4 rfl) ?_
  refine j_const hx hb dL_isPrintSo_14 ?_
  refine m_callVi (As := [.int (iv 1)]) (rest := []) ⟨hx, hb, hml, hown, hts⟩ hK hH hS (c_X8_count l G μ n x rb u0 1 hD (by omega)) (cwV 1 hts gL_isPrintSo_X8_count rfl rfl rfl (by decide +kernel) ⟨(Nat.le_of_ble_eq_true rfl), (Nat.le_of_ble_eq_true rfl)⟩) hD.1 rfl rfl rfl rfl hl.1 (Nat.le_of_ble_eq_true rfl) dL_isPrintSo_15 ⟨Nat.zero_le _, Nat.zero_le _⟩ (fun z8 μ5 n6 H locs hz8 hp7 hH hS => ?_)
  obtain ⟨hz2, hm2, hn2⟩ := hp7
  have hz2 := hz2.trans (show a_count u0 1 = ((aD u0).1 4) from cnt_1 u0)
  rw [hm2, hn2] at hH
  rw [hz2] at hz8
  rw [hz2]
  clear hz2 hm2 hn2
  refine lv_istore (lv' := [(6, .int (iv ((aD u0).1 4))), (5, .int (iv (shw (aD u0).1 6))), (4, .int (iv 0)), (3, .int (iv 0)), (2, .int (iv 0)), (0, .ref x), (1, .int (iv k))]) hx hb dL_isPrintSo_18 hl (by decide) rfl (fun ls hl => ?_)
  refine j_bipush hx hb dL_isPrintSo_20 ?_ (by decide)
  refine m_newI hx hb f_0 hK hH hS 6 rfl (by decide) dL_isPrintSo_22 (Nat.le_of_ble_eq_true rfl) (Nat.le_of_ble_eq_true rfl) (fun H hH hS hnn => ?_)
  have hD := hD.ext (ν := (hu μ n (.inl (G.2.1 0, 6, .inl (fun _ => iv 0))))) (fun q e h => hu_f hnn h)
  have hN10 : (hu μ n (.inl (G.2.1 0, 6, .inl (fun _ => iv 0)))) n = some (.inl (G.2.1 0, 6, .inl (fun _ => iv 0))) := hu_s
  obtain ⟨μ9, hμ9⟩ : ∃ q : hM, q = (hu μ n (.inl (G.2.1 0, 6, .inl (fun _ => iv 0)))) := ⟨_, rfl⟩
  rw [← hμ9] at hH hD hN10 
  obtain ⟨n11, hn11⟩ : ∃ q : Nat, q = n + 1 := ⟨_, rfl⟩
  rw [← hn11] at hH
  have hnxn11 := hD.lt hH
  refine lv_astore (lv' := [(7, .ref n), (6, .int (iv ((aD u0).1 4))), (5, .int (iv (shw (aD u0).1 6))), (4, .int (iv 0)), (3, .int (iv 0)), (2, .int (iv 0)), (0, .ref x), (1, .int (iv k))]) hx hb dL_isPrintSo_24 hl (by decide) rfl (fun ls hl => ?_)
  refine j_bipush hx hb dL_isPrintSo_26 ?_ (by decide)
  refine m_newI hx hb f_0 hK hH hS 6 rfl (by decide) dL_isPrintSo_28 (Nat.le_of_ble_eq_true rfl) (Nat.le_of_ble_eq_true rfl) (fun H hH hS hnn => ?_)
  have hD := hD.ext (ν := (hu μ9 n11 (.inl (G.2.1 0, 6, .inl (fun _ => iv 0))))) (fun q e h => hu_f hnn h)
  have hN10 := hu_f (e2 := (.inl (G.2.1 0, 6, .inl (fun _ => iv 0)))) hnn hN10
  have hN13 : (hu μ9 n11 (.inl (G.2.1 0, 6, .inl (fun _ => iv 0)))) n11 = some (.inl (G.2.1 0, 6, .inl (fun _ => iv 0))) := hu_s
  obtain ⟨μ12, hμ12⟩ : ∃ q : hM, q = (hu μ9 n11 (.inl (G.2.1 0, 6, .inl (fun _ => iv 0)))) := ⟨_, rfl⟩
  rw [← hμ12] at hH hD hN13 hN10
  obtain ⟨n14, hn14⟩ : ∃ q : Nat, q = n11 + 1 := ⟨_, rfl⟩
  rw [← hn14] at hH
  have hnxn14 := hD.lt hH
  refine lv_astore (lv' := [(8, .ref n11), (7, .ref n), (6, .int (iv ((aD u0).1 4))), (5, .int (iv (shw (aD u0).1 6))), (4, .int (iv 0)), (3, .int (iv 0)), (2, .int (iv 0)), (0, .ref x), (1, .int (iv k))]) hx hb dL_isPrintSo_30 hl (by decide) rfl (fun ls hl => ?_)
  refine j_bipush hx hb dL_isPrintSo_32 ?_ (by decide)
  refine m_newI hx hb f_0 hK hH hS 6 rfl (by decide) dL_isPrintSo_34 (Nat.le_of_ble_eq_true rfl) (Nat.le_of_ble_eq_true rfl) (fun H hH hS hnn => ?_)
  have hD := hD.ext (ν := (hu μ12 n14 (.inl (G.2.1 0, 6, .inl (fun _ => iv 0))))) (fun q e h => hu_f hnn h)
  have hN10 := hu_f (e2 := (.inl (G.2.1 0, 6, .inl (fun _ => iv 0)))) hnn hN10
  have hN13 := hu_f (e2 := (.inl (G.2.1 0, 6, .inl (fun _ => iv 0)))) hnn hN13
  have hN16 : (hu μ12 n14 (.inl (G.2.1 0, 6, .inl (fun _ => iv 0)))) n14 = some (.inl (G.2.1 0, 6, .inl (fun _ => iv 0))) := hu_s
  obtain ⟨μ15, hμ15⟩ : ∃ q : hM, q = (hu μ12 n14 (.inl (G.2.1 0, 6, .inl (fun _ => iv 0)))) := ⟨_, rfl⟩
  rw [← hμ15] at hH hD hN16 hN10 hN13
  obtain ⟨n17, hn17⟩ : ∃ q : Nat, q = n14 + 1 := ⟨_, rfl⟩
  rw [← hn17] at hH
  have hnxn17 := hD.lt hH
  refine lv_astore (lv' := [(9, .ref n14), (8, .ref n11), (7, .ref n), (6, .int (iv ((aD u0).1 4))), (5, .int (iv (shw (aD u0).1 6))), (4, .int (iv 0)), (3, .int (iv 0)), (2, .int (iv 0)), (0, .ref x), (1, .int (iv k))]) hx hb dL_isPrintSo_36 hl (by decide) rfl (fun ls hl => ?_)
  refine j_const hx hb dL_isPrintSo_38 ?_
  refine lv_istore (lv' := [(10, .int (iv 0)), (9, .ref n14), (8, .ref n11), (7, .ref n), (6, .int (iv ((aD u0).1 4))), (5, .int (iv (shw (aD u0).1 6))), (4, .int (iv 0)), (3, .int (iv 0)), (2, .int (iv 0)), (0, .ref x), (1, .int (iv k))]) hx hb dL_isPrintSo_39 hl (by decide) rfl (fun ls hl => ?_)
  have hA7 : μ15 n = some (.inl (G.2.1 0, 6, .inl (fun j => iv ((pfx (atW (aD u0).1) (0 : Int).toNat) j)))) := by
    rw [show (0 : Int).toNat = 0 from rfl, pfx_z]
    exact hN10
  have hA8 : μ15 n11 = some (.inl (G.2.1 0, 6, .inl (fun j => iv ((pfx (atD (aD u0).1) (0 : Int).toNat) j)))) := by
    rw [show (0 : Int).toNat = 0 from rfl, pfx_z]
    exact hN13
  have hA9 : μ15 n14 = some (.inl (G.2.1 0, 6, .inl (fun j => iv ((pfx (atL (aD u0).1) (0 : Int).toNat) j)))) := by
    rw [show (0 : Int).toNat = 0 from rfl, pfx_z]
    exact hN16
  have lp41 : ∀ (fuel : Nat) (i : Int) (fa : Int) (sm : Int) (un : Int) (ν : hM) (hi : 0 ≤ i ∧ i ≤ 6) (hfa : fa = (fbN (aD u0).1 k i.toNat : Int)) (hsm : sm = (sbN (aD u0).1 k i.toNat : Int)) (hun : un = ucl (aD u0).1 k i.toNat) (hD : IsD G ν x rb u0) (hA7 : ν n = some (.inl (G.2.1 0, 6, .inl (fun j => iv ((pfx (atW (aD u0).1) i.toNat) j))))) (hA8 : ν n11 = some (.inl (G.2.1 0, 6, .inl (fun j => iv ((pfx (atD (aD u0).1) i.toNat) j))))) (hA9 : ν n14 = some (.inl (G.2.1 0, 6, .inl (fun j => iv ((pfx (atL (aD u0).1) i.toNat) j))))) (_ : (6 - i).toNat < fuel) (H : Heap) (locs : List Loc) (ls : Array Slot) (_ : gP G ν n17 H) (_ : va_S (gA G) s.heap H locs) (_ : lv_has ls 19 [(0, .ref x), (1, .int (iv k)), (2, .int (iv fa)), (3, .int (iv sm)), (4, .int (iv un)), (5, .int (iv (shw (aD u0).1 6))), (6, .int (iv ((aD u0).1 4))), (7, .ref n), (8, .ref n11), (9, .ref n14), (10, .int (iv i))]), W p l e rm_c_L_isPrintSo s m args below meth c H locs 3 18 Q (F0 m 41 ls []) := by
    intro fuel
    induction fuel with
    | zero => intro _ _ _ _ _ _ _ _ _ _ _ _ _ hfuel; exact absurd hfuel (Nat.not_lt_zero _)
    | succ fuel ih =>
      intro i fa sm un ν hi hfa hsm hun hD hA7 hA8 hA9 hfuel H locs ls hH hS hl
      have ih18 := ih; clear ih
      refine lv_iload hx hb dL_isPrintSo_41 (lv_at hl 10 rfl) ?_
      refine j_bipush hx hb dL_isPrintSo_43 ?_ (by decide)
      refine j_icmp_ge (tgt := 187) hx hb dL_isPrintSo_45 (by decide) (fun c19 => ?_) (fun c19 => ?_) (by omega) (by omega)
      · skip
        have hi6 : i = 6 := by omega
        rw [hi6] at hfa hsm hun hA7 hA8 hA9
        obtain ⟨c8, hc8⟩ : ∃ q : Int, q = a_count u0 8 := ⟨_, rfl⟩
        have hc8v : (shw (aD u0).1 6 = dig ((aD u0).1 3) ∧ c8 = 1) ∨ (¬ shw (aD u0).1 6 = dig ((aD u0).1 3) ∧ c8 = 0) := ite_or (hc8.trans (cnt_8 u0))
        have hfa6 : fa = (fbN (aD u0).1 k 6 : Int) := hfa
        have hsm6 : sm = (sbN (aD u0).1 k 6 : Int) := hsm
        have hun6 : un = ucl (aD u0).1 k 6 := hun
        have hur2 := hur
        refine lv_aload_n hx hb dL_isPrintSo_187 rfl (lv_at hl 0 rfl) ?_
        refine j_const hx hb dL_isPrintSo_188 ?_
        refine m_callVi (As := [.int (iv 0)]) (rest := []) ⟨hx, hb, hml, hown, hts⟩ hK hH hS (c_X8_count l G ν n17 x rb u0 0 hD (by omega)) (cwV 1 hts gL_isPrintSo_X8_count rfl rfl rfl (by decide +kernel) ⟨(Nat.le_of_ble_eq_true rfl), (Nat.le_of_ble_eq_true rfl)⟩) hD.1 rfl rfl rfl rfl hl.1 (Nat.le_of_ble_eq_true rfl) dL_isPrintSo_189 ⟨(Nat.le_of_ble_eq_true rfl), (Nat.le_of_ble_eq_true rfl)⟩ (fun z23 μ20 n21 H locs hz23 hp22 hH hS => ?_)
        obtain ⟨hz2, hm2, hn2⟩ := hp22
        have hz2 := hz2.trans (show a_count u0 0 = ((aD u0).1 3) from cnt_0 u0)
        rw [hm2, hn2] at hH
        rw [hz2] at hz23
        rw [hz2]
        clear hz2 hm2 hn2
        refine lv_istore (lv' := [(10, .int (iv ((aD u0).1 3))), (0, .ref x), (1, .int (iv k)), (2, .int (iv fa)), (3, .int (iv sm)), (4, .int (iv un)), (5, .int (iv (shw (aD u0).1 6))), (6, .int (iv ((aD u0).1 4))), (7, .ref n), (8, .ref n11), (9, .ref n14)]) hx hb dL_isPrintSo_192 hl (by decide) rfl (fun ls hl => ?_)
        refine lv_aload_n hx hb dL_isPrintSo_194 rfl (lv_at hl 1 rfl) ?_
        refine j_bipush hx hb dL_isPrintSo_195 ?_ (by decide)
        refine m_callVi (As := [.int (iv 8)]) (rest := []) ⟨hx, hb, hml, hown, hts⟩ hK hH hS (c_X8_count l G ν n17 x rb u0 8 hD (by omega)) (cwV 1 hts gL_isPrintSo_X8_count rfl rfl rfl (by decide +kernel) ⟨(Nat.le_of_ble_eq_true rfl), (Nat.le_of_ble_eq_true rfl)⟩) hD.1 rfl rfl rfl rfl hl.1 (Nat.le_of_ble_eq_true rfl) dL_isPrintSo_197 ⟨(Nat.le_of_ble_eq_true rfl), (Nat.le_of_ble_eq_true rfl)⟩ (fun z27 μ24 n25 H locs hz27 hp26 hH hS => ?_)
        obtain ⟨hz2, hm2, hn2⟩ := hp26
        have hz2 := hz2.trans (show a_count u0 8 = c8 from hc8.symm)
        rw [hm2, hn2] at hH
        rw [hz2] at hz27
        rw [hz2]
        clear hz2 hm2 hn2
        refine j_const hx hb dL_isPrintSo_200 ?_
        have jn214_28 : ∀ (H : Heap) (locs : List Loc) (ls : Array Slot) (_ : gP G ν n17 H) (_ : va_S (gA G) s.heap H locs) (_ : lv_has ls 19 [(10, .int (iv ((aD u0).1 3))), (0, .ref x), (1, .int (iv k)), (2, .int (iv fa)), (3, .int (iv sm)), (4, .int (iv un)), (5, .int (iv (shw (aD u0).1 6))), (6, .int (iv ((aD u0).1 4))), (7, .ref n), (8, .ref n11), (9, .ref n14)]), W p l e rm_c_L_isPrintSo s m args below meth c H locs 3 18 Q (F0 m 214 ls [.int (iv rt)]) := by
          intro H locs ls hH hS hl
          refine lv_istore (lv' := [(11, .int (iv rt)), (10, .int (iv ((aD u0).1 3))), (0, .ref x), (1, .int (iv k)), (2, .int (iv fa)), (3, .int (iv sm)), (4, .int (iv un)), (5, .int (iv (shw (aD u0).1 6))), (6, .int (iv ((aD u0).1 4))), (7, .ref n), (8, .ref n11), (9, .ref n14)]) hx hb dL_isPrintSo_214 hl (by decide) rfl (fun ls hl => ?_)
          refine lv_aload_n hx hb dL_isPrintSo_216 rfl (lv_at hl 2 rfl) ?_
          refine lv_iload hx hb dL_isPrintSo_217 (lv_at hl 1 rfl) ?_
          refine m_callVi (As := [.int (iv ((aD u0).1 3))]) (rest := []) ⟨hx, hb, hml, hown, hts⟩ hK hH hS (c_X8_rightOf l G ν n17 x rb u0 ((aD u0).1 3) hD (by omega)) (cwV 1 hts gL_isPrintSo_X8_rightOf rfl rfl rfl (by decide +kernel) ⟨(Nat.le_of_ble_eq_true rfl), (Nat.le_of_ble_eq_true rfl)⟩) hD.1 rfl rfl rfl rfl hl.1 (Nat.le_of_ble_eq_true rfl) dL_isPrintSo_219 ⟨(Nat.le_of_ble_eq_true rfl), (Nat.le_of_ble_eq_true rfl)⟩ (fun z32 μ29 n30 H locs hz32 hp31 hH hS => ?_)
          obtain ⟨hz2, hm2, hn2⟩ := hp31
          have hz2 := hz2.trans (show a_rightOf (aD u0) ((aD u0).1 3) = (chOf (aD u0).2 ((aD u0).1 3)) from rgt_of hU (by omega) (by omega))
          rw [hm2, hn2] at hH
          rw [hz2] at hz32
          rw [hz2]
          clear hz2 hm2 hn2
          refine lv_istore (lv' := [(12, .int (iv (chOf (aD u0).2 ((aD u0).1 3)))), (11, .int (iv rt)), (10, .int (iv ((aD u0).1 3))), (0, .ref x), (1, .int (iv k)), (2, .int (iv fa)), (3, .int (iv sm)), (4, .int (iv un)), (5, .int (iv (shw (aD u0).1 6))), (6, .int (iv ((aD u0).1 4))), (7, .ref n), (8, .ref n11), (9, .ref n14)]) hx hb dL_isPrintSo_222 hl (by decide) rfl (fun ls hl => ?_)
          refine lv_aload_n hx hb dL_isPrintSo_224 rfl (lv_at hl 3 rfl) ?_
          refine j_const hx hb dL_isPrintSo_225 ?_
          refine m_callVi (As := [.int (iv 2)]) (rest := []) ⟨hx, hb, hml, hown, hts⟩ hK hH hS (c_X8_count l G ν n17 x rb u0 2 hD (by omega)) (cwV 1 hts gL_isPrintSo_X8_count rfl rfl rfl (by decide +kernel) ⟨(Nat.le_of_ble_eq_true rfl), (Nat.le_of_ble_eq_true rfl)⟩) hD.1 rfl rfl rfl rfl hl.1 (Nat.le_of_ble_eq_true rfl) dL_isPrintSo_226 ⟨(Nat.le_of_ble_eq_true rfl), (Nat.le_of_ble_eq_true rfl)⟩ (fun z36 μ33 n34 H locs hz36 hp35 hH hS => ?_)
          obtain ⟨hz2, hm2, hn2⟩ := hp35
          have hz2 := hz2.trans (show a_count u0 2 = ((aD u0).1 5) from cnt_2 u0)
          rw [hm2, hn2] at hH
          rw [hz2] at hz36
          rw [hz2]
          clear hz2 hm2 hn2
          refine lv_istore (lv' := [(13, .int (iv ((aD u0).1 5))), (12, .int (iv (chOf (aD u0).2 ((aD u0).1 3)))), (11, .int (iv rt)), (10, .int (iv ((aD u0).1 3))), (0, .ref x), (1, .int (iv k)), (2, .int (iv fa)), (3, .int (iv sm)), (4, .int (iv un)), (5, .int (iv (shw (aD u0).1 6))), (6, .int (iv ((aD u0).1 4))), (7, .ref n), (8, .ref n11), (9, .ref n14)]) hx hb dL_isPrintSo_229 hl (by decide) rfl (fun ls hl => ?_)
          refine lv_aload_n hx hb dL_isPrintSo_231 rfl (lv_at hl 4 rfl) ?_
          refine j_const hx hb dL_isPrintSo_232 ?_
          refine m_callVi (As := [.int (iv 4)]) (rest := []) ⟨hx, hb, hml, hown, hts⟩ hK hH hS (c_X8_count l G ν n17 x rb u0 4 hD (by omega)) (cwV 1 hts gL_isPrintSo_X8_count rfl rfl rfl (by decide +kernel) ⟨(Nat.le_of_ble_eq_true rfl), (Nat.le_of_ble_eq_true rfl)⟩) hD.1 rfl rfl rfl rfl hl.1 (Nat.le_of_ble_eq_true rfl) dL_isPrintSo_233 ⟨(Nat.le_of_ble_eq_true rfl), (Nat.le_of_ble_eq_true rfl)⟩ (fun z40 μ37 n38 H locs hz40 hp39 hH hS => ?_)
          obtain ⟨hz2, hm2, hn2⟩ := hp39
          have hz2 := hz2.trans (show a_count u0 4 = ((aD u0).1 7) from cnt_4 hU (by omega))
          rw [hm2, hn2] at hH
          rw [hz2] at hz40
          rw [hz2]
          clear hz2 hm2 hn2
          refine lv_aload_n hx hb dL_isPrintSo_236 rfl (lv_at hl 4 rfl) ?_
          refine j_const hx hb dL_isPrintSo_237 ?_
          refine m_callVi (As := [.int (iv 5)]) (rest := [.int (iv ((aD u0).1 7))]) ⟨hx, hb, hml, hown, hts⟩ hK hH hS (c_X8_count l G ν n17 x rb u0 5 hD (by omega)) (cwV 1 hts gL_isPrintSo_X8_count rfl rfl rfl (by decide +kernel) ⟨(Nat.le_of_ble_eq_true rfl), (Nat.le_of_ble_eq_true rfl)⟩) hD.1 rfl rfl rfl rfl hl.1 (Nat.le_of_ble_eq_true rfl) dL_isPrintSo_238 ⟨(Nat.le_of_ble_eq_true rfl), (Nat.le_of_ble_eq_true rfl)⟩ (fun z44 μ41 n42 H locs hz44 hp43 hH hS => ?_)
          obtain ⟨hz2, hm2, hn2⟩ := hp43
          have hz2 := hz2.trans (show a_count u0 5 = ((aD u0).1 8) from cnt_5 hU (by omega))
          rw [hm2, hn2] at hH
          rw [hz2] at hz44
          rw [hz2]
          clear hz2 hm2 hn2
          refine j_iadd hx hb dL_isPrintSo_241 ?_
          refine lv_istore (lv' := [(14, .int (iv (((aD u0).1 7) + ((aD u0).1 8)))), (13, .int (iv ((aD u0).1 5))), (12, .int (iv (chOf (aD u0).2 ((aD u0).1 3)))), (11, .int (iv rt)), (10, .int (iv ((aD u0).1 3))), (0, .ref x), (1, .int (iv k)), (2, .int (iv fa)), (3, .int (iv sm)), (4, .int (iv un)), (5, .int (iv (shw (aD u0).1 6))), (6, .int (iv ((aD u0).1 4))), (7, .ref n), (8, .ref n11), (9, .ref n14)]) hx hb dL_isPrintSo_242 hl (by decide) rfl (fun ls hl => ?_)
          refine lv_aload_n hx hb dL_isPrintSo_244 rfl (lv_at hl 5 rfl) ?_
          refine lv_iload_n hx hb dL_isPrintSo_245 rfl (lv_at hl 6 rfl) ?_
          refine j_const hx hb dL_isPrintSo_246 ?_
          have hDo := hD
          refine m_callVi (As := [.int (iv k), .int (iv 1)]) (rest := []) ⟨hx, hb, hml, hown, hts⟩ hK hH hS (c_X8_press l G ν n17 x rb u0 k 1 hD (by omega) (by omega) (by omega)) (cwV 2 hts gL_isPrintSo_X8_press rfl rfl rfl (by decide +kernel) ⟨(Nat.le_of_ble_eq_true rfl), (Nat.le_of_ble_eq_true rfl)⟩) hD.1 rfl rfl rfl rfl hl.1 (Nat.le_of_ble_eq_true rfl) dL_isPrintSo_247 ⟨(Nat.le_of_ble_eq_true rfl), (Nat.le_of_ble_eq_true rfl)⟩ (fun z48 μ45 n46 H locs hz48 hp47 hH hS => ?_)
          obtain ⟨hvz48, hD, hf1⟩ := hp47
          obtain ⟨u49, hu49⟩ : ∃ q : aS, q = (a_press u0 k 1).1 := ⟨_, rfl⟩
          rw [← hu49] at hD
          have hU : UI u49 (b0 + 1000) := by rw [hu49]; exact hU0.press hDo.okD (by omega)
          have hO := hD.okD
          have hA7 := hf1 _ _ (Or.inr (by omega)) hA7
          have hA8 := hf1 _ _ (Or.inr (by omega)) hA8
          have hA9 := hf1 _ _ (Or.inr (by omega)) hA9
          have hpe := press_1 (u := u0) hk
          rw [← hrt] at hpe
          have hvz48 : z48 = rt := by rw [hvz48, hpe]
          have hu49 : u49 = aAct u0 (prF (aD u0).1 k, chAdd (aD u0).2 ((aD u0).1 3) rt) := by rw [hu49, hpe]
          have hdp : (aD u49).1 = prF (aD u0).1 k := by first | (rw [hu49]; done) | (rw [hu49]; rfl)
          have hdc : (aD u49).2 = chAdd (aD u0).2 ((aD u0).1 3) rt := by first | (rw [hu49]; done) | (rw [hu49]; rfl)
          have hpr := pr_of (σ := (aD u0).1) (by omega) k
          rw [hvz48]
          rw [hvz48] at hz48
          refine lv_iload hx hb dL_isPrintSo_250 (lv_at hl 3 rfl) ?_
          refine j_icmp_ne (tgt := 389) hx hb dL_isPrintSo_252 (by decide) (fun c50 => absurd c50 (by omega)) (fun c50 => ?_) (by omega) (by omega)
          refine lv_aload_n hx hb dL_isPrintSo_255 rfl (lv_at hl 5 rfl) ?_
          refine j_const hx hb dL_isPrintSo_256 ?_
          refine j_const hx hb dL_isPrintSo_257 ?_
          refine m_callVi (As := [.int (iv 0), .int (iv 0)]) (rest := []) ⟨hx, hb, hml, hown, hts⟩ hK hH hS (c_X8_print l G μ45 n46 x rb u49 0 0 hD (by omega) (by omega)) (cwV 2 hts gL_isPrintSo_X8_print rfl rfl rfl (by decide +kernel) ⟨(Nat.le_of_ble_eq_true rfl), (Nat.le_of_ble_eq_true rfl)⟩) hD.1 rfl rfl rfl rfl hl.1 (Nat.le_of_ble_eq_true rfl) dL_isPrintSo_258 ⟨(Nat.le_of_ble_eq_true rfl), (Nat.le_of_ble_eq_true rfl)⟩ (fun z54 μ51 n52 H locs hz54 hp53 hH hS => ?_)
          obtain ⟨hz2, hm2, hn2⟩ := hp53
          have hz2 := hz2.trans (show a_print (aD u49).1 0 0 = (shw (aD u0).1 6) from (by rw [hdp]; exact hpr.1))
          rw [hm2, hn2] at hH
          rw [hz2] at hz54
          rw [hz2]
          clear hz2 hm2 hn2
          refine lv_iload hx hb dL_isPrintSo_261 (lv_at hl 10 rfl) ?_
          refine j_icmp_ne (tgt := 389) hx hb dL_isPrintSo_263 (by decide) (fun c55 => absurd c55 (by omega)) (fun c55 => ?_) (by omega) (by omega)
          refine lv_aload_n hx hb dL_isPrintSo_266 rfl (lv_at hl 5 rfl) ?_
          refine j_const hx hb dL_isPrintSo_267 ?_
          refine j_const hx hb dL_isPrintSo_268 ?_
          refine m_callVi (As := [.int (iv 0), .int (iv 1)]) (rest := []) ⟨hx, hb, hml, hown, hts⟩ hK hH hS (c_X8_print l G μ45 n46 x rb u49 0 1 hD (by omega) (by omega)) (cwV 2 hts gL_isPrintSo_X8_print rfl rfl rfl (by decide +kernel) ⟨(Nat.le_of_ble_eq_true rfl), (Nat.le_of_ble_eq_true rfl)⟩) hD.1 rfl rfl rfl rfl hl.1 (Nat.le_of_ble_eq_true rfl) dL_isPrintSo_269 ⟨(Nat.le_of_ble_eq_true rfl), (Nat.le_of_ble_eq_true rfl)⟩ (fun z59 μ56 n57 H locs hz59 hp58 hH hS => ?_)
          obtain ⟨hz2, hm2, hn2⟩ := hp58
          have hz2 := hz2.trans (show a_print (aD u49).1 0 1 = ((aD u0).1 3) from (by rw [hdp]; exact hpr.2.1))
          rw [hm2, hn2] at hH
          rw [hz2] at hz59
          rw [hz2]
          clear hz2 hm2 hn2
          refine lv_iload hx hb dL_isPrintSo_272 (lv_at hl 4 rfl) ?_
          refine j_icmp_ne (tgt := 389) hx hb dL_isPrintSo_274 (by decide) (fun c60 => absurd c60 (by omega)) (fun c60 => ?_) (by omega) (by omega)
          refine lv_aload_n hx hb dL_isPrintSo_277 rfl (lv_at hl 5 rfl) ?_
          refine j_const hx hb dL_isPrintSo_278 ?_
          refine j_const hx hb dL_isPrintSo_279 ?_
          refine m_callVi (As := [.int (iv 0), .int (iv 2)]) (rest := []) ⟨hx, hb, hml, hown, hts⟩ hK hH hS (c_X8_print l G μ45 n46 x rb u49 0 2 hD (by omega) (by omega)) (cwV 2 hts gL_isPrintSo_X8_print rfl rfl rfl (by decide +kernel) ⟨(Nat.le_of_ble_eq_true rfl), (Nat.le_of_ble_eq_true rfl)⟩) hD.1 rfl rfl rfl rfl hl.1 (Nat.le_of_ble_eq_true rfl) dL_isPrintSo_280 ⟨(Nat.le_of_ble_eq_true rfl), (Nat.le_of_ble_eq_true rfl)⟩ (fun z64 μ61 n62 H locs hz64 hp63 hH hS => ?_)
          obtain ⟨hz2, hm2, hn2⟩ := hp63
          have hz2 := hz2.trans (show a_print (aD u49).1 0 2 = (fbN (aD u0).1 k 6 : Int) from (by rw [hdp]; exact hpr.2.2.1))
          rw [hm2, hn2] at hH
          rw [hz2] at hz64
          rw [hz2]
          clear hz2 hm2 hn2
          refine lv_iload_n hx hb dL_isPrintSo_283 rfl (lv_at hl 7 rfl) ?_
          refine j_icmp_ne (tgt := 389) hx hb dL_isPrintSo_284 (by decide) (fun c65 => absurd c65 (by omega)) (fun c65 => ?_) (by omega) (by omega)
          refine lv_aload_n hx hb dL_isPrintSo_287 rfl (lv_at hl 5 rfl) ?_
          refine j_const hx hb dL_isPrintSo_288 ?_
          refine j_const hx hb dL_isPrintSo_289 ?_
          refine m_callVi (As := [.int (iv 0), .int (iv 3)]) (rest := []) ⟨hx, hb, hml, hown, hts⟩ hK hH hS (c_X8_print l G μ45 n46 x rb u49 0 3 hD (by omega) (by omega)) (cwV 2 hts gL_isPrintSo_X8_print rfl rfl rfl (by decide +kernel) ⟨(Nat.le_of_ble_eq_true rfl), (Nat.le_of_ble_eq_true rfl)⟩) hD.1 rfl rfl rfl rfl hl.1 (Nat.le_of_ble_eq_true rfl) dL_isPrintSo_290 ⟨(Nat.le_of_ble_eq_true rfl), (Nat.le_of_ble_eq_true rfl)⟩ (fun z69 μ66 n67 H locs hz69 hp68 hH hS => ?_)
          obtain ⟨hz2, hm2, hn2⟩ := hp68
          have hz2 := hz2.trans (show a_print (aD u49).1 0 3 = (sbN (aD u0).1 k 6 : Int) from (by rw [hdp]; exact hpr.2.2.2.1))
          rw [hm2, hn2] at hH
          rw [hz2] at hz69
          rw [hz2]
          clear hz2 hm2 hn2
          refine lv_iload_n hx hb dL_isPrintSo_293 rfl (lv_at hl 8 rfl) ?_
          refine j_icmp_ne (tgt := 389) hx hb dL_isPrintSo_294 (by decide) (fun c70 => absurd c70 (by omega)) (fun c70 => ?_) (by omega) (by omega)
          refine lv_aload_n hx hb dL_isPrintSo_297 rfl (lv_at hl 5 rfl) ?_
          refine j_const hx hb dL_isPrintSo_298 ?_
          refine j_const hx hb dL_isPrintSo_299 ?_
          refine m_callVi (As := [.int (iv 0), .int (iv 4)]) (rest := []) ⟨hx, hb, hml, hown, hts⟩ hK hH hS (c_X8_print l G μ45 n46 x rb u49 0 4 hD (by omega) (by omega)) (cwV 2 hts gL_isPrintSo_X8_print rfl rfl rfl (by decide +kernel) ⟨(Nat.le_of_ble_eq_true rfl), (Nat.le_of_ble_eq_true rfl)⟩) hD.1 rfl rfl rfl rfl hl.1 (Nat.le_of_ble_eq_true rfl) dL_isPrintSo_300 ⟨(Nat.le_of_ble_eq_true rfl), (Nat.le_of_ble_eq_true rfl)⟩ (fun z74 μ71 n72 H locs hz74 hp73 hH hS => ?_)
          obtain ⟨hz2, hm2, hn2⟩ := hp73
          have hz2 := hz2.trans (show a_print (aD u49).1 0 4 = rt from (by rw [hdp]; exact hpr.2.2.2.2.1.trans hrt.symm))
          rw [hm2, hn2] at hH
          rw [hz2] at hz74
          rw [hz2]
          clear hz2 hm2 hn2
          refine lv_iload hx hb dL_isPrintSo_303 (lv_at hl 3 rfl) ?_
          refine j_icmp_ne (tgt := 389) hx hb dL_isPrintSo_305 (by decide) (fun c75 => absurd c75 (by omega)) (fun c75 => ?_) (by omega) (by omega)
          refine lv_aload_n hx hb dL_isPrintSo_308 rfl (lv_at hl 5 rfl) ?_
          refine j_const hx hb dL_isPrintSo_309 ?_
          refine j_const hx hb dL_isPrintSo_310 ?_
          refine m_callVi (As := [.int (iv 0), .int (iv 5)]) (rest := []) ⟨hx, hb, hml, hown, hts⟩ hK hH hS (c_X8_print l G μ45 n46 x rb u49 0 5 hD (by omega) (by omega)) (cwV 2 hts gL_isPrintSo_X8_print rfl rfl rfl (by decide +kernel) ⟨(Nat.le_of_ble_eq_true rfl), (Nat.le_of_ble_eq_true rfl)⟩) hD.1 rfl rfl rfl rfl hl.1 (Nat.le_of_ble_eq_true rfl) dL_isPrintSo_311 ⟨(Nat.le_of_ble_eq_true rfl), (Nat.le_of_ble_eq_true rfl)⟩ (fun z79 μ76 n77 H locs hz79 hp78 hH hS => ?_)
          obtain ⟨hz2, hm2, hn2⟩ := hp78
          have hz2 := hz2.trans (show a_print (aD u49).1 0 5 = k from (by rw [hdp]; exact hpr.2.2.2.2.2))
          rw [hm2, hn2] at hH
          rw [hz2] at hz79
          rw [hz2]
          clear hz2 hm2 hn2
          refine lv_iload_n hx hb dL_isPrintSo_314 rfl (lv_at hl 6 rfl) ?_
          refine j_icmp_ne (tgt := 389) hx hb dL_isPrintSo_315 (by decide) (fun c80 => absurd c80 (by omega)) (fun c80 => ?_) (by omega) (by omega)
          refine lv_aload_n hx hb dL_isPrintSo_318 rfl (lv_at hl 5 rfl) ?_
          refine lv_iload hx hb dL_isPrintSo_319 (lv_at hl 4 rfl) ?_
          refine m_callVi (As := [.int (iv ((aD u0).1 3))]) (rest := []) ⟨hx, hb, hml, hown, hts⟩ hK hH hS (c_X8_rightOf l G μ45 n46 x rb u49 ((aD u0).1 3) hD (by omega)) (cwV 1 hts gL_isPrintSo_X8_rightOf rfl rfl rfl (by decide +kernel) ⟨(Nat.le_of_ble_eq_true rfl), (Nat.le_of_ble_eq_true rfl)⟩) hD.1 rfl rfl rfl rfl hl.1 (Nat.le_of_ble_eq_true rfl) dL_isPrintSo_321 ⟨(Nat.le_of_ble_eq_true rfl), (Nat.le_of_ble_eq_true rfl)⟩ (fun z84 μ81 n82 H locs hz84 hp83 hH hS => ?_)
          obtain ⟨hz2, hm2, hn2⟩ := hp83
          have hz2 := hz2.trans (show a_rightOf (aD u49) ((aD u0).1 3) = (chOf (aD u0).2 ((aD u0).1 3) + rt) from (rgt_of hU (by omega) (by omega)).trans (by rw [hdc]; exact hcadd.2.2))
          rw [hm2, hn2] at hH
          rw [hz2] at hz84
          rw [hz2]
          clear hz2 hm2 hn2
          refine lv_iload hx hb dL_isPrintSo_324 (lv_at hl 2 rfl) ?_
          refine lv_iload hx hb dL_isPrintSo_326 (lv_at hl 3 rfl) ?_
          refine j_iadd hx hb dL_isPrintSo_328 ?_
          refine j_icmp_ne (tgt := 389) hx hb dL_isPrintSo_329 (by decide) (fun c85 => absurd c85 (by omega)) (fun c85 => ?_) (by omega) (by omega)
          refine lv_aload_n hx hb dL_isPrintSo_332 rfl (lv_at hl 5 rfl) ?_
          refine j_const hx hb dL_isPrintSo_333 ?_
          refine m_callVi (As := [.int (iv 2)]) (rest := []) ⟨hx, hb, hml, hown, hts⟩ hK hH hS (c_X8_count l G μ45 n46 x rb u49 2 hD (by omega)) (cwV 1 hts gL_isPrintSo_X8_count rfl rfl rfl (by decide +kernel) ⟨(Nat.le_of_ble_eq_true rfl), (Nat.le_of_ble_eq_true rfl)⟩) hD.1 rfl rfl rfl rfl hl.1 (Nat.le_of_ble_eq_true rfl) dL_isPrintSo_334 ⟨(Nat.le_of_ble_eq_true rfl), (Nat.le_of_ble_eq_true rfl)⟩ (fun z89 μ86 n87 H locs hz89 hp88 hH hS => ?_)
          obtain ⟨hz2, hm2, hn2⟩ := hp88
          have hz2 := hz2.trans (show a_count u49 2 = ((aD u0).1 5 + 1) from (cnt_2 u49).trans (by rw [hdp]; rfl))
          rw [hm2, hn2] at hH
          rw [hz2] at hz89
          rw [hz2]
          clear hz2 hm2 hn2
          refine lv_iload hx hb dL_isPrintSo_337 (lv_at hl 1 rfl) ?_
          refine j_const hx hb dL_isPrintSo_339 ?_
          refine j_iadd hx hb dL_isPrintSo_340 ?_
          refine j_icmp_ne (tgt := 389) hx hb dL_isPrintSo_341 (by decide) (fun c90 => absurd c90 (by omega)) (fun c90 => ?_) (by omega) (by omega)
          refine lv_aload_n hx hb dL_isPrintSo_344 rfl (lv_at hl 5 rfl) ?_
          refine j_const hx hb dL_isPrintSo_345 ?_
          refine m_callVi (As := [.int (iv 4)]) (rest := []) ⟨hx, hb, hml, hown, hts⟩ hK hH hS (c_X8_count l G μ45 n46 x rb u49 4 hD (by omega)) (cwV 1 hts gL_isPrintSo_X8_count rfl rfl rfl (by decide +kernel) ⟨(Nat.le_of_ble_eq_true rfl), (Nat.le_of_ble_eq_true rfl)⟩) hD.1 rfl rfl rfl rfl hl.1 (Nat.le_of_ble_eq_true rfl) dL_isPrintSo_346 ⟨(Nat.le_of_ble_eq_true rfl), (Nat.le_of_ble_eq_true rfl)⟩ (fun z94 μ91 n92 H locs hz94 hp93 hH hS => ?_)
          obtain ⟨hz2, hm2, hn2⟩ := hp93
          have hz2 := hz2.trans (show a_count u49 4 = ((aD u0).1 7 + (pc6 (fbN (aD u0).1 k 6) : Int)) from (cnt_4 hU (by omega)).trans (by rw [hdp]; rfl))
          rw [hm2, hn2] at hH
          rw [hz2] at hz94
          rw [hz2]
          clear hz2 hm2 hn2
          refine lv_aload_n hx hb dL_isPrintSo_349 rfl (lv_at hl 5 rfl) ?_
          refine j_const hx hb dL_isPrintSo_350 ?_
          refine m_callVi (As := [.int (iv 5)]) (rest := [.int (iv ((aD u0).1 7 + (pc6 (fbN (aD u0).1 k 6) : Int)))]) ⟨hx, hb, hml, hown, hts⟩ hK hH hS (c_X8_count l G μ45 n46 x rb u49 5 hD (by omega)) (cwV 1 hts gL_isPrintSo_X8_count rfl rfl rfl (by decide +kernel) ⟨(Nat.le_of_ble_eq_true rfl), (Nat.le_of_ble_eq_true rfl)⟩) hD.1 rfl rfl rfl rfl hl.1 (Nat.le_of_ble_eq_true rfl) dL_isPrintSo_351 ⟨(Nat.le_of_ble_eq_true rfl), (Nat.le_of_ble_eq_true rfl)⟩ (fun z98 μ95 n96 H locs hz98 hp97 hH hS => ?_)
          obtain ⟨hz2, hm2, hn2⟩ := hp97
          have hz2 := hz2.trans (show a_count u49 5 = ((aD u0).1 8 + (pc6 (sbN (aD u0).1 k 6) : Int)) from (cnt_5 hU (by omega)).trans (by rw [hdp]; rfl))
          rw [hm2, hn2] at hH
          rw [hz2] at hz98
          rw [hz2]
          clear hz2 hm2 hn2
          refine j_iadd hx hb dL_isPrintSo_354 ?_
          refine lv_iload hx hb dL_isPrintSo_355 (lv_at hl 0 rfl) ?_
          refine lv_iload hx hb dL_isPrintSo_357 (lv_at hl 9 rfl) ?_
          refine j_iadd hx hb dL_isPrintSo_359 ?_
          refine j_icmp_ne (tgt := 389) hx hb dL_isPrintSo_360 (by decide) (fun c99 => absurd c99 (by omega)) (fun c99 => ?_) (by omega) (by omega)
          refine lv_aload_n hx hb dL_isPrintSo_363 rfl (lv_at hl 5 rfl) ?_
          refine j_const hx hb dL_isPrintSo_364 ?_
          refine m_callVi (As := [.int (iv 1)]) (rest := []) ⟨hx, hb, hml, hown, hts⟩ hK hH hS (c_X8_count l G μ45 n46 x rb u49 1 hD (by omega)) (cwV 1 hts gL_isPrintSo_X8_count rfl rfl rfl (by decide +kernel) ⟨(Nat.le_of_ble_eq_true rfl), (Nat.le_of_ble_eq_true rfl)⟩) hD.1 rfl rfl rfl rfl hl.1 (Nat.le_of_ble_eq_true rfl) dL_isPrintSo_365 ⟨(Nat.le_of_ble_eq_true rfl), (Nat.le_of_ble_eq_true rfl)⟩ (fun z103 μ100 n101 H locs hz103 hp102 hH hS => ?_)
          obtain ⟨hz2, hm2, hn2⟩ := hp102
          have hz2 := hz2.trans (show a_count u49 1 = (max 0 ((aD u0).1 4 - k)) from (cnt_1 u49).trans (by rw [hdp]; exact (prF_st _ k (by omega)).trans (once_4 hOS k)))
          rw [hm2, hn2] at hH
          rw [hz2] at hz103
          rw [hz2]
          clear hz2 hm2 hn2
          refine lv_iload hx hb dL_isPrintSo_368 (lv_at hl 11 rfl) ?_
          refine lv_iload_n hx hb dL_isPrintSo_370 rfl (lv_at hl 6 rfl) ?_
          have jn382_104 : ∀ (H : Heap) (locs : List Loc) (ls : Array Slot) (_ : gP G μ45 n46 H) (_ : va_S (gA G) s.heap H locs) (_ : lv_has ls 19 [(14, .int (iv (((aD u0).1 7) + ((aD u0).1 8)))), (13, .int (iv ((aD u0).1 5))), (12, .int (iv (chOf (aD u0).2 ((aD u0).1 3)))), (11, .int (iv rt)), (10, .int (iv ((aD u0).1 3))), (0, .ref x), (1, .int (iv k)), (2, .int (iv fa)), (3, .int (iv sm)), (4, .int (iv un)), (5, .int (iv (shw (aD u0).1 6))), (6, .int (iv ((aD u0).1 4))), (7, .ref n), (8, .ref n11), (9, .ref n14)]), W p l e rm_c_L_isPrintSo s m args below meth c H locs 4 22 Q (F0 m 382 ls [.int (iv (max 0 ((aD u0).1 4 - k))), .int (iv (max 0 ((aD u0).1 4 - k)))]) := by
            intro H locs ls hH hS hl
            refine j_icmp_ne (tgt := 389) hx hb dL_isPrintSo_382 (by decide) (fun c105 => absurd c105 (by omega)) (fun c105 => ?_) (by omega) (by omega)
            refine j_const hx hb dL_isPrintSo_385 ?_
            refine lv_goto (tgt := 390) hx hb dL_isPrintSo_386 (by decide) ?_
            refine lv_istore (lv' := [(15, .int (iv 1)), (14, .int (iv (((aD u0).1 7) + ((aD u0).1 8)))), (13, .int (iv ((aD u0).1 5))), (12, .int (iv (chOf (aD u0).2 ((aD u0).1 3)))), (11, .int (iv rt)), (10, .int (iv ((aD u0).1 3))), (0, .ref x), (1, .int (iv k)), (2, .int (iv fa)), (3, .int (iv sm)), (4, .int (iv un)), (5, .int (iv (shw (aD u0).1 6))), (6, .int (iv ((aD u0).1 4))), (7, .ref n), (8, .ref n11), (9, .ref n14)]) hx hb dL_isPrintSo_390 hl (by decide) rfl (fun ls hl => ?_)
            refine j_const hx hb dL_isPrintSo_392 ?_
            refine lv_istore (lv' := [(16, .int (iv 0)), (15, .int (iv 1)), (14, .int (iv (((aD u0).1 7) + ((aD u0).1 8)))), (13, .int (iv ((aD u0).1 5))), (12, .int (iv (chOf (aD u0).2 ((aD u0).1 3)))), (11, .int (iv rt)), (10, .int (iv ((aD u0).1 3))), (0, .ref x), (1, .int (iv k)), (2, .int (iv fa)), (3, .int (iv sm)), (4, .int (iv un)), (5, .int (iv (shw (aD u0).1 6))), (6, .int (iv ((aD u0).1 4))), (7, .ref n), (8, .ref n11), (9, .ref n14)]) hx hb dL_isPrintSo_393 hl (by decide) rfl (fun ls hl => ?_)
            have lp395 : ∀ (fuel : Nat) (i : Int) (hi : 0 ≤ i ∧ i ≤ 6) (_ : (6 - i).toNat < fuel) (H : Heap) (locs : List Loc) (ls : Array Slot) (_ : gP G μ45 n46 H) (_ : va_S (gA G) s.heap H locs) (_ : lv_has ls 19 [(0, .ref x), (1, .int (iv k)), (7, .ref n), (8, .ref n11), (9, .ref n14), (10, .int (iv ((aD u0).1 3))), (11, .int (iv rt)), (12, .int (iv (chOf (aD u0).2 ((aD u0).1 3)))), (13, .int (iv ((aD u0).1 5))), (15, .int (iv 1)), (16, .int (iv i))]), W p l e rm_c_L_isPrintSo s m args below meth c H locs 4 22 Q (F0 m 395 ls []) := by
              intro fuel
              induction fuel with
              | zero => intro _ _ hfuel; exact absurd hfuel (Nat.not_lt_zero _)
              | succ fuel ih =>
                intro i hi hfuel H locs ls hH hS hl
                have ih106 := ih; clear ih
                refine lv_iload hx hb dL_isPrintSo_395 (lv_at hl 10 rfl) ?_
                refine j_bipush hx hb dL_isPrintSo_397 ?_ (by decide)
                refine j_icmp_ge (tgt := 545) hx hb dL_isPrintSo_399 (by decide) (fun c107 => ?_) (fun c107 => ?_) (by omega) (by omega)
                · skip
                  refine lv_iload hx hb dL_isPrintSo_545 (lv_at hl 9 rfl) ?_
                  refine j_if_eq (tgt := 582) hx hb dL_isPrintSo_547 (by decide) (fun c108 => absurd c108 (by omega)) (fun c108 => ?_) (by omega)
                  refine lv_iload hx hb dL_isPrintSo_550 (lv_at hl 6 rfl) ?_
                  refine j_if_eq (tgt := 578) hx hb dL_isPrintSo_552 (by decide) (fun c109 => ?_) (fun c109 => ?_) (by omega)
                  · skip
                    refine j_const hx hb dL_isPrintSo_578 ?_
                    refine lv_goto (tgt := 583) hx hb dL_isPrintSo_579 (by decide) ?_
                    refine lv_istore (lv' := [(15, .int (iv 1)), (0, .ref x), (1, .int (iv k)), (7, .ref n), (8, .ref n11), (9, .ref n14), (10, .int (iv ((aD u0).1 3))), (11, .int (iv rt)), (12, .int (iv (chOf (aD u0).2 ((aD u0).1 3)))), (13, .int (iv ((aD u0).1 5))), (16, .int (iv i))]) hx hb dL_isPrintSo_583 hl (by decide) rfl (fun ls hl => ?_)
                    refine lv_aload_n hx hb dL_isPrintSo_585 rfl (lv_at hl 1 rfl) ?_
                    have hDo := hD
                    refine m_callVi (As := []) (rest := []) ⟨hx, hb, hml, hown, hts⟩ hK hH hS (c_X8_undo l G μ45 n46 x rb u49 hD) (cwV 0 hts gL_isPrintSo_X8_undo rfl rfl rfl (by decide +kernel) ⟨(Nat.le_of_ble_eq_true rfl), (Nat.le_of_ble_eq_true rfl)⟩) hD.1 rfl rfl rfl rfl hl.1 (Nat.le_of_ble_eq_true rfl) dL_isPrintSo_586 ⟨(Nat.le_of_ble_eq_true rfl), (Nat.le_of_ble_eq_true rfl)⟩ (fun z113 μ110 n111 H locs hz113 hp112 hH hS => ?_)
                    obtain ⟨hvz113, hD, hf1⟩ := hp112
                    obtain ⟨u114, hu114⟩ : ∃ q : aS, q = (a_undo u49).1 := ⟨_, rfl⟩
                    rw [← hu114] at hD
                    have hU : UI u114 (b0 + 1000) := by rw [hu114]; exact hU.undo hDo.nN
                    have hO := hD.okD
                    have hA7 := hf1 _ _ (Or.inr (by omega)) hA7
                    have hA8 := hf1 _ _ (Or.inr (by omega)) hA8
                    have hA9 := hf1 _ _ (Or.inr (by omega)) hA9
                    have hun := undo_act (u := u0) (d := (prF (aD u0).1 k, chAdd (aD u0).2 ((aD u0).1 3) rt)) hnN
                    rw [← hu49] at hun
                    rw [← hu114, ← hvz113] at hun
                    refine lv_istore (lv' := [(16, .int (iv z113)), (15, .int (iv 1)), (0, .ref x), (1, .int (iv k)), (7, .ref n), (8, .ref n11), (9, .ref n14), (10, .int (iv ((aD u0).1 3))), (11, .int (iv rt)), (12, .int (iv (chOf (aD u0).2 ((aD u0).1 3)))), (13, .int (iv ((aD u0).1 5)))]) hx hb dL_isPrintSo_589 hl (by decide) rfl (fun ls hl => ?_)
                    refine lv_iload hx hb dL_isPrintSo_591 (lv_at hl 1 rfl) ?_
                    refine j_if_eq (tgt := 626) hx hb dL_isPrintSo_593 (by decide) (fun c115 => absurd c115 (by omega)) (fun c115 => ?_) (by omega)
                    refine lv_iload hx hb dL_isPrintSo_596 (lv_at hl 0 rfl) ?_
                    refine j_if_lt (tgt := 626) hx hb dL_isPrintSo_598 (by decide) (fun c116 => absurd c116 (by omega)) (fun c116 => ?_) (by omega)
                    refine lv_aload_n hx hb dL_isPrintSo_601 rfl (lv_at hl 2 rfl) ?_
                    refine lv_iload hx hb dL_isPrintSo_602 (lv_at hl 7 rfl) ?_
                    refine m_callVi (As := [.int (iv ((aD u0).1 3))]) (rest := []) ⟨hx, hb, hml, hown, hts⟩ hK hH hS (c_X8_rightOf l G μ110 n111 x rb u114 ((aD u0).1 3) hD (by omega)) (cwV 1 hts gL_isPrintSo_X8_rightOf rfl rfl rfl (by decide +kernel) ⟨(Nat.le_of_ble_eq_true rfl), (Nat.le_of_ble_eq_true rfl)⟩) hD.1 rfl rfl rfl rfl hl.1 (Nat.le_of_ble_eq_true rfl) dL_isPrintSo_604 ⟨(Nat.le_of_ble_eq_true rfl), (Nat.le_of_ble_eq_true rfl)⟩ (fun z120 μ117 n118 H locs hz120 hp119 hH hS => ?_)
                    obtain ⟨hz2, hm2, hn2⟩ := hp119
                    have hz2 := hz2.trans (show a_rightOf (aD u114) ((aD u0).1 3) = (chOf (aD u0).2 ((aD u0).1 3)) from (rgt_of hU (by omega) (by omega)).trans (by rw [hun.1]))
                    rw [hm2, hn2] at hH
                    rw [hz2] at hz120
                    rw [hz2]
                    clear hz2 hm2 hn2
                    refine lv_iload hx hb dL_isPrintSo_607 (lv_at hl 9 rfl) ?_
                    refine j_icmp_ne (tgt := 626) hx hb dL_isPrintSo_609 (by decide) (fun c121 => absurd c121 (by omega)) (fun c121 => ?_) (by omega) (by omega)
                    refine lv_aload_n hx hb dL_isPrintSo_612 rfl (lv_at hl 2 rfl) ?_
                    refine j_const hx hb dL_isPrintSo_613 ?_
                    refine m_callVi (As := [.int (iv 2)]) (rest := []) ⟨hx, hb, hml, hown, hts⟩ hK hH hS (c_X8_count l G μ110 n111 x rb u114 2 hD (by omega)) (cwV 1 hts gL_isPrintSo_X8_count rfl rfl rfl (by decide +kernel) ⟨(Nat.le_of_ble_eq_true rfl), (Nat.le_of_ble_eq_true rfl)⟩) hD.1 rfl rfl rfl rfl hl.1 (Nat.le_of_ble_eq_true rfl) dL_isPrintSo_614 ⟨(Nat.le_of_ble_eq_true rfl), (Nat.le_of_ble_eq_true rfl)⟩ (fun z125 μ122 n123 H locs hz125 hp124 hH hS => ?_)
                    obtain ⟨hz2, hm2, hn2⟩ := hp124
                    have hz2 := hz2.trans (show a_count u114 2 = ((aD u0).1 5) from (cnt_2 u114).trans (by rw [hun.1]))
                    rw [hm2, hn2] at hH
                    rw [hz2] at hz125
                    rw [hz2]
                    clear hz2 hm2 hn2
                    refine lv_iload hx hb dL_isPrintSo_617 (lv_at hl 10 rfl) ?_
                    refine j_icmp_ne (tgt := 626) hx hb dL_isPrintSo_619 (by decide) (fun c126 => absurd c126 (by omega)) (fun c126 => ?_) (by omega) (by omega)
                    refine j_const hx hb dL_isPrintSo_622 ?_
                    refine lv_goto (tgt := 627) hx hb dL_isPrintSo_623 (by decide) ?_
                    subst hQ
                    refine m_zret hx hb hr hlocks hH hS dL_isPrintSo_627 ?_ (by omega)
                    exact ⟨rfl, u114, hD, hU.mono (by omega)⟩
                  · skip
                    have hrt2 : rtF (aD u0).1 (dig ((aD u0).1 3)) k = 1 := by rw [← hrt]; omega
                    refine lv_aload_n hx hb dL_isPrintSo_555 rfl (lv_at hl 0 rfl) ?_
                    refine j_const hx hb dL_isPrintSo_556 ?_
                    refine j_bipush hx hb dL_isPrintSo_557 ?_ (by decide)
                    refine m_callVi (As := [.int (iv 0), .int (iv 6)]) (rest := []) ⟨hx, hb, hml, hown, hts⟩ hK hH hS (c_X8_print l G μ45 n46 x rb u49 0 6 hD (by omega) (by omega)) (cwV 2 hts gL_isPrintSo_X8_print rfl rfl rfl (by decide +kernel) ⟨(Nat.le_of_ble_eq_true rfl), (Nat.le_of_ble_eq_true rfl)⟩) hD.1 rfl rfl rfl rfl hl.1 (Nat.le_of_ble_eq_true rfl) dL_isPrintSo_559 ⟨(Nat.le_of_ble_eq_true rfl), (Nat.le_of_ble_eq_true rfl)⟩ (fun z130 μ127 n128 H locs hz130 hp129 hH hS => ?_)
                    obtain ⟨hz2, hm2, hn2⟩ := hp129
                    have hz2 := hz2.trans (show a_print (aD u49).1 0 6 = 1 from (by rw [hdp]; exact (pr_one (by omega) hT3 hrt2).1))
                    rw [hm2, hn2] at hH
                    rw [hz2] at hz130
                    rw [hz2]
                    clear hz2 hm2 hn2
                    refine j_const hx hb dL_isPrintSo_562 ?_
                    refine j_icmp_ne (tgt := 582) hx hb dL_isPrintSo_563 (by decide) (fun c131 => absurd c131 (by omega)) (fun c131 => ?_) (by omega) (by omega)
                    refine lv_aload_n hx hb dL_isPrintSo_566 rfl (lv_at hl 0 rfl) ?_
                    refine j_const hx hb dL_isPrintSo_567 ?_
                    refine j_bipush hx hb dL_isPrintSo_568 ?_ (by decide)
                    refine m_callVi (As := [.int (iv 0), .int (iv 7)]) (rest := []) ⟨hx, hb, hml, hown, hts⟩ hK hH hS (c_X8_print l G μ45 n46 x rb u49 0 7 hD (by omega) (by omega)) (cwV 2 hts gL_isPrintSo_X8_print rfl rfl rfl (by decide +kernel) ⟨(Nat.le_of_ble_eq_true rfl), (Nat.le_of_ble_eq_true rfl)⟩) hD.1 rfl rfl rfl rfl hl.1 (Nat.le_of_ble_eq_true rfl) dL_isPrintSo_570 ⟨(Nat.le_of_ble_eq_true rfl), (Nat.le_of_ble_eq_true rfl)⟩ (fun z135 μ132 n133 H locs hz135 hp134 hH hS => ?_)
                    obtain ⟨hz2, hm2, hn2⟩ := hp134
                    have hz2 := hz2.trans (show a_print (aD u49).1 0 7 = ((aD u0).1 3) from (by rw [hdp]; exact (pr_one (by omega) hT3 hrt2).2))
                    rw [hm2, hn2] at hH
                    rw [hz2] at hz135
                    rw [hz2]
                    clear hz2 hm2 hn2
                    refine lv_iload hx hb dL_isPrintSo_573 (lv_at hl 5 rfl) ?_
                    refine j_icmp_ne (tgt := 582) hx hb dL_isPrintSo_575 (by decide) (fun c136 => absurd c136 (by omega)) (fun c136 => ?_) (by omega) (by omega)
                    refine j_const hx hb dL_isPrintSo_578 ?_
                    refine lv_goto (tgt := 583) hx hb dL_isPrintSo_579 (by decide) ?_
                    refine lv_istore (lv' := [(15, .int (iv 1)), (0, .ref x), (1, .int (iv k)), (7, .ref n), (8, .ref n11), (9, .ref n14), (10, .int (iv ((aD u0).1 3))), (11, .int (iv rt)), (12, .int (iv (chOf (aD u0).2 ((aD u0).1 3)))), (13, .int (iv ((aD u0).1 5))), (16, .int (iv i))]) hx hb dL_isPrintSo_583 hl (by decide) rfl (fun ls hl => ?_)
                    refine lv_aload_n hx hb dL_isPrintSo_585 rfl (lv_at hl 1 rfl) ?_
                    have hDo := hD
                    refine m_callVi (As := []) (rest := []) ⟨hx, hb, hml, hown, hts⟩ hK hH hS (c_X8_undo l G μ45 n46 x rb u49 hD) (cwV 0 hts gL_isPrintSo_X8_undo rfl rfl rfl (by decide +kernel) ⟨(Nat.le_of_ble_eq_true rfl), (Nat.le_of_ble_eq_true rfl)⟩) hD.1 rfl rfl rfl rfl hl.1 (Nat.le_of_ble_eq_true rfl) dL_isPrintSo_586 ⟨(Nat.le_of_ble_eq_true rfl), (Nat.le_of_ble_eq_true rfl)⟩ (fun z140 μ137 n138 H locs hz140 hp139 hH hS => ?_)
                    obtain ⟨hvz140, hD, hf1⟩ := hp139
                    obtain ⟨u141, hu141⟩ : ∃ q : aS, q = (a_undo u49).1 := ⟨_, rfl⟩
                    rw [← hu141] at hD
                    have hU : UI u141 (b0 + 1000) := by rw [hu141]; exact hU.undo hDo.nN
                    have hO := hD.okD
                    have hA7 := hf1 _ _ (Or.inr (by omega)) hA7
                    have hA8 := hf1 _ _ (Or.inr (by omega)) hA8
                    have hA9 := hf1 _ _ (Or.inr (by omega)) hA9
                    have hun := undo_act (u := u0) (d := (prF (aD u0).1 k, chAdd (aD u0).2 ((aD u0).1 3) rt)) hnN
                    rw [← hu49] at hun
                    rw [← hu141, ← hvz140] at hun
                    refine lv_istore (lv' := [(16, .int (iv z140)), (15, .int (iv 1)), (0, .ref x), (1, .int (iv k)), (7, .ref n), (8, .ref n11), (9, .ref n14), (10, .int (iv ((aD u0).1 3))), (11, .int (iv rt)), (12, .int (iv (chOf (aD u0).2 ((aD u0).1 3)))), (13, .int (iv ((aD u0).1 5)))]) hx hb dL_isPrintSo_589 hl (by decide) rfl (fun ls hl => ?_)
                    refine lv_iload hx hb dL_isPrintSo_591 (lv_at hl 1 rfl) ?_
                    refine j_if_eq (tgt := 626) hx hb dL_isPrintSo_593 (by decide) (fun c142 => absurd c142 (by omega)) (fun c142 => ?_) (by omega)
                    refine lv_iload hx hb dL_isPrintSo_596 (lv_at hl 0 rfl) ?_
                    refine j_if_lt (tgt := 626) hx hb dL_isPrintSo_598 (by decide) (fun c143 => absurd c143 (by omega)) (fun c143 => ?_) (by omega)
                    refine lv_aload_n hx hb dL_isPrintSo_601 rfl (lv_at hl 2 rfl) ?_
                    refine lv_iload hx hb dL_isPrintSo_602 (lv_at hl 7 rfl) ?_
                    refine m_callVi (As := [.int (iv ((aD u0).1 3))]) (rest := []) ⟨hx, hb, hml, hown, hts⟩ hK hH hS (c_X8_rightOf l G μ137 n138 x rb u141 ((aD u0).1 3) hD (by omega)) (cwV 1 hts gL_isPrintSo_X8_rightOf rfl rfl rfl (by decide +kernel) ⟨(Nat.le_of_ble_eq_true rfl), (Nat.le_of_ble_eq_true rfl)⟩) hD.1 rfl rfl rfl rfl hl.1 (Nat.le_of_ble_eq_true rfl) dL_isPrintSo_604 ⟨(Nat.le_of_ble_eq_true rfl), (Nat.le_of_ble_eq_true rfl)⟩ (fun z147 μ144 n145 H locs hz147 hp146 hH hS => ?_)
                    obtain ⟨hz2, hm2, hn2⟩ := hp146
                    have hz2 := hz2.trans (show a_rightOf (aD u141) ((aD u0).1 3) = (chOf (aD u0).2 ((aD u0).1 3)) from (rgt_of hU (by omega) (by omega)).trans (by rw [hun.1]))
                    rw [hm2, hn2] at hH
                    rw [hz2] at hz147
                    rw [hz2]
                    clear hz2 hm2 hn2
                    refine lv_iload hx hb dL_isPrintSo_607 (lv_at hl 9 rfl) ?_
                    refine j_icmp_ne (tgt := 626) hx hb dL_isPrintSo_609 (by decide) (fun c148 => absurd c148 (by omega)) (fun c148 => ?_) (by omega) (by omega)
                    refine lv_aload_n hx hb dL_isPrintSo_612 rfl (lv_at hl 2 rfl) ?_
                    refine j_const hx hb dL_isPrintSo_613 ?_
                    refine m_callVi (As := [.int (iv 2)]) (rest := []) ⟨hx, hb, hml, hown, hts⟩ hK hH hS (c_X8_count l G μ137 n138 x rb u141 2 hD (by omega)) (cwV 1 hts gL_isPrintSo_X8_count rfl rfl rfl (by decide +kernel) ⟨(Nat.le_of_ble_eq_true rfl), (Nat.le_of_ble_eq_true rfl)⟩) hD.1 rfl rfl rfl rfl hl.1 (Nat.le_of_ble_eq_true rfl) dL_isPrintSo_614 ⟨(Nat.le_of_ble_eq_true rfl), (Nat.le_of_ble_eq_true rfl)⟩ (fun z152 μ149 n150 H locs hz152 hp151 hH hS => ?_)
                    obtain ⟨hz2, hm2, hn2⟩ := hp151
                    have hz2 := hz2.trans (show a_count u141 2 = ((aD u0).1 5) from (cnt_2 u141).trans (by rw [hun.1]))
                    rw [hm2, hn2] at hH
                    rw [hz2] at hz152
                    rw [hz2]
                    clear hz2 hm2 hn2
                    refine lv_iload hx hb dL_isPrintSo_617 (lv_at hl 10 rfl) ?_
                    refine j_icmp_ne (tgt := 626) hx hb dL_isPrintSo_619 (by decide) (fun c153 => absurd c153 (by omega)) (fun c153 => ?_) (by omega) (by omega)
                    refine j_const hx hb dL_isPrintSo_622 ?_
                    refine lv_goto (tgt := 627) hx hb dL_isPrintSo_623 (by decide) ?_
                    subst hQ
                    refine m_zret hx hb hr hlocks hH hS dL_isPrintSo_627 ?_ (by omega)
                    exact ⟨rfl, u141, hD, hU.mono (by omega)⟩
                · skip
                  have hip : i.toNat < 6 := by omega
                  have hbb := hOS.2.2.2.2 i.toNat hip
                  have hdr : 0 ≤ atD (aD u0).1 i.toNat ∧ atD (aD u0).1 i.toNat ≤ 9 := hbb.2.1
                  have hlr : 0 ≤ atL (aD u0).1 i.toNat ∧ atL (aD u0).1 i.toNat ≤ 99 := hbb.2.2.1
                  have hwr : 0 ≤ atW (aD u0).1 i.toNat ∧ atW (aD u0).1 i.toNat ≤ 99 := hbb.2.2.2 _ (by have := hbb.2.1; omega)
                  have hob := once_b hOS k hip
                  have how := once_w hOS k hip
                  obtain ⟨nb1, hnb1⟩ : ∃ q : Int, q = (aD u49).1 (86 + 13 * i.toNat) := ⟨_, rfl⟩
                  obtain ⟨nb2, hnb2⟩ : ∃ q : Int, q = (aD u49).1 (87 + 13 * i.toNat) := ⟨_, rfl⟩
                  obtain ⟨nw, hnw⟩ : ∃ q : Int, q = (aD u49).1 (88 + 13 * i.toNat + (atD (aD u0).1 i.toNat).toNat) := ⟨_, rfl⟩
                  have hb1e := hnb1.symm
                  have hb2e := hnb2.symm
                  have hnwe : roww (aD u49).1 i.toNat (atD (aD u0).1 i.toNat).toNat = nw := (roww_at (by omega)).trans hnw.symm
                  have hnb1v : nb1 = if 7 ≤ k ∧ (aD u0).1 2 ≤ atL (aD u0).1 i.toNat then (atD (aD u0).1 i.toNat + 1) % 10 else atD (aD u0).1 i.toNat := by rw [hnb1, hdp]; exact (prF_st _ k (by omega)).trans hob.1
                  have hnb2v : nb2 = if 7 ≤ k ∧ (aD u0).1 2 ≤ atL (aD u0).1 i.toNat then 0 else atL (aD u0).1 i.toNat := by rw [hnb2, hdp]; exact (prF_st _ k (by omega)).trans hob.2
                  have hnwv : nw = min 99 (atW (aD u0).1 i.toNat + (1 + k / 4)) := by rw [hnw, hdp]; exact (prF_st _ k (by omega)).trans how
                  clear hnb1 hnb2 hnw hob how
                  refine lv_aload hx hb dL_isPrintSo_402 (lv_at hl 2 rfl) ?_
                  refine lv_iload hx hb dL_isPrintSo_404 (lv_at hl 10 rfl) ?_
                  refine m_iald (nA := 6) (f := (pfx (atW (aD u0).1) 6)) hx hb hK hH hA7 dL_isPrintSo_406 ?_ (by omega) (by omega)
                  refine j_norm (y := (atW (aD u0).1 (i).toNat)) (pfx_at (by omega)) ?_
                  refine j_const hx hb dL_isPrintSo_407 ?_
                  refine j_iadd hx hb dL_isPrintSo_408 ?_
                  refine lv_iload_n hx hb dL_isPrintSo_409 rfl (lv_at hl 1 rfl) ?_
                  refine j_const hx hb dL_isPrintSo_410 ?_
                  refine j_idiv hx hb dL_isPrintSo_411 ?_ (by omega) (by omega)
                  refine j_iadd hx hb dL_isPrintSo_412 ?_
                  refine lv_istore (lv' := [(17, .int (iv (((atW (aD u0).1 (i).toNat) + 1) + (k / 4)))), (0, .ref x), (1, .int (iv k)), (7, .ref n), (8, .ref n11), (9, .ref n14), (10, .int (iv ((aD u0).1 3))), (11, .int (iv rt)), (12, .int (iv (chOf (aD u0).2 ((aD u0).1 3)))), (13, .int (iv ((aD u0).1 5))), (15, .int (iv 1)), (16, .int (iv i))]) hx hb dL_isPrintSo_413 hl (by decide) rfl (fun ls hl => ?_)
                  refine lv_iload_n hx hb dL_isPrintSo_415 rfl (lv_at hl 2 rfl) ?_
                  refine j_bipush hx hb dL_isPrintSo_416 ?_ (by decide)
                  refine j_icmp_lt (tgt := 439) hx hb dL_isPrintSo_418 (by decide) (fun c154 => ?_) (fun c154 => ?_) (by omega) (by omega)
                  · skip
                    refine j_const hx hb dL_isPrintSo_439 ?_
                    have hsl : ¬ (7 ≤ k ∧ (aD u0).1 2 ≤ atL (aD u0).1 i.toNat) := by omega
                    rw [if_neg hsl] at hnb1v hnb2v
                    refine lv_istore (lv' := [(18, .int (iv 0)), (17, .int (iv (((atW (aD u0).1 (i).toNat) + 1) + (k / 4)))), (0, .ref x), (1, .int (iv k)), (7, .ref n), (8, .ref n11), (9, .ref n14), (10, .int (iv ((aD u0).1 3))), (11, .int (iv rt)), (12, .int (iv (chOf (aD u0).2 ((aD u0).1 3)))), (13, .int (iv ((aD u0).1 5))), (15, .int (iv 1)), (16, .int (iv i))]) hx hb dL_isPrintSo_440 hl (by decide) rfl (fun ls hl => ?_)
                    refine lv_iload hx hb dL_isPrintSo_442 (lv_at hl 11 rfl) ?_
                    refine j_if_eq (tgt := 536) hx hb dL_isPrintSo_444 (by decide) (fun c155 => absurd c155 (by omega)) (fun c155 => ?_) (by omega)
                    refine lv_aload_n hx hb dL_isPrintSo_447 rfl (lv_at hl 2 rfl) ?_
                    refine lv_iload hx hb dL_isPrintSo_448 (lv_at hl 12 rfl) ?_
                    refine lv_aload hx hb dL_isPrintSo_450 (lv_at hl 5 rfl) ?_
                    refine lv_iload hx hb dL_isPrintSo_452 (lv_at hl 12 rfl) ?_
                    refine m_iald (nA := 6) (f := (pfx (atD (aD u0).1) 6)) hx hb hK hH hA8 dL_isPrintSo_454 ?_ (by omega) (by omega)
                    refine j_norm (y := (atD (aD u0).1 (i).toNat)) (pfx_at (by omega)) ?_
                    refine m_callVi (As := [.int (iv i), .int (iv (atD (aD u0).1 (i).toNat))]) (rest := []) ⟨hx, hb, hml, hown, hts⟩ hK hH hS (c_X8_wear l G μ45 n46 x rb u49 i (atD (aD u0).1 (i).toNat) hD (by omega) (by omega)) (cwV 2 hts gL_isPrintSo_X8_wear rfl rfl rfl (by decide +kernel) ⟨(Nat.le_of_ble_eq_true rfl), (Nat.le_of_ble_eq_true rfl)⟩) hD.1 rfl rfl rfl rfl hl.1 (Nat.le_of_ble_eq_true rfl) dL_isPrintSo_455 ⟨(Nat.le_of_ble_eq_true rfl), (Nat.le_of_ble_eq_true rfl)⟩ (fun z159 μ156 n157 H locs hz159 hp158 hH hS => ?_)
                    obtain ⟨hz2, hm2, hn2⟩ := hp158
                    have hz2 := hz2.trans (show a_wear (aD u49).1 i (atD (aD u0).1 (i).toNat) = nw from (wear_of (by omega) (by omega)).trans hnwe)
                    rw [hm2, hn2] at hH
                    rw [hz2] at hz159
                    rw [hz2]
                    clear hz2 hm2 hn2
                    refine lv_iload hx hb dL_isPrintSo_458 (lv_at hl 1 rfl) ?_
                    refine j_bipush hx hb dL_isPrintSo_460 ?_ (by decide)
                    have jn472_160 : ∀ (H : Heap) (locs : List Loc) (ls : Array Slot) (_ : gP G μ45 n46 H) (_ : va_S (gA G) s.heap H locs) (_ : lv_has ls 19 [(18, .int (iv 0)), (17, .int (iv (((atW (aD u0).1 (i).toNat) + 1) + (k / 4)))), (0, .ref x), (1, .int (iv k)), (7, .ref n), (8, .ref n11), (9, .ref n14), (10, .int (iv ((aD u0).1 3))), (11, .int (iv rt)), (12, .int (iv (chOf (aD u0).2 ((aD u0).1 3)))), (13, .int (iv ((aD u0).1 5))), (15, .int (iv 1)), (16, .int (iv i))]), W p l e rm_c_L_isPrintSo s m args below meth c H locs 4 22 Q (F0 m 472 ls [.int (iv nw), .int (iv nw)]) := by
                      intro H locs ls hH hS hl
                      refine j_icmp_ne (tgt := 536) hx hb dL_isPrintSo_472 (by decide) (fun c161 => absurd c161 (by omega)) (fun c161 => ?_) (by omega) (by omega)
                      refine lv_aload_n hx hb dL_isPrintSo_475 rfl (lv_at hl 2 rfl) ?_
                      refine lv_iload hx hb dL_isPrintSo_476 (lv_at hl 12 rfl) ?_
                      refine j_const hx hb dL_isPrintSo_478 ?_
                      refine m_callVi (As := [.int (iv i), .int (iv 1)]) (rest := []) ⟨hx, hb, hml, hown, hts⟩ hK hH hS (c_X8_band l G μ45 n46 x rb u49 i 1 hD (by omega) (by omega)) (cwV 2 hts gL_isPrintSo_X8_band rfl rfl rfl (by decide +kernel) ⟨(Nat.le_of_ble_eq_true rfl), (Nat.le_of_ble_eq_true rfl)⟩) hD.1 rfl rfl rfl rfl hl.1 (Nat.le_of_ble_eq_true rfl) dL_isPrintSo_479 ⟨(Nat.le_of_ble_eq_true rfl), (Nat.le_of_ble_eq_true rfl)⟩ (fun z165 μ162 n163 H locs hz165 hp164 hH hS => ?_)
                      obtain ⟨hz2, hm2, hn2⟩ := hp164
                      have hz2 := hz2.trans (show a_band (aD u49).1 i 1 = nb1 from (band_1 (by omega)).trans hb1e)
                      rw [hm2, hn2] at hH
                      rw [hz2] at hz165
                      rw [hz2]
                      clear hz2 hm2 hn2
                      refine lv_iload hx hb dL_isPrintSo_482 (lv_at hl 0 rfl) ?_
                      refine j_if_eq (tgt := 500) hx hb dL_isPrintSo_484 (by decide) (fun c166 => ?_) (fun c166 => absurd c166 (by omega)) (by omega)
                      refine lv_aload hx hb dL_isPrintSo_500 (lv_at hl 5 rfl) ?_
                      refine lv_iload hx hb dL_isPrintSo_502 (lv_at hl 12 rfl) ?_
                      refine m_iald (nA := 6) (f := (pfx (atD (aD u0).1) 6)) hx hb hK hH hA8 dL_isPrintSo_504 ?_ (by omega) (by omega)
                      refine j_norm (y := (atD (aD u0).1 (i).toNat)) (pfx_at (by omega)) ?_
                      refine j_icmp_ne (tgt := 536) hx hb dL_isPrintSo_505 (by decide) (fun c167 => absurd c167 (by omega)) (fun c167 => ?_) (by omega) (by omega)
                      refine lv_aload_n hx hb dL_isPrintSo_508 rfl (lv_at hl 2 rfl) ?_
                      refine lv_iload hx hb dL_isPrintSo_509 (lv_at hl 12 rfl) ?_
                      refine j_const hx hb dL_isPrintSo_511 ?_
                      refine m_callVi (As := [.int (iv i), .int (iv 2)]) (rest := []) ⟨hx, hb, hml, hown, hts⟩ hK hH hS (c_X8_band l G μ45 n46 x rb u49 i 2 hD (by omega) (by omega)) (cwV 2 hts gL_isPrintSo_X8_band rfl rfl rfl (by decide +kernel) ⟨(Nat.le_of_ble_eq_true rfl), (Nat.le_of_ble_eq_true rfl)⟩) hD.1 rfl rfl rfl rfl hl.1 (Nat.le_of_ble_eq_true rfl) dL_isPrintSo_512 ⟨(Nat.le_of_ble_eq_true rfl), (Nat.le_of_ble_eq_true rfl)⟩ (fun z171 μ168 n169 H locs hz171 hp170 hH hS => ?_)
                      obtain ⟨hz2, hm2, hn2⟩ := hp170
                      have hz2 := hz2.trans (show a_band (aD u49).1 i 2 = nb2 from (band_2 (by omega)).trans hb2e)
                      rw [hm2, hn2] at hH
                      rw [hz2] at hz171
                      rw [hz2]
                      clear hz2 hm2 hn2
                      refine lv_iload hx hb dL_isPrintSo_515 (lv_at hl 0 rfl) ?_
                      refine j_if_eq (tgt := 524) hx hb dL_isPrintSo_517 (by decide) (fun c172 => ?_) (fun c172 => absurd c172 (by omega)) (by omega)
                      refine lv_aload hx hb dL_isPrintSo_524 (lv_at hl 6 rfl) ?_
                      refine lv_iload hx hb dL_isPrintSo_526 (lv_at hl 12 rfl) ?_
                      refine m_iald (nA := 6) (f := (pfx (atL (aD u0).1) 6)) hx hb hK hH hA9 dL_isPrintSo_528 ?_ (by omega) (by omega)
                      refine j_norm (y := (atL (aD u0).1 (i).toNat)) (pfx_at (by omega)) ?_
                      refine j_icmp_ne (tgt := 536) hx hb dL_isPrintSo_529 (by decide) (fun c173 => absurd c173 (by omega)) (fun c173 => ?_) (by omega) (by omega)
                      refine j_const hx hb dL_isPrintSo_532 ?_
                      refine lv_goto (tgt := 537) hx hb dL_isPrintSo_533 (by decide) ?_
                      refine lv_istore (lv' := [(15, .int (iv 1)), (18, .int (iv 0)), (17, .int (iv (((atW (aD u0).1 (i).toNat) + 1) + (k / 4)))), (0, .ref x), (1, .int (iv k)), (7, .ref n), (8, .ref n11), (9, .ref n14), (10, .int (iv ((aD u0).1 3))), (11, .int (iv rt)), (12, .int (iv (chOf (aD u0).2 ((aD u0).1 3)))), (13, .int (iv ((aD u0).1 5))), (16, .int (iv i))]) hx hb dL_isPrintSo_537 hl (by decide) rfl (fun ls hl => ?_)
                      refine j_iinc (lv' := [(16, .int (iv (i + 1))), (15, .int (iv 1)), (18, .int (iv 0)), (17, .int (iv (((atW (aD u0).1 (i).toNat) + 1) + (k / 4)))), (0, .ref x), (1, .int (iv k)), (7, .ref n), (8, .ref n11), (9, .ref n14), (10, .int (iv ((aD u0).1 3))), (11, .int (iv rt)), (12, .int (iv (chOf (aD u0).2 ((aD u0).1 3)))), (13, .int (iv ((aD u0).1 5)))]) hx hb dL_isPrintSo_539 hl (k := 12) rfl (by decide) rfl (fun ls hl => ?_)
                      refine lv_goto (tgt := 395) hx hb dL_isPrintSo_542 (by decide) ?_
                      exact ih106 (i + 1) (by omega) (by omega) H locs ls hH hS (lv_sub hl [4, 5, 6, 7, 8, 9, 10, 11, 12, 1, 0] rfl)
                    refine j_icmp_le (tgt := 470) hx hb dL_isPrintSo_462 (by decide) (fun c174 => ?_) (fun c174 => ?_) (by omega) (by omega)
                    · skip
                      refine lv_iload hx hb dL_isPrintSo_470 (lv_at hl 1 rfl) ?_
                      refine j_norm (y := nw) (by omega) ?_
                      exact jn472_160 H locs ls hH hS (lv_sub hl [0, 1, 2, 3, 4, 5, 6, 7, 8, 9, 10, 11, 12] rfl)
                    · skip
                      refine j_bipush hx hb dL_isPrintSo_465 ?_ (by decide)
                      refine lv_goto (tgt := 472) hx hb dL_isPrintSo_467 (by decide) ?_
                      refine j_norm (y := nw) (by omega) ?_
                      exact jn472_160 H locs ls hH hS (lv_sub hl [0, 1, 2, 3, 4, 5, 6, 7, 8, 9, 10, 11, 12] rfl)
                  · skip
                    refine lv_aload hx hb dL_isPrintSo_421 (lv_at hl 5 rfl) ?_
                    refine lv_iload hx hb dL_isPrintSo_423 (lv_at hl 11 rfl) ?_
                    refine m_iald (nA := 6) (f := (pfx (atL (aD u0).1) 6)) hx hb hK hH hA9 dL_isPrintSo_425 ?_ (by omega) (by omega)
                    refine j_norm (y := (atL (aD u0).1 (i).toNat)) (pfx_at (by omega)) ?_
                    refine lv_aload_n hx hb dL_isPrintSo_426 rfl (lv_at hl 1 rfl) ?_
                    refine j_bipush hx hb dL_isPrintSo_427 ?_ (by decide)
                    refine m_callVi (As := [.int (iv 15)]) (rest := [.int (iv (atL (aD u0).1 (i).toNat))]) ⟨hx, hb, hml, hown, hts⟩ hK hH hS (c_X8_count l G μ45 n46 x rb u49 15 hD (by omega)) (cwV 1 hts gL_isPrintSo_X8_count rfl rfl rfl (by decide +kernel) ⟨(Nat.le_of_ble_eq_true rfl), (Nat.le_of_ble_eq_true rfl)⟩) hD.1 rfl rfl rfl rfl hl.1 (Nat.le_of_ble_eq_true rfl) dL_isPrintSo_429 ⟨(Nat.le_of_ble_eq_true rfl), (Nat.le_of_ble_eq_true rfl)⟩ (fun z178 μ175 n176 H locs hz178 hp177 hH hS => ?_)
                    obtain ⟨hz2, hm2, hn2⟩ := hp177
                    have hz2 := hz2.trans (show a_count u49 15 = ((aD u0).1 2) from (cnt_15 u49).trans (by rw [hdp]; exact (prF_st _ k (by omega)).trans (once_ot hOS k (by omega))))
                    rw [hm2, hn2] at hH
                    rw [hz2] at hz178
                    rw [hz2]
                    clear hz2 hm2 hn2
                    refine j_icmp_lt (tgt := 439) hx hb dL_isPrintSo_432 (by decide) (fun c179 => ?_) (fun c179 => ?_) (by omega) (by omega)
                    · skip
                      refine j_const hx hb dL_isPrintSo_439 ?_
                      have hsl : ¬ (7 ≤ k ∧ (aD u0).1 2 ≤ atL (aD u0).1 i.toNat) := by omega
                      rw [if_neg hsl] at hnb1v hnb2v
                      refine lv_istore (lv' := [(18, .int (iv 0)), (17, .int (iv (((atW (aD u0).1 (i).toNat) + 1) + (k / 4)))), (0, .ref x), (1, .int (iv k)), (7, .ref n), (8, .ref n11), (9, .ref n14), (10, .int (iv ((aD u0).1 3))), (11, .int (iv rt)), (12, .int (iv (chOf (aD u0).2 ((aD u0).1 3)))), (13, .int (iv ((aD u0).1 5))), (15, .int (iv 1)), (16, .int (iv i))]) hx hb dL_isPrintSo_440 hl (by decide) rfl (fun ls hl => ?_)
                      refine lv_iload hx hb dL_isPrintSo_442 (lv_at hl 11 rfl) ?_
                      refine j_if_eq (tgt := 536) hx hb dL_isPrintSo_444 (by decide) (fun c180 => absurd c180 (by omega)) (fun c180 => ?_) (by omega)
                      refine lv_aload_n hx hb dL_isPrintSo_447 rfl (lv_at hl 2 rfl) ?_
                      refine lv_iload hx hb dL_isPrintSo_448 (lv_at hl 12 rfl) ?_
                      refine lv_aload hx hb dL_isPrintSo_450 (lv_at hl 5 rfl) ?_
                      refine lv_iload hx hb dL_isPrintSo_452 (lv_at hl 12 rfl) ?_
                      refine m_iald (nA := 6) (f := (pfx (atD (aD u0).1) 6)) hx hb hK hH hA8 dL_isPrintSo_454 ?_ (by omega) (by omega)
                      refine j_norm (y := (atD (aD u0).1 (i).toNat)) (pfx_at (by omega)) ?_
                      refine m_callVi (As := [.int (iv i), .int (iv (atD (aD u0).1 (i).toNat))]) (rest := []) ⟨hx, hb, hml, hown, hts⟩ hK hH hS (c_X8_wear l G μ45 n46 x rb u49 i (atD (aD u0).1 (i).toNat) hD (by omega) (by omega)) (cwV 2 hts gL_isPrintSo_X8_wear rfl rfl rfl (by decide +kernel) ⟨(Nat.le_of_ble_eq_true rfl), (Nat.le_of_ble_eq_true rfl)⟩) hD.1 rfl rfl rfl rfl hl.1 (Nat.le_of_ble_eq_true rfl) dL_isPrintSo_455 ⟨(Nat.le_of_ble_eq_true rfl), (Nat.le_of_ble_eq_true rfl)⟩ (fun z184 μ181 n182 H locs hz184 hp183 hH hS => ?_)
                      obtain ⟨hz2, hm2, hn2⟩ := hp183
                      have hz2 := hz2.trans (show a_wear (aD u49).1 i (atD (aD u0).1 (i).toNat) = nw from (wear_of (by omega) (by omega)).trans hnwe)
                      rw [hm2, hn2] at hH
                      rw [hz2] at hz184
                      rw [hz2]
                      clear hz2 hm2 hn2
                      refine lv_iload hx hb dL_isPrintSo_458 (lv_at hl 1 rfl) ?_
                      refine j_bipush hx hb dL_isPrintSo_460 ?_ (by decide)
                      have jn472_185 : ∀ (H : Heap) (locs : List Loc) (ls : Array Slot) (_ : gP G μ45 n46 H) (_ : va_S (gA G) s.heap H locs) (_ : lv_has ls 19 [(18, .int (iv 0)), (17, .int (iv (((atW (aD u0).1 (i).toNat) + 1) + (k / 4)))), (0, .ref x), (1, .int (iv k)), (7, .ref n), (8, .ref n11), (9, .ref n14), (10, .int (iv ((aD u0).1 3))), (11, .int (iv rt)), (12, .int (iv (chOf (aD u0).2 ((aD u0).1 3)))), (13, .int (iv ((aD u0).1 5))), (15, .int (iv 1)), (16, .int (iv i))]), W p l e rm_c_L_isPrintSo s m args below meth c H locs 4 22 Q (F0 m 472 ls [.int (iv nw), .int (iv nw)]) := by
                        intro H locs ls hH hS hl
                        refine j_icmp_ne (tgt := 536) hx hb dL_isPrintSo_472 (by decide) (fun c186 => absurd c186 (by omega)) (fun c186 => ?_) (by omega) (by omega)
                        refine lv_aload_n hx hb dL_isPrintSo_475 rfl (lv_at hl 2 rfl) ?_
                        refine lv_iload hx hb dL_isPrintSo_476 (lv_at hl 12 rfl) ?_
                        refine j_const hx hb dL_isPrintSo_478 ?_
                        refine m_callVi (As := [.int (iv i), .int (iv 1)]) (rest := []) ⟨hx, hb, hml, hown, hts⟩ hK hH hS (c_X8_band l G μ45 n46 x rb u49 i 1 hD (by omega) (by omega)) (cwV 2 hts gL_isPrintSo_X8_band rfl rfl rfl (by decide +kernel) ⟨(Nat.le_of_ble_eq_true rfl), (Nat.le_of_ble_eq_true rfl)⟩) hD.1 rfl rfl rfl rfl hl.1 (Nat.le_of_ble_eq_true rfl) dL_isPrintSo_479 ⟨(Nat.le_of_ble_eq_true rfl), (Nat.le_of_ble_eq_true rfl)⟩ (fun z190 μ187 n188 H locs hz190 hp189 hH hS => ?_)
                        obtain ⟨hz2, hm2, hn2⟩ := hp189
                        have hz2 := hz2.trans (show a_band (aD u49).1 i 1 = nb1 from (band_1 (by omega)).trans hb1e)
                        rw [hm2, hn2] at hH
                        rw [hz2] at hz190
                        rw [hz2]
                        clear hz2 hm2 hn2
                        refine lv_iload hx hb dL_isPrintSo_482 (lv_at hl 0 rfl) ?_
                        refine j_if_eq (tgt := 500) hx hb dL_isPrintSo_484 (by decide) (fun c191 => ?_) (fun c191 => absurd c191 (by omega)) (by omega)
                        refine lv_aload hx hb dL_isPrintSo_500 (lv_at hl 5 rfl) ?_
                        refine lv_iload hx hb dL_isPrintSo_502 (lv_at hl 12 rfl) ?_
                        refine m_iald (nA := 6) (f := (pfx (atD (aD u0).1) 6)) hx hb hK hH hA8 dL_isPrintSo_504 ?_ (by omega) (by omega)
                        refine j_norm (y := (atD (aD u0).1 (i).toNat)) (pfx_at (by omega)) ?_
                        refine j_icmp_ne (tgt := 536) hx hb dL_isPrintSo_505 (by decide) (fun c192 => absurd c192 (by omega)) (fun c192 => ?_) (by omega) (by omega)
                        refine lv_aload_n hx hb dL_isPrintSo_508 rfl (lv_at hl 2 rfl) ?_
                        refine lv_iload hx hb dL_isPrintSo_509 (lv_at hl 12 rfl) ?_
                        refine j_const hx hb dL_isPrintSo_511 ?_
                        refine m_callVi (As := [.int (iv i), .int (iv 2)]) (rest := []) ⟨hx, hb, hml, hown, hts⟩ hK hH hS (c_X8_band l G μ45 n46 x rb u49 i 2 hD (by omega) (by omega)) (cwV 2 hts gL_isPrintSo_X8_band rfl rfl rfl (by decide +kernel) ⟨(Nat.le_of_ble_eq_true rfl), (Nat.le_of_ble_eq_true rfl)⟩) hD.1 rfl rfl rfl rfl hl.1 (Nat.le_of_ble_eq_true rfl) dL_isPrintSo_512 ⟨(Nat.le_of_ble_eq_true rfl), (Nat.le_of_ble_eq_true rfl)⟩ (fun z196 μ193 n194 H locs hz196 hp195 hH hS => ?_)
                        obtain ⟨hz2, hm2, hn2⟩ := hp195
                        have hz2 := hz2.trans (show a_band (aD u49).1 i 2 = nb2 from (band_2 (by omega)).trans hb2e)
                        rw [hm2, hn2] at hH
                        rw [hz2] at hz196
                        rw [hz2]
                        clear hz2 hm2 hn2
                        refine lv_iload hx hb dL_isPrintSo_515 (lv_at hl 0 rfl) ?_
                        refine j_if_eq (tgt := 524) hx hb dL_isPrintSo_517 (by decide) (fun c197 => ?_) (fun c197 => absurd c197 (by omega)) (by omega)
                        refine lv_aload hx hb dL_isPrintSo_524 (lv_at hl 6 rfl) ?_
                        refine lv_iload hx hb dL_isPrintSo_526 (lv_at hl 12 rfl) ?_
                        refine m_iald (nA := 6) (f := (pfx (atL (aD u0).1) 6)) hx hb hK hH hA9 dL_isPrintSo_528 ?_ (by omega) (by omega)
                        refine j_norm (y := (atL (aD u0).1 (i).toNat)) (pfx_at (by omega)) ?_
                        refine j_icmp_ne (tgt := 536) hx hb dL_isPrintSo_529 (by decide) (fun c198 => absurd c198 (by omega)) (fun c198 => ?_) (by omega) (by omega)
                        refine j_const hx hb dL_isPrintSo_532 ?_
                        refine lv_goto (tgt := 537) hx hb dL_isPrintSo_533 (by decide) ?_
                        refine lv_istore (lv' := [(15, .int (iv 1)), (18, .int (iv 0)), (17, .int (iv (((atW (aD u0).1 (i).toNat) + 1) + (k / 4)))), (0, .ref x), (1, .int (iv k)), (7, .ref n), (8, .ref n11), (9, .ref n14), (10, .int (iv ((aD u0).1 3))), (11, .int (iv rt)), (12, .int (iv (chOf (aD u0).2 ((aD u0).1 3)))), (13, .int (iv ((aD u0).1 5))), (16, .int (iv i))]) hx hb dL_isPrintSo_537 hl (by decide) rfl (fun ls hl => ?_)
                        refine j_iinc (lv' := [(16, .int (iv (i + 1))), (15, .int (iv 1)), (18, .int (iv 0)), (17, .int (iv (((atW (aD u0).1 (i).toNat) + 1) + (k / 4)))), (0, .ref x), (1, .int (iv k)), (7, .ref n), (8, .ref n11), (9, .ref n14), (10, .int (iv ((aD u0).1 3))), (11, .int (iv rt)), (12, .int (iv (chOf (aD u0).2 ((aD u0).1 3)))), (13, .int (iv ((aD u0).1 5)))]) hx hb dL_isPrintSo_539 hl (k := 12) rfl (by decide) rfl (fun ls hl => ?_)
                        refine lv_goto (tgt := 395) hx hb dL_isPrintSo_542 (by decide) ?_
                        exact ih106 (i + 1) (by omega) (by omega) H locs ls hH hS (lv_sub hl [4, 5, 6, 7, 8, 9, 10, 11, 12, 1, 0] rfl)
                      refine j_icmp_le (tgt := 470) hx hb dL_isPrintSo_462 (by decide) (fun c199 => ?_) (fun c199 => ?_) (by omega) (by omega)
                      · skip
                        refine lv_iload hx hb dL_isPrintSo_470 (lv_at hl 1 rfl) ?_
                        refine j_norm (y := nw) (by omega) ?_
                        exact jn472_185 H locs ls hH hS (lv_sub hl [0, 1, 2, 3, 4, 5, 6, 7, 8, 9, 10, 11, 12] rfl)
                      · skip
                        refine j_bipush hx hb dL_isPrintSo_465 ?_ (by decide)
                        refine lv_goto (tgt := 472) hx hb dL_isPrintSo_467 (by decide) ?_
                        refine j_norm (y := nw) (by omega) ?_
                        exact jn472_185 H locs ls hH hS (lv_sub hl [0, 1, 2, 3, 4, 5, 6, 7, 8, 9, 10, 11, 12] rfl)
                    · skip
                      refine j_const hx hb dL_isPrintSo_435 ?_
                      refine lv_goto (tgt := 440) hx hb dL_isPrintSo_436 (by decide) ?_
                      have hsl : 7 ≤ k ∧ (aD u0).1 2 ≤ atL (aD u0).1 i.toNat := by omega
                      rw [if_pos hsl] at hnb1v hnb2v
                      refine lv_istore (lv' := [(18, .int (iv 1)), (17, .int (iv (((atW (aD u0).1 (i).toNat) + 1) + (k / 4)))), (0, .ref x), (1, .int (iv k)), (7, .ref n), (8, .ref n11), (9, .ref n14), (10, .int (iv ((aD u0).1 3))), (11, .int (iv rt)), (12, .int (iv (chOf (aD u0).2 ((aD u0).1 3)))), (13, .int (iv ((aD u0).1 5))), (15, .int (iv 1)), (16, .int (iv i))]) hx hb dL_isPrintSo_440 hl (by decide) rfl (fun ls hl => ?_)
                      refine lv_iload hx hb dL_isPrintSo_442 (lv_at hl 11 rfl) ?_
                      refine j_if_eq (tgt := 536) hx hb dL_isPrintSo_444 (by decide) (fun c200 => absurd c200 (by omega)) (fun c200 => ?_) (by omega)
                      refine lv_aload_n hx hb dL_isPrintSo_447 rfl (lv_at hl 2 rfl) ?_
                      refine lv_iload hx hb dL_isPrintSo_448 (lv_at hl 12 rfl) ?_
                      refine lv_aload hx hb dL_isPrintSo_450 (lv_at hl 5 rfl) ?_
                      refine lv_iload hx hb dL_isPrintSo_452 (lv_at hl 12 rfl) ?_
                      refine m_iald (nA := 6) (f := (pfx (atD (aD u0).1) 6)) hx hb hK hH hA8 dL_isPrintSo_454 ?_ (by omega) (by omega)
                      refine j_norm (y := (atD (aD u0).1 (i).toNat)) (pfx_at (by omega)) ?_
                      refine m_callVi (As := [.int (iv i), .int (iv (atD (aD u0).1 (i).toNat))]) (rest := []) ⟨hx, hb, hml, hown, hts⟩ hK hH hS (c_X8_wear l G μ45 n46 x rb u49 i (atD (aD u0).1 (i).toNat) hD (by omega) (by omega)) (cwV 2 hts gL_isPrintSo_X8_wear rfl rfl rfl (by decide +kernel) ⟨(Nat.le_of_ble_eq_true rfl), (Nat.le_of_ble_eq_true rfl)⟩) hD.1 rfl rfl rfl rfl hl.1 (Nat.le_of_ble_eq_true rfl) dL_isPrintSo_455 ⟨(Nat.le_of_ble_eq_true rfl), (Nat.le_of_ble_eq_true rfl)⟩ (fun z204 μ201 n202 H locs hz204 hp203 hH hS => ?_)
                      obtain ⟨hz2, hm2, hn2⟩ := hp203
                      have hz2 := hz2.trans (show a_wear (aD u49).1 i (atD (aD u0).1 (i).toNat) = nw from (wear_of (by omega) (by omega)).trans hnwe)
                      rw [hm2, hn2] at hH
                      rw [hz2] at hz204
                      rw [hz2]
                      clear hz2 hm2 hn2
                      refine lv_iload hx hb dL_isPrintSo_458 (lv_at hl 1 rfl) ?_
                      refine j_bipush hx hb dL_isPrintSo_460 ?_ (by decide)
                      have jn472_205 : ∀ (H : Heap) (locs : List Loc) (ls : Array Slot) (_ : gP G μ45 n46 H) (_ : va_S (gA G) s.heap H locs) (_ : lv_has ls 19 [(18, .int (iv 1)), (17, .int (iv (((atW (aD u0).1 (i).toNat) + 1) + (k / 4)))), (0, .ref x), (1, .int (iv k)), (7, .ref n), (8, .ref n11), (9, .ref n14), (10, .int (iv ((aD u0).1 3))), (11, .int (iv rt)), (12, .int (iv (chOf (aD u0).2 ((aD u0).1 3)))), (13, .int (iv ((aD u0).1 5))), (15, .int (iv 1)), (16, .int (iv i))]), W p l e rm_c_L_isPrintSo s m args below meth c H locs 4 22 Q (F0 m 472 ls [.int (iv nw), .int (iv nw)]) := by
                        intro H locs ls hH hS hl
                        refine j_icmp_ne (tgt := 536) hx hb dL_isPrintSo_472 (by decide) (fun c206 => absurd c206 (by omega)) (fun c206 => ?_) (by omega) (by omega)
                        refine lv_aload_n hx hb dL_isPrintSo_475 rfl (lv_at hl 2 rfl) ?_
                        refine lv_iload hx hb dL_isPrintSo_476 (lv_at hl 12 rfl) ?_
                        refine j_const hx hb dL_isPrintSo_478 ?_
                        refine m_callVi (As := [.int (iv i), .int (iv 1)]) (rest := []) ⟨hx, hb, hml, hown, hts⟩ hK hH hS (c_X8_band l G μ45 n46 x rb u49 i 1 hD (by omega) (by omega)) (cwV 2 hts gL_isPrintSo_X8_band rfl rfl rfl (by decide +kernel) ⟨(Nat.le_of_ble_eq_true rfl), (Nat.le_of_ble_eq_true rfl)⟩) hD.1 rfl rfl rfl rfl hl.1 (Nat.le_of_ble_eq_true rfl) dL_isPrintSo_479 ⟨(Nat.le_of_ble_eq_true rfl), (Nat.le_of_ble_eq_true rfl)⟩ (fun z210 μ207 n208 H locs hz210 hp209 hH hS => ?_)
                        obtain ⟨hz2, hm2, hn2⟩ := hp209
                        have hz2 := hz2.trans (show a_band (aD u49).1 i 1 = nb1 from (band_1 (by omega)).trans hb1e)
                        rw [hm2, hn2] at hH
                        rw [hz2] at hz210
                        rw [hz2]
                        clear hz2 hm2 hn2
                        refine lv_iload hx hb dL_isPrintSo_482 (lv_at hl 0 rfl) ?_
                        refine j_if_eq (tgt := 500) hx hb dL_isPrintSo_484 (by decide) (fun c211 => absurd c211 (by omega)) (fun c211 => ?_) (by omega)
                        refine lv_aload hx hb dL_isPrintSo_487 (lv_at hl 5 rfl) ?_
                        refine lv_iload hx hb dL_isPrintSo_489 (lv_at hl 12 rfl) ?_
                        refine m_iald (nA := 6) (f := (pfx (atD (aD u0).1) 6)) hx hb hK hH hA8 dL_isPrintSo_491 ?_ (by omega) (by omega)
                        refine j_norm (y := (atD (aD u0).1 (i).toNat)) (pfx_at (by omega)) ?_
                        refine j_const hx hb dL_isPrintSo_492 ?_
                        refine j_iadd hx hb dL_isPrintSo_493 ?_
                        refine j_bipush hx hb dL_isPrintSo_494 ?_ (by decide)
                        refine j_irem hx hb dL_isPrintSo_496 ?_ (by omega) (by omega)
                        refine lv_goto (tgt := 505) hx hb dL_isPrintSo_497 (by decide) ?_
                        refine j_icmp_ne (tgt := 536) hx hb dL_isPrintSo_505 (by decide) (fun c212 => absurd c212 (by omega)) (fun c212 => ?_) (by omega) (by omega)
                        refine lv_aload_n hx hb dL_isPrintSo_508 rfl (lv_at hl 2 rfl) ?_
                        refine lv_iload hx hb dL_isPrintSo_509 (lv_at hl 12 rfl) ?_
                        refine j_const hx hb dL_isPrintSo_511 ?_
                        refine m_callVi (As := [.int (iv i), .int (iv 2)]) (rest := []) ⟨hx, hb, hml, hown, hts⟩ hK hH hS (c_X8_band l G μ45 n46 x rb u49 i 2 hD (by omega) (by omega)) (cwV 2 hts gL_isPrintSo_X8_band rfl rfl rfl (by decide +kernel) ⟨(Nat.le_of_ble_eq_true rfl), (Nat.le_of_ble_eq_true rfl)⟩) hD.1 rfl rfl rfl rfl hl.1 (Nat.le_of_ble_eq_true rfl) dL_isPrintSo_512 ⟨(Nat.le_of_ble_eq_true rfl), (Nat.le_of_ble_eq_true rfl)⟩ (fun z216 μ213 n214 H locs hz216 hp215 hH hS => ?_)
                        obtain ⟨hz2, hm2, hn2⟩ := hp215
                        have hz2 := hz2.trans (show a_band (aD u49).1 i 2 = nb2 from (band_2 (by omega)).trans hb2e)
                        rw [hm2, hn2] at hH
                        rw [hz2] at hz216
                        rw [hz2]
                        clear hz2 hm2 hn2
                        refine lv_iload hx hb dL_isPrintSo_515 (lv_at hl 0 rfl) ?_
                        refine j_if_eq (tgt := 524) hx hb dL_isPrintSo_517 (by decide) (fun c217 => absurd c217 (by omega)) (fun c217 => ?_) (by omega)
                        refine j_const hx hb dL_isPrintSo_520 ?_
                        refine lv_goto (tgt := 529) hx hb dL_isPrintSo_521 (by decide) ?_
                        refine j_icmp_ne (tgt := 536) hx hb dL_isPrintSo_529 (by decide) (fun c218 => absurd c218 (by omega)) (fun c218 => ?_) (by omega) (by omega)
                        refine j_const hx hb dL_isPrintSo_532 ?_
                        refine lv_goto (tgt := 537) hx hb dL_isPrintSo_533 (by decide) ?_
                        refine lv_istore (lv' := [(15, .int (iv 1)), (18, .int (iv 1)), (17, .int (iv (((atW (aD u0).1 (i).toNat) + 1) + (k / 4)))), (0, .ref x), (1, .int (iv k)), (7, .ref n), (8, .ref n11), (9, .ref n14), (10, .int (iv ((aD u0).1 3))), (11, .int (iv rt)), (12, .int (iv (chOf (aD u0).2 ((aD u0).1 3)))), (13, .int (iv ((aD u0).1 5))), (16, .int (iv i))]) hx hb dL_isPrintSo_537 hl (by decide) rfl (fun ls hl => ?_)
                        refine j_iinc (lv' := [(16, .int (iv (i + 1))), (15, .int (iv 1)), (18, .int (iv 1)), (17, .int (iv (((atW (aD u0).1 (i).toNat) + 1) + (k / 4)))), (0, .ref x), (1, .int (iv k)), (7, .ref n), (8, .ref n11), (9, .ref n14), (10, .int (iv ((aD u0).1 3))), (11, .int (iv rt)), (12, .int (iv (chOf (aD u0).2 ((aD u0).1 3)))), (13, .int (iv ((aD u0).1 5)))]) hx hb dL_isPrintSo_539 hl (k := 12) rfl (by decide) rfl (fun ls hl => ?_)
                        refine lv_goto (tgt := 395) hx hb dL_isPrintSo_542 (by decide) ?_
                        exact ih106 (i + 1) (by omega) (by omega) H locs ls hH hS (lv_sub hl [4, 5, 6, 7, 8, 9, 10, 11, 12, 1, 0] rfl)
                      refine j_icmp_le (tgt := 470) hx hb dL_isPrintSo_462 (by decide) (fun c219 => ?_) (fun c219 => ?_) (by omega) (by omega)
                      · skip
                        refine lv_iload hx hb dL_isPrintSo_470 (lv_at hl 1 rfl) ?_
                        refine j_norm (y := nw) (by omega) ?_
                        exact jn472_205 H locs ls hH hS (lv_sub hl [0, 1, 2, 3, 4, 5, 6, 7, 8, 9, 10, 11, 12] rfl)
                      · skip
                        refine j_bipush hx hb dL_isPrintSo_465 ?_ (by decide)
                        refine lv_goto (tgt := 472) hx hb dL_isPrintSo_467 (by decide) ?_
                        refine j_norm (y := nw) (by omega) ?_
                        exact jn472_205 H locs ls hH hS (lv_sub hl [0, 1, 2, 3, 4, 5, 6, 7, 8, 9, 10, 11, 12] rfl)
            exact lp395 (7) 0 (by omega) (by omega) H locs ls hH hS (lv_sub hl [7, 8, 14, 15, 16, 6, 5, 4, 3, 1, 0] rfl)
          refine j_icmp_le (tgt := 381) hx hb dL_isPrintSo_371 (by decide) (fun c220 => ?_) (fun c220 => ?_) (by omega) (by omega)
          · skip
            refine j_const hx hb dL_isPrintSo_381 ?_
            refine j_norm (y := (max 0 ((aD u0).1 4 - k))) (by omega) ?_
            exact jn382_104 H locs ls hH hS (lv_sub hl [0, 1, 2, 3, 4, 5, 6, 7, 8, 9, 10, 11, 12, 13, 14] rfl)
          · skip
            refine lv_iload hx hb dL_isPrintSo_374 (lv_at hl 11 rfl) ?_
            refine lv_iload_n hx hb dL_isPrintSo_376 rfl (lv_at hl 6 rfl) ?_
            refine j_isub hx hb dL_isPrintSo_377 ?_
            refine lv_goto (tgt := 382) hx hb dL_isPrintSo_378 (by decide) ?_
            refine j_norm (y := (max 0 ((aD u0).1 4 - k))) (by omega) ?_
            exact jn382_104 H locs ls hH hS (lv_sub hl [0, 1, 2, 3, 4, 5, 6, 7, 8, 9, 10, 11, 12, 13, 14] rfl)
        refine j_icmp_ne (tgt := 213) hx hb dL_isPrintSo_201 (by decide) (fun c221 => ?_) (fun c221 => ?_) (by omega) (by omega)
        · skip
          refine j_const hx hb dL_isPrintSo_213 ?_
          have hrv : (0 : Int) = rt := by rw [hrtu]; exact (if_neg (fun q => by have q1 := q.1; have q2 := q.2; omega)).symm
          refine j_norm (y := rt) hrv ?_
          exact jn214_28 H locs ls hH hS (lv_sub hl [0, 1, 2, 3, 4, 5, 6, 7, 8, 9, 10] rfl)
        · skip
          refine lv_iload hx hb dL_isPrintSo_204 (lv_at hl 5 rfl) ?_
          refine j_if_ne (tgt := 213) hx hb dL_isPrintSo_206 (by decide) (fun c222 => ?_) (fun c222 => ?_) (by omega)
          · skip
            refine j_const hx hb dL_isPrintSo_213 ?_
            have hrv : (0 : Int) = rt := by rw [hrtu]; exact (if_neg (fun q => by have q1 := q.1; have q2 := q.2; omega)).symm
            refine j_norm (y := rt) hrv ?_
            exact jn214_28 H locs ls hH hS (lv_sub hl [0, 1, 2, 3, 4, 5, 6, 7, 8, 9, 10] rfl)
          · skip
            refine j_const hx hb dL_isPrintSo_209 ?_
            refine lv_goto (tgt := 214) hx hb dL_isPrintSo_210 (by decide) ?_
            have hrv : (1 : Int) = rt := by rw [hrtu]; exact (if_pos ⟨by omega, by omega⟩).symm
            refine j_norm (y := rt) hrv ?_
            exact jn214_28 H locs ls hH hS (lv_sub hl [0, 1, 2, 3, 4, 5, 6, 7, 8, 9, 10] rfl)
      · skip
        have hi5 : 0 ≤ i ∧ i ≤ 5 := by omega
        have hip : i.toNat < 6 := by omega
        have hbb := hOS.2.2.2.2 i.toNat hip
        have hdr : 0 ≤ atD (aD u0).1 i.toNat ∧ atD (aD u0).1 i.toNat ≤ 9 := hbb.2.1
        have hlr : 0 ≤ atL (aD u0).1 i.toNat ∧ atL (aD u0).1 i.toNat ≤ 99 := hbb.2.2.1
        have hwr : 0 ≤ atW (aD u0).1 i.toNat ∧ atW (aD u0).1 i.toNat ≤ 99 := hbb.2.2.2 _ (by have := hbb.2.1; omega)
        have hdk : drk (aD u0).1 i.toNat k = 8 * k + (aD u0).1 4 / 4 - atW (aD u0).1 i.toNat := rfl
        obtain ⟨P, hP⟩ : ∃ q : Nat, q = i.toNat := ⟨_, rfl⟩
        have hPi : i = (P : Int) := by omega
        have hflt := fbN_lt (aD u0).1 k P
        have hslt := sbN_lt (aD u0).1 k P
        have hpw := pow6 P (by omega)
        refine lv_aload hx hb dL_isPrintSo_48 (lv_at hl 8 rfl) ?_
        refine lv_iload hx hb dL_isPrintSo_50 (lv_at hl 10 rfl) ?_
        refine lv_aload_n hx hb dL_isPrintSo_52 rfl (lv_at hl 0 rfl) ?_
        refine lv_iload hx hb dL_isPrintSo_53 (lv_at hl 10 rfl) ?_
        refine j_const hx hb dL_isPrintSo_55 ?_
        refine m_callVi (As := [.int (iv i), .int (iv 1)]) (rest := [.int (iv i), .ref n11]) ⟨hx, hb, hml, hown, hts⟩ hK hH hS (c_X8_band l G ν n17 x rb u0 i 1 hD (by omega) (by omega)) (cwV 2 hts gL_isPrintSo_X8_band rfl rfl rfl (by decide +kernel) ⟨(Nat.le_of_ble_eq_true rfl), (Nat.le_of_ble_eq_true rfl)⟩) hD.1 rfl rfl rfl rfl hl.1 (Nat.le_of_ble_eq_true rfl) dL_isPrintSo_56 ⟨(Nat.le_of_ble_eq_true rfl), (Nat.le_of_ble_eq_true rfl)⟩ (fun z226 μ223 n224 H locs hz226 hp225 hH hS => ?_)
        obtain ⟨hz2, hm2, hn2⟩ := hp225
        have hz2 := hz2.trans (show a_band (aD u0).1 i 1 = (atD (aD u0).1 (i).toNat) from band_1 (by omega))
        rw [hm2, hn2] at hH
        rw [hz2] at hz226
        rw [hz2]
        clear hz2 hm2 hn2
        refine m_iast (nA := 6) (f := (pfx (atD (aD u0).1) i.toNat)) hx hb hK hH hS hA8 dL_isPrintSo_59 (fun H locs hH hS => ?_) (by omega) (by omega)
        have hD := hD.arr (e := (.inl (G.2.1 0, 6, .inl (fun j => iv ((fu (pfx (atD (aD u0).1) i.toNat) (i).toNat (atD (aD u0).1 (i).toNat)) j))))) hA8 (Or.inr (by omega))
        have hA7 := hu_n' (a := n11) (e := (.inl (G.2.1 0, 6, .inl (fun j => iv ((fu (pfx (atD (aD u0).1) i.toNat) (i).toNat (atD (aD u0).1 (i).toNat)) j))))) (show n ≠ n11 by omega) hA7
        have hA9 := hu_n' (a := n11) (e := (.inl (G.2.1 0, 6, .inl (fun j => iv ((fu (pfx (atD (aD u0).1) i.toNat) (i).toNat (atD (aD u0).1 (i).toNat)) j))))) (show n14 ≠ n11 by omega) hA9
        have hA8 : (hu ν n11 (.inl (G.2.1 0, 6, .inl (fun j => iv ((fu (pfx (atD (aD u0).1) i.toNat) (i).toNat (atD (aD u0).1 (i).toNat)) j))))) n11 = some (.inl (G.2.1 0, 6, .inl (fun j => iv ((pfx (atD (aD u0).1) (i.toNat + 1)) j)))) := by rw [← pfx_s]; exact hu_s
        obtain ⟨μ227, hμ227⟩ : ∃ q : hM, q = (hu ν n11 (.inl (G.2.1 0, 6, .inl (fun j => iv ((fu (pfx (atD (aD u0).1) i.toNat) (i).toNat (atD (aD u0).1 (i).toNat)) j))))) := ⟨_, rfl⟩
        have hH : gP G (hu ν n11 (.inl (G.2.1 0, 6, .inl (fun j => iv ((fu (pfx (atD (aD u0).1) i.toNat) (i).toNat (atD (aD u0).1 (i).toNat)) j))))) n17 H := hH
        rw [← hμ227] at hH hD hA7 hA8 hA9
        have hH : gP G μ227 n17 H := hH
        refine lv_aload hx hb dL_isPrintSo_60 (lv_at hl 9 rfl) ?_
        refine lv_iload hx hb dL_isPrintSo_62 (lv_at hl 10 rfl) ?_
        refine lv_aload_n hx hb dL_isPrintSo_64 rfl (lv_at hl 0 rfl) ?_
        refine lv_iload hx hb dL_isPrintSo_65 (lv_at hl 10 rfl) ?_
        refine j_const hx hb dL_isPrintSo_67 ?_
        refine m_callVi (As := [.int (iv i), .int (iv 2)]) (rest := [.int (iv i), .ref n14]) ⟨hx, hb, hml, hown, hts⟩ hK hH hS (c_X8_band l G μ227 n17 x rb u0 i 2 hD (by omega) (by omega)) (cwV 2 hts gL_isPrintSo_X8_band rfl rfl rfl (by decide +kernel) ⟨(Nat.le_of_ble_eq_true rfl), (Nat.le_of_ble_eq_true rfl)⟩) hD.1 rfl rfl rfl rfl hl.1 (Nat.le_of_ble_eq_true rfl) dL_isPrintSo_68 ⟨(Nat.le_of_ble_eq_true rfl), (Nat.le_of_ble_eq_true rfl)⟩ (fun z231 μ228 n229 H locs hz231 hp230 hH hS => ?_)
        obtain ⟨hz2, hm2, hn2⟩ := hp230
        have hz2 := hz2.trans (show a_band (aD u0).1 i 2 = (atL (aD u0).1 (i).toNat) from band_2 (by omega))
        rw [hm2, hn2] at hH
        rw [hz2] at hz231
        rw [hz2]
        clear hz2 hm2 hn2
        refine m_iast (nA := 6) (f := (pfx (atL (aD u0).1) i.toNat)) hx hb hK hH hS hA9 dL_isPrintSo_71 (fun H locs hH hS => ?_) (by omega) (by omega)
        have hD := hD.arr (e := (.inl (G.2.1 0, 6, .inl (fun j => iv ((fu (pfx (atL (aD u0).1) i.toNat) (i).toNat (atL (aD u0).1 (i).toNat)) j))))) hA9 (Or.inr (by omega))
        have hA7 := hu_n' (a := n14) (e := (.inl (G.2.1 0, 6, .inl (fun j => iv ((fu (pfx (atL (aD u0).1) i.toNat) (i).toNat (atL (aD u0).1 (i).toNat)) j))))) (show n ≠ n14 by omega) hA7
        have hA8 := hu_n' (a := n14) (e := (.inl (G.2.1 0, 6, .inl (fun j => iv ((fu (pfx (atL (aD u0).1) i.toNat) (i).toNat (atL (aD u0).1 (i).toNat)) j))))) (show n11 ≠ n14 by omega) hA8
        have hA9 : (hu μ227 n14 (.inl (G.2.1 0, 6, .inl (fun j => iv ((fu (pfx (atL (aD u0).1) i.toNat) (i).toNat (atL (aD u0).1 (i).toNat)) j))))) n14 = some (.inl (G.2.1 0, 6, .inl (fun j => iv ((pfx (atL (aD u0).1) (i.toNat + 1)) j)))) := by rw [← pfx_s]; exact hu_s
        obtain ⟨μ232, hμ232⟩ : ∃ q : hM, q = (hu μ227 n14 (.inl (G.2.1 0, 6, .inl (fun j => iv ((fu (pfx (atL (aD u0).1) i.toNat) (i).toNat (atL (aD u0).1 (i).toNat)) j))))) := ⟨_, rfl⟩
        have hH : gP G (hu μ227 n14 (.inl (G.2.1 0, 6, .inl (fun j => iv ((fu (pfx (atL (aD u0).1) i.toNat) (i).toNat (atL (aD u0).1 (i).toNat)) j))))) n17 H := hH
        rw [← hμ232] at hH hD hA7 hA8 hA9
        have hH : gP G μ232 n17 H := hH
        refine lv_aload hx hb dL_isPrintSo_72 (lv_at hl 7 rfl) ?_
        refine lv_iload hx hb dL_isPrintSo_74 (lv_at hl 10 rfl) ?_
        refine lv_aload_n hx hb dL_isPrintSo_76 rfl (lv_at hl 0 rfl) ?_
        refine lv_iload hx hb dL_isPrintSo_77 (lv_at hl 10 rfl) ?_
        refine lv_aload hx hb dL_isPrintSo_79 (lv_at hl 8 rfl) ?_
        refine lv_iload hx hb dL_isPrintSo_81 (lv_at hl 10 rfl) ?_
        refine m_iald (nA := 6) (f := (pfx (atD (aD u0).1) (i.toNat + 1))) hx hb hK hH hA8 dL_isPrintSo_83 ?_ (by omega) (by omega)
        refine j_norm (y := (atD (aD u0).1 (i).toNat)) (pfx_at (by omega)) ?_
        refine m_callVi (As := [.int (iv i), .int (iv (atD (aD u0).1 (i).toNat))]) (rest := [.int (iv i), .ref n]) ⟨hx, hb, hml, hown, hts⟩ hK hH hS (c_X8_wear l G μ232 n17 x rb u0 i (atD (aD u0).1 (i).toNat) hD (by omega) (by omega)) (cwV 2 hts gL_isPrintSo_X8_wear rfl rfl rfl (by decide +kernel) ⟨(Nat.le_of_ble_eq_true rfl), (Nat.le_of_ble_eq_true rfl)⟩) hD.1 rfl rfl rfl rfl hl.1 (Nat.le_of_ble_eq_true rfl) dL_isPrintSo_84 ⟨(Nat.le_of_ble_eq_true rfl), (Nat.le_of_ble_eq_true rfl)⟩ (fun z236 μ233 n234 H locs hz236 hp235 hH hS => ?_)
        obtain ⟨hz2, hm2, hn2⟩ := hp235
        have hz2 := hz2.trans (show a_wear (aD u0).1 i (atD (aD u0).1 (i).toNat) = (atW (aD u0).1 (i).toNat) from (wear_of (by omega) (by omega)).trans (roww_at (by omega)))
        rw [hm2, hn2] at hH
        rw [hz2] at hz236
        rw [hz2]
        clear hz2 hm2 hn2
        refine m_iast (nA := 6) (f := (pfx (atW (aD u0).1) i.toNat)) hx hb hK hH hS hA7 dL_isPrintSo_87 (fun H locs hH hS => ?_) (by omega) (by omega)
        have hD := hD.arr (e := (.inl (G.2.1 0, 6, .inl (fun j => iv ((fu (pfx (atW (aD u0).1) i.toNat) (i).toNat (atW (aD u0).1 (i).toNat)) j))))) hA7 (Or.inr (by omega))
        have hA8 := hu_n' (a := n) (e := (.inl (G.2.1 0, 6, .inl (fun j => iv ((fu (pfx (atW (aD u0).1) i.toNat) (i).toNat (atW (aD u0).1 (i).toNat)) j))))) (show n11 ≠ n by omega) hA8
        have hA9 := hu_n' (a := n) (e := (.inl (G.2.1 0, 6, .inl (fun j => iv ((fu (pfx (atW (aD u0).1) i.toNat) (i).toNat (atW (aD u0).1 (i).toNat)) j))))) (show n14 ≠ n by omega) hA9
        have hA7 : (hu μ232 n (.inl (G.2.1 0, 6, .inl (fun j => iv ((fu (pfx (atW (aD u0).1) i.toNat) (i).toNat (atW (aD u0).1 (i).toNat)) j))))) n = some (.inl (G.2.1 0, 6, .inl (fun j => iv ((pfx (atW (aD u0).1) (i.toNat + 1)) j)))) := by rw [← pfx_s]; exact hu_s
        obtain ⟨μ237, hμ237⟩ : ∃ q : hM, q = (hu μ232 n (.inl (G.2.1 0, 6, .inl (fun j => iv ((fu (pfx (atW (aD u0).1) i.toNat) (i).toNat (atW (aD u0).1 (i).toNat)) j))))) := ⟨_, rfl⟩
        have hH : gP G (hu μ232 n (.inl (G.2.1 0, 6, .inl (fun j => iv ((fu (pfx (atW (aD u0).1) i.toNat) (i).toNat (atW (aD u0).1 (i).toNat)) j))))) n17 H := hH
        rw [← hμ237] at hH hD hA7 hA8 hA9
        have hH : gP G μ237 n17 H := hH
        refine j_bipush hx hb dL_isPrintSo_88 ?_ (by decide)
        refine lv_iload_n hx hb dL_isPrintSo_90 rfl (lv_at hl 1 rfl) ?_
        refine j_imul hx hb dL_isPrintSo_91 ?_
        refine lv_iload hx hb dL_isPrintSo_92 (lv_at hl 6 rfl) ?_
        refine j_const hx hb dL_isPrintSo_94 ?_
        refine j_idiv hx hb dL_isPrintSo_95 ?_ (by omega) (by omega)
        refine j_iadd hx hb dL_isPrintSo_96 ?_
        refine lv_aload hx hb dL_isPrintSo_97 (lv_at hl 7 rfl) ?_
        refine lv_iload hx hb dL_isPrintSo_99 (lv_at hl 10 rfl) ?_
        refine m_iald (nA := 6) (f := (pfx (atW (aD u0).1) (i.toNat + 1))) hx hb hK hH hA7 dL_isPrintSo_101 ?_ (by omega) (by omega)
        refine j_norm (y := (atW (aD u0).1 (i).toNat)) (pfx_at (by omega)) ?_
        refine j_isub hx hb dL_isPrintSo_102 ?_
        refine j_top (fun dk hdk_ => ?_)
        refine lv_istore (lv' := [(11, .int (iv dk)), (0, .ref x), (1, .int (iv k)), (2, .int (iv fa)), (3, .int (iv sm)), (4, .int (iv un)), (5, .int (iv (shw (aD u0).1 6))), (6, .int (iv ((aD u0).1 4))), (7, .ref n), (8, .ref n11), (9, .ref n14), (10, .int (iv i))]) hx hb dL_isPrintSo_103 hl (by decide) rfl (fun ls hl => ?_)
        have hdk3 : dk = drk (aD u0).1 P k := by rw [hP]; exact hdk_.trans hdk.symm
        refine lv_iload_n hx hb dL_isPrintSo_105 rfl (lv_at hl 3 rfl) ?_
        refine lv_iload hx hb dL_isPrintSo_106 (lv_at hl 0 rfl) ?_
        refine lv_aload_n hx hb dL_isPrintSo_108 rfl (lv_at hl 1 rfl) ?_
        refine j_bipush hx hb dL_isPrintSo_109 ?_ (by decide)
        refine m_callVi (As := [.int (iv 13)]) (rest := [.int (iv dk), .int (iv fa)]) ⟨hx, hb, hml, hown, hts⟩ hK hH hS (c_X8_count l G μ237 n17 x rb u0 13 hD (by omega)) (cwV 1 hts gL_isPrintSo_X8_count rfl rfl rfl (by decide +kernel) ⟨(Nat.le_of_ble_eq_true rfl), (Nat.le_of_ble_eq_true rfl)⟩) hD.1 rfl rfl rfl rfl hl.1 (Nat.le_of_ble_eq_true rfl) dL_isPrintSo_111 ⟨(Nat.le_of_ble_eq_true rfl), (Nat.le_of_ble_eq_true rfl)⟩ (fun z241 μ238 n239 H locs hz241 hp240 hH hS => ?_)
        obtain ⟨hz2, hm2, hn2⟩ := hp240
        have hz2 := hz2.trans (show a_count u0 13 = ((aD u0).1 0) from cnt_13 u0)
        rw [hm2, hn2] at hH
        rw [hz2] at hz241
        rw [hz2]
        clear hz2 hm2 hn2
        refine j_icmp_ge (tgt := 124) hx hb dL_isPrintSo_114 (by decide) (fun c242 => ?_) (fun c242 => ?_) (by omega) (by omega)
        · skip
          have hf_ : ¬ drk (aD u0).1 P k < (aD u0).1 0 := by omega
          refine j_const hx hb dL_isPrintSo_124 ?_
          refine j_ior (v := fa) hx hb dL_isPrintSo_125 (by rw [hfa, ← hP]; exact bit_or0 _ (by omega)) ?_
          refine lv_istore_n (lv' := [(2, .int (iv fa)), (11, .int (iv dk)), (0, .ref x), (1, .int (iv k)), (3, .int (iv sm)), (4, .int (iv un)), (5, .int (iv (shw (aD u0).1 6))), (6, .int (iv ((aD u0).1 4))), (7, .ref n), (8, .ref n11), (9, .ref n14), (10, .int (iv i))]) hx hb dL_isPrintSo_126 rfl hl (by decide) rfl (fun ls hl => ?_)
          refine lv_iload_n hx hb dL_isPrintSo_127 rfl (lv_at hl 4 rfl) ?_
          refine lv_iload hx hb dL_isPrintSo_128 (lv_at hl 1 rfl) ?_
          refine lv_aload_n hx hb dL_isPrintSo_130 rfl (lv_at hl 2 rfl) ?_
          refine j_bipush hx hb dL_isPrintSo_131 ?_ (by decide)
          refine m_callVi (As := [.int (iv 14)]) (rest := [.int (iv dk), .int (iv sm)]) ⟨hx, hb, hml, hown, hts⟩ hK hH hS (c_X8_count l G μ237 n17 x rb u0 14 hD (by omega)) (cwV 1 hts gL_isPrintSo_X8_count rfl rfl rfl (by decide +kernel) ⟨(Nat.le_of_ble_eq_true rfl), (Nat.le_of_ble_eq_true rfl)⟩) hD.1 rfl rfl rfl rfl hl.1 (Nat.le_of_ble_eq_true rfl) dL_isPrintSo_133 ⟨(Nat.le_of_ble_eq_true rfl), (Nat.le_of_ble_eq_true rfl)⟩ (fun z246 μ243 n244 H locs hz246 hp245 hH hS => ?_)
          obtain ⟨hz2, hm2, hn2⟩ := hp245
          have hz2 := hz2.trans (show a_count u0 14 = ((aD u0).1 1) from cnt_14 u0)
          rw [hm2, hn2] at hH
          rw [hz2] at hz246
          rw [hz2]
          clear hz2 hm2 hn2
          refine j_icmp_le (tgt := 146) hx hb dL_isPrintSo_136 (by decide) (fun c247 => ?_) (fun c247 => ?_) (by omega) (by omega)
          · skip
            have hs_ : ¬ (aD u0).1 1 < drk (aD u0).1 P k := by omega
            refine j_const hx hb dL_isPrintSo_146 ?_
            refine j_ior (v := sm) hx hb dL_isPrintSo_147 (by rw [hsm, ← hP]; exact bit_or0 _ (by omega)) ?_
            refine lv_istore_n (lv' := [(3, .int (iv sm)), (2, .int (iv fa)), (11, .int (iv dk)), (0, .ref x), (1, .int (iv k)), (4, .int (iv un)), (5, .int (iv (shw (aD u0).1 6))), (6, .int (iv ((aD u0).1 4))), (7, .ref n), (8, .ref n11), (9, .ref n14), (10, .int (iv i))]) hx hb dL_isPrintSo_148 rfl hl (by decide) rfl (fun ls hl => ?_)
            refine lv_iload hx hb dL_isPrintSo_149 (lv_at hl 5 rfl) ?_
            refine lv_iload hx hb dL_isPrintSo_151 (lv_at hl 2 rfl) ?_
            refine lv_aload_n hx hb dL_isPrintSo_153 rfl (lv_at hl 3 rfl) ?_
            refine j_bipush hx hb dL_isPrintSo_154 ?_ (by decide)
            refine m_callVi (As := [.int (iv 13)]) (rest := [.int (iv dk), .int (iv un)]) ⟨hx, hb, hml, hown, hts⟩ hK hH hS (c_X8_count l G μ237 n17 x rb u0 13 hD (by omega)) (cwV 1 hts gL_isPrintSo_X8_count rfl rfl rfl (by decide +kernel) ⟨(Nat.le_of_ble_eq_true rfl), (Nat.le_of_ble_eq_true rfl)⟩) hD.1 rfl rfl rfl rfl hl.1 (Nat.le_of_ble_eq_true rfl) dL_isPrintSo_156 ⟨(Nat.le_of_ble_eq_true rfl), (Nat.le_of_ble_eq_true rfl)⟩ (fun z251 μ248 n249 H locs hz251 hp250 hH hS => ?_)
            obtain ⟨hz2, hm2, hn2⟩ := hp250
            have hz2 := hz2.trans (show a_count u0 13 = ((aD u0).1 0) from cnt_13 u0)
            rw [hm2, hn2] at hH
            rw [hz2] at hz251
            rw [hz2]
            clear hz2 hm2 hn2
            refine j_icmp_lt (tgt := 173) hx hb dL_isPrintSo_159 (by decide) (fun c252 => absurd c252 (by omega)) (fun c252 => ?_) (by omega) (by omega)
            refine lv_iload hx hb dL_isPrintSo_162 (lv_at hl 2 rfl) ?_
            refine lv_aload_n hx hb dL_isPrintSo_164 rfl (lv_at hl 3 rfl) ?_
            refine j_bipush hx hb dL_isPrintSo_165 ?_ (by decide)
            refine m_callVi (As := [.int (iv 14)]) (rest := [.int (iv dk), .int (iv un)]) ⟨hx, hb, hml, hown, hts⟩ hK hH hS (c_X8_count l G μ237 n17 x rb u0 14 hD (by omega)) (cwV 1 hts gL_isPrintSo_X8_count rfl rfl rfl (by decide +kernel) ⟨(Nat.le_of_ble_eq_true rfl), (Nat.le_of_ble_eq_true rfl)⟩) hD.1 rfl rfl rfl rfl hl.1 (Nat.le_of_ble_eq_true rfl) dL_isPrintSo_167 ⟨(Nat.le_of_ble_eq_true rfl), (Nat.le_of_ble_eq_true rfl)⟩ (fun z256 μ253 n254 H locs hz256 hp255 hH hS => ?_)
            obtain ⟨hz2, hm2, hn2⟩ := hp255
            have hz2 := hz2.trans (show a_count u0 14 = ((aD u0).1 1) from cnt_14 u0)
            rw [hm2, hn2] at hH
            rw [hz2] at hz256
            rw [hz2]
            clear hz2 hm2 hn2
            refine j_icmp_le (tgt := 177) hx hb dL_isPrintSo_170 (by decide) (fun c257 => ?_) (fun c257 => absurd c257 (by omega)) (by omega) (by omega)
            refine j_const hx hb dL_isPrintSo_177 ?_
            refine j_iadd hx hb dL_isPrintSo_178 ?_
            refine lv_istore (lv' := [(4, .int (iv (un + 0))), (3, .int (iv sm)), (2, .int (iv fa)), (11, .int (iv dk)), (0, .ref x), (1, .int (iv k)), (5, .int (iv (shw (aD u0).1 6))), (6, .int (iv ((aD u0).1 4))), (7, .ref n), (8, .ref n11), (9, .ref n14), (10, .int (iv i))]) hx hb dL_isPrintSo_179 hl (by decide) rfl (fun ls hl => ?_)
            have hP1 : (i + 1).toNat = P + 1 := by omega
            have hfn : fa = (fbN (aD u0).1 k (i + 1).toNat : Int) := by rw [hP1, fbN_n hf_, hfa, ← hP]
            have hsn : sm = (sbN (aD u0).1 k (i + 1).toNat : Int) := by rw [hP1, sbN_n hs_, hsm, ← hP]
            have hunn : (un + 0) = ucl (aD u0).1 k (i + 1).toNat := by
              rw [hP1, hun, ← hP]
              show _ = ucl (aD u0).1 k P + (if drk (aD u0).1 P k < (aD u0).1 0 ∨ (aD u0).1 1 < drk (aD u0).1 P k then 1 else 0)
              rw [if_neg (by omega)]
            have hB7 : μ237 n = some (.inl (G.2.1 0, 6, .inl (fun j => iv ((pfx (atW (aD u0).1) (i + 1).toNat) j)))) := by rw [show (i + 1).toNat = i.toNat + 1 by omega]; exact hA7
            have hB8 : μ237 n11 = some (.inl (G.2.1 0, 6, .inl (fun j => iv ((pfx (atD (aD u0).1) (i + 1).toNat) j)))) := by rw [show (i + 1).toNat = i.toNat + 1 by omega]; exact hA8
            have hB9 : μ237 n14 = some (.inl (G.2.1 0, 6, .inl (fun j => iv ((pfx (atL (aD u0).1) (i + 1).toNat) j)))) := by rw [show (i + 1).toNat = i.toNat + 1 by omega]; exact hA9
            refine j_iinc (lv' := [(10, .int (iv (i + 1))), (4, .int (iv (un + 0))), (3, .int (iv sm)), (2, .int (iv fa)), (11, .int (iv dk)), (0, .ref x), (1, .int (iv k)), (5, .int (iv (shw (aD u0).1 6))), (6, .int (iv ((aD u0).1 4))), (7, .ref n), (8, .ref n11), (9, .ref n14)]) hx hb dL_isPrintSo_181 hl (k := 11) rfl (by decide) rfl (fun ls hl => ?_)
            refine lv_goto (tgt := 41) hx hb dL_isPrintSo_184 (by decide) ?_
            exact ih18 (i + 1) fa sm (un + 0) μ237 (by omega) hfn hsn hunn hD hB7 hB8 hB9 (by omega) H locs ls hH hS (lv_sub hl [5, 6, 3, 2, 1, 7, 8, 9, 10, 11, 0] rfl)
          · skip
            have hs_ : (aD u0).1 1 < drk (aD u0).1 P k := by omega
            refine j_const hx hb dL_isPrintSo_139 ?_
            refine lv_iload hx hb dL_isPrintSo_140 (lv_at hl 11 rfl) ?_
            refine j_ishl (v := ((2 ^ P : Nat) : Int)) hx hb dL_isPrintSo_142 (by rw [hPi]; exact bit_shl P (by omega)) ?_
            refine lv_goto (tgt := 147) hx hb dL_isPrintSo_143 (by decide) ?_
            refine j_ior (v := ((sbN (aD u0).1 k P + 2 ^ P : Nat) : Int)) hx hb dL_isPrintSo_147 (by rw [hsm, ← hP]; exact bit_or P (by omega) _ hslt) ?_
            refine lv_istore_n (lv' := [(3, .int (iv ((sbN (aD u0).1 k P + 2 ^ P : Nat) : Int))), (2, .int (iv fa)), (11, .int (iv dk)), (0, .ref x), (1, .int (iv k)), (4, .int (iv un)), (5, .int (iv (shw (aD u0).1 6))), (6, .int (iv ((aD u0).1 4))), (7, .ref n), (8, .ref n11), (9, .ref n14), (10, .int (iv i))]) hx hb dL_isPrintSo_148 rfl hl (by decide) rfl (fun ls hl => ?_)
            refine lv_iload hx hb dL_isPrintSo_149 (lv_at hl 5 rfl) ?_
            refine lv_iload hx hb dL_isPrintSo_151 (lv_at hl 2 rfl) ?_
            refine lv_aload_n hx hb dL_isPrintSo_153 rfl (lv_at hl 3 rfl) ?_
            refine j_bipush hx hb dL_isPrintSo_154 ?_ (by decide)
            refine m_callVi (As := [.int (iv 13)]) (rest := [.int (iv dk), .int (iv un)]) ⟨hx, hb, hml, hown, hts⟩ hK hH hS (c_X8_count l G μ237 n17 x rb u0 13 hD (by omega)) (cwV 1 hts gL_isPrintSo_X8_count rfl rfl rfl (by decide +kernel) ⟨(Nat.le_of_ble_eq_true rfl), (Nat.le_of_ble_eq_true rfl)⟩) hD.1 rfl rfl rfl rfl hl.1 (Nat.le_of_ble_eq_true rfl) dL_isPrintSo_156 ⟨(Nat.le_of_ble_eq_true rfl), (Nat.le_of_ble_eq_true rfl)⟩ (fun z261 μ258 n259 H locs hz261 hp260 hH hS => ?_)
            obtain ⟨hz2, hm2, hn2⟩ := hp260
            have hz2 := hz2.trans (show a_count u0 13 = ((aD u0).1 0) from cnt_13 u0)
            rw [hm2, hn2] at hH
            rw [hz2] at hz261
            rw [hz2]
            clear hz2 hm2 hn2
            refine j_icmp_lt (tgt := 173) hx hb dL_isPrintSo_159 (by decide) (fun c262 => absurd c262 (by omega)) (fun c262 => ?_) (by omega) (by omega)
            refine lv_iload hx hb dL_isPrintSo_162 (lv_at hl 2 rfl) ?_
            refine lv_aload_n hx hb dL_isPrintSo_164 rfl (lv_at hl 3 rfl) ?_
            refine j_bipush hx hb dL_isPrintSo_165 ?_ (by decide)
            refine m_callVi (As := [.int (iv 14)]) (rest := [.int (iv dk), .int (iv un)]) ⟨hx, hb, hml, hown, hts⟩ hK hH hS (c_X8_count l G μ237 n17 x rb u0 14 hD (by omega)) (cwV 1 hts gL_isPrintSo_X8_count rfl rfl rfl (by decide +kernel) ⟨(Nat.le_of_ble_eq_true rfl), (Nat.le_of_ble_eq_true rfl)⟩) hD.1 rfl rfl rfl rfl hl.1 (Nat.le_of_ble_eq_true rfl) dL_isPrintSo_167 ⟨(Nat.le_of_ble_eq_true rfl), (Nat.le_of_ble_eq_true rfl)⟩ (fun z266 μ263 n264 H locs hz266 hp265 hH hS => ?_)
            obtain ⟨hz2, hm2, hn2⟩ := hp265
            have hz2 := hz2.trans (show a_count u0 14 = ((aD u0).1 1) from cnt_14 u0)
            rw [hm2, hn2] at hH
            rw [hz2] at hz266
            rw [hz2]
            clear hz2 hm2 hn2
            refine j_icmp_le (tgt := 177) hx hb dL_isPrintSo_170 (by decide) (fun c267 => absurd c267 (by omega)) (fun c267 => ?_) (by omega) (by omega)
            refine j_const hx hb dL_isPrintSo_173 ?_
            refine lv_goto (tgt := 178) hx hb dL_isPrintSo_174 (by decide) ?_
            refine j_iadd hx hb dL_isPrintSo_178 ?_
            refine lv_istore (lv' := [(4, .int (iv (un + 1))), (3, .int (iv ((sbN (aD u0).1 k P + 2 ^ P : Nat) : Int))), (2, .int (iv fa)), (11, .int (iv dk)), (0, .ref x), (1, .int (iv k)), (5, .int (iv (shw (aD u0).1 6))), (6, .int (iv ((aD u0).1 4))), (7, .ref n), (8, .ref n11), (9, .ref n14), (10, .int (iv i))]) hx hb dL_isPrintSo_179 hl (by decide) rfl (fun ls hl => ?_)
            have hP1 : (i + 1).toNat = P + 1 := by omega
            have hfn : fa = (fbN (aD u0).1 k (i + 1).toNat : Int) := by rw [hP1, fbN_n hf_, hfa, ← hP]
            have hsn : ((sbN (aD u0).1 k P + 2 ^ P : Nat) : Int) = (sbN (aD u0).1 k (i + 1).toNat : Int) := by rw [hP1, sbN_y hs_]
            have hunn : (un + 1) = ucl (aD u0).1 k (i + 1).toNat := by
              rw [hP1, hun, ← hP]
              show _ = ucl (aD u0).1 k P + (if drk (aD u0).1 P k < (aD u0).1 0 ∨ (aD u0).1 1 < drk (aD u0).1 P k then 1 else 0)
              rw [if_pos (Or.inr hs_)]
            have hB7 : μ237 n = some (.inl (G.2.1 0, 6, .inl (fun j => iv ((pfx (atW (aD u0).1) (i + 1).toNat) j)))) := by rw [show (i + 1).toNat = i.toNat + 1 by omega]; exact hA7
            have hB8 : μ237 n11 = some (.inl (G.2.1 0, 6, .inl (fun j => iv ((pfx (atD (aD u0).1) (i + 1).toNat) j)))) := by rw [show (i + 1).toNat = i.toNat + 1 by omega]; exact hA8
            have hB9 : μ237 n14 = some (.inl (G.2.1 0, 6, .inl (fun j => iv ((pfx (atL (aD u0).1) (i + 1).toNat) j)))) := by rw [show (i + 1).toNat = i.toNat + 1 by omega]; exact hA9
            refine j_iinc (lv' := [(10, .int (iv (i + 1))), (4, .int (iv (un + 1))), (3, .int (iv ((sbN (aD u0).1 k P + 2 ^ P : Nat) : Int))), (2, .int (iv fa)), (11, .int (iv dk)), (0, .ref x), (1, .int (iv k)), (5, .int (iv (shw (aD u0).1 6))), (6, .int (iv ((aD u0).1 4))), (7, .ref n), (8, .ref n11), (9, .ref n14)]) hx hb dL_isPrintSo_181 hl (k := 11) rfl (by decide) rfl (fun ls hl => ?_)
            refine lv_goto (tgt := 41) hx hb dL_isPrintSo_184 (by decide) ?_
            exact ih18 (i + 1) fa ((sbN (aD u0).1 k P + 2 ^ P : Nat) : Int) (un + 1) μ237 (by omega) hfn hsn hunn hD hB7 hB8 hB9 (by omega) H locs ls hH hS (lv_sub hl [5, 6, 3, 2, 1, 7, 8, 9, 10, 11, 0] rfl)
        · skip
          have hf_ : drk (aD u0).1 P k < (aD u0).1 0 := by omega
          refine j_const hx hb dL_isPrintSo_117 ?_
          refine lv_iload hx hb dL_isPrintSo_118 (lv_at hl 11 rfl) ?_
          refine j_ishl (v := ((2 ^ P : Nat) : Int)) hx hb dL_isPrintSo_120 (by rw [hPi]; exact bit_shl P (by omega)) ?_
          refine lv_goto (tgt := 125) hx hb dL_isPrintSo_121 (by decide) ?_
          refine j_ior (v := ((fbN (aD u0).1 k P + 2 ^ P : Nat) : Int)) hx hb dL_isPrintSo_125 (by rw [hfa, ← hP]; exact bit_or P (by omega) _ hflt) ?_
          refine lv_istore_n (lv' := [(2, .int (iv ((fbN (aD u0).1 k P + 2 ^ P : Nat) : Int))), (11, .int (iv dk)), (0, .ref x), (1, .int (iv k)), (3, .int (iv sm)), (4, .int (iv un)), (5, .int (iv (shw (aD u0).1 6))), (6, .int (iv ((aD u0).1 4))), (7, .ref n), (8, .ref n11), (9, .ref n14), (10, .int (iv i))]) hx hb dL_isPrintSo_126 rfl hl (by decide) rfl (fun ls hl => ?_)
          refine lv_iload_n hx hb dL_isPrintSo_127 rfl (lv_at hl 4 rfl) ?_
          refine lv_iload hx hb dL_isPrintSo_128 (lv_at hl 1 rfl) ?_
          refine lv_aload_n hx hb dL_isPrintSo_130 rfl (lv_at hl 2 rfl) ?_
          refine j_bipush hx hb dL_isPrintSo_131 ?_ (by decide)
          refine m_callVi (As := [.int (iv 14)]) (rest := [.int (iv dk), .int (iv sm)]) ⟨hx, hb, hml, hown, hts⟩ hK hH hS (c_X8_count l G μ237 n17 x rb u0 14 hD (by omega)) (cwV 1 hts gL_isPrintSo_X8_count rfl rfl rfl (by decide +kernel) ⟨(Nat.le_of_ble_eq_true rfl), (Nat.le_of_ble_eq_true rfl)⟩) hD.1 rfl rfl rfl rfl hl.1 (Nat.le_of_ble_eq_true rfl) dL_isPrintSo_133 ⟨(Nat.le_of_ble_eq_true rfl), (Nat.le_of_ble_eq_true rfl)⟩ (fun z271 μ268 n269 H locs hz271 hp270 hH hS => ?_)
          obtain ⟨hz2, hm2, hn2⟩ := hp270
          have hz2 := hz2.trans (show a_count u0 14 = ((aD u0).1 1) from cnt_14 u0)
          rw [hm2, hn2] at hH
          rw [hz2] at hz271
          rw [hz2]
          clear hz2 hm2 hn2
          refine j_icmp_le (tgt := 146) hx hb dL_isPrintSo_136 (by decide) (fun c272 => ?_) (fun c272 => ?_) (by omega) (by omega)
          · skip
            have hs_ : ¬ (aD u0).1 1 < drk (aD u0).1 P k := by omega
            refine j_const hx hb dL_isPrintSo_146 ?_
            refine j_ior (v := sm) hx hb dL_isPrintSo_147 (by rw [hsm, ← hP]; exact bit_or0 _ (by omega)) ?_
            refine lv_istore_n (lv' := [(3, .int (iv sm)), (2, .int (iv ((fbN (aD u0).1 k P + 2 ^ P : Nat) : Int))), (11, .int (iv dk)), (0, .ref x), (1, .int (iv k)), (4, .int (iv un)), (5, .int (iv (shw (aD u0).1 6))), (6, .int (iv ((aD u0).1 4))), (7, .ref n), (8, .ref n11), (9, .ref n14), (10, .int (iv i))]) hx hb dL_isPrintSo_148 rfl hl (by decide) rfl (fun ls hl => ?_)
            refine lv_iload hx hb dL_isPrintSo_149 (lv_at hl 5 rfl) ?_
            refine lv_iload hx hb dL_isPrintSo_151 (lv_at hl 2 rfl) ?_
            refine lv_aload_n hx hb dL_isPrintSo_153 rfl (lv_at hl 3 rfl) ?_
            refine j_bipush hx hb dL_isPrintSo_154 ?_ (by decide)
            refine m_callVi (As := [.int (iv 13)]) (rest := [.int (iv dk), .int (iv un)]) ⟨hx, hb, hml, hown, hts⟩ hK hH hS (c_X8_count l G μ237 n17 x rb u0 13 hD (by omega)) (cwV 1 hts gL_isPrintSo_X8_count rfl rfl rfl (by decide +kernel) ⟨(Nat.le_of_ble_eq_true rfl), (Nat.le_of_ble_eq_true rfl)⟩) hD.1 rfl rfl rfl rfl hl.1 (Nat.le_of_ble_eq_true rfl) dL_isPrintSo_156 ⟨(Nat.le_of_ble_eq_true rfl), (Nat.le_of_ble_eq_true rfl)⟩ (fun z276 μ273 n274 H locs hz276 hp275 hH hS => ?_)
            obtain ⟨hz2, hm2, hn2⟩ := hp275
            have hz2 := hz2.trans (show a_count u0 13 = ((aD u0).1 0) from cnt_13 u0)
            rw [hm2, hn2] at hH
            rw [hz2] at hz276
            rw [hz2]
            clear hz2 hm2 hn2
            refine j_icmp_lt (tgt := 173) hx hb dL_isPrintSo_159 (by decide) (fun c277 => ?_) (fun c277 => absurd c277 (by omega)) (by omega) (by omega)
            refine j_const hx hb dL_isPrintSo_173 ?_
            refine lv_goto (tgt := 178) hx hb dL_isPrintSo_174 (by decide) ?_
            refine j_iadd hx hb dL_isPrintSo_178 ?_
            refine lv_istore (lv' := [(4, .int (iv (un + 1))), (3, .int (iv sm)), (2, .int (iv ((fbN (aD u0).1 k P + 2 ^ P : Nat) : Int))), (11, .int (iv dk)), (0, .ref x), (1, .int (iv k)), (5, .int (iv (shw (aD u0).1 6))), (6, .int (iv ((aD u0).1 4))), (7, .ref n), (8, .ref n11), (9, .ref n14), (10, .int (iv i))]) hx hb dL_isPrintSo_179 hl (by decide) rfl (fun ls hl => ?_)
            have hP1 : (i + 1).toNat = P + 1 := by omega
            have hfn : ((fbN (aD u0).1 k P + 2 ^ P : Nat) : Int) = (fbN (aD u0).1 k (i + 1).toNat : Int) := by rw [hP1, fbN_y hf_]
            have hsn : sm = (sbN (aD u0).1 k (i + 1).toNat : Int) := by rw [hP1, sbN_n hs_, hsm, ← hP]
            have hunn : (un + 1) = ucl (aD u0).1 k (i + 1).toNat := by
              rw [hP1, hun, ← hP]
              show _ = ucl (aD u0).1 k P + (if drk (aD u0).1 P k < (aD u0).1 0 ∨ (aD u0).1 1 < drk (aD u0).1 P k then 1 else 0)
              rw [if_pos (Or.inl hf_)]
            have hB7 : μ237 n = some (.inl (G.2.1 0, 6, .inl (fun j => iv ((pfx (atW (aD u0).1) (i + 1).toNat) j)))) := by rw [show (i + 1).toNat = i.toNat + 1 by omega]; exact hA7
            have hB8 : μ237 n11 = some (.inl (G.2.1 0, 6, .inl (fun j => iv ((pfx (atD (aD u0).1) (i + 1).toNat) j)))) := by rw [show (i + 1).toNat = i.toNat + 1 by omega]; exact hA8
            have hB9 : μ237 n14 = some (.inl (G.2.1 0, 6, .inl (fun j => iv ((pfx (atL (aD u0).1) (i + 1).toNat) j)))) := by rw [show (i + 1).toNat = i.toNat + 1 by omega]; exact hA9
            refine j_iinc (lv' := [(10, .int (iv (i + 1))), (4, .int (iv (un + 1))), (3, .int (iv sm)), (2, .int (iv ((fbN (aD u0).1 k P + 2 ^ P : Nat) : Int))), (11, .int (iv dk)), (0, .ref x), (1, .int (iv k)), (5, .int (iv (shw (aD u0).1 6))), (6, .int (iv ((aD u0).1 4))), (7, .ref n), (8, .ref n11), (9, .ref n14)]) hx hb dL_isPrintSo_181 hl (k := 11) rfl (by decide) rfl (fun ls hl => ?_)
            refine lv_goto (tgt := 41) hx hb dL_isPrintSo_184 (by decide) ?_
            exact ih18 (i + 1) ((fbN (aD u0).1 k P + 2 ^ P : Nat) : Int) sm (un + 1) μ237 (by omega) hfn hsn hunn hD hB7 hB8 hB9 (by omega) H locs ls hH hS (lv_sub hl [5, 6, 3, 2, 1, 7, 8, 9, 10, 11, 0] rfl)
          · skip
            have hs_ : (aD u0).1 1 < drk (aD u0).1 P k := by omega
            refine j_const hx hb dL_isPrintSo_139 ?_
            refine lv_iload hx hb dL_isPrintSo_140 (lv_at hl 11 rfl) ?_
            refine j_ishl (v := ((2 ^ P : Nat) : Int)) hx hb dL_isPrintSo_142 (by rw [hPi]; exact bit_shl P (by omega)) ?_
            refine lv_goto (tgt := 147) hx hb dL_isPrintSo_143 (by decide) ?_
            refine j_ior (v := ((sbN (aD u0).1 k P + 2 ^ P : Nat) : Int)) hx hb dL_isPrintSo_147 (by rw [hsm, ← hP]; exact bit_or P (by omega) _ hslt) ?_
            refine lv_istore_n (lv' := [(3, .int (iv ((sbN (aD u0).1 k P + 2 ^ P : Nat) : Int))), (2, .int (iv ((fbN (aD u0).1 k P + 2 ^ P : Nat) : Int))), (11, .int (iv dk)), (0, .ref x), (1, .int (iv k)), (4, .int (iv un)), (5, .int (iv (shw (aD u0).1 6))), (6, .int (iv ((aD u0).1 4))), (7, .ref n), (8, .ref n11), (9, .ref n14), (10, .int (iv i))]) hx hb dL_isPrintSo_148 rfl hl (by decide) rfl (fun ls hl => ?_)
            refine lv_iload hx hb dL_isPrintSo_149 (lv_at hl 5 rfl) ?_
            refine lv_iload hx hb dL_isPrintSo_151 (lv_at hl 2 rfl) ?_
            refine lv_aload_n hx hb dL_isPrintSo_153 rfl (lv_at hl 3 rfl) ?_
            refine j_bipush hx hb dL_isPrintSo_154 ?_ (by decide)
            refine m_callVi (As := [.int (iv 13)]) (rest := [.int (iv dk), .int (iv un)]) ⟨hx, hb, hml, hown, hts⟩ hK hH hS (c_X8_count l G μ237 n17 x rb u0 13 hD (by omega)) (cwV 1 hts gL_isPrintSo_X8_count rfl rfl rfl (by decide +kernel) ⟨(Nat.le_of_ble_eq_true rfl), (Nat.le_of_ble_eq_true rfl)⟩) hD.1 rfl rfl rfl rfl hl.1 (Nat.le_of_ble_eq_true rfl) dL_isPrintSo_156 ⟨(Nat.le_of_ble_eq_true rfl), (Nat.le_of_ble_eq_true rfl)⟩ (fun z281 μ278 n279 H locs hz281 hp280 hH hS => ?_)
            obtain ⟨hz2, hm2, hn2⟩ := hp280
            have hz2 := hz2.trans (show a_count u0 13 = ((aD u0).1 0) from cnt_13 u0)
            rw [hm2, hn2] at hH
            rw [hz2] at hz281
            rw [hz2]
            clear hz2 hm2 hn2
            refine j_icmp_lt (tgt := 173) hx hb dL_isPrintSo_159 (by decide) (fun c282 => ?_) (fun c282 => absurd c282 (by omega)) (by omega) (by omega)
            refine j_const hx hb dL_isPrintSo_173 ?_
            refine lv_goto (tgt := 178) hx hb dL_isPrintSo_174 (by decide) ?_
            refine j_iadd hx hb dL_isPrintSo_178 ?_
            refine lv_istore (lv' := [(4, .int (iv (un + 1))), (3, .int (iv ((sbN (aD u0).1 k P + 2 ^ P : Nat) : Int))), (2, .int (iv ((fbN (aD u0).1 k P + 2 ^ P : Nat) : Int))), (11, .int (iv dk)), (0, .ref x), (1, .int (iv k)), (5, .int (iv (shw (aD u0).1 6))), (6, .int (iv ((aD u0).1 4))), (7, .ref n), (8, .ref n11), (9, .ref n14), (10, .int (iv i))]) hx hb dL_isPrintSo_179 hl (by decide) rfl (fun ls hl => ?_)
            have hP1 : (i + 1).toNat = P + 1 := by omega
            have hfn : ((fbN (aD u0).1 k P + 2 ^ P : Nat) : Int) = (fbN (aD u0).1 k (i + 1).toNat : Int) := by rw [hP1, fbN_y hf_]
            have hsn : ((sbN (aD u0).1 k P + 2 ^ P : Nat) : Int) = (sbN (aD u0).1 k (i + 1).toNat : Int) := by rw [hP1, sbN_y hs_]
            have hunn : (un + 1) = ucl (aD u0).1 k (i + 1).toNat := by
              rw [hP1, hun, ← hP]
              show _ = ucl (aD u0).1 k P + (if drk (aD u0).1 P k < (aD u0).1 0 ∨ (aD u0).1 1 < drk (aD u0).1 P k then 1 else 0)
              rw [if_pos (Or.inl hf_)]
            have hB7 : μ237 n = some (.inl (G.2.1 0, 6, .inl (fun j => iv ((pfx (atW (aD u0).1) (i + 1).toNat) j)))) := by rw [show (i + 1).toNat = i.toNat + 1 by omega]; exact hA7
            have hB8 : μ237 n11 = some (.inl (G.2.1 0, 6, .inl (fun j => iv ((pfx (atD (aD u0).1) (i + 1).toNat) j)))) := by rw [show (i + 1).toNat = i.toNat + 1 by omega]; exact hA8
            have hB9 : μ237 n14 = some (.inl (G.2.1 0, 6, .inl (fun j => iv ((pfx (atL (aD u0).1) (i + 1).toNat) j)))) := by rw [show (i + 1).toNat = i.toNat + 1 by omega]; exact hA9
            refine j_iinc (lv' := [(10, .int (iv (i + 1))), (4, .int (iv (un + 1))), (3, .int (iv ((sbN (aD u0).1 k P + 2 ^ P : Nat) : Int))), (2, .int (iv ((fbN (aD u0).1 k P + 2 ^ P : Nat) : Int))), (11, .int (iv dk)), (0, .ref x), (1, .int (iv k)), (5, .int (iv (shw (aD u0).1 6))), (6, .int (iv ((aD u0).1 4))), (7, .ref n), (8, .ref n11), (9, .ref n14)]) hx hb dL_isPrintSo_181 hl (k := 11) rfl (by decide) rfl (fun ls hl => ?_)
            refine lv_goto (tgt := 41) hx hb dL_isPrintSo_184 (by decide) ?_
            exact ih18 (i + 1) ((fbN (aD u0).1 k P + 2 ^ P : Nat) : Int) ((sbN (aD u0).1 k P + 2 ^ P : Nat) : Int) (un + 1) μ237 (by omega) hfn hsn hunn hD hB7 hB8 hB9 (by omega) H locs ls hH hS (lv_sub hl [5, 6, 3, 2, 1, 7, 8, 9, 10, 11, 0] rfl)
  exact lp41 (7) 0 0 0 0 μ15 (by omega) rfl rfl rfl hD hA7 hA8 hA9 (by omega) H locs ls hH hS (lv_sub hl [9, 10, 8, 7, 6, 5, 4, 3, 2, 1, 0] rfl)
