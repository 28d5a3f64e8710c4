abbrev rm_c_X2_dropOldest : Room := { frames := 0, cells := 0, slots := 0, locals := 0 }
set_option maxHeartbeats 4000000 in
set_option maxRecDepth 100000 in
theorem c_X2_dropOldest (l : Launch) (G : wG) (μ : hM) (n : Nat) (h : Nat) (ρ : Nat → Nat) (sz : Int) (πs : Nat → Nat → Nat) (σs : Nat → Nat → Int) (fps sps : Nat → Int) (rds : Nat → Option Nat) (hL : IsHist G μ h ρ sz πs σs fps sps rds) : Met l yX2_dropOldest wsX2_dropOldest rm_c_X2_dropOldest (mPc G μ n [.ref h]) (mQv G (fun μ1 n1 => IsHist G μ1 h (rot ρ) 3 (rot πs) (rot σs) (rot fps) (rot sps) (rot rds) ∧ (∀ q, (q < h ∨ h + 118 ≤ q) → μ1 q = μ q))) 0 0 (gA G) := by
  refine Met.ofW (cc := cX2_dropOldest) (maxL := 3) (ret := none) (by decide) rfl ?_
  intro p e s m args below meth c s₁ B hml hv
  obtain ⟨hav, hK, hH⟩ := hv
  have hx := B.exec
  have hb := B.bytes
  have hr := B.returns
  have hts := atoms_spec (ws := wsX2_dropOldest) B.pre
  have hown : s.vm.findClass RX2 = some m.cls := findClass_of_methodNamed B.named
  have hlocks := B.notSynchronized
  have hS : va_S (gA G) s.heap s.heap [] := va_S.rf
  have hl := lv_entry ([.ref h]) (n := 3) (Nat.le_of_ble_eq_true rfl)
  have hfr : entryFrame m args 3 = entryFrame m ([.ref h] : List Value).toArray 3 := by rw [hav]
  rw [hfr, lg_entry_eq]
  generalize (lg_sl ([.ref h]) ++ List.replicate (3 - (lg_sl ([.ref h])).length) Slot.unset).toArray = ls at hl ⊢
  have hl : lv_has ls 3 [(0, .ref h)] := hl
  generalize hQ : MQ below _ args s 0 0 (gA G) = Q
  show W p l e rm_c_X2_dropOldest s m args below meth c s.heap [] 0 0 Q (F0 m 0 ls [])
  obtain ⟨H, hHe⟩ : ∃ H, H = s.heap := ⟨_, rfl⟩
  obtain ⟨locs, hlo⟩ : ∃ q : List Loc, q = [] := ⟨_, rfl⟩
  have hH : gP G μ n H := by rw [hHe]; exact hH
  have hS : va_S (gA G) s.heap H locs := by rw [hHe, hlo]; exact hS
  suffices hgo : W p l e rm_c_X2_dropOldest s m args below meth c H locs 0 0 Q (F0 m 0 ls []) by rw [hHe, hlo] at hgo; exact hgo
  clear hHe hlo hfr hav
  have f_0 := hts (.fieldLink RX2 11 "StampDater$History" "states" "[LStampDater$State;") (List.mem_of_getElem? (i := 1) rfl)
  have i_X2 : ∀ w ∈ u_ws RX2 TX2 2, w ∈ wsX2_dropOldest := by decide +kernel
  have f_2 := hts (.fieldLink RX2 18 "StampDater$History" "size" "I") (List.mem_of_getElem? (i := 2) rfl)
  have hA := hL.1
  have hB := hL.2.1
  have hO0 := (hL.2.2.1 0 (by omega)).1
  have hO1 := (hL.2.2.1 1 (by omega)).1
  have hO2 := (hL.2.2.1 2 (by omega)).1
  have hO3 := (hL.2.2.1 3 (by omega)).1
  refine lv_aload_n hx hb dX2_dropOldest_0 rfl (lv_at hl 0 rfl) ?_
  refine m_get (C := RX2) (T := TX2) (N := 2) (ci := 1) hx hb hts i_X2 hown hK hH hA rfl 0 (by decide) f_0 rfl dX2_dropOldest_1 ?_
  refine j_const hx hb dX2_dropOldest_4 ?_
  refine m_aald (b := (h + 2 + 29 * ρ 0)) hx hb hK hH 4 hB rfl rfl dX2_dropOldest_5 ?_ (by omega) (by omega)
  refine lv_astore_n (lv' := [(1, .ref (h + 2 + 29 * ρ 0)), (0, .ref h)]) hx hb dX2_dropOldest_6 rfl hl (by decide) rfl (fun ls hl => ?_)
  refine j_const hx hb dX2_dropOldest_7 ?_
  refine lv_istore_n (lv' := [(2, .int (iv 1)), (1, .ref (h + 2 + 29 * ρ 0)), (0, .ref h)]) hx hb dX2_dropOldest_8 rfl hl (by decide) rfl (fun ls hl => ?_)
  refine lv_iload_n hx hb dX2_dropOldest_9 rfl (lv_at hl 0 rfl) ?_
  refine j_const hx hb dX2_dropOldest_10 ?_
  refine j_icmp_ge (tgt := 34) hx hb dX2_dropOldest_11 (by decide) (fun c1 => absurd c1 (by omega)) (fun c1 => ?_) (by omega) (by omega)
  refine lv_aload_n hx hb dX2_dropOldest_14 rfl (lv_at hl 2 rfl) ?_
  refine m_get (C := RX2) (T := TX2) (N := 2) (ci := 1) hx hb hts i_X2 hown hK hH hA rfl 0 (by decide) f_0 rfl dX2_dropOldest_15 ?_
  refine lv_iload_n hx hb dX2_dropOldest_18 rfl (lv_at hl 0 rfl) ?_
  refine j_const hx hb dX2_dropOldest_19 ?_
  refine j_isub hx hb dX2_dropOldest_20 ?_
  refine j_norm (y := 0) (by decide) ?_
  refine lv_aload_n hx hb dX2_dropOldest_21 rfl (lv_at hl 2 rfl) ?_
  refine m_get (C := RX2) (T := TX2) (N := 2) (ci := 1) hx hb hts i_X2 hown hK hH hA rfl 0 (by decide) f_0 rfl dX2_dropOldest_22 ?_
  refine lv_iload_n hx hb dX2_dropOldest_25 rfl (lv_at hl 0 rfl) ?_
  refine m_aald (b := (h + 2 + 29 * ρ 1)) hx hb hK hH 4 hB rfl rfl dX2_dropOldest_26 ?_ (by omega) (by omega)
  refine m_aast hx hb hK hH hS 4 5 hB rfl hO1 rfl dX2_dropOldest_27 (fun H locs hH hS => ?_) (by omega) (by omega)
  have hA := hu_n' (a := (h + 1)) (e := (.inl (G.2.1 4, 4, .inr (.inr (.inr (.inr (qu (fun r => some (h + 2 + 29 * ρ r)) 0 (h + 2 + 29 * ρ 1)))))))) (by omega) hA
  have hO0 := hu_n' (a := (h + 1)) (e := (.inl (G.2.1 4, 4, .inr (.inr (.inr (.inr (qu (fun r => some (h + 2 + 29 * ρ r)) 0 (h + 2 + 29 * ρ 1)))))))) (by omega) hO0
  have hO1 := hu_n' (a := (h + 1)) (e := (.inl (G.2.1 4, 4, .inr (.inr (.inr (.inr (qu (fun r => some (h + 2 + 29 * ρ r)) 0 (h + 2 + 29 * ρ 1)))))))) (by omega) hO1
  have hO2 := hu_n' (a := (h + 1)) (e := (.inl (G.2.1 4, 4, .inr (.inr (.inr (.inr (qu (fun r => some (h + 2 + 29 * ρ r)) 0 (h + 2 + 29 * ρ 1)))))))) (by omega) hO2
  have hO3 := hu_n' (a := (h + 1)) (e := (.inl (G.2.1 4, 4, .inr (.inr (.inr (.inr (qu (fun r => some (h + 2 + 29 * ρ r)) 0 (h + 2 + 29 * ρ 1)))))))) (by omega) hO3
  have hB : (hu μ (h + 1) (.inl (G.2.1 4, 4, .inr (.inr (.inr (.inr (qu (fun r => some (h + 2 + 29 * ρ r)) 0 (h + 2 + 29 * ρ 1)))))))) (h + 1) = some (.inl (G.2.1 4, 4, .inr (.inr (.inr (.inr (qu (fun r => some (h + 2 + 29 * ρ r)) 0 (h + 2 + 29 * ρ 1))))))) := hu_s
  have hH : gP G (hu μ (h + 1) (.inl (G.2.1 4, 4, .inr (.inr (.inr (.inr (qu (fun r => some (h + 2 + 29 * ρ r)) 0 (h + 2 + 29 * ρ 1)))))))) n H := hH
  refine j_iinc (lv' := [(2, .int (iv 2)), (1, .ref (h + 2 + 29 * ρ 0)), (0, .ref h)]) hx hb dX2_dropOldest_28 hl (k := 0) rfl (by decide) rfl (fun ls hl => ?_)
  refine lv_goto (tgt := 9) hx hb dX2_dropOldest_31 (by decide) ?_
  refine lv_iload_n hx hb dX2_dropOldest_9 rfl (lv_at hl 0 rfl) ?_
  refine j_const hx hb dX2_dropOldest_10 ?_
  refine j_icmp_ge (tgt := 34) hx hb dX2_dropOldest_11 (by decide) (fun c2 => absurd c2 (by omega)) (fun c2 => ?_) (by omega) (by omega)
  refine lv_aload_n hx hb dX2_dropOldest_14 rfl (lv_at hl 2 rfl) ?_
  refine m_get (C := RX2) (T := TX2) (N := 2) (ci := 1) hx hb hts i_X2 hown hK hH hA rfl 0 (by decide) f_0 rfl dX2_dropOldest_15 ?_
  refine lv_iload_n hx hb dX2_dropOldest_18 rfl (lv_at hl 0 rfl) ?_
  refine j_const hx hb dX2_dropOldest_19 ?_
  refine j_isub hx hb dX2_dropOldest_20 ?_
  refine j_norm (y := 1) (by decide) ?_
  refine lv_aload_n hx hb dX2_dropOldest_21 rfl (lv_at hl 2 rfl) ?_
  refine m_get (C := RX2) (T := TX2) (N := 2) (ci := 1) hx hb hts i_X2 hown hK hH hA rfl 0 (by decide) f_0 rfl dX2_dropOldest_22 ?_
  refine lv_iload_n hx hb dX2_dropOldest_25 rfl (lv_at hl 0 rfl) ?_
  refine m_aald (b := (h + 2 + 29 * ρ 2)) hx hb hK hH 4 hB rfl rfl dX2_dropOldest_26 ?_ (by omega) (by omega)
  refine m_aast hx hb hK hH hS 4 5 hB rfl hO2 rfl dX2_dropOldest_27 (fun H locs hH hS => ?_) (by omega) (by omega)
  have hA := hu_n' (a := (h + 1)) (e := (.inl (G.2.1 4, 4, .inr (.inr (.inr (.inr (qu (qu (fun r => some (h + 2 + 29 * ρ r)) 0 (h + 2 + 29 * ρ 1)) 1 (h + 2 + 29 * ρ 2)))))))) (by omega) hA
  have hO0 := hu_n' (a := (h + 1)) (e := (.inl (G.2.1 4, 4, .inr (.inr (.inr (.inr (qu (qu (fun r => some (h + 2 + 29 * ρ r)) 0 (h + 2 + 29 * ρ 1)) 1 (h + 2 + 29 * ρ 2)))))))) (by omega) hO0
  have hO1 := hu_n' (a := (h + 1)) (e := (.inl (G.2.1 4, 4, .inr (.inr (.inr (.inr (qu (qu (fun r => some (h + 2 + 29 * ρ r)) 0 (h + 2 + 29 * ρ 1)) 1 (h + 2 + 29 * ρ 2)))))))) (by omega) hO1
  have hO2 := hu_n' (a := (h + 1)) (e := (.inl (G.2.1 4, 4, .inr (.inr (.inr (.inr (qu (qu (fun r => some (h + 2 + 29 * ρ r)) 0 (h + 2 + 29 * ρ 1)) 1 (h + 2 + 29 * ρ 2)))))))) (by omega) hO2
  have hO3 := hu_n' (a := (h + 1)) (e := (.inl (G.2.1 4, 4, .inr (.inr (.inr (.inr (qu (qu (fun r => some (h + 2 + 29 * ρ r)) 0 (h + 2 + 29 * ρ 1)) 1 (h + 2 + 29 * ρ 2)))))))) (by omega) hO3
  have hB : (hu (hu μ (h + 1) (.inl (G.2.1 4, 4, .inr (.inr (.inr (.inr (qu (fun r => some (h + 2 + 29 * ρ r)) 0 (h + 2 + 29 * ρ 1)))))))) (h + 1) (.inl (G.2.1 4, 4, .inr (.inr (.inr (.inr (qu (qu (fun r => some (h + 2 + 29 * ρ r)) 0 (h + 2 + 29 * ρ 1)) 1 (h + 2 + 29 * ρ 2)))))))) (h + 1) = some (.inl (G.2.1 4, 4, .inr (.inr (.inr (.inr (qu (qu (fun r => some (h + 2 + 29 * ρ r)) 0 (h + 2 + 29 * ρ 1)) 1 (h + 2 + 29 * ρ 2))))))) := hu_s
  have hH : gP G (hu (hu μ (h + 1) (.inl (G.2.1 4, 4, .inr (.inr (.inr (.inr (qu (fun r => some (h + 2 + 29 * ρ r)) 0 (h + 2 + 29 * ρ 1)))))))) (h + 1) (.inl (G.2.1 4, 4, .inr (.inr (.inr (.inr (qu (qu (fun r => some (h + 2 + 29 * ρ r)) 0 (h + 2 + 29 * ρ 1)) 1 (h + 2 + 29 * ρ 2)))))))) n H := hH
  refine j_iinc (lv' := [(2, .int (iv 3)), (1, .ref (h + 2 + 29 * ρ 0)), (0, .ref h)]) hx hb dX2_dropOldest_28 hl (k := 0) rfl (by decide) rfl (fun ls hl => ?_)
  refine lv_goto (tgt := 9) hx hb dX2_dropOldest_31 (by decide) ?_
  refine lv_iload_n hx hb dX2_dropOldest_9 rfl (lv_at hl 0 rfl) ?_
  refine j_const hx hb dX2_dropOldest_10 ?_
  refine j_icmp_ge (tgt := 34) hx hb dX2_dropOldest_11 (by decide) (fun c3 => absurd c3 (by omega)) (fun c3 => ?_) (by omega) (by omega)
  refine lv_aload_n hx hb dX2_dropOldest_14 rfl (lv_at hl 2 rfl) ?_
  refine m_get (C := RX2) (T := TX2) (N := 2) (ci := 1) hx hb hts i_X2 hown hK hH hA rfl 0 (by decide) f_0 rfl dX2_dropOldest_15 ?_
  refine lv_iload_n hx hb dX2_dropOldest_18 rfl (lv_at hl 0 rfl) ?_
  refine j_const hx hb dX2_dropOldest_19 ?_
  refine j_isub hx hb dX2_dropOldest_20 ?_
  refine j_norm (y := 2) (by decide) ?_
  refine lv_aload_n hx hb dX2_dropOldest_21 rfl (lv_at hl 2 rfl) ?_
  refine m_get (C := RX2) (T := TX2) (N := 2) (ci := 1) hx hb hts i_X2 hown hK hH hA rfl 0 (by decide) f_0 rfl dX2_dropOldest_22 ?_
  refine lv_iload_n hx hb dX2_dropOldest_25 rfl (lv_at hl 0 rfl) ?_
  refine m_aald (b := (h + 2 + 29 * ρ 3)) hx hb hK hH 4 hB rfl rfl dX2_dropOldest_26 ?_ (by omega) (by omega)
  refine m_aast hx hb hK hH hS 4 5 hB rfl hO3 rfl dX2_dropOldest_27 (fun H locs hH hS => ?_) (by omega) (by omega)
  have hA := hu_n' (a := (h + 1)) (e := (.inl (G.2.1 4, 4, .inr (.inr (.inr (.inr (qu (qu (qu (fun r => some (h + 2 + 29 * ρ r)) 0 (h + 2 + 29 * ρ 1)) 1 (h + 2 + 29 * ρ 2)) 2 (h + 2 + 29 * ρ 3)))))))) (by omega) hA
  have hO0 := hu_n' (a := (h + 1)) (e := (.inl (G.2.1 4, 4, .inr (.inr (.inr (.inr (qu (qu (qu (fun r => some (h + 2 + 29 * ρ r)) 0 (h + 2 + 29 * ρ 1)) 1 (h + 2 + 29 * ρ 2)) 2 (h + 2 + 29 * ρ 3)))))))) (by omega) hO0
  have hO1 := hu_n' (a := (h + 1)) (e := (.inl (G.2.1 4, 4, .inr (.inr (.inr (.inr (qu (qu (qu (fun r => some (h + 2 + 29 * ρ r)) 0 (h + 2 + 29 * ρ 1)) 1 (h + 2 + 29 * ρ 2)) 2 (h + 2 + 29 * ρ 3)))))))) (by omega) hO1
  have hO2 := hu_n' (a := (h + 1)) (e := (.inl (G.2.1 4, 4, .inr (.inr (.inr (.inr (qu (qu (qu (fun r => some (h + 2 + 29 * ρ r)) 0 (h + 2 + 29 * ρ 1)) 1 (h + 2 + 29 * ρ 2)) 2 (h + 2 + 29 * ρ 3)))))))) (by omega) hO2
  have hO3 := hu_n' (a := (h + 1)) (e := (.inl (G.2.1 4, 4, .inr (.inr (.inr (.inr (qu (qu (qu (fun r => some (h + 2 + 29 * ρ r)) 0 (h + 2 + 29 * ρ 1)) 1 (h + 2 + 29 * ρ 2)) 2 (h + 2 + 29 * ρ 3)))))))) (by omega) hO3
  have hB : (hu (hu (hu μ (h + 1) (.inl (G.2.1 4, 4, .inr (.inr (.inr (.inr (qu (fun r => some (h + 2 + 29 * ρ r)) 0 (h + 2 + 29 * ρ 1)))))))) (h + 1) (.inl (G.2.1 4, 4, .inr (.inr (.inr (.inr (qu (qu (fun r => some (h + 2 + 29 * ρ r)) 0 (h + 2 + 29 * ρ 1)) 1 (h + 2 + 29 * ρ 2)))))))) (h + 1) (.inl (G.2.1 4, 4, .inr (.inr (.inr (.inr (qu (qu (qu (fun r => some (h + 2 + 29 * ρ r)) 0 (h + 2 + 29 * ρ 1)) 1 (h + 2 + 29 * ρ 2)) 2 (h + 2 + 29 * ρ 3)))))))) (h + 1) = some (.inl (G.2.1 4, 4, .inr (.inr (.inr (.inr (qu (qu (qu (fun r => some (h + 2 + 29 * ρ r)) 0 (h + 2 + 29 * ρ 1)) 1 (h + 2 + 29 * ρ 2)) 2 (h + 2 + 29 * ρ 3))))))) := hu_s
  have hH : gP G (hu (hu (hu μ (h + 1) (.inl (G.2.1 4, 4, .inr (.inr (.inr (.inr (qu (fun r => some (h + 2 + 29 * ρ r)) 0 (h + 2 + 29 * ρ 1)))))))) (h + 1) (.inl (G.2.1 4, 4, .inr (.inr (.inr (.inr (qu (qu (fun r => some (h + 2 + 29 * ρ r)) 0 (h + 2 + 29 * ρ 1)) 1 (h + 2 + 29 * ρ 2)))))))) (h + 1) (.inl (G.2.1 4, 4, .inr (.inr (.inr (.inr (qu (qu (qu (fun r => some (h + 2 + 29 * ρ r)) 0 (h + 2 + 29 * ρ 1)) 1 (h + 2 + 29 * ρ 2)) 2 (h + 2 + 29 * ρ 3)))))))) n H := hH
  refine j_iinc (lv' := [(2, .int (iv 4)), (1, .ref (h + 2 + 29 * ρ 0)), (0, .ref h)]) hx hb dX2_dropOldest_28 hl (k := 0) rfl (by decide) rfl (fun ls hl => ?_)
  refine lv_goto (tgt := 9) hx hb dX2_dropOldest_31 (by decide) ?_
  refine lv_iload_n hx hb dX2_dropOldest_9 rfl (lv_at hl 0 rfl) ?_
  refine j_const hx hb dX2_dropOldest_10 ?_
  refine j_icmp_ge (tgt := 34) hx hb dX2_dropOldest_11 (by decide) (fun c4 => ?_) (fun c4 => absurd c4 (by omega)) (by omega) (by omega)
  refine lv_aload_n hx hb dX2_dropOldest_34 rfl (lv_at hl 2 rfl) ?_
  refine m_get (C := RX2) (T := TX2) (N := 2) (ci := 1) hx hb hts i_X2 hown hK hH hA rfl 0 (by decide) f_0 rfl dX2_dropOldest_35 ?_
  refine j_const hx hb dX2_dropOldest_38 ?_
  refine lv_aload_n hx hb dX2_dropOldest_39 rfl (lv_at hl 1 rfl) ?_
  refine m_aast hx hb hK hH hS 4 5 hB rfl hO0 rfl dX2_dropOldest_40 (fun H locs hH hS => ?_) (by omega) (by omega)
  have hA := hu_n' (a := (h + 1)) (e := (.inl (G.2.1 4, 4, .inr (.inr (.inr (.inr (qu (qu (qu (qu (fun r => some (h + 2 + 29 * ρ r)) 0 (h + 2 + 29 * ρ 1)) 1 (h + 2 + 29 * ρ 2)) 2 (h + 2 + 29 * ρ 3)) 3 (h + 2 + 29 * ρ 0)))))))) (by omega) hA
  have hO0 := hu_n' (a := (h + 1)) (e := (.inl (G.2.1 4, 4, .inr (.inr (.inr (.inr (qu (qu (qu (qu (fun r => some (h + 2 + 29 * ρ r)) 0 (h + 2 + 29 * ρ 1)) 1 (h + 2 + 29 * ρ 2)) 2 (h + 2 + 29 * ρ 3)) 3 (h + 2 + 29 * ρ 0)))))))) (by omega) hO0
  have hO1 := hu_n' (a := (h + 1)) (e := (.inl (G.2.1 4, 4, .inr (.inr (.inr (.inr (qu (qu (qu (qu (fun r => some (h + 2 + 29 * ρ r)) 0 (h + 2 + 29 * ρ 1)) 1 (h + 2 + 29 * ρ 2)) 2 (h + 2 + 29 * ρ 3)) 3 (h + 2 + 29 * ρ 0)))))))) (by omega) hO1
  have hO2 := hu_n' (a := (h + 1)) (e := (.inl (G.2.1 4, 4, .inr (.inr (.inr (.inr (qu (qu (qu (qu (fun r => some (h + 2 + 29 * ρ r)) 0 (h + 2 + 29 * ρ 1)) 1 (h + 2 + 29 * ρ 2)) 2 (h + 2 + 29 * ρ 3)) 3 (h + 2 + 29 * ρ 0)))))))) (by omega) hO2
  have hO3 := hu_n' (a := (h + 1)) (e := (.inl (G.2.1 4, 4, .inr (.inr (.inr (.inr (qu (qu (qu (qu (fun r => some (h + 2 + 29 * ρ r)) 0 (h + 2 + 29 * ρ 1)) 1 (h + 2 + 29 * ρ 2)) 2 (h + 2 + 29 * ρ 3)) 3 (h + 2 + 29 * ρ 0)))))))) (by omega) hO3
  have hB : (hu (hu (hu (hu μ (h + 1) (.inl (G.2.1 4, 4, .inr (.inr (.inr (.inr (qu (fun r => some (h + 2 + 29 * ρ r)) 0 (h + 2 + 29 * ρ 1)))))))) (h + 1) (.inl (G.2.1 4, 4, .inr (.inr (.inr (.inr (qu (qu (fun r => some (h + 2 + 29 * ρ r)) 0 (h + 2 + 29 * ρ 1)) 1 (h + 2 + 29 * ρ 2)))))))) (h + 1) (.inl (G.2.1 4, 4, .inr (.inr (.inr (.inr (qu (qu (qu (fun r => some (h + 2 + 29 * ρ r)) 0 (h + 2 + 29 * ρ 1)) 1 (h + 2 + 29 * ρ 2)) 2 (h + 2 + 29 * ρ 3)))))))) (h + 1) (.inl (G.2.1 4, 4, .inr (.inr (.inr (.inr (qu (qu (qu (qu (fun r => some (h + 2 + 29 * ρ r)) 0 (h + 2 + 29 * ρ 1)) 1 (h + 2 + 29 * ρ 2)) 2 (h + 2 + 29 * ρ 3)) 3 (h + 2 + 29 * ρ 0)))))))) (h + 1) = some (.inl (G.2.1 4, 4, .inr (.inr (.inr (.inr (qu (qu (qu (qu (fun r => some (h + 2 + 29 * ρ r)) 0 (h + 2 + 29 * ρ 1)) 1 (h + 2 + 29 * ρ 2)) 2 (h + 2 + 29 * ρ 3)) 3 (h + 2 + 29 * ρ 0))))))) := hu_s
  have hH : gP G (hu (hu (hu (hu μ (h + 1) (.inl (G.2.1 4, 4, .inr (.inr (.inr (.inr (qu (fun r => some (h + 2 + 29 * ρ r)) 0 (h + 2 + 29 * ρ 1)))))))) (h + 1) (.inl (G.2.1 4, 4, .inr (.inr (.inr (.inr (qu (qu (fun r => some (h + 2 + 29 * ρ r)) 0 (h + 2 + 29 * ρ 1)) 1 (h + 2 + 29 * ρ 2)))))))) (h + 1) (.inl (G.2.1 4, 4, .inr (.inr (.inr (.inr (qu (qu (qu (fun r => some (h + 2 + 29 * ρ r)) 0 (h + 2 + 29 * ρ 1)) 1 (h + 2 + 29 * ρ 2)) 2 (h + 2 + 29 * ρ 3)))))))) (h + 1) (.inl (G.2.1 4, 4, .inr (.inr (.inr (.inr (qu (qu (qu (qu (fun r => some (h + 2 + 29 * ρ r)) 0 (h + 2 + 29 * ρ 1)) 1 (h + 2 + 29 * ρ 2)) 2 (h + 2 + 29 * ρ 3)) 3 (h + 2 + 29 * ρ 0)))))))) n H := hH
  refine lv_aload_n hx hb dX2_dropOldest_41 rfl (lv_at hl 2 rfl) ?_
  refine j_const hx hb dX2_dropOldest_42 ?_
  refine m_put (C := RX2) (T := TX2) (N := 2) (ci := 1) hx hb hts i_X2 tyX2 tyX2_ok nmX2 hown hK hH hS hA rfl 1 (by decide) f_2 rfl rfl rfl (Nat.le_of_ble_eq_true rfl) dX2_dropOldest_43 (fun H locs hH hS => ?_)
  have hB := hu_n' (a := h) (e := (.inr (1, [.ref (h + 1), .int (iv 3)]))) (by omega) hB
  have hO0 := hu_n' (a := h) (e := (.inr (1, [.ref (h + 1), .int (iv 3)]))) (by omega) hO0
  have hO1 := hu_n' (a := h) (e := (.inr (1, [.ref (h + 1), .int (iv 3)]))) (by omega) hO1
  have hO2 := hu_n' (a := h) (e := (.inr (1, [.ref (h + 1), .int (iv 3)]))) (by omega) hO2
  have hO3 := hu_n' (a := h) (e := (.inr (1, [.ref (h + 1), .int (iv 3)]))) (by omega) hO3
  have hA : (hu (hu (hu (hu (hu μ (h + 1) (.inl (G.2.1 4, 4, .inr (.inr (.inr (.inr (qu (fun r => some (h + 2 + 29 * ρ r)) 0 (h + 2 + 29 * ρ 1)))))))) (h + 1) (.inl (G.2.1 4, 4, .inr (.inr (.inr (.inr (qu (qu (fun r => some (h + 2 + 29 * ρ r)) 0 (h + 2 + 29 * ρ 1)) 1 (h + 2 + 29 * ρ 2)))))))) (h + 1) (.inl (G.2.1 4, 4, .inr (.inr (.inr (.inr (qu (qu (qu (fun r => some (h + 2 + 29 * ρ r)) 0 (h + 2 + 29 * ρ 1)) 1 (h + 2 + 29 * ρ 2)) 2 (h + 2 + 29 * ρ 3)))))))) (h + 1) (.inl (G.2.1 4, 4, .inr (.inr (.inr (.inr (qu (qu (qu (qu (fun r => some (h + 2 + 29 * ρ r)) 0 (h + 2 + 29 * ρ 1)) 1 (h + 2 + 29 * ρ 2)) 2 (h + 2 + 29 * ρ 3)) 3 (h + 2 + 29 * ρ 0)))))))) h (.inr (1, [.ref (h + 1), .int (iv 3)]))) h = some (.inr (1, [.ref (h + 1), .int (iv 3)])) := hu_s
  have hH : gP G (hu (hu (hu (hu (hu μ (h + 1) (.inl (G.2.1 4, 4, .inr (.inr (.inr (.inr (qu (fun r => some (h + 2 + 29 * ρ r)) 0 (h + 2 + 29 * ρ 1)))))))) (h + 1) (.inl (G.2.1 4, 4, .inr (.inr (.inr (.inr (qu (qu (fun r => some (h + 2 + 29 * ρ r)) 0 (h + 2 + 29 * ρ 1)) 1 (h + 2 + 29 * ρ 2)))))))) (h + 1) (.inl (G.2.1 4, 4, .inr (.inr (.inr (.inr (qu (qu (qu (fun r => some (h + 2 + 29 * ρ r)) 0 (h + 2 + 29 * ρ 1)) 1 (h + 2 + 29 * ρ 2)) 2 (h + 2 + 29 * ρ 3)))))))) (h + 1) (.inl (G.2.1 4, 4, .inr (.inr (.inr (.inr (qu (qu (qu (qu (fun r => some (h + 2 + 29 * ρ r)) 0 (h + 2 + 29 * ρ 1)) 1 (h + 2 + 29 * ρ 2)) 2 (h + 2 + 29 * ρ 3)) 3 (h + 2 + 29 * ρ 0)))))))) h (.inr (1, [.ref (h + 1), .int (iv 3)]))) n H := hH
  subst hQ
  refine m_vret hx hb hr hlocks hH hS dX2_dropOldest_46 ?_
  have hro := hL.ro 3
  rw [← rot_qu h ρ] at hro
  refine ⟨?_, fun q hq => ?_⟩
  · rw [hu_uu, hu_uu, hu_uu]; exact hro
  · rw [hu_n (by omega), hu_n (by omega), hu_n (by omega), hu_n (by omega), hu_n (by omega)]

abbrev rm_c_X2_remember : Room := { frames := 4, cells := 0, slots := 0, locals := 92 }
set_option maxHeartbeats 4000000 in
set_option maxRecDepth 100000 in
theorem c_X2_remember (l : Launch) (G : wG) (μ : hM) (n : Nat) (h : Nat) (ρ : Nat → Nat) (sz : Int) (πs : Nat → Nat → Nat) (σs : Nat → Nat → Int) (fps sps : Nat → Int) (rds : Nat → Option Nat) (sa : Nat) (π : Nat → Nat) (σ : Nat → Int) (fp sp : Int) (rd : Option Nat) (hL : IsHist G μ h ρ sz πs σs fps sps rds) (hsz : 0 ≤ sz ∧ sz ≤ 4) (hZ : IsState G μ sa π σ fp sp rd) (hT : OkT σ) (hdis : sa + 29 ≤ h ∨ h + 118 ≤ sa) : Met l yX2_remember wsX2_remember rm_c_X2_remember (mPc G μ n [.ref h, .ref sa]) (mQv G (fun μ1 n1 => ∃ (ρ1 : Nat → Nat) (πs1 : Nat → Nat → Nat) (fps1 sps1 : Nat → Int), IsHist G μ1 h ρ1 (min 4 (sz + 1)) πs1 (hiS sz σs σ) fps1 sps1 (hiS sz rds rd) ∧ (∀ q, (q < h ∨ h + 118 ≤ q) → μ1 q = μ q))) 0 0 (gA G) := by
  refine Met.ofW (cc := cX2_remember) (maxL := 2) (ret := none) (by decide) rfl ?_
  intro p e s m args below meth c s₁ B hml hv
  obtain ⟨hav, hK, hH⟩ := hv
  have hx := B.exec
  have hb := B.bytes
  have hr := B.returns
  have hts := atoms_spec (ws := wsX2_remember) B.pre
  have hown : s.vm.findClass RX2 = some m.cls := findClass_of_methodNamed B.named
  have hlocks := B.notSynchronized
  have hS : va_S (gA G) s.heap s.heap [] := va_S.rf
  have hl := lv_entry ([.ref h, .ref sa]) (n := 2) (Nat.le_of_ble_eq_true rfl)
  have hfr : entryFrame m args 2 = entryFrame m ([.ref h, .ref sa] : List Value).toArray 2 := by rw [hav]
  rw [hfr, lg_entry_eq]
  generalize (lg_sl ([.ref h, .ref sa]) ++ List.replicate (2 - (lg_sl ([.ref h, .ref sa])).length) Slot.unset).toArray = ls at hl ⊢
  have hl : lv_has ls 2 [(0, .ref h), (1, .ref sa)] := hl
  generalize hQ : MQ below _ args s 0 0 (gA G) = Q
  show W p l e rm_c_X2_remember s m args below meth c s.heap [] 0 0 Q (F0 m 0 ls [])
  obtain ⟨H, hHe⟩ : ∃ H, H = s.heap := ⟨_, rfl⟩
  obtain ⟨locs, hlo⟩ : ∃ q : List Loc, q = [] := ⟨_, rfl⟩
  have hH : gP G μ n H := by rw [hHe]; exact hH
  have hS : va_S (gA G) s.heap H locs := by rw [hHe, hlo]; exact hS
  suffices hgo : W p l e rm_c_X2_remember s m args below meth c H locs 0 0 Q (F0 m 0 ls []) by rw [hHe, hlo] at hgo; exact hgo
  clear hHe hlo hfr hav
  have f_0 := hts (.fieldLink RX2 18 "StampDater$History" "size" "I") (List.mem_of_getElem? (i := 1) rfl)
  have i_X2 : ∀ w ∈ u_ws RX2 TX2 2, w ∈ wsX2_remember := by decide +kernel
  have f_2 := hts (.fieldLink RX2 11 "StampDater$History" "states" "[LStampDater$State;") (List.mem_of_getElem? (i := 2) rfl)
  have hfr : ∀ q, (q < h ∨ h + 118 ≤ q) → μ q = μ q := fun q _ => rfl
  refine lv_aload_n hx hb dX2_remember_0 rfl (lv_at hl 0 rfl) ?_
  refine m_get (C := RX2) (T := TX2) (N := 2) (ci := 1) hx hb hts i_X2 hown hK hH hL.1 rfl 1 (by decide) f_0 rfl dX2_remember_1 ?_
  refine j_const hx hb dX2_remember_4 ?_
  refine j_icmp_lt (tgt := 12) hx hb dX2_remember_5 (by decide) (fun c1 => ?_) (fun c1 => ?_) (by omega) (by omega)
  · skip
    refine lv_aload_n hx hb dX2_remember_12 rfl (lv_at hl 0 rfl) ?_
    refine m_get (C := RX2) (T := TX2) (N := 2) (ci := 1) hx hb hts i_X2 hown hK hH hL.1 rfl 1 (by decide) f_0 rfl dX2_remember_13 ?_
    refine j_if_lt (tgt := 50) hx hb dX2_remember_16 (by decide) (fun c2 => absurd c2 (by omega)) (fun c2 => ?_) (by omega)
    refine lv_aload_n hx hb dX2_remember_19 rfl (lv_at hl 0 rfl) ?_
    refine m_get (C := RX2) (T := TX2) (N := 2) (ci := 1) hx hb hts i_X2 hown hK hH hL.1 rfl 1 (by decide) f_0 rfl dX2_remember_20 ?_
    refine j_const hx hb dX2_remember_23 ?_
    refine j_icmp_ge (tgt := 50) hx hb dX2_remember_24 (by decide) (fun c3 => absurd c3 (by omega)) (fun c3 => ?_) (by omega) (by omega)
    refine lv_aload_n hx hb dX2_remember_27 rfl (lv_at hl 0 rfl) ?_
    refine m_get (C := RX2) (T := TX2) (N := 2) (ci := 1) hx hb hts i_X2 hown hK hH hL.1 rfl 0 (by decide) f_2 rfl dX2_remember_28 ?_
    refine lv_aload_n hx hb dX2_remember_31 rfl (lv_at hl 0 rfl) ?_
    refine m_get (C := RX2) (T := TX2) (N := 2) (ci := 1) hx hb hts i_X2 hown hK hH hL.1 rfl 1 (by decide) f_0 rfl dX2_remember_32 ?_
    refine m_aald (b := (h + 2 + 29 * ρ (sz).toNat)) hx hb hK hH 4 hL.2.1 rfl rfl dX2_remember_35 ?_ (by omega) (by omega)
    refine lv_aload_n hx hb dX2_remember_36 rfl (lv_at hl 1 rfl) ?_
    have hjr := hL.2.2.2.1 (sz).toNat (by omega)
    have hY1 := hL.2.2.1 (sz).toNat (by omega)
    refine m_callVv (As := [.ref sa]) (rest := []) ⟨hx, hb, hml, hown, hts⟩ hK hH hS (c_X6_copyState l G μ n (h + 2 + 29 * ρ (sz).toNat) (πs (sz).toNat) (σs (sz).toNat) (fps (sz).toNat) (sps (sz).toNat) (rds (sz).toNat) sa π σ fp sp rd hY1 (hL.2.2.2.2.2 (sz).toNat (by omega)) hZ hT (by omega)) (cwV 1 hts gX2_remember_X6_copyState rfl rfl rfl (by decide +kernel) ⟨(Nat.le_of_ble_eq_true rfl), (Nat.le_of_ble_eq_true rfl)⟩) hY1.1 rfl rfl rfl rfl hl.1 (Nat.le_of_ble_eq_true rfl) dX2_remember_37 ⟨Nat.zero_le _, Nat.zero_le _⟩ (fun μ4 n5 H locs hp6 hH hS => ?_)
    obtain ⟨hS1, hfr1⟩ := hp6
    have hL := hL.cp (by omega) hS1 hT hfr1
    have hfr : ∀ q, (q < h ∨ h + 118 ≤ q) → μ4 q = μ q := fun q hq => (hfr1 q (by omega)).trans (hfr q hq)
    refine lv_aload_n hx hb dX2_remember_40 rfl (lv_at hl 0 rfl) ?_
    refine lv_dup hx hb dX2_remember_41 rfl ?_
    refine m_get (C := RX2) (T := TX2) (N := 2) (ci := 1) hx hb hts i_X2 hown hK hH hL.1 rfl 1 (by decide) f_0 rfl dX2_remember_42 ?_
    refine j_const hx hb dX2_remember_45 ?_
    refine j_iadd hx hb dX2_remember_46 ?_
    refine m_put (C := RX2) (T := TX2) (N := 2) (ci := 1) hx hb hts i_X2 tyX2 tyX2_ok nmX2 hown hK hH hS hL.1 rfl 1 (by decide) f_0 rfl rfl rfl (Nat.le_of_ble_eq_true rfl) dX2_remember_47 (fun H locs hH hS => ?_)
    have hL := hL.sz (sz + 1)
    have hfr : ∀ q, (q < h ∨ h + 118 ≤ q) → (hu μ4 h (.inr (1, [.ref (h + 1), .int (iv (sz + 1))]))) q = μ q := fun q hq => (hu_n (by omega)).trans (hfr q hq)
    have hH : gP G (hu μ4 h (.inr (1, [.ref (h + 1), .int (iv (sz + 1))]))) n5 H := hH
    subst hQ
    refine m_vret hx hb hr hlocks hH hS dX2_remember_50 ?_
    have e1 : min 4 (sz + 1) = sz + 1 := by omega
    rw [e1]
    have e2 : hiS sz σs σ = fun r => if r = (sz).toNat then σ else σs r := by unfold hiS; rw [if_neg (by omega)]
    have e3 : hiS sz rds rd = fun r => if r = (sz).toNat then rd else rds r := by unfold hiS; rw [if_neg (by omega)]
    rw [e2, e3]
    exact ⟨ρ, πs, fps, sps, hL, hfr⟩
  · skip
    refine lv_aload_n hx hb dX2_remember_8 rfl (lv_at hl 0 rfl) ?_
    refine m_callVv (As := []) (rest := []) ⟨hx, hb, hml, hown, hts⟩ hK hH hS (c_X2_dropOldest l G μ n h ρ sz πs σs fps sps rds hL) (cwV 0 hts gX2_remember_X2_dropOldest rfl rfl rfl (by decide +kernel) ⟨(Nat.le_of_ble_eq_true rfl), (Nat.le_of_ble_eq_true rfl)⟩) hL.1 rfl rfl rfl rfl hl.1 (Nat.le_of_ble_eq_true rfl) dX2_remember_9 ⟨Nat.zero_le _, Nat.zero_le _⟩ (fun μ7 n8 H locs hp9 hH hS => ?_)
    obtain ⟨hL, hfr⟩ := hp9
    have hZ : IsState G μ7 sa π σ fp sp rd := hZ.fr (fun q a b => hfr q (by omega))
    refine lv_aload_n hx hb dX2_remember_12 rfl (lv_at hl 0 rfl) ?_
    refine m_get (C := RX2) (T := TX2) (N := 2) (ci := 1) hx hb hts i_X2 hown hK hH hL.1 rfl 1 (by decide) f_0 rfl dX2_remember_13 ?_
    refine j_if_lt (tgt := 50) hx hb dX2_remember_16 (by decide) (fun c10 => absurd c10 (by omega)) (fun c10 => ?_) (by omega)
    refine lv_aload_n hx hb dX2_remember_19 rfl (lv_at hl 0 rfl) ?_
    refine m_get (C := RX2) (T := TX2) (N := 2) (ci := 1) hx hb hts i_X2 hown hK hH hL.1 rfl 1 (by decide) f_0 rfl dX2_remember_20 ?_
    refine j_const hx hb dX2_remember_23 ?_
    refine j_icmp_ge (tgt := 50) hx hb dX2_remember_24 (by decide) (fun c11 => absurd c11 (by omega)) (fun c11 => ?_) (by omega) (by omega)
    refine lv_aload_n hx hb dX2_remember_27 rfl (lv_at hl 0 rfl) ?_
    refine m_get (C := RX2) (T := TX2) (N := 2) (ci := 1) hx hb hts i_X2 hown hK hH hL.1 rfl 0 (by decide) f_2 rfl dX2_remember_28 ?_
    refine lv_aload_n hx hb dX2_remember_31 rfl (lv_at hl 0 rfl) ?_
    refine m_get (C := RX2) (T := TX2) (N := 2) (ci := 1) hx hb hts i_X2 hown hK hH hL.1 rfl 1 (by decide) f_0 rfl dX2_remember_32 ?_
    refine m_aald (b := (h + 2 + 29 * (rot ρ) 3)) hx hb hK hH 4 hL.2.1 rfl rfl dX2_remember_35 ?_ (by omega) (by omega)
    refine lv_aload_n hx hb dX2_remember_36 rfl (lv_at hl 1 rfl) ?_
    have hjr := hL.2.2.2.1 (3 : Int).toNat (by omega)
    have hY1 := hL.2.2.1 (3 : Int).toNat (by omega)
    refine m_callVv (As := [.ref sa]) (rest := []) ⟨hx, hb, hml, hown, hts⟩ hK hH hS (c_X6_copyState l G μ7 n8 (h + 2 + 29 * (rot ρ) (3 : Int).toNat) ((rot πs) (3 : Int).toNat) ((rot σs) (3 : Int).toNat) ((rot fps) (3 : Int).toNat) ((rot sps) (3 : Int).toNat) ((rot rds) (3 : Int).toNat) sa π σ fp sp rd hY1 (hL.2.2.2.2.2 (3 : Int).toNat (by omega)) hZ hT (by omega)) (cwV 1 hts gX2_remember_X6_copyState rfl rfl rfl (by decide +kernel) ⟨(Nat.le_of_ble_eq_true rfl), (Nat.le_of_ble_eq_true rfl)⟩) hY1.1 rfl rfl rfl rfl hl.1 (Nat.le_of_ble_eq_true rfl) dX2_remember_37 ⟨Nat.zero_le _, Nat.zero_le _⟩ (fun μ12 n13 H locs hp14 hH hS => ?_)
    obtain ⟨hS1, hfr1⟩ := hp14
    have hL := hL.cp (by omega) hS1 hT hfr1
    have hfr : ∀ q, (q < h ∨ h + 118 ≤ q) → μ12 q = μ q := fun q hq => (hfr1 q (by omega)).trans (hfr q hq)
    refine lv_aload_n hx hb dX2_remember_40 rfl (lv_at hl 0 rfl) ?_
    refine lv_dup hx hb dX2_remember_41 rfl ?_
    refine m_get (C := RX2) (T := TX2) (N := 2) (ci := 1) hx hb hts i_X2 hown hK hH hL.1 rfl 1 (by decide) f_0 rfl dX2_remember_42 ?_
    refine j_const hx hb dX2_remember_45 ?_
    refine j_iadd hx hb dX2_remember_46 ?_
    refine j_norm (y := 4) (by decide) ?_
    refine m_put (C := RX2) (T := TX2) (N := 2) (ci := 1) hx hb hts i_X2 tyX2 tyX2_ok nmX2 hown hK hH hS hL.1 rfl 1 (by decide) f_0 rfl rfl rfl (Nat.le_of_ble_eq_true rfl) dX2_remember_47 (fun H locs hH hS => ?_)
    have hL := hL.sz 4
    have hfr : ∀ q, (q < h ∨ h + 118 ≤ q) → (hu μ12 h (.inr (1, [.ref (h + 1), .int (iv 4)]))) q = μ q := fun q hq => (hu_n (by omega)).trans (hfr q hq)
    have hH : gP G (hu μ12 h (.inr (1, [.ref (h + 1), .int (iv 4)]))) n13 H := hH
    subst hQ
    refine m_vret hx hb hr hlocks hH hS dX2_remember_50 ?_
    have e1 : min 4 (sz + 1) = 4 := by omega
    rw [e1]
    have e2 : hiS sz σs σ = fun r => if r = (3 : Int).toNat then σ else rot σs r := by unfold hiS; rw [if_pos (by omega)]; rfl
    have e3 : hiS sz rds rd = fun r => if r = (3 : Int).toNat then rd else rot rds r := by unfold hiS; rw [if_pos (by omega)]; rfl
    rw [e2, e3]
    exact ⟨rot ρ, rot πs, rot fps, rot sps, hL, hfr⟩

abbrev rm_c_X2_takeLatest : Room := { frames := 4, cells := 0, slots := 0, locals := 92 }
set_option maxHeartbeats 4000000 in
set_option maxRecDepth 100000 in
theorem c_X2_takeLatest (l : Launch) (G : wG) (μ : hM) (n : Nat) (h : Nat) (ρ : Nat → Nat) (sz : Int) (πs : Nat → Nat → Nat) (σs : Nat → Nat → Int) (fps sps : Nat → Int) (rds : Nat → Option Nat) (sa : Nat) (π : Nat → Nat) (σ : Nat → Int) (fp sp : Int) (rd : Option Nat) (hL : IsHist G μ h ρ sz πs σs fps sps rds) (hsz : 1 ≤ sz ∧ sz ≤ 4) (hZ : IsState G μ sa π σ fp sp rd) (hT : OkT σ) (hdis : sa + 29 ≤ h ∨ h + 118 ≤ sa) : Met l yX2_takeLatest wsX2_takeLatest rm_c_X2_takeLatest (mPc G μ n [.ref h, .ref sa]) (mQv G (fun μ1 n1 => IsHist G μ1 h ρ (sz - 1) πs σs fps sps rds ∧ IsState G μ1 sa π (σs (sz - 1).toNat) fp sp (rds (sz - 1).toNat) ∧ (∀ q, (q < h ∨ h + 118 ≤ q) → (q < sa ∨ sa + 29 ≤ q) → μ1 q = μ q))) 0 0 (gA G) := by
  refine Met.ofW (cc := cX2_takeLatest) (maxL := 2) (ret := none) (by decide) rfl ?_
  intro p e s m args below meth c s₁ B hml hv
  obtain ⟨hav, hK, hH⟩ := hv
  have hx := B.exec
  have hb := B.bytes
  have hr := B.returns
  have hts := atoms_spec (ws := wsX2_takeLatest) B.pre
  have hown : s.vm.findClass RX2 = some m.cls := findClass_of_methodNamed B.named
  have hlocks := B.notSynchronized
  have hS : va_S (gA G) s.heap s.heap [] := va_S.rf
  have hl := lv_entry ([.ref h, .ref sa]) (n := 2) (Nat.le_of_ble_eq_true rfl)
  have hfr : entryFrame m args 2 = entryFrame m ([.ref h, .ref sa] : List Value).toArray 2 := by rw [hav]
  rw [hfr, lg_entry_eq]
  generalize (lg_sl ([.ref h, .ref sa]) ++ List.replicate (2 - (lg_sl ([.ref h, .ref sa])).length) Slot.unset).toArray = ls at hl ⊢
  have hl : lv_has ls 2 [(0, .ref h), (1, .ref sa)] := hl
  generalize hQ : MQ below _ args s 0 0 (gA G) = Q
  show W p l e rm_c_X2_takeLatest s m args below meth c s.heap [] 0 0 Q (F0 m 0 ls [])
  obtain ⟨H, hHe⟩ : ∃ H, H = s.heap := ⟨_, rfl⟩
  obtain ⟨locs, hlo⟩ : ∃ q : List Loc, q = [] := ⟨_, rfl⟩
  have hH : gP G μ n H := by rw [hHe]; exact hH
  have hS : va_S (gA G) s.heap H locs := by rw [hHe, hlo]; exact hS
  suffices hgo : W p l e rm_c_X2_takeLatest s m args below meth c H locs 0 0 Q (F0 m 0 ls []) by rw [hHe, hlo] at hgo; exact hgo
  clear hHe hlo hfr hav
  have f_0 := hts (.fieldLink RX2 18 "StampDater$History" "size" "I") (List.mem_of_getElem? (i := 1) rfl)
  have i_X2 : ∀ w ∈ u_ws RX2 TX2 2, w ∈ wsX2_takeLatest := by decide +kernel
  have f_2 := hts (.fieldLink RX2 11 "StampDater$History" "states" "[LStampDater$State;") (List.mem_of_getElem? (i := 2) rfl)
  refine lv_aload_n hx hb dX2_takeLatest_0 rfl (lv_at hl 0 rfl) ?_
  refine m_get (C := RX2) (T := TX2) (N := 2) (ci := 1) hx hb hts i_X2 hown hK hH hL.1 rfl 1 (by decide) f_0 rfl dX2_takeLatest_1 ?_
  refine j_if_le (tgt := 38) hx hb dX2_takeLatest_4 (by decide) (fun c1 => absurd c1 (by omega)) (fun c1 => ?_) (by omega)
  refine lv_aload_n hx hb dX2_takeLatest_7 rfl (lv_at hl 0 rfl) ?_
  refine m_get (C := RX2) (T := TX2) (N := 2) (ci := 1) hx hb hts i_X2 hown hK hH hL.1 rfl 1 (by decide) f_0 rfl dX2_takeLatest_8 ?_
  refine j_const hx hb dX2_takeLatest_11 ?_
  refine j_icmp_gt (tgt := 38) hx hb dX2_takeLatest_12 (by decide) (fun c2 => absurd c2 (by omega)) (fun c2 => ?_) (by omega) (by omega)
  refine lv_aload_n hx hb dX2_takeLatest_15 rfl (lv_at hl 0 rfl) ?_
  refine lv_dup hx hb dX2_takeLatest_16 rfl ?_
  refine m_get (C := RX2) (T := TX2) (N := 2) (ci := 1) hx hb hts i_X2 hown hK hH hL.1 rfl 1 (by decide) f_0 rfl dX2_takeLatest_17 ?_
  refine j_const hx hb dX2_takeLatest_20 ?_
  refine j_isub hx hb dX2_takeLatest_21 ?_
  refine m_put (C := RX2) (T := TX2) (N := 2) (ci := 1) hx hb hts i_X2 tyX2 tyX2_ok nmX2 hown hK hH hS hL.1 rfl 1 (by decide) f_0 rfl rfl rfl (Nat.le_of_ble_eq_true rfl) dX2_takeLatest_22 (fun H locs hH hS => ?_)
  have hL := hL.sz (sz - 1)
  have hZ : IsState G (hu μ h (.inr (1, [.ref (h + 1), .int (iv (sz - 1))]))) sa π σ fp sp rd := hZ.fr (fun q a b => hu_n (by omega))
  have hH : gP G (hu μ h (.inr (1, [.ref (h + 1), .int (iv (sz - 1))]))) n H := hH
  refine lv_aload_n hx hb dX2_takeLatest_25 rfl (lv_at hl 1 rfl) ?_
  refine lv_aload_n hx hb dX2_takeLatest_26 rfl (lv_at hl 0 rfl) ?_
  refine m_get (C := RX2) (T := TX2) (N := 2) (ci := 1) hx hb hts i_X2 hown hK hH hL.1 rfl 0 (by decide) f_2 rfl dX2_takeLatest_27 ?_
  refine lv_aload_n hx hb dX2_takeLatest_30 rfl (lv_at hl 0 rfl) ?_
  refine m_get (C := RX2) (T := TX2) (N := 2) (ci := 1) hx hb hts i_X2 hown hK hH hL.1 rfl 1 (by decide) f_0 rfl dX2_takeLatest_31 ?_
  refine m_aald (b := (h + 2 + 29 * ρ ((sz - 1)).toNat)) hx hb hK hH 4 hL.2.1 rfl rfl dX2_takeLatest_34 ?_ (by omega) (by omega)
  have hjr := hL.2.2.2.1 (sz - 1).toNat (by omega)
  have hY1 := hL.2.2.1 (sz - 1).toNat (by omega)
  refine m_callVv (As := [.ref (h + 2 + 29 * ρ ((sz - 1)).toNat)]) (rest := []) ⟨hx, hb, hml, hown, hts⟩ hK hH hS (c_X6_copyState l G (hu μ h (.inr (1, [.ref (h + 1), .int (iv (sz - 1))]))) n sa π σ fp sp rd (h + 2 + 29 * ρ (sz - 1).toNat) (πs (sz - 1).toNat) (σs (sz - 1).toNat) (fps (sz - 1).toNat) (sps (sz - 1).toNat) (rds (sz - 1).toNat) hZ hT hY1 (hL.2.2.2.2.2 (sz - 1).toNat (by omega)) (by omega)) (cwV 1 hts gX2_takeLatest_X6_copyState rfl rfl rfl (by decide +kernel) ⟨(Nat.le_of_ble_eq_true rfl), (Nat.le_of_ble_eq_true rfl)⟩) hZ.1 rfl rfl rfl rfl hl.1 (Nat.le_of_ble_eq_true rfl) dX2_takeLatest_35 ⟨Nat.zero_le _, Nat.zero_le _⟩ (fun μ3 n4 H locs hp5 hH hS => ?_)
  obtain ⟨hS1, hfr1⟩ := hp5
  have hL := hL.fr (fun q a b => hfr1 q (by omega))
  have hfr : ∀ q, (q < h ∨ h + 118 ≤ q) → (q < sa ∨ sa + 29 ≤ q) → μ3 q = μ q := fun q a b => (hfr1 q b).trans (hu_n (by omega))
  subst hQ
  refine m_vret hx hb hr hlocks hH hS dX2_takeLatest_38 ?_
  exact ⟨hL, hS1, hfr⟩
