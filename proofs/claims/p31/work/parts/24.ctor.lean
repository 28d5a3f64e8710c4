abbrev rm_c_X5_init : Room := { frames := 2, cells := 14, slots := 93, locals := 41 }
set_option maxHeartbeats 4000000 in
set_option maxRecDepth 100000 in
theorem c_X5_init (l : Launch) (G : wG) (μ : hM) (n : Nat) (st : Nat) (hB : μ st = some (.inr (4, [.null, .null, .int (iv 0), .int (iv 0), .int (iv 0), .int (iv 0), .int (iv 0)]))) (hn : n = st + 1) : Met l yX5_init wsX5_init rm_c_X5_init (mPc G μ n [.ref st]) (mQv G (fun μ1 n1 => IsSt G μ1 st (fun p => p) s0 0 0 ∧ n1 = st + 15 ∧ ∀ q, q < st → μ1 q = μ q)) 14 93 (gA G) := by
  refine Met.ofW (cc := cX5_init) (maxL := 2) (ret := none) (by decide) rfl ?_
  intro p e s m args below meth c s₁ B hml hv
  obtain ⟨hav, hK, hH⟩ := hv
  have hx := B.exec
  have hb := B.bytes
  have hr := B.returns
  have hts := atoms_spec (ws := wsX5_init) B.pre
  have hown : s.vm.findClass RX5 = some m.cls := findClass_of_methodNamed B.named
  have hlocks := B.notSynchronized
  have hin : meth.name = "<init>" := (name_of_methodNamed B.named B.method).1
  have hS : va_S (gA G) s.heap s.heap [] := va_S.rf
  have hl := lv_entry ([.ref st]) (n := 2) (Nat.le_of_ble_eq_true rfl)
  have hfr : entryFrame m args 2 = entryFrame m ([.ref st] : List Value).toArray 2 := by rw [hav]
  rw [hfr, lg_entry_eq]
  generalize (lg_sl ([.ref st]) ++ List.replicate (2 - (lg_sl ([.ref st])).length) Slot.unset).toArray = ls at hl ⊢
  have hl : lv_has ls 2 [(0, .ref st)] := hl
  generalize hQ : MQ below _ args s 14 93 (gA G) = Q
  show W p l e rm_c_X5_init s m args below meth c s.heap [] 0 0 Q (F0 m 0 ls [])
  obtain ⟨H, hHe⟩ : ∃ H, H = s.heap := ⟨_, rfl⟩
  obtain ⟨locs, hlo⟩ : ∃ q : List Loc, q = [] := ⟨_, rfl⟩
  have hH : gP G μ n H := by rw [hHe]; exact hH
  have hS : va_S (gA G) s.heap H locs := by rw [hHe, hlo]; exact hS
  suffices hgo : W p l e rm_c_X5_init s m args below meth c H locs 0 0 Q (F0 m 0 ls []) by rw [hHe, hlo] at hgo; exact hgo
  clear hHe hlo hfr hav
  have f_0 := hts (.methodLink RX5 3 objectInit) (List.mem_of_getElem? (i := 1) rfl)
  have f_1 := hts (.instanceMethod objectInit) (List.mem_of_getElem? (i := 2) rfl)
  have f_2 := hts (.code objectInit ⟨#[0xb1]⟩ 1 none) (List.mem_of_getElem? (i := 3) rfl)
  have f_3 := hts (.classLink RX5 9 RX0) (List.mem_of_getElem? (i := 4) rfl)
  have f_4 := hts (.fieldLink RX5 11 "StampDater$Stamp" "bands" "[LStampDater$Band;") (List.mem_of_getElem? (i := 5) rfl)
  have i_X5 : ∀ w ∈ u_ws RX5 TX5 7, w ∈ wsX5_init := by decide +kernel
  have f_6 := hts (.instantiable RX0 4) (List.mem_of_getElem? (i := 6) rfl)
  have f_7 := hts (.initialized RX0) (List.mem_of_getElem? (i := 7) rfl)
  have i_X0 : ∀ w ∈ u_ws RX0 TX0 4, w ∈ wsX5_init := by decide +kernel
  have f_9 := hts (.methodLink RX5 17 yX0_init) (List.mem_of_getElem? (i := 11) rfl)
  have f_10 := hts (.instanceMethod yX0_init) (List.mem_of_getElem? (i := 12) rfl)
  have f_11 := hts (.arrayClass .int) (List.mem_of_getElem? (i := 8) rfl)
  have f_12 := hts (.fieldLink RX5 20 "StampDater$Stamp" "settings" "[I") (List.mem_of_getElem? (i := 9) rfl)
  have f_13 := hts (.fieldLink RX5 24 "StampDater$Stamp" "ink" "I") (List.mem_of_getElem? (i := 10) rfl)
  subst hn
  have hfr : ∀ q, q < st → μ q = μ q := fun q _ => rfl
  refine lv_aload_n hx hb dX5_init_0 rfl (lv_at hl 0 rfl) ?_
  refine W.objInit hx hb hown f_0 f_1 f_2 rfl (hl.1.trans hml.symm) rfl dX5_init_1 (Nat.le_of_ble_eq_true rfl) (Nat.le_of_ble_eq_true rfl) ?_
  show W p l e rm_c_X5_init s m args below meth c H locs 0 0 Q (F0 m 4 ls [])
  refine lv_aload_n hx hb dX5_init_4 rfl (lv_at hl 0 rfl) ?_
  refine j_bipush hx hb dX5_init_5 ?_ (by decide)
  refine m_anew hx hb hown f_3 (hK.2.2.2.2.2.2.1.use) hK hH hS 2 rfl 6 rfl (by decide) dX5_init_7 (Nat.le_of_ble_eq_true rfl) (Nat.le_of_ble_eq_true rfl) (fun H hH hS hnn => ?_)
  have hB := hu_n' (a := (st + 1)) (e := (.inl (G.2.1 2, 6, .inr (.inr (.inr (.inr (fun _ => none))))))) (b := st) (by omega) hB
  have hfr : ∀ q, q < st → (hu μ (st + 1) (.inl (G.2.1 2, 6, .inr (.inr (.inr (.inr (fun _ => none))))))) q = μ q := fun q hq => (hu_n (by omega)).trans (hfr q hq)
  have hA1 : (hu μ (st + 1) (.inl (G.2.1 2, 6, .inr (.inr (.inr (.inr (fun _ => none))))))) (st + 1) = some (.inl (G.2.1 2, 6, .inr (.inr (.inr (.inr (fun _ => none)))))) := hu_s
  have hH : gP G (hu μ (st + 1) (.inl (G.2.1 2, 6, .inr (.inr (.inr (.inr (fun _ => none))))))) (st + 2) H := hH
  refine m_putF (C := RX5) (T := TX5) (N := 7) (ci := 4) hx hb hts i_X5 tyX5 tyX5_ok nmX5 hown hK hH hS hB rfl 0 (by decide) f_4 rfl hin rfl rfl rfl (Nat.le_of_ble_eq_true rfl) dX5_init_10 (fun H locs hH hS => ?_)
  have hA1 := hu_n' (a := st) (e := (.inr (4, [.ref (st + 1), .null, .int (iv 0), .int (iv 0), .int (iv 0), .int (iv 0), .int (iv 0)]))) (b := (st + 1)) (by omega) hA1
  have hB : (hu (hu μ (st + 1) (.inl (G.2.1 2, 6, .inr (.inr (.inr (.inr (fun _ => none))))))) st (.inr (4, [.ref (st + 1), .null, .int (iv 0), .int (iv 0), .int (iv 0), .int (iv 0), .int (iv 0)]))) st = some (.inr (4, [.ref (st + 1), .null, .int (iv 0), .int (iv 0), .int (iv 0), .int (iv 0), .int (iv 0)])) := hu_s
  have hfr2 : ∀ q, q ≠ st → q < st → (hu (hu μ (st + 1) (.inl (G.2.1 2, 6, .inr (.inr (.inr (.inr (fun _ => none))))))) st (.inr (4, [.ref (st + 1), .null, .int (iv 0), .int (iv 0), .int (iv 0), .int (iv 0), .int (iv 0)]))) q = μ q := fun q _ hq => (hu_n (by omega)).trans (hfr q hq)
  have hfr : ∀ q, q < st → (hu (hu μ (st + 1) (.inl (G.2.1 2, 6, .inr (.inr (.inr (.inr (fun _ => none))))))) st (.inr (4, [.ref (st + 1), .null, .int (iv 0), .int (iv 0), .int (iv 0), .int (iv 0), .int (iv 0)]))) q = μ q := fun q hq => hfr2 q (by omega) hq
  have hH : gP G (hu (hu μ (st + 1) (.inl (G.2.1 2, 6, .inr (.inr (.inr (.inr (fun _ => none))))))) st (.inr (4, [.ref (st + 1), .null, .int (iv 0), .int (iv 0), .int (iv 0), .int (iv 0), .int (iv 0)]))) (st + 2) H := hH
  have hP : StP G (hu (hu μ (st + 1) (.inl (G.2.1 2, 6, .inr (.inr (.inr (.inr (fun _ => none))))))) st (.inr (4, [.ref (st + 1), .null, .int (iv 0), .int (iv 0), .int (iv 0), .int (iv 0), .int (iv 0)]))) st 0 := ⟨hB, hA1, fun p hp => absurd hp (Nat.not_lt_zero p), fun p hp => absurd hp (Nat.not_lt_zero p)⟩
  refine j_const hx hb dX5_init_13 ?_
  refine lv_istore_n (lv' := [(1, .int (iv 0)), (0, .ref st)]) hx hb dX5_init_14 rfl hl (by decide) rfl (fun ls hl => ?_)
  refine lv_iload_n hx hb dX5_init_15 rfl (lv_at hl 0 rfl) ?_
  refine j_bipush hx hb dX5_init_16 ?_ (by decide)
  refine j_icmp_ge (tgt := 41) hx hb dX5_init_18 (by decide) (fun c2 => absurd c2 (by omega)) (fun c2 => ?_) (by omega) (by omega)
  refine lv_aload_n hx hb dX5_init_21 rfl (lv_at hl 1 rfl) ?_
  refine m_get (C := RX5) (T := TX5) (N := 7) (ci := 4) hx hb hts i_X5 hown hK hH hP.1 rfl 0 (by decide) f_4 rfl dX5_init_22 ?_
  refine lv_iload_n hx hb dX5_init_25 rfl (lv_at hl 0 rfl) ?_
  refine m_new (C := RX0) (T := TX0) (N := 4) (ci := 0) (fs := [.int (iv 0), .int (iv 0), .int (iv 0), .null]) hx hb hts i_X0 tyX0 tyX0_ok hown f_3 f_6 f_7 hK hH hS rfl (fun j hj => by rcases (show j = 0 ∨ j = 1 ∨ j = 2 ∨ j = 3 by omega) with rfl | rfl | rfl | rfl <;> rfl) dX5_init_26 (Nat.le_of_ble_eq_true rfl) (Nat.le_of_ble_eq_true rfl) (fun H hH hS hnn => ?_)
  have hP_1 := hu_n' (a := (st + 2)) (e := (.inr (0, [.int (iv 0), .int (iv 0), .int (iv 0), .null]))) (b := st) (by omega) hP.1
  have hP_2_1 := hu_n' (a := (st + 2)) (e := (.inr (0, [.int (iv 0), .int (iv 0), .int (iv 0), .null]))) (b := (st + 1)) (by omega) hP.2.1
  have hfr : ∀ q, q < st → (hu (hu (hu μ (st + 1) (.inl (G.2.1 2, 6, .inr (.inr (.inr (.inr (fun _ => none))))))) st (.inr (4, [.ref (st + 1), .null, .int (iv 0), .int (iv 0), .int (iv 0), .int (iv 0), .int (iv 0)]))) (st + 2) (.inr (0, [.int (iv 0), .int (iv 0), .int (iv 0), .null]))) q = μ q := fun q hq => (hu_n (by omega)).trans (hfr q hq)
  have hin2 : ∀ q, q < (st + 2) → (hu (hu (hu μ (st + 1) (.inl (G.2.1 2, 6, .inr (.inr (.inr (.inr (fun _ => none))))))) st (.inr (4, [.ref (st + 1), .null, .int (iv 0), .int (iv 0), .int (iv 0), .int (iv 0), .int (iv 0)]))) (st + 2) (.inr (0, [.int (iv 0), .int (iv 0), .int (iv 0), .null]))) q = (hu (hu μ (st + 1) (.inl (G.2.1 2, 6, .inr (.inr (.inr (.inr (fun _ => none))))))) st (.inr (4, [.ref (st + 1), .null, .int (iv 0), .int (iv 0), .int (iv 0), .int (iv 0), .int (iv 0)]))) q := fun q hq => hu_n (by omega)
  have hO3 : (hu (hu (hu μ (st + 1) (.inl (G.2.1 2, 6, .inr (.inr (.inr (.inr (fun _ => none))))))) st (.inr (4, [.ref (st + 1), .null, .int (iv 0), .int (iv 0), .int (iv 0), .int (iv 0), .int (iv 0)]))) (st + 2) (.inr (0, [.int (iv 0), .int (iv 0), .int (iv 0), .null]))) (st + 2) = some (.inr (0, [.int (iv 0), .int (iv 0), .int (iv 0), .null])) := hu_s
  have hH : gP G (hu (hu (hu μ (st + 1) (.inl (G.2.1 2, 6, .inr (.inr (.inr (.inr (fun _ => none))))))) st (.inr (4, [.ref (st + 1), .null, .int (iv 0), .int (iv 0), .int (iv 0), .int (iv 0), .int (iv 0)]))) (st + 2) (.inr (0, [.int (iv 0), .int (iv 0), .int (iv 0), .null]))) (st + 3) H := hH
  refine lv_dup hx hb dX5_init_29 rfl ?_
  refine lv_iload_n hx hb dX5_init_30 rfl (lv_at hl 0 rfl) ?_
  refine m_callIv (As := [.int (iv 0)]) (rest := [.ref (st + 2), .int (iv 0), .ref (st + 1)]) ⟨hx, hb, hml, hown, hts⟩ hK hH hS (c_X0_init l G (hu (hu (hu μ (st + 1) (.inl (G.2.1 2, 6, .inr (.inr (.inr (.inr (fun _ => none))))))) st (.inr (4, [.ref (st + 1), .null, .int (iv 0), .int (iv 0), .int (iv 0), .int (iv 0), .int (iv 0)]))) (st + 2) (.inr (0, [.int (iv 0), .int (iv 0), .int (iv 0), .null]))) (st + 3) (st + 2) 0 hO3) (cwI 1 hts gX5_init_X0_init rfl rfl rfl f_7 f_9 f_10 rfl (by decide +kernel) ⟨(Nat.le_of_ble_eq_true rfl), (Nat.le_of_ble_eq_true rfl)⟩) rfl rfl hl.1 (Nat.le_of_ble_eq_true rfl) dX5_init_31 ⟨(Nat.le_of_ble_eq_true rfl), (Nat.le_of_ble_eq_true rfl)⟩ (fun μ4 n5 H locs hp6 hH hS => ?_)
  obtain ⟨hb1, hw1, hn1, hfr1⟩ := hp6
  rw [hn1] at hH
  have hin3 : ∀ q, st ≤ q → q < st + 2 + 2 * 0 → μ4 q = (hu (hu μ (st + 1) (.inl (G.2.1 2, 6, .inr (.inr (.inr (.inr (fun _ => none))))))) st (.inr (4, [.ref (st + 1), .null, .int (iv 0), .int (iv 0), .int (iv 0), .int (iv 0), .int (iv 0)]))) q := fun q h1 h2 => (hfr1 q (by omega) (by omega)).trans (hin2 q (by omega))
  have hfr : ∀ q, q < st → μ4 q = μ q := fun q hq => (hfr1 q (by omega) (by omega)).trans (hfr q hq)
  have hrow : μ4 (st + 1) = _ := (hin3 (st + 1) (by omega) (by omega)).trans hP.2.1
  refine m_aast hx hb hK hH hS 2 0 hrow rfl hb1 rfl dX5_init_34 (fun H locs hH hS => ?_) (by omega) (by omega)
  have hP : StP G (hu μ4 (st + 1) (.inl (G.2.1 2, 6, .inr (.inr (.inr (.inr (qu (fun r => if r < 0 then some (st + 2 + 2 * r) else none) 0 (st + 2)))))))) st 1 := hP.step (k := 0) rfl hin3 hb1 hw1
  have hfr : ∀ q, q < st → (hu μ4 (st + 1) (.inl (G.2.1 2, 6, .inr (.inr (.inr (.inr (qu (fun r => if r < 0 then some (st + 2 + 2 * r) else none) 0 (st + 2)))))))) q = μ q := fun q hq => (hu_n (by omega)).trans (hfr q hq)
  have hH : gP G (hu μ4 (st + 1) (.inl (G.2.1 2, 6, .inr (.inr (.inr (.inr (qu (fun r => if r < 0 then some (st + 2 + 2 * r) else none) 0 (st + 2)))))))) (st + 4) H := hH
  obtain ⟨ν7, hν7⟩ : ∃ ν : hM, ν = (hu μ4 (st + 1) (.inl (G.2.1 2, 6, .inr (.inr (.inr (.inr (qu (fun r => if r < 0 then some (st + 2 + 2 * r) else none) 0 (st + 2)))))))) := ⟨_, rfl⟩
  rw [← hν7] at hP hfr hH
  have hH : gP G ν7 (st + 4) H := hH
  refine j_iinc (lv' := [(1, .int (iv 1)), (0, .ref st)]) hx hb dX5_init_35 hl (k := 0) rfl (by decide) rfl (fun ls hl => ?_)
  refine lv_goto (tgt := 15) hx hb dX5_init_38 (by decide) ?_
  refine lv_iload_n hx hb dX5_init_15 rfl (lv_at hl 0 rfl) ?_
  refine j_bipush hx hb dX5_init_16 ?_ (by decide)
  refine j_icmp_ge (tgt := 41) hx hb dX5_init_18 (by decide) (fun c8 => absurd c8 (by omega)) (fun c8 => ?_) (by omega) (by omega)
  refine lv_aload_n hx hb dX5_init_21 rfl (lv_at hl 1 rfl) ?_
  refine m_get (C := RX5) (T := TX5) (N := 7) (ci := 4) hx hb hts i_X5 hown hK hH hP.1 rfl 0 (by decide) f_4 rfl dX5_init_22 ?_
  refine lv_iload_n hx hb dX5_init_25 rfl (lv_at hl 0 rfl) ?_
  refine m_new (C := RX0) (T := TX0) (N := 4) (ci := 0) (fs := [.int (iv 0), .int (iv 0), .int (iv 0), .null]) hx hb hts i_X0 tyX0 tyX0_ok hown f_3 f_6 f_7 hK hH hS rfl (fun j hj => by rcases (show j = 0 ∨ j = 1 ∨ j = 2 ∨ j = 3 by omega) with rfl | rfl | rfl | rfl <;> rfl) dX5_init_26 (Nat.le_of_ble_eq_true rfl) (Nat.le_of_ble_eq_true rfl) (fun H hH hS hnn => ?_)
  have hP_1 := hu_n' (a := (st + 4)) (e := (.inr (0, [.int (iv 0), .int (iv 0), .int (iv 0), .null]))) (b := st) (by omega) hP.1
  have hP_2_1 := hu_n' (a := (st + 4)) (e := (.inr (0, [.int (iv 0), .int (iv 0), .int (iv 0), .null]))) (b := (st + 1)) (by omega) hP.2.1
  have hfr : ∀ q, q < st → (hu ν7 (st + 4) (.inr (0, [.int (iv 0), .int (iv 0), .int (iv 0), .null]))) q = μ q := fun q hq => (hu_n (by omega)).trans (hfr q hq)
  have hin2 : ∀ q, q < (st + 4) → (hu ν7 (st + 4) (.inr (0, [.int (iv 0), .int (iv 0), .int (iv 0), .null]))) q = ν7 q := fun q hq => hu_n (by omega)
  have hO9 : (hu ν7 (st + 4) (.inr (0, [.int (iv 0), .int (iv 0), .int (iv 0), .null]))) (st + 4) = some (.inr (0, [.int (iv 0), .int (iv 0), .int (iv 0), .null])) := hu_s
  have hH : gP G (hu ν7 (st + 4) (.inr (0, [.int (iv 0), .int (iv 0), .int (iv 0), .null]))) (st + 5) H := hH
  refine lv_dup hx hb dX5_init_29 rfl ?_
  refine lv_iload_n hx hb dX5_init_30 rfl (lv_at hl 0 rfl) ?_
  refine m_callIv (As := [.int (iv 1)]) (rest := [.ref (st + 4), .int (iv 1), .ref (st + 1)]) ⟨hx, hb, hml, hown, hts⟩ hK hH hS (c_X0_init l G (hu ν7 (st + 4) (.inr (0, [.int (iv 0), .int (iv 0), .int (iv 0), .null]))) (st + 5) (st + 4) 1 hO9) (cwI 1 hts gX5_init_X0_init rfl rfl rfl f_7 f_9 f_10 rfl (by decide +kernel) ⟨(Nat.le_of_ble_eq_true rfl), (Nat.le_of_ble_eq_true rfl)⟩) rfl rfl hl.1 (Nat.le_of_ble_eq_true rfl) dX5_init_31 ⟨(Nat.le_of_ble_eq_true rfl), (Nat.le_of_ble_eq_true rfl)⟩ (fun μ10 n11 H locs hp12 hH hS => ?_)
  obtain ⟨hb1, hw1, hn1, hfr1⟩ := hp12
  rw [hn1] at hH
  have hin3 : ∀ q, st ≤ q → q < st + 2 + 2 * 1 → μ10 q = ν7 q := fun q h1 h2 => (hfr1 q (by omega) (by omega)).trans (hin2 q (by omega))
  have hfr : ∀ q, q < st → μ10 q = μ q := fun q hq => (hfr1 q (by omega) (by omega)).trans (hfr q hq)
  have hrow : μ10 (st + 1) = _ := (hin3 (st + 1) (by omega) (by omega)).trans hP.2.1
  refine m_aast hx hb hK hH hS 2 0 hrow rfl hb1 rfl dX5_init_34 (fun H locs hH hS => ?_) (by omega) (by omega)
  have hP : StP G (hu μ10 (st + 1) (.inl (G.2.1 2, 6, .inr (.inr (.inr (.inr (qu (fun r => if r < 1 then some (st + 2 + 2 * r) else none) 1 (st + 4)))))))) st 2 := hP.step (k := 1) rfl hin3 hb1 hw1
  have hfr : ∀ q, q < st → (hu μ10 (st + 1) (.inl (G.2.1 2, 6, .inr (.inr (.inr (.inr (qu (fun r => if r < 1 then some (st + 2 + 2 * r) else none) 1 (st + 4)))))))) q = μ q := fun q hq => (hu_n (by omega)).trans (hfr q hq)
  have hH : gP G (hu μ10 (st + 1) (.inl (G.2.1 2, 6, .inr (.inr (.inr (.inr (qu (fun r => if r < 1 then some (st + 2 + 2 * r) else none) 1 (st + 4)))))))) (st + 6) H := hH
  obtain ⟨ν13, hν13⟩ : ∃ ν : hM, ν = (hu μ10 (st + 1) (.inl (G.2.1 2, 6, .inr (.inr (.inr (.inr (qu (fun r => if r < 1 then some (st + 2 + 2 * r) else none) 1 (st + 4)))))))) := ⟨_, rfl⟩
  rw [← hν13] at hP hfr hH
  have hH : gP G ν13 (st + 6) H := hH
  refine j_iinc (lv' := [(1, .int (iv 2)), (0, .ref st)]) hx hb dX5_init_35 hl (k := 0) rfl (by decide) rfl (fun ls hl => ?_)
  refine lv_goto (tgt := 15) hx hb dX5_init_38 (by decide) ?_
  refine lv_iload_n hx hb dX5_init_15 rfl (lv_at hl 0 rfl) ?_
  refine j_bipush hx hb dX5_init_16 ?_ (by decide)
  refine j_icmp_ge (tgt := 41) hx hb dX5_init_18 (by decide) (fun c14 => absurd c14 (by omega)) (fun c14 => ?_) (by omega) (by omega)
  refine lv_aload_n hx hb dX5_init_21 rfl (lv_at hl 1 rfl) ?_
  refine m_get (C := RX5) (T := TX5) (N := 7) (ci := 4) hx hb hts i_X5 hown hK hH hP.1 rfl 0 (by decide) f_4 rfl dX5_init_22 ?_
  refine lv_iload_n hx hb dX5_init_25 rfl (lv_at hl 0 rfl) ?_
  refine m_new (C := RX0) (T := TX0) (N := 4) (ci := 0) (fs := [.int (iv 0), .int (iv 0), .int (iv 0), .null]) hx hb hts i_X0 tyX0 tyX0_ok hown f_3 f_6 f_7 hK hH hS rfl (fun j hj => by rcases (show j = 0 ∨ j = 1 ∨ j = 2 ∨ j = 3 by omega) with rfl | rfl | rfl | rfl <;> rfl) dX5_init_26 (Nat.le_of_ble_eq_true rfl) (Nat.le_of_ble_eq_true rfl) (fun H hH hS hnn => ?_)
  have hP_1 := hu_n' (a := (st + 6)) (e := (.inr (0, [.int (iv 0), .int (iv 0), .int (iv 0), .null]))) (b := st) (by omega) hP.1
  have hP_2_1 := hu_n' (a := (st + 6)) (e := (.inr (0, [.int (iv 0), .int (iv 0), .int (iv 0), .null]))) (b := (st + 1)) (by omega) hP.2.1
  have hfr : ∀ q, q < st → (hu ν13 (st + 6) (.inr (0, [.int (iv 0), .int (iv 0), .int (iv 0), .null]))) q = μ q := fun q hq => (hu_n (by omega)).trans (hfr q hq)
  have hin2 : ∀ q, q < (st + 6) → (hu ν13 (st + 6) (.inr (0, [.int (iv 0), .int (iv 0), .int (iv 0), .null]))) q = ν13 q := fun q hq => hu_n (by omega)
  have hO15 : (hu ν13 (st + 6) (.inr (0, [.int (iv 0), .int (iv 0), .int (iv 0), .null]))) (st + 6) = some (.inr (0, [.int (iv 0), .int (iv 0), .int (iv 0), .null])) := hu_s
  have hH : gP G (hu ν13 (st + 6) (.inr (0, [.int (iv 0), .int (iv 0), .int (iv 0), .null]))) (st + 7) H := hH
  refine lv_dup hx hb dX5_init_29 rfl ?_
  refine lv_iload_n hx hb dX5_init_30 rfl (lv_at hl 0 rfl) ?_
  refine m_callIv (As := [.int (iv 2)]) (rest := [.ref (st + 6), .int (iv 2), .ref (st + 1)]) ⟨hx, hb, hml, hown, hts⟩ hK hH hS (c_X0_init l G (hu ν13 (st + 6) (.inr (0, [.int (iv 0), .int (iv 0), .int (iv 0), .null]))) (st + 7) (st + 6) 2 hO15) (cwI 1 hts gX5_init_X0_init rfl rfl rfl f_7 f_9 f_10 rfl (by decide +kernel) ⟨(Nat.le_of_ble_eq_true rfl), (Nat.le_of_ble_eq_true rfl)⟩) rfl rfl hl.1 (Nat.le_of_ble_eq_true rfl) dX5_init_31 ⟨(Nat.le_of_ble_eq_true rfl), (Nat.le_of_ble_eq_true rfl)⟩ (fun μ16 n17 H locs hp18 hH hS => ?_)
  obtain ⟨hb1, hw1, hn1, hfr1⟩ := hp18
  rw [hn1] at hH
  have hin3 : ∀ q, st ≤ q → q < st + 2 + 2 * 2 → μ16 q = ν13 q := fun q h1 h2 => (hfr1 q (by omega) (by omega)).trans (hin2 q (by omega))
  have hfr : ∀ q, q < st → μ16 q = μ q := fun q hq => (hfr1 q (by omega) (by omega)).trans (hfr q hq)
  have hrow : μ16 (st + 1) = _ := (hin3 (st + 1) (by omega) (by omega)).trans hP.2.1
  refine m_aast hx hb hK hH hS 2 0 hrow rfl hb1 rfl dX5_init_34 (fun H locs hH hS => ?_) (by omega) (by omega)
  have hP : StP G (hu μ16 (st + 1) (.inl (G.2.1 2, 6, .inr (.inr (.inr (.inr (qu (fun r => if r < 2 then some (st + 2 + 2 * r) else none) 2 (st + 6)))))))) st 3 := hP.step (k := 2) rfl hin3 hb1 hw1
  have hfr : ∀ q, q < st → (hu μ16 (st + 1) (.inl (G.2.1 2, 6, .inr (.inr (.inr (.inr (qu (fun r => if r < 2 then some (st + 2 + 2 * r) else none) 2 (st + 6)))))))) q = μ q := fun q hq => (hu_n (by omega)).trans (hfr q hq)
  have hH : gP G (hu μ16 (st + 1) (.inl (G.2.1 2, 6, .inr (.inr (.inr (.inr (qu (fun r => if r < 2 then some (st + 2 + 2 * r) else none) 2 (st + 6)))))))) (st + 8) H := hH
  obtain ⟨ν19, hν19⟩ : ∃ ν : hM, ν = (hu μ16 (st + 1) (.inl (G.2.1 2, 6, .inr (.inr (.inr (.inr (qu (fun r => if r < 2 then some (st + 2 + 2 * r) else none) 2 (st + 6)))))))) := ⟨_, rfl⟩
  rw [← hν19] at hP hfr hH
  have hH : gP G ν19 (st + 8) H := hH
  refine j_iinc (lv' := [(1, .int (iv 3)), (0, .ref st)]) hx hb dX5_init_35 hl (k := 0) rfl (by decide) rfl (fun ls hl => ?_)
  refine lv_goto (tgt := 15) hx hb dX5_init_38 (by decide) ?_
  refine lv_iload_n hx hb dX5_init_15 rfl (lv_at hl 0 rfl) ?_
  refine j_bipush hx hb dX5_init_16 ?_ (by decide)
  refine j_icmp_ge (tgt := 41) hx hb dX5_init_18 (by decide) (fun c20 => absurd c20 (by omega)) (fun c20 => ?_) (by omega) (by omega)
  refine lv_aload_n hx hb dX5_init_21 rfl (lv_at hl 1 rfl) ?_
  refine m_get (C := RX5) (T := TX5) (N := 7) (ci := 4) hx hb hts i_X5 hown hK hH hP.1 rfl 0 (by decide) f_4 rfl dX5_init_22 ?_
  refine lv_iload_n hx hb dX5_init_25 rfl (lv_at hl 0 rfl) ?_
  refine m_new (C := RX0) (T := TX0) (N := 4) (ci := 0) (fs := [.int (iv 0), .int (iv 0), .int (iv 0), .null]) hx hb hts i_X0 tyX0 tyX0_ok hown f_3 f_6 f_7 hK hH hS rfl (fun j hj => by rcases (show j = 0 ∨ j = 1 ∨ j = 2 ∨ j = 3 by omega) with rfl | rfl | rfl | rfl <;> rfl) dX5_init_26 (Nat.le_of_ble_eq_true rfl) (Nat.le_of_ble_eq_true rfl) (fun H hH hS hnn => ?_)
  have hP_1 := hu_n' (a := (st + 8)) (e := (.inr (0, [.int (iv 0), .int (iv 0), .int (iv 0), .null]))) (b := st) (by omega) hP.1
  have hP_2_1 := hu_n' (a := (st + 8)) (e := (.inr (0, [.int (iv 0), .int (iv 0), .int (iv 0), .null]))) (b := (st + 1)) (by omega) hP.2.1
  have hfr : ∀ q, q < st → (hu ν19 (st + 8) (.inr (0, [.int (iv 0), .int (iv 0), .int (iv 0), .null]))) q = μ q := fun q hq => (hu_n (by omega)).trans (hfr q hq)
  have hin2 : ∀ q, q < (st + 8) → (hu ν19 (st + 8) (.inr (0, [.int (iv 0), .int (iv 0), .int (iv 0), .null]))) q = ν19 q := fun q hq => hu_n (by omega)
  have hO21 : (hu ν19 (st + 8) (.inr (0, [.int (iv 0), .int (iv 0), .int (iv 0), .null]))) (st + 8) = some (.inr (0, [.int (iv 0), .int (iv 0), .int (iv 0), .null])) := hu_s
  have hH : gP G (hu ν19 (st + 8) (.inr (0, [.int (iv 0), .int (iv 0), .int (iv 0), .null]))) (st + 9) H := hH
  refine lv_dup hx hb dX5_init_29 rfl ?_
  refine lv_iload_n hx hb dX5_init_30 rfl (lv_at hl 0 rfl) ?_
  refine m_callIv (As := [.int (iv 3)]) (rest := [.ref (st + 8), .int (iv 3), .ref (st + 1)]) ⟨hx, hb, hml, hown, hts⟩ hK hH hS (c_X0_init l G (hu ν19 (st + 8) (.inr (0, [.int (iv 0), .int (iv 0), .int (iv 0), .null]))) (st + 9) (st + 8) 3 hO21) (cwI 1 hts gX5_init_X0_init rfl rfl rfl f_7 f_9 f_10 rfl (by decide +kernel) ⟨(Nat.le_of_ble_eq_true rfl), (Nat.le_of_ble_eq_true rfl)⟩) rfl rfl hl.1 (Nat.le_of_ble_eq_true rfl) dX5_init_31 ⟨(Nat.le_of_ble_eq_true rfl), (Nat.le_of_ble_eq_true rfl)⟩ (fun μ22 n23 H locs hp24 hH hS => ?_)
  obtain ⟨hb1, hw1, hn1, hfr1⟩ := hp24
  rw [hn1] at hH
  have hin3 : ∀ q, st ≤ q → q < st + 2 + 2 * 3 → μ22 q = ν19 q := fun q h1 h2 => (hfr1 q (by omega) (by omega)).trans (hin2 q (by omega))
  have hfr : ∀ q, q < st → μ22 q = μ q := fun q hq => (hfr1 q (by omega) (by omega)).trans (hfr q hq)
  have hrow : μ22 (st + 1) = _ := (hin3 (st + 1) (by omega) (by omega)).trans hP.2.1
  refine m_aast hx hb hK hH hS 2 0 hrow rfl hb1 rfl dX5_init_34 (fun H locs hH hS => ?_) (by omega) (by omega)
  have hP : StP G (hu μ22 (st + 1) (.inl (G.2.1 2, 6, .inr (.inr (.inr (.inr (qu (fun r => if r < 3 then some (st + 2 + 2 * r) else none) 3 (st + 8)))))))) st 4 := hP.step (k := 3) rfl hin3 hb1 hw1
  have hfr : ∀ q, q < st → (hu μ22 (st + 1) (.inl (G.2.1 2, 6, .inr (.inr (.inr (.inr (qu (fun r => if r < 3 then some (st + 2 + 2 * r) else none) 3 (st + 8)))))))) q = μ q := fun q hq => (hu_n (by omega)).trans (hfr q hq)
  have hH : gP G (hu μ22 (st + 1) (.inl (G.2.1 2, 6, .inr (.inr (.inr (.inr (qu (fun r => if r < 3 then some (st + 2 + 2 * r) else none) 3 (st + 8)))))))) (st + 10) H := hH
  obtain ⟨ν25, hν25⟩ : ∃ ν : hM, ν = (hu μ22 (st + 1) (.inl (G.2.1 2, 6, .inr (.inr (.inr (.inr (qu (fun r => if r < 3 then some (st + 2 + 2 * r) else none) 3 (st + 8)))))))) := ⟨_, rfl⟩
  rw [← hν25] at hP hfr hH
  have hH : gP G ν25 (st + 10) H := hH
  refine j_iinc (lv' := [(1, .int (iv 4)), (0, .ref st)]) hx hb dX5_init_35 hl (k := 0) rfl (by decide) rfl (fun ls hl => ?_)
  refine lv_goto (tgt := 15) hx hb dX5_init_38 (by decide) ?_
  refine lv_iload_n hx hb dX5_init_15 rfl (lv_at hl 0 rfl) ?_
  refine j_bipush hx hb dX5_init_16 ?_ (by decide)
  refine j_icmp_ge (tgt := 41) hx hb dX5_init_18 (by decide) (fun c26 => absurd c26 (by omega)) (fun c26 => ?_) (by omega) (by omega)
  refine lv_aload_n hx hb dX5_init_21 rfl (lv_at hl 1 rfl) ?_
  refine m_get (C := RX5) (T := TX5) (N := 7) (ci := 4) hx hb hts i_X5 hown hK hH hP.1 rfl 0 (by decide) f_4 rfl dX5_init_22 ?_
  refine lv_iload_n hx hb dX5_init_25 rfl (lv_at hl 0 rfl) ?_
  refine m_new (C := RX0) (T := TX0) (N := 4) (ci := 0) (fs := [.int (iv 0), .int (iv 0), .int (iv 0), .null]) hx hb hts i_X0 tyX0 tyX0_ok hown f_3 f_6 f_7 hK hH hS rfl (fun j hj => by rcases (show j = 0 ∨ j = 1 ∨ j = 2 ∨ j = 3 by omega) with rfl | rfl | rfl | rfl <;> rfl) dX5_init_26 (Nat.le_of_ble_eq_true rfl) (Nat.le_of_ble_eq_true rfl) (fun H hH hS hnn => ?_)
  have hP_1 := hu_n' (a := (st + 10)) (e := (.inr (0, [.int (iv 0), .int (iv 0), .int (iv 0), .null]))) (b := st) (by omega) hP.1
  have hP_2_1 := hu_n' (a := (st + 10)) (e := (.inr (0, [.int (iv 0), .int (iv 0), .int (iv 0), .null]))) (b := (st + 1)) (by omega) hP.2.1
  have hfr : ∀ q, q < st → (hu ν25 (st + 10) (.inr (0, [.int (iv 0), .int (iv 0), .int (iv 0), .null]))) q = μ q := fun q hq => (hu_n (by omega)).trans (hfr q hq)
  have hin2 : ∀ q, q < (st + 10) → (hu ν25 (st + 10) (.inr (0, [.int (iv 0), .int (iv 0), .int (iv 0), .null]))) q = ν25 q := fun q hq => hu_n (by omega)
  have hO27 : (hu ν25 (st + 10) (.inr (0, [.int (iv 0), .int (iv 0), .int (iv 0), .null]))) (st + 10) = some (.inr (0, [.int (iv 0), .int (iv 0), .int (iv 0), .null])) := hu_s
  have hH : gP G (hu ν25 (st + 10) (.inr (0, [.int (iv 0), .int (iv 0), .int (iv 0), .null]))) (st + 11) H := hH
  refine lv_dup hx hb dX5_init_29 rfl ?_
  refine lv_iload_n hx hb dX5_init_30 rfl (lv_at hl 0 rfl) ?_
  refine m_callIv (As := [.int (iv 4)]) (rest := [.ref (st + 10), .int (iv 4), .ref (st + 1)]) ⟨hx, hb, hml, hown, hts⟩ hK hH hS (c_X0_init l G (hu ν25 (st + 10) (.inr (0, [.int (iv 0), .int (iv 0), .int (iv 0), .null]))) (st + 11) (st + 10) 4 hO27) (cwI 1 hts gX5_init_X0_init rfl rfl rfl f_7 f_9 f_10 rfl (by decide +kernel) ⟨(Nat.le_of_ble_eq_true rfl), (Nat.le_of_ble_eq_true rfl)⟩) rfl rfl hl.1 (Nat.le_of_ble_eq_true rfl) dX5_init_31 ⟨(Nat.le_of_ble_eq_true rfl), (Nat.le_of_ble_eq_true rfl)⟩ (fun μ28 n29 H locs hp30 hH hS => ?_)
  obtain ⟨hb1, hw1, hn1, hfr1⟩ := hp30
  rw [hn1] at hH
  have hin3 : ∀ q, st ≤ q → q < st + 2 + 2 * 4 → μ28 q = ν25 q := fun q h1 h2 => (hfr1 q (by omega) (by omega)).trans (hin2 q (by omega))
  have hfr : ∀ q, q < st → μ28 q = μ q := fun q hq => (hfr1 q (by omega) (by omega)).trans (hfr q hq)
  have hrow : μ28 (st + 1) = _ := (hin3 (st + 1) (by omega) (by omega)).trans hP.2.1
  refine m_aast hx hb hK hH hS 2 0 hrow rfl hb1 rfl dX5_init_34 (fun H locs hH hS => ?_) (by omega) (by omega)
  have hP : StP G (hu μ28 (st + 1) (.inl (G.2.1 2, 6, .inr (.inr (.inr (.inr (qu (fun r => if r < 4 then some (st + 2 + 2 * r) else none) 4 (st + 10)))))))) st 5 := hP.step (k := 4) rfl hin3 hb1 hw1
  have hfr : ∀ q, q < st → (hu μ28 (st + 1) (.inl (G.2.1 2, 6, .inr (.inr (.inr (.inr (qu (fun r => if r < 4 then some (st + 2 + 2 * r) else none) 4 (st + 10)))))))) q = μ q := fun q hq => (hu_n (by omega)).trans (hfr q hq)
  have hH : gP G (hu μ28 (st + 1) (.inl (G.2.1 2, 6, .inr (.inr (.inr (.inr (qu (fun r => if r < 4 then some (st + 2 + 2 * r) else none) 4 (st + 10)))))))) (st + 12) H := hH
  obtain ⟨ν31, hν31⟩ : ∃ ν : hM, ν = (hu μ28 (st + 1) (.inl (G.2.1 2, 6, .inr (.inr (.inr (.inr (qu (fun r => if r < 4 then some (st + 2 + 2 * r) else none) 4 (st + 10)))))))) := ⟨_, rfl⟩
  rw [← hν31] at hP hfr hH
  have hH : gP G ν31 (st + 12) H := hH
  refine j_iinc (lv' := [(1, .int (iv 5)), (0, .ref st)]) hx hb dX5_init_35 hl (k := 0) rfl (by decide) rfl (fun ls hl => ?_)
  refine lv_goto (tgt := 15) hx hb dX5_init_38 (by decide) ?_
  refine lv_iload_n hx hb dX5_init_15 rfl (lv_at hl 0 rfl) ?_
  refine j_bipush hx hb dX5_init_16 ?_ (by decide)
  refine j_icmp_ge (tgt := 41) hx hb dX5_init_18 (by decide) (fun c32 => absurd c32 (by omega)) (fun c32 => ?_) (by omega) (by omega)
  refine lv_aload_n hx hb dX5_init_21 rfl (lv_at hl 1 rfl) ?_
  refine m_get (C := RX5) (T := TX5) (N := 7) (ci := 4) hx hb hts i_X5 hown hK hH hP.1 rfl 0 (by decide) f_4 rfl dX5_init_22 ?_
  refine lv_iload_n hx hb dX5_init_25 rfl (lv_at hl 0 rfl) ?_
  refine m_new (C := RX0) (T := TX0) (N := 4) (ci := 0) (fs := [.int (iv 0), .int (iv 0), .int (iv 0), .null]) hx hb hts i_X0 tyX0 tyX0_ok hown f_3 f_6 f_7 hK hH hS rfl (fun j hj => by rcases (show j = 0 ∨ j = 1 ∨ j = 2 ∨ j = 3 by omega) with rfl | rfl | rfl | rfl <;> rfl) dX5_init_26 (Nat.le_of_ble_eq_true rfl) (Nat.le_of_ble_eq_true rfl) (fun H hH hS hnn => ?_)
  have hP_1 := hu_n' (a := (st + 12)) (e := (.inr (0, [.int (iv 0), .int (iv 0), .int (iv 0), .null]))) (b := st) (by omega) hP.1
  have hP_2_1 := hu_n' (a := (st + 12)) (e := (.inr (0, [.int (iv 0), .int (iv 0), .int (iv 0), .null]))) (b := (st + 1)) (by omega) hP.2.1
  have hfr : ∀ q, q < st → (hu ν31 (st + 12) (.inr (0, [.int (iv 0), .int (iv 0), .int (iv 0), .null]))) q = μ q := fun q hq => (hu_n (by omega)).trans (hfr q hq)
  have hin2 : ∀ q, q < (st + 12) → (hu ν31 (st + 12) (.inr (0, [.int (iv 0), .int (iv 0), .int (iv 0), .null]))) q = ν31 q := fun q hq => hu_n (by omega)
  have hO33 : (hu ν31 (st + 12) (.inr (0, [.int (iv 0), .int (iv 0), .int (iv 0), .null]))) (st + 12) = some (.inr (0, [.int (iv 0), .int (iv 0), .int (iv 0), .null])) := hu_s
  have hH : gP G (hu ν31 (st + 12) (.inr (0, [.int (iv 0), .int (iv 0), .int (iv 0), .null]))) (st + 13) H := hH
  refine lv_dup hx hb dX5_init_29 rfl ?_
  refine lv_iload_n hx hb dX5_init_30 rfl (lv_at hl 0 rfl) ?_
  refine m_callIv (As := [.int (iv 5)]) (rest := [.ref (st + 12), .int (iv 5), .ref (st + 1)]) ⟨hx, hb, hml, hown, hts⟩ hK hH hS (c_X0_init l G (hu ν31 (st + 12) (.inr (0, [.int (iv 0), .int (iv 0), .int (iv 0), .null]))) (st + 13) (st + 12) 5 hO33) (cwI 1 hts gX5_init_X0_init rfl rfl rfl f_7 f_9 f_10 rfl (by decide +kernel) ⟨(Nat.le_of_ble_eq_true rfl), (Nat.le_of_ble_eq_true rfl)⟩) rfl rfl hl.1 (Nat.le_of_ble_eq_true rfl) dX5_init_31 ⟨(Nat.le_of_ble_eq_true rfl), (Nat.le_of_ble_eq_true rfl)⟩ (fun μ34 n35 H locs hp36 hH hS => ?_)
  obtain ⟨hb1, hw1, hn1, hfr1⟩ := hp36
  rw [hn1] at hH
  have hin3 : ∀ q, st ≤ q → q < st + 2 + 2 * 5 → μ34 q = ν31 q := fun q h1 h2 => (hfr1 q (by omega) (by omega)).trans (hin2 q (by omega))
  have hfr : ∀ q, q < st → μ34 q = μ q := fun q hq => (hfr1 q (by omega) (by omega)).trans (hfr q hq)
  have hrow : μ34 (st + 1) = _ := (hin3 (st + 1) (by omega) (by omega)).trans hP.2.1
  refine m_aast hx hb hK hH hS 2 0 hrow rfl hb1 rfl dX5_init_34 (fun H locs hH hS => ?_) (by omega) (by omega)
  have hP : StP G (hu μ34 (st + 1) (.inl (G.2.1 2, 6, .inr (.inr (.inr (.inr (qu (fun r => if r < 5 then some (st + 2 + 2 * r) else none) 5 (st + 12)))))))) st 6 := hP.step (k := 5) rfl hin3 hb1 hw1
  have hfr : ∀ q, q < st → (hu μ34 (st + 1) (.inl (G.2.1 2, 6, .inr (.inr (.inr (.inr (qu (fun r => if r < 5 then some (st + 2 + 2 * r) else none) 5 (st + 12)))))))) q = μ q := fun q hq => (hu_n (by omega)).trans (hfr q hq)
  have hH : gP G (hu μ34 (st + 1) (.inl (G.2.1 2, 6, .inr (.inr (.inr (.inr (qu (fun r => if r < 5 then some (st + 2 + 2 * r) else none) 5 (st + 12)))))))) (st + 14) H := hH
  obtain ⟨ν37, hν37⟩ : ∃ ν : hM, ν = (hu μ34 (st + 1) (.inl (G.2.1 2, 6, .inr (.inr (.inr (.inr (qu (fun r => if r < 5 then some (st + 2 + 2 * r) else none) 5 (st + 12)))))))) := ⟨_, rfl⟩
  rw [← hν37] at hP hfr hH
  have hH : gP G ν37 (st + 14) H := hH
  refine j_iinc (lv' := [(1, .int (iv 6)), (0, .ref st)]) hx hb dX5_init_35 hl (k := 0) rfl (by decide) rfl (fun ls hl => ?_)
  refine lv_goto (tgt := 15) hx hb dX5_init_38 (by decide) ?_
  refine lv_iload_n hx hb dX5_init_15 rfl (lv_at hl 0 rfl) ?_
  refine j_bipush hx hb dX5_init_16 ?_ (by decide)
  refine j_icmp_ge (tgt := 41) hx hb dX5_init_18 (by decide) (fun c38 => ?_) (fun c38 => absurd c38 (by omega)) (by omega) (by omega)
  have hH : gP G (hu ν37 (st + 1) (.inl (G.2.1 2, 6, .inr (.inr (.inr (.inr (fun r => some (st + 2 + 2 * r)))))))) (st + 14) H := hH.cgq hP.2.1 (fun j hj => if_pos hj)
  have hst : (hu ν37 (st + 1) (.inl (G.2.1 2, 6, .inr (.inr (.inr (.inr (fun r => some (st + 2 + 2 * r)))))))) st = _ := (hu_n (by omega)).trans hP.1
  have hrow : (hu ν37 (st + 1) (.inl (G.2.1 2, 6, .inr (.inr (.inr (.inr (fun r => some (st + 2 + 2 * r)))))))) (st + 1) = _ := hu_s
  have hfr : ∀ q, q < st → (hu ν37 (st + 1) (.inl (G.2.1 2, 6, .inr (.inr (.inr (.inr (fun r => some (st + 2 + 2 * r)))))))) q = μ q := fun q hq => (hu_n (by omega)).trans (hfr q hq)
  have hoth : ∀ q, st + 1 < q ∧ q < st + 14 → (hu ν37 (st + 1) (.inl (G.2.1 2, 6, .inr (.inr (.inr (.inr (fun r => some (st + 2 + 2 * r)))))))) q = ν37 q := fun q hq => hu_n (by omega)
  refine lv_aload_n hx hb dX5_init_41 rfl (lv_at hl 1 rfl) ?_
  refine j_const hx hb dX5_init_42 ?_
  refine m_newI hx hb f_11 hK hH hS 3 rfl (by decide) dX5_init_43 (Nat.le_of_ble_eq_true rfl) (Nat.le_of_ble_eq_true rfl) (fun H hH hS hnn => ?_)
  have hst := hu_n' (a := (st + 14)) (e := (.inl (G.2.1 0, 3, .inl (fun _ => iv 0)))) (b := st) (by omega) hst
  have hrow := hu_n' (a := (st + 14)) (e := (.inl (G.2.1 0, 3, .inl (fun _ => iv 0)))) (b := (st + 1)) (by omega) hrow
  have hfr : ∀ q, q < st → (hu (hu ν37 (st + 1) (.inl (G.2.1 2, 6, .inr (.inr (.inr (.inr (fun r => some (st + 2 + 2 * r)))))))) (st + 14) (.inl (G.2.1 0, 3, .inl (fun _ => iv 0)))) q = μ q := fun q hq => (hu_n (by omega)).trans (hfr q hq)
  have hN39 : (hu (hu ν37 (st + 1) (.inl (G.2.1 2, 6, .inr (.inr (.inr (.inr (fun r => some (st + 2 + 2 * r)))))))) (st + 14) (.inl (G.2.1 0, 3, .inl (fun _ => iv 0)))) (st + 14) = some (.inl (G.2.1 0, 3, .inl (fun _ => iv 0))) := hu_s
  have hH : gP G (hu (hu ν37 (st + 1) (.inl (G.2.1 2, 6, .inr (.inr (.inr (.inr (fun r => some (st + 2 + 2 * r)))))))) (st + 14) (.inl (G.2.1 0, 3, .inl (fun _ => iv 0)))) (st + 15) H := hH
  have hoth : ∀ q, st + 1 < q ∧ q < st + 14 → (hu (hu ν37 (st + 1) (.inl (G.2.1 2, 6, .inr (.inr (.inr (.inr (fun r => some (st + 2 + 2 * r)))))))) (st + 14) (.inl (G.2.1 0, 3, .inl (fun _ => iv 0)))) q = ν37 q := fun q hq => (hu_n (by omega)).trans (hoth q hq)
  refine m_putF (C := RX5) (T := TX5) (N := 7) (ci := 4) hx hb hts i_X5 tyX5 tyX5_ok nmX5 hown hK hH hS hst rfl 1 (by decide) f_12 rfl hin rfl rfl rfl (Nat.le_of_ble_eq_true rfl) dX5_init_45 (fun H locs hH hS => ?_)
  have hrow := hu_n' (a := st) (e := (.inr (4, [.ref (st + 1), .ref (st + 14), .int (iv 0), .int (iv 0), .int (iv 0), .int (iv 0), .int (iv 0)]))) (b := (st + 1)) (by omega) hrow
  have hN39 := hu_n' (a := st) (e := (.inr (4, [.ref (st + 1), .ref (st + 14), .int (iv 0), .int (iv 0), .int (iv 0), .int (iv 0), .int (iv 0)]))) (b := (st + 14)) (by omega) hN39
  have hst : (hu (hu (hu ν37 (st + 1) (.inl (G.2.1 2, 6, .inr (.inr (.inr (.inr (fun r => some (st + 2 + 2 * r)))))))) (st + 14) (.inl (G.2.1 0, 3, .inl (fun _ => iv 0)))) st (.inr (4, [.ref (st + 1), .ref (st + 14), .int (iv 0), .int (iv 0), .int (iv 0), .int (iv 0), .int (iv 0)]))) st = some (.inr (4, [.ref (st + 1), .ref (st + 14), .int (iv 0), .int (iv 0), .int (iv 0), .int (iv 0), .int (iv 0)])) := hu_s
  have hoth : ∀ q, st + 1 < q ∧ q < st + 14 → (hu (hu (hu ν37 (st + 1) (.inl (G.2.1 2, 6, .inr (.inr (.inr (.inr (fun r => some (st + 2 + 2 * r)))))))) (st + 14) (.inl (G.2.1 0, 3, .inl (fun _ => iv 0)))) st (.inr (4, [.ref (st + 1), .ref (st + 14), .int (iv 0), .int (iv 0), .int (iv 0), .int (iv 0), .int (iv 0)]))) q = ν37 q := fun q hq => (hu_n (by omega)).trans (hoth q hq)
  have hfr2 : ∀ q, q ≠ st → q < st → (hu (hu (hu ν37 (st + 1) (.inl (G.2.1 2, 6, .inr (.inr (.inr (.inr (fun r => some (st + 2 + 2 * r)))))))) (st + 14) (.inl (G.2.1 0, 3, .inl (fun _ => iv 0)))) st (.inr (4, [.ref (st + 1), .ref (st + 14), .int (iv 0), .int (iv 0), .int (iv 0), .int (iv 0), .int (iv 0)]))) q = μ q := fun q _ hq => (hu_n (by omega)).trans (hfr q hq)
  have hfr : ∀ q, q < st → (hu (hu (hu ν37 (st + 1) (.inl (G.2.1 2, 6, .inr (.inr (.inr (.inr (fun r => some (st + 2 + 2 * r)))))))) (st + 14) (.inl (G.2.1 0, 3, .inl (fun _ => iv 0)))) st (.inr (4, [.ref (st + 1), .ref (st + 14), .int (iv 0), .int (iv 0), .int (iv 0), .int (iv 0), .int (iv 0)]))) q = μ q := fun q hq => hfr2 q (by omega) hq
  have hH : gP G (hu (hu (hu ν37 (st + 1) (.inl (G.2.1 2, 6, .inr (.inr (.inr (.inr (fun r => some (st + 2 + 2 * r)))))))) (st + 14) (.inl (G.2.1 0, 3, .inl (fun _ => iv 0)))) st (.inr (4, [.ref (st + 1), .ref (st + 14), .int (iv 0), .int (iv 0), .int (iv 0), .int (iv 0), .int (iv 0)]))) (st + 15) H := hH
  refine lv_aload_n hx hb dX5_init_48 rfl (lv_at hl 1 rfl) ?_
  refine m_get (C := RX5) (T := TX5) (N := 7) (ci := 4) hx hb hts i_X5 hown hK hH hst rfl 1 (by decide) f_12 rfl dX5_init_49 ?_
  refine j_const hx hb dX5_init_52 ?_
  refine j_bipush hx hb dX5_init_53 ?_ (by decide)
  refine m_iast (nA := 3) (f := (fun _ => 0)) hx hb hK hH hS hN39 dX5_init_55 (fun H locs hH hS => ?_) (by omega) (by omega)
  have hst := hu_n' (a := (st + 14)) (e := (.inl (G.2.1 0, 3, .inl (fun j => iv ((fu (fun _ => 0) 0 30) j))))) (b := st) (by omega) hst
  have hrow := hu_n' (a := (st + 14)) (e := (.inl (G.2.1 0, 3, .inl (fun j => iv ((fu (fun _ => 0) 0 30) j))))) (b := (st + 1)) (by omega) hrow
  have hN39 : (hu (hu (hu (hu ν37 (st + 1) (.inl (G.2.1 2, 6, .inr (.inr (.inr (.inr (fun r => some (st + 2 + 2 * r)))))))) (st + 14) (.inl (G.2.1 0, 3, .inl (fun _ => iv 0)))) st (.inr (4, [.ref (st + 1), .ref (st + 14), .int (iv 0), .int (iv 0), .int (iv 0), .int (iv 0), .int (iv 0)]))) (st + 14) (.inl (G.2.1 0, 3, .inl (fun j => iv ((fu (fun _ => 0) 0 30) j))))) (st + 14) = some (.inl (G.2.1 0, 3, .inl (fun j => iv ((fu (fun _ => 0) 0 30) j)))) := hu_s
  have hoth : ∀ q, st + 1 < q ∧ q < st + 14 → (hu (hu (hu (hu ν37 (st + 1) (.inl (G.2.1 2, 6, .inr (.inr (.inr (.inr (fun r => some (st + 2 + 2 * r)))))))) (st + 14) (.inl (G.2.1 0, 3, .inl (fun _ => iv 0)))) st (.inr (4, [.ref (st + 1), .ref (st + 14), .int (iv 0), .int (iv 0), .int (iv 0), .int (iv 0), .int (iv 0)]))) (st + 14) (.inl (G.2.1 0, 3, .inl (fun j => iv ((fu (fun _ => 0) 0 30) j))))) q = ν37 q := fun q hq => (hu_n (by omega)).trans (hoth q hq)
  have hfr2 : ∀ q, q ≠ st → q < st → (hu (hu (hu (hu ν37 (st + 1) (.inl (G.2.1 2, 6, .inr (.inr (.inr (.inr (fun r => some (st + 2 + 2 * r)))))))) (st + 14) (.inl (G.2.1 0, 3, .inl (fun _ => iv 0)))) st (.inr (4, [.ref (st + 1), .ref (st + 14), .int (iv 0), .int (iv 0), .int (iv 0), .int (iv 0), .int (iv 0)]))) (st + 14) (.inl (G.2.1 0, 3, .inl (fun j => iv ((fu (fun _ => 0) 0 30) j))))) q = μ q := fun q _ hq => (hu_n (by omega)).trans (hfr q hq)
  have hfr : ∀ q, q < st → (hu (hu (hu (hu ν37 (st + 1) (.inl (G.2.1 2, 6, .inr (.inr (.inr (.inr (fun r => some (st + 2 + 2 * r)))))))) (st + 14) (.inl (G.2.1 0, 3, .inl (fun _ => iv 0)))) st (.inr (4, [.ref (st + 1), .ref (st + 14), .int (iv 0), .int (iv 0), .int (iv 0), .int (iv 0), .int (iv 0)]))) (st + 14) (.inl (G.2.1 0, 3, .inl (fun j => iv ((fu (fun _ => 0) 0 30) j))))) q = μ q := fun q hq => hfr2 q (by omega) hq
  have hH : gP G (hu (hu (hu (hu ν37 (st + 1) (.inl (G.2.1 2, 6, .inr (.inr (.inr (.inr (fun r => some (st + 2 + 2 * r)))))))) (st + 14) (.inl (G.2.1 0, 3, .inl (fun _ => iv 0)))) st (.inr (4, [.ref (st + 1), .ref (st + 14), .int (iv 0), .int (iv 0), .int (iv 0), .int (iv 0), .int (iv 0)]))) (st + 14) (.inl (G.2.1 0, 3, .inl (fun j => iv ((fu (fun _ => 0) 0 30) j))))) (st + 15) H := hH
  refine lv_aload_n hx hb dX5_init_56 rfl (lv_at hl 1 rfl) ?_
  refine m_get (C := RX5) (T := TX5) (N := 7) (ci := 4) hx hb hts i_X5 hown hK hH hst rfl 1 (by decide) f_12 rfl dX5_init_57 ?_
  refine j_const hx hb dX5_init_60 ?_
  refine j_bipush hx hb dX5_init_61 ?_ (by decide)
  refine m_iast (nA := 3) (f := (fu (fun _ => 0) 0 30)) hx hb hK hH hS hN39 dX5_init_63 (fun H locs hH hS => ?_) (by omega) (by omega)
  have hst := hu_n' (a := (st + 14)) (e := (.inl (G.2.1 0, 3, .inl (fun j => iv ((fu (fu (fun _ => 0) 0 30) 1 100) j))))) (b := st) (by omega) hst
  have hrow := hu_n' (a := (st + 14)) (e := (.inl (G.2.1 0, 3, .inl (fun j => iv ((fu (fu (fun _ => 0) 0 30) 1 100) j))))) (b := (st + 1)) (by omega) hrow
  have hN39 : (hu (hu (hu (hu (hu ν37 (st + 1) (.inl (G.2.1 2, 6, .inr (.inr (.inr (.inr (fun r => some (st + 2 + 2 * r)))))))) (st + 14) (.inl (G.2.1 0, 3, .inl (fun _ => iv 0)))) st (.inr (4, [.ref (st + 1), .ref (st + 14), .int (iv 0), .int (iv 0), .int (iv 0), .int (iv 0), .int (iv 0)]))) (st + 14) (.inl (G.2.1 0, 3, .inl (fun j => iv ((fu (fun _ => 0) 0 30) j))))) (st + 14) (.inl (G.2.1 0, 3, .inl (fun j => iv ((fu (fu (fun _ => 0) 0 30) 1 100) j))))) (st + 14) = some (.inl (G.2.1 0, 3, .inl (fun j => iv ((fu (fu (fun _ => 0) 0 30) 1 100) j)))) := hu_s
  have hoth : ∀ q, st + 1 < q ∧ q < st + 14 → (hu (hu (hu (hu (hu ν37 (st + 1) (.inl (G.2.1 2, 6, .inr (.inr (.inr (.inr (fun r => some (st + 2 + 2 * r)))))))) (st + 14) (.inl (G.2.1 0, 3, .inl (fun _ => iv 0)))) st (.inr (4, [.ref (st + 1), .ref (st + 14), .int (iv 0), .int (iv 0), .int (iv 0), .int (iv 0), .int (iv 0)]))) (st + 14) (.inl (G.2.1 0, 3, .inl (fun j => iv ((fu (fun _ => 0) 0 30) j))))) (st + 14) (.inl (G.2.1 0, 3, .inl (fun j => iv ((fu (fu (fun _ => 0) 0 30) 1 100) j))))) q = ν37 q := fun q hq => (hu_n (by omega)).trans (hoth q hq)
  have hfr2 : ∀ q, q ≠ st → q < st → (hu (hu (hu (hu (hu ν37 (st + 1) (.inl (G.2.1 2, 6, .inr (.inr (.inr (.inr (fun r => some (st + 2 + 2 * r)))))))) (st + 14) (.inl (G.2.1 0, 3, .inl (fun _ => iv 0)))) st (.inr (4, [.ref (st + 1), .ref (st + 14), .int (iv 0), .int (iv 0), .int (iv 0), .int (iv 0), .int (iv 0)]))) (st + 14) (.inl (G.2.1 0, 3, .inl (fun j => iv ((fu (fun _ => 0) 0 30) j))))) (st + 14) (.inl (G.2.1 0, 3, .inl (fun j => iv ((fu (fu (fun _ => 0) 0 30) 1 100) j))))) q = μ q := fun q _ hq => (hu_n (by omega)).trans (hfr q hq)
  have hfr : ∀ q, q < st → (hu (hu (hu (hu (hu ν37 (st + 1) (.inl (G.2.1 2, 6, .inr (.inr (.inr (.inr (fun r => some (st + 2 + 2 * r)))))))) (st + 14) (.inl (G.2.1 0, 3, .inl (fun _ => iv 0)))) st (.inr (4, [.ref (st + 1), .ref (st + 14), .int (iv 0), .int (iv 0), .int (iv 0), .int (iv 0), .int (iv 0)]))) (st + 14) (.inl (G.2.1 0, 3, .inl (fun j => iv ((fu (fun _ => 0) 0 30) j))))) (st + 14) (.inl (G.2.1 0, 3, .inl (fun j => iv ((fu (fu (fun _ => 0) 0 30) 1 100) j))))) q = μ q := fun q hq => hfr2 q (by omega) hq
  have hH : gP G (hu (hu (hu (hu (hu ν37 (st + 1) (.inl (G.2.1 2, 6, .inr (.inr (.inr (.inr (fun r => some (st + 2 + 2 * r)))))))) (st + 14) (.inl (G.2.1 0, 3, .inl (fun _ => iv 0)))) st (.inr (4, [.ref (st + 1), .ref (st + 14), .int (iv 0), .int (iv 0), .int (iv 0), .int (iv 0), .int (iv 0)]))) (st + 14) (.inl (G.2.1 0, 3, .inl (fun j => iv ((fu (fun _ => 0) 0 30) j))))) (st + 14) (.inl (G.2.1 0, 3, .inl (fun j => iv ((fu (fu (fun _ => 0) 0 30) 1 100) j))))) (st + 15) H := hH
  refine lv_aload_n hx hb dX5_init_64 rfl (lv_at hl 1 rfl) ?_
  refine m_get (C := RX5) (T := TX5) (N := 7) (ci := 4) hx hb hts i_X5 hown hK hH hst rfl 1 (by decide) f_12 rfl dX5_init_65 ?_
  refine j_const hx hb dX5_init_68 ?_
  refine j_bipush hx hb dX5_init_69 ?_ (by decide)
  refine m_iast (nA := 3) (f := (fu (fu (fun _ => 0) 0 30) 1 100)) hx hb hK hH hS hN39 dX5_init_71 (fun H locs hH hS => ?_) (by omega) (by omega)
  have hst := hu_n' (a := (st + 14)) (e := (.inl (G.2.1 0, 3, .inl (fun j => iv ((fu (fu (fu (fun _ => 0) 0 30) 1 100) 2 40) j))))) (b := st) (by omega) hst
  have hrow := hu_n' (a := (st + 14)) (e := (.inl (G.2.1 0, 3, .inl (fun j => iv ((fu (fu (fu (fun _ => 0) 0 30) 1 100) 2 40) j))))) (b := (st + 1)) (by omega) hrow
  have hN39 : (hu (hu (hu (hu (hu (hu ν37 (st + 1) (.inl (G.2.1 2, 6, .inr (.inr (.inr (.inr (fun r => some (st + 2 + 2 * r)))))))) (st + 14) (.inl (G.2.1 0, 3, .inl (fun _ => iv 0)))) st (.inr (4, [.ref (st + 1), .ref (st + 14), .int (iv 0), .int (iv 0), .int (iv 0), .int (iv 0), .int (iv 0)]))) (st + 14) (.inl (G.2.1 0, 3, .inl (fun j => iv ((fu (fun _ => 0) 0 30) j))))) (st + 14) (.inl (G.2.1 0, 3, .inl (fun j => iv ((fu (fu (fun _ => 0) 0 30) 1 100) j))))) (st + 14) (.inl (G.2.1 0, 3, .inl (fun j => iv ((fu (fu (fu (fun _ => 0) 0 30) 1 100) 2 40) j))))) (st + 14) = some (.inl (G.2.1 0, 3, .inl (fun j => iv ((fu (fu (fu (fun _ => 0) 0 30) 1 100) 2 40) j)))) := hu_s
  have hoth : ∀ q, st + 1 < q ∧ q < st + 14 → (hu (hu (hu (hu (hu (hu ν37 (st + 1) (.inl (G.2.1 2, 6, .inr (.inr (.inr (.inr (fun r => some (st + 2 + 2 * r)))))))) (st + 14) (.inl (G.2.1 0, 3, .inl (fun _ => iv 0)))) st (.inr (4, [.ref (st + 1), .ref (st + 14), .int (iv 0), .int (iv 0), .int (iv 0), .int (iv 0), .int (iv 0)]))) (st + 14) (.inl (G.2.1 0, 3, .inl (fun j => iv ((fu (fun _ => 0) 0 30) j))))) (st + 14) (.inl (G.2.1 0, 3, .inl (fun j => iv ((fu (fu (fun _ => 0) 0 30) 1 100) j))))) (st + 14) (.inl (G.2.1 0, 3, .inl (fun j => iv ((fu (fu (fu (fun _ => 0) 0 30) 1 100) 2 40) j))))) q = ν37 q := fun q hq => (hu_n (by omega)).trans (hoth q hq)
  have hfr2 : ∀ q, q ≠ st → q < st → (hu (hu (hu (hu (hu (hu ν37 (st + 1) (.inl (G.2.1 2, 6, .inr (.inr (.inr (.inr (fun r => some (st + 2 + 2 * r)))))))) (st + 14) (.inl (G.2.1 0, 3, .inl (fun _ => iv 0)))) st (.inr (4, [.ref (st + 1), .ref (st + 14), .int (iv 0), .int (iv 0), .int (iv 0), .int (iv 0), .int (iv 0)]))) (st + 14) (.inl (G.2.1 0, 3, .inl (fun j => iv ((fu (fun _ => 0) 0 30) j))))) (st + 14) (.inl (G.2.1 0, 3, .inl (fun j => iv ((fu (fu (fun _ => 0) 0 30) 1 100) j))))) (st + 14) (.inl (G.2.1 0, 3, .inl (fun j => iv ((fu (fu (fu (fun _ => 0) 0 30) 1 100) 2 40) j))))) q = μ q := fun q _ hq => (hu_n (by omega)).trans (hfr q hq)
  have hfr : ∀ q, q < st → (hu (hu (hu (hu (hu (hu ν37 (st + 1) (.inl (G.2.1 2, 6, .inr (.inr (.inr (.inr (fun r => some (st + 2 + 2 * r)))))))) (st + 14) (.inl (G.2.1 0, 3, .inl (fun _ => iv 0)))) st (.inr (4, [.ref (st + 1), .ref (st + 14), .int (iv 0), .int (iv 0), .int (iv 0), .int (iv 0), .int (iv 0)]))) (st + 14) (.inl (G.2.1 0, 3, .inl (fun j => iv ((fu (fun _ => 0) 0 30) j))))) (st + 14) (.inl (G.2.1 0, 3, .inl (fun j => iv ((fu (fu (fun _ => 0) 0 30) 1 100) j))))) (st + 14) (.inl (G.2.1 0, 3, .inl (fun j => iv ((fu (fu (fu (fun _ => 0) 0 30) 1 100) 2 40) j))))) q = μ q := fun q hq => hfr2 q (by omega) hq
  have hH : gP G (hu (hu (hu (hu (hu (hu ν37 (st + 1) (.inl (G.2.1 2, 6, .inr (.inr (.inr (.inr (fun r => some (st + 2 + 2 * r)))))))) (st + 14) (.inl (G.2.1 0, 3, .inl (fun _ => iv 0)))) st (.inr (4, [.ref (st + 1), .ref (st + 14), .int (iv 0), .int (iv 0), .int (iv 0), .int (iv 0), .int (iv 0)]))) (st + 14) (.inl (G.2.1 0, 3, .inl (fun j => iv ((fu (fun _ => 0) 0 30) j))))) (st + 14) (.inl (G.2.1 0, 3, .inl (fun j => iv ((fu (fu (fun _ => 0) 0 30) 1 100) j))))) (st + 14) (.inl (G.2.1 0, 3, .inl (fun j => iv ((fu (fu (fu (fun _ => 0) 0 30) 1 100) 2 40) j))))) (st + 15) H := hH
  refine lv_aload_n hx hb dX5_init_72 rfl (lv_at hl 1 rfl) ?_
  refine j_bipush hx hb dX5_init_73 ?_ (by decide)
  refine m_put (C := RX5) (T := TX5) (N := 7) (ci := 4) hx hb hts i_X5 tyX5 tyX5_ok nmX5 hown hK hH hS hst rfl 2 (by decide) f_13 rfl rfl rfl (Nat.le_of_ble_eq_true rfl) dX5_init_75 (fun H locs hH hS => ?_)
  have hrow := hu_n' (a := st) (e := (.inr (4, [.ref (st + 1), .ref (st + 14), .int (iv 100), .int (iv 0), .int (iv 0), .int (iv 0), .int (iv 0)]))) (b := (st + 1)) (by omega) hrow
  have hN39 := hu_n' (a := st) (e := (.inr (4, [.ref (st + 1), .ref (st + 14), .int (iv 100), .int (iv 0), .int (iv 0), .int (iv 0), .int (iv 0)]))) (b := (st + 14)) (by omega) hN39
  have hst : (hu (hu (hu (hu (hu (hu (hu ν37 (st + 1) (.inl (G.2.1 2, 6, .inr (.inr (.inr (.inr (fun r => some (st + 2 + 2 * r)))))))) (st + 14) (.inl (G.2.1 0, 3, .inl (fun _ => iv 0)))) st (.inr (4, [.ref (st + 1), .ref (st + 14), .int (iv 0), .int (iv 0), .int (iv 0), .int (iv 0), .int (iv 0)]))) (st + 14) (.inl (G.2.1 0, 3, .inl (fun j => iv ((fu (fun _ => 0) 0 30) j))))) (st + 14) (.inl (G.2.1 0, 3, .inl (fun j => iv ((fu (fu (fun _ => 0) 0 30) 1 100) j))))) (st + 14) (.inl (G.2.1 0, 3, .inl (fun j => iv ((fu (fu (fu (fun _ => 0) 0 30) 1 100) 2 40) j))))) st (.inr (4, [.ref (st + 1), .ref (st + 14), .int (iv 100), .int (iv 0), .int (iv 0), .int (iv 0), .int (iv 0)]))) st = some (.inr (4, [.ref (st + 1), .ref (st + 14), .int (iv 100), .int (iv 0), .int (iv 0), .int (iv 0), .int (iv 0)])) := hu_s
  have hoth : ∀ q, st + 1 < q ∧ q < st + 14 → (hu (hu (hu (hu (hu (hu (hu ν37 (st + 1) (.inl (G.2.1 2, 6, .inr (.inr (.inr (.inr (fun r => some (st + 2 + 2 * r)))))))) (st + 14) (.inl (G.2.1 0, 3, .inl (fun _ => iv 0)))) st (.inr (4, [.ref (st + 1), .ref (st + 14), .int (iv 0), .int (iv 0), .int (iv 0), .int (iv 0), .int (iv 0)]))) (st + 14) (.inl (G.2.1 0, 3, .inl (fun j => iv ((fu (fun _ => 0) 0 30) j))))) (st + 14) (.inl (G.2.1 0, 3, .inl (fun j => iv ((fu (fu (fun _ => 0) 0 30) 1 100) j))))) (st + 14) (.inl (G.2.1 0, 3, .inl (fun j => iv ((fu (fu (fu (fun _ => 0) 0 30) 1 100) 2 40) j))))) st (.inr (4, [.ref (st + 1), .ref (st + 14), .int (iv 100), .int (iv 0), .int (iv 0), .int (iv 0), .int (iv 0)]))) q = ν37 q := fun q hq => (hu_n (by omega)).trans (hoth q hq)
  have hfr2 : ∀ q, q ≠ st → q < st → (hu (hu (hu (hu (hu (hu (hu ν37 (st + 1) (.inl (G.2.1 2, 6, .inr (.inr (.inr (.inr (fun r => some (st + 2 + 2 * r)))))))) (st + 14) (.inl (G.2.1 0, 3, .inl (fun _ => iv 0)))) st (.inr (4, [.ref (st + 1), .ref (st + 14), .int (iv 0), .int (iv 0), .int (iv 0), .int (iv 0), .int (iv 0)]))) (st + 14) (.inl (G.2.1 0, 3, .inl (fun j => iv ((fu (fun _ => 0) 0 30) j))))) (st + 14) (.inl (G.2.1 0, 3, .inl (fun j => iv ((fu (fu (fun _ => 0) 0 30) 1 100) j))))) (st + 14) (.inl (G.2.1 0, 3, .inl (fun j => iv ((fu (fu (fu (fun _ => 0) 0 30) 1 100) 2 40) j))))) st (.inr (4, [.ref (st + 1), .ref (st + 14), .int (iv 100), .int (iv 0), .int (iv 0), .int (iv 0), .int (iv 0)]))) q = μ q := fun q _ hq => (hu_n (by omega)).trans (hfr q hq)
  have hfr : ∀ q, q < st → (hu (hu (hu (hu (hu (hu (hu ν37 (st + 1) (.inl (G.2.1 2, 6, .inr (.inr (.inr (.inr (fun r => some (st + 2 + 2 * r)))))))) (st + 14) (.inl (G.2.1 0, 3, .inl (fun _ => iv 0)))) st (.inr (4, [.ref (st + 1), .ref (st + 14), .int (iv 0), .int (iv 0), .int (iv 0), .int (iv 0), .int (iv 0)]))) (st + 14) (.inl (G.2.1 0, 3, .inl (fun j => iv ((fu (fun _ => 0) 0 30) j))))) (st + 14) (.inl (G.2.1 0, 3, .inl (fun j => iv ((fu (fu (fun _ => 0) 0 30) 1 100) j))))) (st + 14) (.inl (G.2.1 0, 3, .inl (fun j => iv ((fu (fu (fu (fun _ => 0) 0 30) 1 100) 2 40) j))))) st (.inr (4, [.ref (st + 1), .ref (st + 14), .int (iv 100), .int (iv 0), .int (iv 0), .int (iv 0), .int (iv 0)]))) q = μ q := fun q hq => hfr2 q (by omega) hq
  have hH : gP G (hu (hu (hu (hu (hu (hu (hu ν37 (st + 1) (.inl (G.2.1 2, 6, .inr (.inr (.inr (.inr (fun r => some (st + 2 + 2 * r)))))))) (st + 14) (.inl (G.2.1 0, 3, .inl (fun _ => iv 0)))) st (.inr (4, [.ref (st + 1), .ref (st + 14), .int (iv 0), .int (iv 0), .int (iv 0), .int (iv 0), .int (iv 0)]))) (st + 14) (.inl (G.2.1 0, 3, .inl (fun j => iv ((fu (fun _ => 0) 0 30) j))))) (st + 14) (.inl (G.2.1 0, 3, .inl (fun j => iv ((fu (fu (fun _ => 0) 0 30) 1 100) j))))) (st + 14) (.inl (G.2.1 0, 3, .inl (fun j => iv ((fu (fu (fu (fun _ => 0) 0 30) 1 100) 2 40) j))))) st (.inr (4, [.ref (st + 1), .ref (st + 14), .int (iv 100), .int (iv 0), .int (iv 0), .int (iv 0), .int (iv 0)]))) (st + 15) H := hH
  subst hQ
  refine m_vret hx hb hr hlocks hH hS dX5_init_78 ?_
  have hset : (hu (hu (hu (hu (hu (hu (hu ν37 (st + 1) (.inl (G.2.1 2, 6, .inr (.inr (.inr (.inr (fun r => some (st + 2 + 2 * r)))))))) (st + 14) (.inl (G.2.1 0, 3, .inl (fun _ => iv 0)))) st (.inr (4, [.ref (st + 1), .ref (st + 14), .int (iv 0), .int (iv 0), .int (iv 0), .int (iv 0), .int (iv 0)]))) (st + 14) (.inl (G.2.1 0, 3, .inl (fun j => iv ((fu (fun _ => 0) 0 30) j))))) (st + 14) (.inl (G.2.1 0, 3, .inl (fun j => iv ((fu (fu (fun _ => 0) 0 30) 1 100) j))))) (st + 14) (.inl (G.2.1 0, 3, .inl (fun j => iv ((fu (fu (fu (fun _ => 0) 0 30) 1 100) 2 40) j))))) st (.inr (4, [.ref (st + 1), .ref (st + 14), .int (iv 100), .int (iv 0), .int (iv 0), .int (iv 0), .int (iv 0)]))) (st + 14) = some (.inl (G.2.1 0, 3, .inl (fun j => iv (row3 s0 j)))) := by rw [← row3_s0]; exact hN39
  exact ⟨IsSt.of hP (fun q a b => hoth q ⟨a, b⟩) hst hrow hset, rfl, hfr⟩

abbrev rm_c_X6_init : Room := { frames := 3, cells := 28, slots := 184, locals := 62 }
set_option maxHeartbeats 4000000 in
set_option maxRecDepth 100000 in
theorem c_X6_init (l : Launch) (G : wG) (μ : hM) (n : Nat) (sa : Nat) (hB : μ sa = some (.inr (5, [.null, .null, .int (iv 0), .int (iv 0), .int (iv 0), .int (iv 0), .int (iv 0), .null]))) (hn : n = sa + 1) : Met l yX6_init wsX6_init rm_c_X6_init (mPc G μ n [.ref sa]) (mQv G (fun μ1 n1 => IsState G μ1 sa (fun p => p) s0 0 0 none ∧ n1 = sa + 29 ∧ ∀ q, q < sa → μ1 q = μ q)) 28 184 (gA G) := by
  refine Met.ofW (cc := cX6_init) (maxL := 2) (ret := none) (by decide) rfl ?_
  intro p e s m args below meth c s₁ B hml hv
  obtain ⟨hav, hK, hH⟩ := hv
  have hx := B.exec
  have hb := B.bytes
  have hr := B.returns
  have hts := atoms_spec (ws := wsX6_init) B.pre
  have hown : s.vm.findClass RX6 = some m.cls := findClass_of_methodNamed B.named
  have hlocks := B.notSynchronized
  have hin : meth.name = "<init>" := (name_of_methodNamed B.named B.method).1
  have hS : va_S (gA G) s.heap s.heap [] := va_S.rf
  have hl := lv_entry ([.ref sa]) (n := 2) (Nat.le_of_ble_eq_true rfl)
  have hfr : entryFrame m args 2 = entryFrame m ([.ref sa] : List Value).toArray 2 := by rw [hav]
  rw [hfr, lg_entry_eq]
  generalize (lg_sl ([.ref sa]) ++ List.replicate (2 - (lg_sl ([.ref sa])).length) Slot.unset).toArray = ls at hl ⊢
  have hl : lv_has ls 2 [(0, .ref sa)] := hl
  generalize hQ : MQ below _ args s 28 184 (gA G) = Q
  show W p l e rm_c_X6_init s m args below meth c s.heap [] 0 0 Q (F0 m 0 ls [])
  obtain ⟨H, hHe⟩ : ∃ H, H = s.heap := ⟨_, rfl⟩
  obtain ⟨locs, hlo⟩ : ∃ q : List Loc, q = [] := ⟨_, rfl⟩
  have hH : gP G μ n H := by rw [hHe]; exact hH
  have hS : va_S (gA G) s.heap H locs := by rw [hHe, hlo]; exact hS
  suffices hgo : W p l e rm_c_X6_init s m args below meth c H locs 0 0 Q (F0 m 0 ls []) by rw [hHe, hlo] at hgo; exact hgo
  clear hHe hlo hfr hav
  have f_0 := hts (.methodLink RX6 3 objectInit) (List.mem_of_getElem? (i := 1) rfl)
  have f_1 := hts (.instanceMethod objectInit) (List.mem_of_getElem? (i := 2) rfl)
  have f_2 := hts (.code objectInit ⟨#[0xb1]⟩ 1 none) (List.mem_of_getElem? (i := 3) rfl)
  have f_3 := hts (.classLink RX6 9 RX5) (List.mem_of_getElem? (i := 4) rfl)
  have f_4 := hts (.instantiable RX5 7) (List.mem_of_getElem? (i := 5) rfl)
  have f_5 := hts (.initialized RX5) (List.mem_of_getElem? (i := 6) rfl)
  have i_X5 : ∀ w ∈ u_ws RX5 TX5 7, w ∈ wsX6_init := by decide +kernel
  have f_7 := hts (.methodLink RX6 11 yX5_init) (List.mem_of_getElem? (i := 12) rfl)
  have f_8 := hts (.instanceMethod yX5_init) (List.mem_of_getElem? (i := 13) rfl)
  have f_9 := hts (.fieldLink RX6 12 "StampDater$State" "stamp" "LStampDater$Stamp;") (List.mem_of_getElem? (i := 7) rfl)
  have i_X6 : ∀ w ∈ u_ws RX6 TX6 8, w ∈ wsX6_init := by decide +kernel
  have f_11 := hts (.classLink RX6 18 RX3) (List.mem_of_getElem? (i := 8) rfl)
  have f_12 := hts (.fieldLink RX6 20 "StampDater$State" "prints" "[LStampDater$Print;") (List.mem_of_getElem? (i := 9) rfl)
  have f_13 := hts (.instantiable RX3 6) (List.mem_of_getElem? (i := 10) rfl)
  have f_14 := hts (.initialized RX3) (List.mem_of_getElem? (i := 11) rfl)
  have i_X3 : ∀ w ∈ u_ws RX3 TX3 6, w ∈ wsX6_init := by decide +kernel
  have f_16 := hts (.instanceMethod yX3_init) (List.mem_of_getElem? (i := 29) rfl)
  subst hn
  have hfr : ∀ q, q < sa → μ q = μ q := fun q _ => rfl
  refine lv_aload_n hx hb dX6_init_0 rfl (lv_at hl 0 rfl) ?_
  refine W.objInit hx hb hown f_0 f_1 f_2 rfl (hl.1.trans hml.symm) rfl dX6_init_1 (Nat.le_of_ble_eq_true rfl) (Nat.le_of_ble_eq_true rfl) ?_
  show W p l e rm_c_X6_init s m args below meth c H locs 0 0 Q (F0 m 4 ls [])
  refine lv_aload_n hx hb dX6_init_4 rfl (lv_at hl 0 rfl) ?_
  refine m_new (C := RX5) (T := TX5) (N := 7) (ci := 4) (fs := [.null, .null, .int (iv 0), .int (iv 0), .int (iv 0), .int (iv 0), .int (iv 0)]) hx hb hts i_X5 tyX5 tyX5_ok hown f_3 f_4 f_5 hK hH hS rfl (fun j hj => by rcases (show j = 0 ∨ j = 1 ∨ j = 2 ∨ j = 3 ∨ j = 4 ∨ j = 5 ∨ j = 6 by omega) with rfl | rfl | rfl | rfl | rfl | rfl | rfl <;> rfl) dX6_init_5 (Nat.le_of_ble_eq_true rfl) (Nat.le_of_ble_eq_true rfl) (fun H hH hS hnn => ?_)
  have hB := hu_n' (a := (sa + 1)) (e := (.inr (4, [.null, .null, .int (iv 0), .int (iv 0), .int (iv 0), .int (iv 0), .int (iv 0)]))) (b := sa) (by omega) hB
  have hfr : ∀ q, q < sa → (hu μ (sa + 1) (.inr (4, [.null, .null, .int (iv 0), .int (iv 0), .int (iv 0), .int (iv 0), .int (iv 0)]))) q = μ q := fun q hq => (hu_n (by omega)).trans (hfr q hq)
  have hO1 : (hu μ (sa + 1) (.inr (4, [.null, .null, .int (iv 0), .int (iv 0), .int (iv 0), .int (iv 0), .int (iv 0)]))) (sa + 1) = some (.inr (4, [.null, .null, .int (iv 0), .int (iv 0), .int (iv 0), .int (iv 0), .int (iv 0)])) := hu_s
  have hH : gP G (hu μ (sa + 1) (.inr (4, [.null, .null, .int (iv 0), .int (iv 0), .int (iv 0), .int (iv 0), .int (iv 0)]))) (sa + 2) H := hH
  refine lv_dup hx hb dX6_init_8 rfl ?_
  refine m_callIv (As := []) (rest := [.ref (sa + 1), .ref sa]) ⟨hx, hb, hml, hown, hts⟩ hK hH hS (c_X5_init l G (hu μ (sa + 1) (.inr (4, [.null, .null, .int (iv 0), .int (iv 0), .int (iv 0), .int (iv 0), .int (iv 0)]))) (sa + 2) (sa + 1) hO1 rfl) (cwI 0 hts gX6_init_X5_init rfl rfl rfl f_5 f_7 f_8 rfl (by decide +kernel) ⟨(Nat.le_of_ble_eq_true rfl), (Nat.le_of_ble_eq_true rfl)⟩) rfl rfl hl.1 (Nat.le_of_ble_eq_true rfl) dX6_init_9 ⟨(Nat.le_of_ble_eq_true rfl), (Nat.le_of_ble_eq_true rfl)⟩ (fun μ2 n3 H locs hp4 hH hS => ?_)
  obtain ⟨hSt, hn1, hfr1⟩ := hp4
  rw [hn1] at hH
  have hB := (hfr1 sa (by omega)).trans hB
  have hfr : ∀ q, q < sa → μ2 q = μ q := fun q hq => (hfr1 q (by omega)).trans (hfr q hq)
  refine m_putF (C := RX6) (T := TX6) (N := 8) (ci := 5) hx hb hts i_X6 tyX6 tyX6_ok nmX6 hown hK hH hS hB rfl 0 (by decide) f_9 rfl hin rfl rfl rfl (Nat.le_of_ble_eq_true rfl) dX6_init_12 (fun H locs hH hS => ?_)
  have hSt : IsSt G (hu μ2 sa (.inr (5, [.ref (sa + 1), .null, .int (iv 0), .int (iv 0), .int (iv 0), .int (iv 0), .int (iv 0), .null]))) (sa + 1) (fun p => p) s0 0 0 := hSt.fr (fun q b c => hu_n (by omega))
  have hfr : ∀ q, q < sa → (hu μ2 sa (.inr (5, [.ref (sa + 1), .null, .int (iv 0), .int (iv 0), .int (iv 0), .int (iv 0), .int (iv 0), .null]))) q = μ q := fun q hq => (hu_n (by omega)).trans (hfr q hq)
  have hB : (hu μ2 sa (.inr (5, [.ref (sa + 1), .null, .int (iv 0), .int (iv 0), .int (iv 0), .int (iv 0), .int (iv 0), .null]))) sa = some (.inr (5, [.ref (sa + 1), .null, .int (iv 0), .int (iv 0), .int (iv 0), .int (iv 0), .int (iv 0), .null])) := hu_s
  have hH : gP G (hu μ2 sa (.inr (5, [.ref (sa + 1), .null, .int (iv 0), .int (iv 0), .int (iv 0), .int (iv 0), .int (iv 0), .null]))) (sa + 16) H := hH
  refine lv_aload_n hx hb dX6_init_15 rfl (lv_at hl 0 rfl) ?_
  refine j_bipush hx hb dX6_init_16 ?_ (by decide)
  refine m_anew hx hb hown f_11 (hK.2.2.2.2.2.2.2.1.use) hK hH hS 3 rfl 12 rfl (by decide) dX6_init_18 (Nat.le_of_ble_eq_true rfl) (Nat.le_of_ble_eq_true rfl) (fun H hH hS hnn => ?_)
  have hB := hu_n' (a := (sa + 16)) (e := (.inl (G.2.1 3, 12, .inr (.inr (.inr (.inr (fun _ => none))))))) (b := sa) (by omega) hB
  have hfr : ∀ q, q < sa → (hu (hu μ2 sa (.inr (5, [.ref (sa + 1), .null, .int (iv 0), .int (iv 0), .int (iv 0), .int (iv 0), .int (iv 0), .null]))) (sa + 16) (.inl (G.2.1 3, 12, .inr (.inr (.inr (.inr (fun _ => none))))))) q = μ q := fun q hq => (hu_n (by omega)).trans (hfr q hq)
  have hA5 : (hu (hu μ2 sa (.inr (5, [.ref (sa + 1), .null, .int (iv 0), .int (iv 0), .int (iv 0), .int (iv 0), .int (iv 0), .null]))) (sa + 16) (.inl (G.2.1 3, 12, .inr (.inr (.inr (.inr (fun _ => none))))))) (sa + 16) = some (.inl (G.2.1 3, 12, .inr (.inr (.inr (.inr (fun _ => none)))))) := hu_s
  have hH : gP G (hu (hu μ2 sa (.inr (5, [.ref (sa + 1), .null, .int (iv 0), .int (iv 0), .int (iv 0), .int (iv 0), .int (iv 0), .null]))) (sa + 16) (.inl (G.2.1 3, 12, .inr (.inr (.inr (.inr (fun _ => none))))))) (sa + 17) H := hH
  have hSt : IsSt G (hu (hu μ2 sa (.inr (5, [.ref (sa + 1), .null, .int (iv 0), .int (iv 0), .int (iv 0), .int (iv 0), .int (iv 0), .null]))) (sa + 16) (.inl (G.2.1 3, 12, .inr (.inr (.inr (.inr (fun _ => none))))))) (sa + 1) (fun p => p) s0 0 0 := hSt.fr (fun q b c => hu_n (by omega))
  refine m_putF (C := RX6) (T := TX6) (N := 8) (ci := 5) hx hb hts i_X6 tyX6 tyX6_ok nmX6 hown hK hH hS hB rfl 1 (by decide) f_12 rfl hin rfl rfl rfl (Nat.le_of_ble_eq_true rfl) dX6_init_21 (fun H locs hH hS => ?_)
  have hSt : IsSt G (hu (hu (hu μ2 sa (.inr (5, [.ref (sa + 1), .null, .int (iv 0), .int (iv 0), .int (iv 0), .int (iv 0), .int (iv 0), .null]))) (sa + 16) (.inl (G.2.1 3, 12, .inr (.inr (.inr (.inr (fun _ => none))))))) sa (.inr (5, [.ref (sa + 1), .ref (sa + 16), .int (iv 0), .int (iv 0), .int (iv 0), .int (iv 0), .int (iv 0), .null]))) (sa + 1) (fun p => p) s0 0 0 := hSt.fr (fun q b c => hu_n (by omega))
  have hfr : ∀ q, q < sa → (hu (hu (hu μ2 sa (.inr (5, [.ref (sa + 1), .null, .int (iv 0), .int (iv 0), .int (iv 0), .int (iv 0), .int (iv 0), .null]))) (sa + 16) (.inl (G.2.1 3, 12, .inr (.inr (.inr (.inr (fun _ => none))))))) sa (.inr (5, [.ref (sa + 1), .ref (sa + 16), .int (iv 0), .int (iv 0), .int (iv 0), .int (iv 0), .int (iv 0), .null]))) q = μ q := fun q hq => (hu_n (by omega)).trans (hfr q hq)
  have hA5 := hu_n' (a := sa) (e := (.inr (5, [.ref (sa + 1), .ref (sa + 16), .int (iv 0), .int (iv 0), .int (iv 0), .int (iv 0), .int (iv 0), .null]))) (b := (sa + 16)) (by omega) hA5
  have hB : (hu (hu (hu μ2 sa (.inr (5, [.ref (sa + 1), .null, .int (iv 0), .int (iv 0), .int (iv 0), .int (iv 0), .int (iv 0), .null]))) (sa + 16) (.inl (G.2.1 3, 12, .inr (.inr (.inr (.inr (fun _ => none))))))) sa (.inr (5, [.ref (sa + 1), .ref (sa + 16), .int (iv 0), .int (iv 0), .int (iv 0), .int (iv 0), .int (iv 0), .null]))) sa = some (.inr (5, [.ref (sa + 1), .ref (sa + 16), .int (iv 0), .int (iv 0), .int (iv 0), .int (iv 0), .int (iv 0), .null])) := hu_s
  have hH : gP G (hu (hu (hu μ2 sa (.inr (5, [.ref (sa + 1), .null, .int (iv 0), .int (iv 0), .int (iv 0), .int (iv 0), .int (iv 0), .null]))) (sa + 16) (.inl (G.2.1 3, 12, .inr (.inr (.inr (.inr (fun _ => none))))))) sa (.inr (5, [.ref (sa + 1), .ref (sa + 16), .int (iv 0), .int (iv 0), .int (iv 0), .int (iv 0), .int (iv 0), .null]))) (sa + 17) H := hH
  have hP : SaP G (hu (hu (hu μ2 sa (.inr (5, [.ref (sa + 1), .null, .int (iv 0), .int (iv 0), .int (iv 0), .int (iv 0), .int (iv 0), .null]))) (sa + 16) (.inl (G.2.1 3, 12, .inr (.inr (.inr (.inr (fun _ => none))))))) sa (.inr (5, [.ref (sa + 1), .ref (sa + 16), .int (iv 0), .int (iv 0), .int (iv 0), .int (iv 0), .int (iv 0), .null]))) sa 0 := ⟨hB, hSt, hA5, fun p hp => absurd hp (Nat.not_lt_zero p)⟩
  refine j_const hx hb dX6_init_24 ?_
  refine lv_istore_n (lv' := [(1, .int (iv 0)), (0, .ref sa)]) hx hb dX6_init_25 rfl hl (by decide) rfl (fun ls hl => ?_)
  refine lv_iload_n hx hb dX6_init_26 rfl (lv_at hl 0 rfl) ?_
  refine j_bipush hx hb dX6_init_27 ?_ (by decide)
  refine j_icmp_ge (tgt := 51) hx hb dX6_init_29 (by decide) (fun c6 => absurd c6 (by omega)) (fun c6 => ?_) (by omega) (by omega)
  refine lv_aload_n hx hb dX6_init_32 rfl (lv_at hl 1 rfl) ?_
  refine m_get (C := RX6) (T := TX6) (N := 8) (ci := 5) hx hb hts i_X6 hown hK hH hP.1 rfl 1 (by decide) f_12 rfl dX6_init_33 ?_
  refine lv_iload_n hx hb dX6_init_36 rfl (lv_at hl 0 rfl) ?_
  refine m_new (C := RX3) (T := TX3) (N := 6) (ci := 2) (fs := [.int (iv 0), .int (iv 0), .int (iv 0), .int (iv 0), .int (iv 0), .int (iv 0)]) hx hb hts i_X3 tyX3 tyX3_ok hown f_11 f_13 f_14 hK hH hS rfl (fun j hj => by rcases (show j = 0 ∨ j = 1 ∨ j = 2 ∨ j = 3 ∨ j = 4 ∨ j = 5 by omega) with rfl | rfl | rfl | rfl | rfl | rfl <;> rfl) dX6_init_37 (Nat.le_of_ble_eq_true rfl) (Nat.le_of_ble_eq_true rfl) (fun H hH hS hnn => ?_)
  have hP_1 := hu_n' (a := (sa + 17)) (e := (.inr (2, [.int (iv 0), .int (iv 0), .int (iv 0), .int (iv 0), .int (iv 0), .int (iv 0)]))) (b := sa) (by omega) hP.1
  have hP_2_2_1 := hu_n' (a := (sa + 17)) (e := (.inr (2, [.int (iv 0), .int (iv 0), .int (iv 0), .int (iv 0), .int (iv 0), .int (iv 0)]))) (b := (sa + 16)) (by omega) hP.2.2.1
  have hfr : ∀ q, q < sa → (hu (hu (hu (hu μ2 sa (.inr (5, [.ref (sa + 1), .null, .int (iv 0), .int (iv 0), .int (iv 0), .int (iv 0), .int (iv 0), .null]))) (sa + 16) (.inl (G.2.1 3, 12, .inr (.inr (.inr (.inr (fun _ => none))))))) sa (.inr (5, [.ref (sa + 1), .ref (sa + 16), .int (iv 0), .int (iv 0), .int (iv 0), .int (iv 0), .int (iv 0), .null]))) (sa + 17) (.inr (2, [.int (iv 0), .int (iv 0), .int (iv 0), .int (iv 0), .int (iv 0), .int (iv 0)]))) q = μ q := fun q hq => (hu_n (by omega)).trans (hfr q hq)
  have hin2 : ∀ q, q < (sa + 17) → (hu (hu (hu (hu μ2 sa (.inr (5, [.ref (sa + 1), .null, .int (iv 0), .int (iv 0), .int (iv 0), .int (iv 0), .int (iv 0), .null]))) (sa + 16) (.inl (G.2.1 3, 12, .inr (.inr (.inr (.inr (fun _ => none))))))) sa (.inr (5, [.ref (sa + 1), .ref (sa + 16), .int (iv 0), .int (iv 0), .int (iv 0), .int (iv 0), .int (iv 0), .null]))) (sa + 17) (.inr (2, [.int (iv 0), .int (iv 0), .int (iv 0), .int (iv 0), .int (iv 0), .int (iv 0)]))) q = (hu (hu (hu μ2 sa (.inr (5, [.ref (sa + 1), .null, .int (iv 0), .int (iv 0), .int (iv 0), .int (iv 0), .int (iv 0), .null]))) (sa + 16) (.inl (G.2.1 3, 12, .inr (.inr (.inr (.inr (fun _ => none))))))) sa (.inr (5, [.ref (sa + 1), .ref (sa + 16), .int (iv 0), .int (iv 0), .int (iv 0), .int (iv 0), .int (iv 0), .null]))) q := fun q hq => hu_n (by omega)
  have hO7 : (hu (hu (hu (hu μ2 sa (.inr (5, [.ref (sa + 1), .null, .int (iv 0), .int (iv 0), .int (iv 0), .int (iv 0), .int (iv 0), .null]))) (sa + 16) (.inl (G.2.1 3, 12, .inr (.inr (.inr (.inr (fun _ => none))))))) sa (.inr (5, [.ref (sa + 1), .ref (sa + 16), .int (iv 0), .int (iv 0), .int (iv 0), .int (iv 0), .int (iv 0), .null]))) (sa + 17) (.inr (2, [.int (iv 0), .int (iv 0), .int (iv 0), .int (iv 0), .int (iv 0), .int (iv 0)]))) (sa + 17) = some (.inr (2, [.int (iv 0), .int (iv 0), .int (iv 0), .int (iv 0), .int (iv 0), .int (iv 0)])) := hu_s
  have hH : gP G (hu (hu (hu (hu μ2 sa (.inr (5, [.ref (sa + 1), .null, .int (iv 0), .int (iv 0), .int (iv 0), .int (iv 0), .int (iv 0), .null]))) (sa + 16) (.inl (G.2.1 3, 12, .inr (.inr (.inr (.inr (fun _ => none))))))) sa (.inr (5, [.ref (sa + 1), .ref (sa + 16), .int (iv 0), .int (iv 0), .int (iv 0), .int (iv 0), .int (iv 0), .null]))) (sa + 17) (.inr (2, [.int (iv 0), .int (iv 0), .int (iv 0), .int (iv 0), .int (iv 0), .int (iv 0)]))) (sa + 18) H := hH
  refine lv_dup hx hb dX6_init_40 rfl ?_
  refine m_callINv (As := []) (rest := [.ref (sa + 17), .int (iv 0), .ref (sa + 16)]) ⟨hx, hb, hml, hown, hts⟩ hK hH hS (c_X3_init l G (hu (hu (hu (hu μ2 sa (.inr (5, [.ref (sa + 1), .null, .int (iv 0), .int (iv 0), .int (iv 0), .int (iv 0), .int (iv 0), .null]))) (sa + 16) (.inl (G.2.1 3, 12, .inr (.inr (.inr (.inr (fun _ => none))))))) sa (.inr (5, [.ref (sa + 1), .ref (sa + 16), .int (iv 0), .int (iv 0), .int (iv 0), .int (iv 0), .int (iv 0), .null]))) (sa + 17) (.inr (2, [.int (iv 0), .int (iv 0), .int (iv 0), .int (iv 0), .int (iv 0), .int (iv 0)]))) (sa + 18) (sa + 17)) ⟨va_cnB 0 hts gX6_init_X3_init_n24 rfl rfl rfl hK.2.2.2.2.2.1 f_14 (by decide +kernel) ⟨(Nat.le_of_ble_eq_true rfl), (Nat.le_of_ble_eq_true rfl)⟩, rfl, f_16⟩ rfl rfl hl.1 (Nat.le_of_ble_eq_true rfl) dX6_init_41 ⟨(Nat.le_of_ble_eq_true rfl), (Nat.le_of_ble_eq_true rfl)⟩ (fun μ8 n9 H locs hp10 hH hS => ?_)
  obtain ⟨hm2, hn2⟩ := hp10; rw [hm2, hn2] at hH; clear hm2 hn2
  refine m_aast hx hb hK hH hS 3 2 hP_2_2_1 rfl hO7 rfl dX6_init_44 (fun H locs hH hS => ?_) (by omega) (by omega)
  have hP : SaP G (hu (hu (hu (hu (hu μ2 sa (.inr (5, [.ref (sa + 1), .null, .int (iv 0), .int (iv 0), .int (iv 0), .int (iv 0), .int (iv 0), .null]))) (sa + 16) (.inl (G.2.1 3, 12, .inr (.inr (.inr (.inr (fun _ => none))))))) sa (.inr (5, [.ref (sa + 1), .ref (sa + 16), .int (iv 0), .int (iv 0), .int (iv 0), .int (iv 0), .int (iv 0), .null]))) (sa + 17) (.inr (2, [.int (iv 0), .int (iv 0), .int (iv 0), .int (iv 0), .int (iv 0), .int (iv 0)]))) (sa + 16) (.inl (G.2.1 3, 12, .inr (.inr (.inr (.inr (qu (fun r => if r < 0 then some (sa + 17 + r) else none) 0 (sa + 17)))))))) sa 1 := hP.step (k := 0) (fun q h1 h2 => hin2 q (by omega)) hO7
  have hfr : ∀ q, q < sa → (hu (hu (hu (hu (hu μ2 sa (.inr (5, [.ref (sa + 1), .null, .int (iv 0), .int (iv 0), .int (iv 0), .int (iv 0), .int (iv 0), .null]))) (sa + 16) (.inl (G.2.1 3, 12, .inr (.inr (.inr (.inr (fun _ => none))))))) sa (.inr (5, [.ref (sa + 1), .ref (sa + 16), .int (iv 0), .int (iv 0), .int (iv 0), .int (iv 0), .int (iv 0), .null]))) (sa + 17) (.inr (2, [.int (iv 0), .int (iv 0), .int (iv 0), .int (iv 0), .int (iv 0), .int (iv 0)]))) (sa + 16) (.inl (G.2.1 3, 12, .inr (.inr (.inr (.inr (qu (fun r => if r < 0 then some (sa + 17 + r) else none) 0 (sa + 17)))))))) q = μ q := fun q hq => (hu_n (by omega)).trans (hfr q hq)
  have hH : gP G (hu (hu (hu (hu (hu μ2 sa (.inr (5, [.ref (sa + 1), .null, .int (iv 0), .int (iv 0), .int (iv 0), .int (iv 0), .int (iv 0), .null]))) (sa + 16) (.inl (G.2.1 3, 12, .inr (.inr (.inr (.inr (fun _ => none))))))) sa (.inr (5, [.ref (sa + 1), .ref (sa + 16), .int (iv 0), .int (iv 0), .int (iv 0), .int (iv 0), .int (iv 0), .null]))) (sa + 17) (.inr (2, [.int (iv 0), .int (iv 0), .int (iv 0), .int (iv 0), .int (iv 0), .int (iv 0)]))) (sa + 16) (.inl (G.2.1 3, 12, .inr (.inr (.inr (.inr (qu (fun r => if r < 0 then some (sa + 17 + r) else none) 0 (sa + 17)))))))) (sa + 18) H := hH
  obtain ⟨ν11, hν11⟩ : ∃ ν : hM, ν = (hu (hu (hu (hu (hu μ2 sa (.inr (5, [.ref (sa + 1), .null, .int (iv 0), .int (iv 0), .int (iv 0), .int (iv 0), .int (iv 0), .null]))) (sa + 16) (.inl (G.2.1 3, 12, .inr (.inr (.inr (.inr (fun _ => none))))))) sa (.inr (5, [.ref (sa + 1), .ref (sa + 16), .int (iv 0), .int (iv 0), .int (iv 0), .int (iv 0), .int (iv 0), .null]))) (sa + 17) (.inr (2, [.int (iv 0), .int (iv 0), .int (iv 0), .int (iv 0), .int (iv 0), .int (iv 0)]))) (sa + 16) (.inl (G.2.1 3, 12, .inr (.inr (.inr (.inr (qu (fun r => if r < 0 then some (sa + 17 + r) else none) 0 (sa + 17)))))))) := ⟨_, rfl⟩
  rw [← hν11] at hP hfr hH
  have hH : gP G ν11 (sa + 18) H := hH
  refine j_iinc (lv' := [(1, .int (iv 1)), (0, .ref sa)]) hx hb dX6_init_45 hl (k := 0) rfl (by decide) rfl (fun ls hl => ?_)
  refine lv_goto (tgt := 26) hx hb dX6_init_48 (by decide) ?_
  refine lv_iload_n hx hb dX6_init_26 rfl (lv_at hl 0 rfl) ?_
  refine j_bipush hx hb dX6_init_27 ?_ (by decide)
  refine j_icmp_ge (tgt := 51) hx hb dX6_init_29 (by decide) (fun c12 => absurd c12 (by omega)) (fun c12 => ?_) (by omega) (by omega)
  refine lv_aload_n hx hb dX6_init_32 rfl (lv_at hl 1 rfl) ?_
  refine m_get (C := RX6) (T := TX6) (N := 8) (ci := 5) hx hb hts i_X6 hown hK hH hP.1 rfl 1 (by decide) f_12 rfl dX6_init_33 ?_
  refine lv_iload_n hx hb dX6_init_36 rfl (lv_at hl 0 rfl) ?_
  refine m_new (C := RX3) (T := TX3) (N := 6) (ci := 2) (fs := [.int (iv 0), .int (iv 0), .int (iv 0), .int (iv 0), .int (iv 0), .int (iv 0)]) hx hb hts i_X3 tyX3 tyX3_ok hown f_11 f_13 f_14 hK hH hS rfl (fun j hj => by rcases (show j = 0 ∨ j = 1 ∨ j = 2 ∨ j = 3 ∨ j = 4 ∨ j = 5 by omega) with rfl | rfl | rfl | rfl | rfl | rfl <;> rfl) dX6_init_37 (Nat.le_of_ble_eq_true rfl) (Nat.le_of_ble_eq_true rfl) (fun H hH hS hnn => ?_)
  have hP_1 := hu_n' (a := (sa + 18)) (e := (.inr (2, [.int (iv 0), .int (iv 0), .int (iv 0), .int (iv 0), .int (iv 0), .int (iv 0)]))) (b := sa) (by omega) hP.1
  have hP_2_2_1 := hu_n' (a := (sa + 18)) (e := (.inr (2, [.int (iv 0), .int (iv 0), .int (iv 0), .int (iv 0), .int (iv 0), .int (iv 0)]))) (b := (sa + 16)) (by omega) hP.2.2.1
  have hfr : ∀ q, q < sa → (hu ν11 (sa + 18) (.inr (2, [.int (iv 0), .int (iv 0), .int (iv 0), .int (iv 0), .int (iv 0), .int (iv 0)]))) q = μ q := fun q hq => (hu_n (by omega)).trans (hfr q hq)
  have hin2 : ∀ q, q < (sa + 18) → (hu ν11 (sa + 18) (.inr (2, [.int (iv 0), .int (iv 0), .int (iv 0), .int (iv 0), .int (iv 0), .int (iv 0)]))) q = ν11 q := fun q hq => hu_n (by omega)
  have hO13 : (hu ν11 (sa + 18) (.inr (2, [.int (iv 0), .int (iv 0), .int (iv 0), .int (iv 0), .int (iv 0), .int (iv 0)]))) (sa + 18) = some (.inr (2, [.int (iv 0), .int (iv 0), .int (iv 0), .int (iv 0), .int (iv 0), .int (iv 0)])) := hu_s
  have hH : gP G (hu ν11 (sa + 18) (.inr (2, [.int (iv 0), .int (iv 0), .int (iv 0), .int (iv 0), .int (iv 0), .int (iv 0)]))) (sa + 19) H := hH
  refine lv_dup hx hb dX6_init_40 rfl ?_
  refine m_callINv (As := []) (rest := [.ref (sa + 18), .int (iv 1), .ref (sa + 16)]) ⟨hx, hb, hml, hown, hts⟩ hK hH hS (c_X3_init l G (hu ν11 (sa + 18) (.inr (2, [.int (iv 0), .int (iv 0), .int (iv 0), .int (iv 0), .int (iv 0), .int (iv 0)]))) (sa + 19) (sa + 18)) ⟨va_cnB 0 hts gX6_init_X3_init_n24 rfl rfl rfl hK.2.2.2.2.2.1 f_14 (by decide +kernel) ⟨(Nat.le_of_ble_eq_true rfl), (Nat.le_of_ble_eq_true rfl)⟩, rfl, f_16⟩ rfl rfl hl.1 (Nat.le_of_ble_eq_true rfl) dX6_init_41 ⟨(Nat.le_of_ble_eq_true rfl), (Nat.le_of_ble_eq_true rfl)⟩ (fun μ14 n15 H locs hp16 hH hS => ?_)
  obtain ⟨hm2, hn2⟩ := hp16; rw [hm2, hn2] at hH; clear hm2 hn2
  refine m_aast hx hb hK hH hS 3 2 hP_2_2_1 rfl hO13 rfl dX6_init_44 (fun H locs hH hS => ?_) (by omega) (by omega)
  have hP : SaP G (hu (hu ν11 (sa + 18) (.inr (2, [.int (iv 0), .int (iv 0), .int (iv 0), .int (iv 0), .int (iv 0), .int (iv 0)]))) (sa + 16) (.inl (G.2.1 3, 12, .inr (.inr (.inr (.inr (qu (fun r => if r < 1 then some (sa + 17 + r) else none) 1 (sa + 18)))))))) sa 2 := hP.step (k := 1) (fun q h1 h2 => hin2 q (by omega)) hO13
  have hfr : ∀ q, q < sa → (hu (hu ν11 (sa + 18) (.inr (2, [.int (iv 0), .int (iv 0), .int (iv 0), .int (iv 0), .int (iv 0), .int (iv 0)]))) (sa + 16) (.inl (G.2.1 3, 12, .inr (.inr (.inr (.inr (qu (fun r => if r < 1 then some (sa + 17 + r) else none) 1 (sa + 18)))))))) q = μ q := fun q hq => (hu_n (by omega)).trans (hfr q hq)
  have hH : gP G (hu (hu ν11 (sa + 18) (.inr (2, [.int (iv 0), .int (iv 0), .int (iv 0), .int (iv 0), .int (iv 0), .int (iv 0)]))) (sa + 16) (.inl (G.2.1 3, 12, .inr (.inr (.inr (.inr (qu (fun r => if r < 1 then some (sa + 17 + r) else none) 1 (sa + 18)))))))) (sa + 19) H := hH
  obtain ⟨ν17, hν17⟩ : ∃ ν : hM, ν = (hu (hu ν11 (sa + 18) (.inr (2, [.int (iv 0), .int (iv 0), .int (iv 0), .int (iv 0), .int (iv 0), .int (iv 0)]))) (sa + 16) (.inl (G.2.1 3, 12, .inr (.inr (.inr (.inr (qu (fun r => if r < 1 then some (sa + 17 + r) else none) 1 (sa + 18)))))))) := ⟨_, rfl⟩
  rw [← hν17] at hP hfr hH
  have hH : gP G ν17 (sa + 19) H := hH
  refine j_iinc (lv' := [(1, .int (iv 2)), (0, .ref sa)]) hx hb dX6_init_45 hl (k := 0) rfl (by decide) rfl (fun ls hl => ?_)
  refine lv_goto (tgt := 26) hx hb dX6_init_48 (by decide) ?_
  refine lv_iload_n hx hb dX6_init_26 rfl (lv_at hl 0 rfl) ?_
  refine j_bipush hx hb dX6_init_27 ?_ (by decide)
  refine j_icmp_ge (tgt := 51) hx hb dX6_init_29 (by decide) (fun c18 => absurd c18 (by omega)) (fun c18 => ?_) (by omega) (by omega)
  refine lv_aload_n hx hb dX6_init_32 rfl (lv_at hl 1 rfl) ?_
  refine m_get (C := RX6) (T := TX6) (N := 8) (ci := 5) hx hb hts i_X6 hown hK hH hP.1 rfl 1 (by decide) f_12 rfl dX6_init_33 ?_
  refine lv_iload_n hx hb dX6_init_36 rfl (lv_at hl 0 rfl) ?_
  refine m_new (C := RX3) (T := TX3) (N := 6) (ci := 2) (fs := [.int (iv 0), .int (iv 0), .int (iv 0), .int (iv 0), .int (iv 0), .int (iv 0)]) hx hb hts i_X3 tyX3 tyX3_ok hown f_11 f_13 f_14 hK hH hS rfl (fun j hj => by rcases (show j = 0 ∨ j = 1 ∨ j = 2 ∨ j = 3 ∨ j = 4 ∨ j = 5 by omega) with rfl | rfl | rfl | rfl | rfl | rfl <;> rfl) dX6_init_37 (Nat.le_of_ble_eq_true rfl) (Nat.le_of_ble_eq_true rfl) (fun H hH hS hnn => ?_)
  have hP_1 := hu_n' (a := (sa + 19)) (e := (.inr (2, [.int (iv 0), .int (iv 0), .int (iv 0), .int (iv 0), .int (iv 0), .int (iv 0)]))) (b := sa) (by omega) hP.1
  have hP_2_2_1 := hu_n' (a := (sa + 19)) (e := (.inr (2, [.int (iv 0), .int (iv 0), .int (iv 0), .int (iv 0), .int (iv 0), .int (iv 0)]))) (b := (sa + 16)) (by omega) hP.2.2.1
  have hfr : ∀ q, q < sa → (hu ν17 (sa + 19) (.inr (2, [.int (iv 0), .int (iv 0), .int (iv 0), .int (iv 0), .int (iv 0), .int (iv 0)]))) q = μ q := fun q hq => (hu_n (by omega)).trans (hfr q hq)
  have hin2 : ∀ q, q < (sa + 19) → (hu ν17 (sa + 19) (.inr (2, [.int (iv 0), .int (iv 0), .int (iv 0), .int (iv 0), .int (iv 0), .int (iv 0)]))) q = ν17 q := fun q hq => hu_n (by omega)
  have hO19 : (hu ν17 (sa + 19) (.inr (2, [.int (iv 0), .int (iv 0), .int (iv 0), .int (iv 0), .int (iv 0), .int (iv 0)]))) (sa + 19) = some (.inr (2, [.int (iv 0), .int (iv 0), .int (iv 0), .int (iv 0), .int (iv 0), .int (iv 0)])) := hu_s
  have hH : gP G (hu ν17 (sa + 19) (.inr (2, [.int (iv 0), .int (iv 0), .int (iv 0), .int (iv 0), .int (iv 0), .int (iv 0)]))) (sa + 20) H := hH
  refine lv_dup hx hb dX6_init_40 rfl ?_
  refine m_callINv (As := []) (rest := [.ref (sa + 19), .int (iv 2), .ref (sa + 16)]) ⟨hx, hb, hml, hown, hts⟩ hK hH hS (c_X3_init l G (hu ν17 (sa + 19) (.inr (2, [.int (iv 0), .int (iv 0), .int (iv 0), .int (iv 0), .int (iv 0), .int (iv 0)]))) (sa + 20) (sa + 19)) ⟨va_cnB 0 hts gX6_init_X3_init_n24 rfl rfl rfl hK.2.2.2.2.2.1 f_14 (by decide +kernel) ⟨(Nat.le_of_ble_eq_true rfl), (Nat.le_of_ble_eq_true rfl)⟩, rfl, f_16⟩ rfl rfl hl.1 (Nat.le_of_ble_eq_true rfl) dX6_init_41 ⟨(Nat.le_of_ble_eq_true rfl), (Nat.le_of_ble_eq_true rfl)⟩ (fun μ20 n21 H locs hp22 hH hS => ?_)
  obtain ⟨hm2, hn2⟩ := hp22; rw [hm2, hn2] at hH; clear hm2 hn2
  refine m_aast hx hb hK hH hS 3 2 hP_2_2_1 rfl hO19 rfl dX6_init_44 (fun H locs hH hS => ?_) (by omega) (by omega)
  have hP : SaP G (hu (hu ν17 (sa + 19) (.inr (2, [.int (iv 0), .int (iv 0), .int (iv 0), .int (iv 0), .int (iv 0), .int (iv 0)]))) (sa + 16) (.inl (G.2.1 3, 12, .inr (.inr (.inr (.inr (qu (fun r => if r < 2 then some (sa + 17 + r) else none) 2 (sa + 19)))))))) sa 3 := hP.step (k := 2) (fun q h1 h2 => hin2 q (by omega)) hO19
  have hfr : ∀ q, q < sa → (hu (hu ν17 (sa + 19) (.inr (2, [.int (iv 0), .int (iv 0), .int (iv 0), .int (iv 0), .int (iv 0), .int (iv 0)]))) (sa + 16) (.inl (G.2.1 3, 12, .inr (.inr (.inr (.inr (qu (fun r => if r < 2 then some (sa + 17 + r) else none) 2 (sa + 19)))))))) q = μ q := fun q hq => (hu_n (by omega)).trans (hfr q hq)
  have hH : gP G (hu (hu ν17 (sa + 19) (.inr (2, [.int (iv 0), .int (iv 0), .int (iv 0), .int (iv 0), .int (iv 0), .int (iv 0)]))) (sa + 16) (.inl (G.2.1 3, 12, .inr (.inr (.inr (.inr (qu (fun r => if r < 2 then some (sa + 17 + r) else none) 2 (sa + 19)))))))) (sa + 20) H := hH
  obtain ⟨ν23, hν23⟩ : ∃ ν : hM, ν = (hu (hu ν17 (sa + 19) (.inr (2, [.int (iv 0), .int (iv 0), .int (iv 0), .int (iv 0), .int (iv 0), .int (iv 0)]))) (sa + 16) (.inl (G.2.1 3, 12, .inr (.inr (.inr (.inr (qu (fun r => if r < 2 then some (sa + 17 + r) else none) 2 (sa + 19)))))))) := ⟨_, rfl⟩
  rw [← hν23] at hP hfr hH
  have hH : gP G ν23 (sa + 20) H := hH
  refine j_iinc (lv' := [(1, .int (iv 3)), (0, .ref sa)]) hx hb dX6_init_45 hl (k := 0) rfl (by decide) rfl (fun ls hl => ?_)
  refine lv_goto (tgt := 26) hx hb dX6_init_48 (by decide) ?_
  refine lv_iload_n hx hb dX6_init_26 rfl (lv_at hl 0 rfl) ?_
  refine j_bipush hx hb dX6_init_27 ?_ (by decide)
  refine j_icmp_ge (tgt := 51) hx hb dX6_init_29 (by decide) (fun c24 => absurd c24 (by omega)) (fun c24 => ?_) (by omega) (by omega)
  refine lv_aload_n hx hb dX6_init_32 rfl (lv_at hl 1 rfl) ?_
  refine m_get (C := RX6) (T := TX6) (N := 8) (ci := 5) hx hb hts i_X6 hown hK hH hP.1 rfl 1 (by decide) f_12 rfl dX6_init_33 ?_
  refine lv_iload_n hx hb dX6_init_36 rfl (lv_at hl 0 rfl) ?_
  refine m_new (C := RX3) (T := TX3) (N := 6) (ci := 2) (fs := [.int (iv 0), .int (iv 0), .int (iv 0), .int (iv 0), .int (iv 0), .int (iv 0)]) hx hb hts i_X3 tyX3 tyX3_ok hown f_11 f_13 f_14 hK hH hS rfl (fun j hj => by rcases (show j = 0 ∨ j = 1 ∨ j = 2 ∨ j = 3 ∨ j = 4 ∨ j = 5 by omega) with rfl | rfl | rfl | rfl | rfl | rfl <;> rfl) dX6_init_37 (Nat.le_of_ble_eq_true rfl) (Nat.le_of_ble_eq_true rfl) (fun H hH hS hnn => ?_)
  have hP_1 := hu_n' (a := (sa + 20)) (e := (.inr (2, [.int (iv 0), .int (iv 0), .int (iv 0), .int (iv 0), .int (iv 0), .int (iv 0)]))) (b := sa) (by omega) hP.1
  have hP_2_2_1 := hu_n' (a := (sa + 20)) (e := (.inr (2, [.int (iv 0), .int (iv 0), .int (iv 0), .int (iv 0), .int (iv 0), .int (iv 0)]))) (b := (sa + 16)) (by omega) hP.2.2.1
  have hfr : ∀ q, q < sa → (hu ν23 (sa + 20) (.inr (2, [.int (iv 0), .int (iv 0), .int (iv 0), .int (iv 0), .int (iv 0), .int (iv 0)]))) q = μ q := fun q hq => (hu_n (by omega)).trans (hfr q hq)
  have hin2 : ∀ q, q < (sa + 20) → (hu ν23 (sa + 20) (.inr (2, [.int (iv 0), .int (iv 0), .int (iv 0), .int (iv 0), .int (iv 0), .int (iv 0)]))) q = ν23 q := fun q hq => hu_n (by omega)
  have hO25 : (hu ν23 (sa + 20) (.inr (2, [.int (iv 0), .int (iv 0), .int (iv 0), .int (iv 0), .int (iv 0), .int (iv 0)]))) (sa + 20) = some (.inr (2, [.int (iv 0), .int (iv 0), .int (iv 0), .int (iv 0), .int (iv 0), .int (iv 0)])) := hu_s
  have hH : gP G (hu ν23 (sa + 20) (.inr (2, [.int (iv 0), .int (iv 0), .int (iv 0), .int (iv 0), .int (iv 0), .int (iv 0)]))) (sa + 21) H := hH
  refine lv_dup hx hb dX6_init_40 rfl ?_
  refine m_callINv (As := []) (rest := [.ref (sa + 20), .int (iv 3), .ref (sa + 16)]) ⟨hx, hb, hml, hown, hts⟩ hK hH hS (c_X3_init l G (hu ν23 (sa + 20) (.inr (2, [.int (iv 0), .int (iv 0), .int (iv 0), .int (iv 0), .int (iv 0), .int (iv 0)]))) (sa + 21) (sa + 20)) ⟨va_cnB 0 hts gX6_init_X3_init_n24 rfl rfl rfl hK.2.2.2.2.2.1 f_14 (by decide +kernel) ⟨(Nat.le_of_ble_eq_true rfl), (Nat.le_of_ble_eq_true rfl)⟩, rfl, f_16⟩ rfl rfl hl.1 (Nat.le_of_ble_eq_true rfl) dX6_init_41 ⟨(Nat.le_of_ble_eq_true rfl), (Nat.le_of_ble_eq_true rfl)⟩ (fun μ26 n27 H locs hp28 hH hS => ?_)
  obtain ⟨hm2, hn2⟩ := hp28; rw [hm2, hn2] at hH; clear hm2 hn2
  refine m_aast hx hb hK hH hS 3 2 hP_2_2_1 rfl hO25 rfl dX6_init_44 (fun H locs hH hS => ?_) (by omega) (by omega)
  have hP : SaP G (hu (hu ν23 (sa + 20) (.inr (2, [.int (iv 0), .int (iv 0), .int (iv 0), .int (iv 0), .int (iv 0), .int (iv 0)]))) (sa + 16) (.inl (G.2.1 3, 12, .inr (.inr (.inr (.inr (qu (fun r => if r < 3 then some (sa + 17 + r) else none) 3 (sa + 20)))))))) sa 4 := hP.step (k := 3) (fun q h1 h2 => hin2 q (by omega)) hO25
  have hfr : ∀ q, q < sa → (hu (hu ν23 (sa + 20) (.inr (2, [.int (iv 0), .int (iv 0), .int (iv 0), .int (iv 0), .int (iv 0), .int (iv 0)]))) (sa + 16) (.inl (G.2.1 3, 12, .inr (.inr (.inr (.inr (qu (fun r => if r < 3 then some (sa + 17 + r) else none) 3 (sa + 20)))))))) q = μ q := fun q hq => (hu_n (by omega)).trans (hfr q hq)
  have hH : gP G (hu (hu ν23 (sa + 20) (.inr (2, [.int (iv 0), .int (iv 0), .int (iv 0), .int (iv 0), .int (iv 0), .int (iv 0)]))) (sa + 16) (.inl (G.2.1 3, 12, .inr (.inr (.inr (.inr (qu (fun r => if r < 3 then some (sa + 17 + r) else none) 3 (sa + 20)))))))) (sa + 21) H := hH
  obtain ⟨ν29, hν29⟩ : ∃ ν : hM, ν = (hu (hu ν23 (sa + 20) (.inr (2, [.int (iv 0), .int (iv 0), .int (iv 0), .int (iv 0), .int (iv 0), .int (iv 0)]))) (sa + 16) (.inl (G.2.1 3, 12, .inr (.inr (.inr (.inr (qu (fun r => if r < 3 then some (sa + 17 + r) else none) 3 (sa + 20)))))))) := ⟨_, rfl⟩
  rw [← hν29] at hP hfr hH
  have hH : gP G ν29 (sa + 21) H := hH
  refine j_iinc (lv' := [(1, .int (iv 4)), (0, .ref sa)]) hx hb dX6_init_45 hl (k := 0) rfl (by decide) rfl (fun ls hl => ?_)
  refine lv_goto (tgt := 26) hx hb dX6_init_48 (by decide) ?_
  refine lv_iload_n hx hb dX6_init_26 rfl (lv_at hl 0 rfl) ?_
  refine j_bipush hx hb dX6_init_27 ?_ (by decide)
  refine j_icmp_ge (tgt := 51) hx hb dX6_init_29 (by decide) (fun c30 => absurd c30 (by omega)) (fun c30 => ?_) (by omega) (by omega)
  refine lv_aload_n hx hb dX6_init_32 rfl (lv_at hl 1 rfl) ?_
  refine m_get (C := RX6) (T := TX6) (N := 8) (ci := 5) hx hb hts i_X6 hown hK hH hP.1 rfl 1 (by decide) f_12 rfl dX6_init_33 ?_
  refine lv_iload_n hx hb dX6_init_36 rfl (lv_at hl 0 rfl) ?_
  refine m_new (C := RX3) (T := TX3) (N := 6) (ci := 2) (fs := [.int (iv 0), .int (iv 0), .int (iv 0), .int (iv 0), .int (iv 0), .int (iv 0)]) hx hb hts i_X3 tyX3 tyX3_ok hown f_11 f_13 f_14 hK hH hS rfl (fun j hj => by rcases (show j = 0 ∨ j = 1 ∨ j = 2 ∨ j = 3 ∨ j = 4 ∨ j = 5 by omega) with rfl | rfl | rfl | rfl | rfl | rfl <;> rfl) dX6_init_37 (Nat.le_of_ble_eq_true rfl) (Nat.le_of_ble_eq_true rfl) (fun H hH hS hnn => ?_)
  have hP_1 := hu_n' (a := (sa + 21)) (e := (.inr (2, [.int (iv 0), .int (iv 0), .int (iv 0), .int (iv 0), .int (iv 0), .int (iv 0)]))) (b := sa) (by omega) hP.1
  have hP_2_2_1 := hu_n' (a := (sa + 21)) (e := (.inr (2, [.int (iv 0), .int (iv 0), .int (iv 0), .int (iv 0), .int (iv 0), .int (iv 0)]))) (b := (sa + 16)) (by omega) hP.2.2.1
  have hfr : ∀ q, q < sa → (hu ν29 (sa + 21) (.inr (2, [.int (iv 0), .int (iv 0), .int (iv 0), .int (iv 0), .int (iv 0), .int (iv 0)]))) q = μ q := fun q hq => (hu_n (by omega)).trans (hfr q hq)
  have hin2 : ∀ q, q < (sa + 21) → (hu ν29 (sa + 21) (.inr (2, [.int (iv 0), .int (iv 0), .int (iv 0), .int (iv 0), .int (iv 0), .int (iv 0)]))) q = ν29 q := fun q hq => hu_n (by omega)
  have hO31 : (hu ν29 (sa + 21) (.inr (2, [.int (iv 0), .int (iv 0), .int (iv 0), .int (iv 0), .int (iv 0), .int (iv 0)]))) (sa + 21) = some (.inr (2, [.int (iv 0), .int (iv 0), .int (iv 0), .int (iv 0), .int (iv 0), .int (iv 0)])) := hu_s
  have hH : gP G (hu ν29 (sa + 21) (.inr (2, [.int (iv 0), .int (iv 0), .int (iv 0), .int (iv 0), .int (iv 0), .int (iv 0)]))) (sa + 22) H := hH
  refine lv_dup hx hb dX6_init_40 rfl ?_
  refine m_callINv (As := []) (rest := [.ref (sa + 21), .int (iv 4), .ref (sa + 16)]) ⟨hx, hb, hml, hown, hts⟩ hK hH hS (c_X3_init l G (hu ν29 (sa + 21) (.inr (2, [.int (iv 0), .int (iv 0), .int (iv 0), .int (iv 0), .int (iv 0), .int (iv 0)]))) (sa + 22) (sa + 21)) ⟨va_cnB 0 hts gX6_init_X3_init_n24 rfl rfl rfl hK.2.2.2.2.2.1 f_14 (by decide +kernel) ⟨(Nat.le_of_ble_eq_true rfl), (Nat.le_of_ble_eq_true rfl)⟩, rfl, f_16⟩ rfl rfl hl.1 (Nat.le_of_ble_eq_true rfl) dX6_init_41 ⟨(Nat.le_of_ble_eq_true rfl), (Nat.le_of_ble_eq_true rfl)⟩ (fun μ32 n33 H locs hp34 hH hS => ?_)
  obtain ⟨hm2, hn2⟩ := hp34; rw [hm2, hn2] at hH; clear hm2 hn2
  refine m_aast hx hb hK hH hS 3 2 hP_2_2_1 rfl hO31 rfl dX6_init_44 (fun H locs hH hS => ?_) (by omega) (by omega)
  have hP : SaP G (hu (hu ν29 (sa + 21) (.inr (2, [.int (iv 0), .int (iv 0), .int (iv 0), .int (iv 0), .int (iv 0), .int (iv 0)]))) (sa + 16) (.inl (G.2.1 3, 12, .inr (.inr (.inr (.inr (qu (fun r => if r < 4 then some (sa + 17 + r) else none) 4 (sa + 21)))))))) sa 5 := hP.step (k := 4) (fun q h1 h2 => hin2 q (by omega)) hO31
  have hfr : ∀ q, q < sa → (hu (hu ν29 (sa + 21) (.inr (2, [.int (iv 0), .int (iv 0), .int (iv 0), .int (iv 0), .int (iv 0), .int (iv 0)]))) (sa + 16) (.inl (G.2.1 3, 12, .inr (.inr (.inr (.inr (qu (fun r => if r < 4 then some (sa + 17 + r) else none) 4 (sa + 21)))))))) q = μ q := fun q hq => (hu_n (by omega)).trans (hfr q hq)
  have hH : gP G (hu (hu ν29 (sa + 21) (.inr (2, [.int (iv 0), .int (iv 0), .int (iv 0), .int (iv 0), .int (iv 0), .int (iv 0)]))) (sa + 16) (.inl (G.2.1 3, 12, .inr (.inr (.inr (.inr (qu (fun r => if r < 4 then some (sa + 17 + r) else none) 4 (sa + 21)))))))) (sa + 22) H := hH
  obtain ⟨ν35, hν35⟩ : ∃ ν : hM, ν = (hu (hu ν29 (sa + 21) (.inr (2, [.int (iv 0), .int (iv 0), .int (iv 0), .int (iv 0), .int (iv 0), .int (iv 0)]))) (sa + 16) (.inl (G.2.1 3, 12, .inr (.inr (.inr (.inr (qu (fun r => if r < 4 then some (sa + 17 + r) else none) 4 (sa + 21)))))))) := ⟨_, rfl⟩
  rw [← hν35] at hP hfr hH
  have hH : gP G ν35 (sa + 22) H := hH
  refine j_iinc (lv' := [(1, .int (iv 5)), (0, .ref sa)]) hx hb dX6_init_45 hl (k := 0) rfl (by decide) rfl (fun ls hl => ?_)
  refine lv_goto (tgt := 26) hx hb dX6_init_48 (by decide) ?_
  refine lv_iload_n hx hb dX6_init_26 rfl (lv_at hl 0 rfl) ?_
  refine j_bipush hx hb dX6_init_27 ?_ (by decide)
  refine j_icmp_ge (tgt := 51) hx hb dX6_init_29 (by decide) (fun c36 => absurd c36 (by omega)) (fun c36 => ?_) (by omega) (by omega)
  refine lv_aload_n hx hb dX6_init_32 rfl (lv_at hl 1 rfl) ?_
  refine m_get (C := RX6) (T := TX6) (N := 8) (ci := 5) hx hb hts i_X6 hown hK hH hP.1 rfl 1 (by decide) f_12 rfl dX6_init_33 ?_
  refine lv_iload_n hx hb dX6_init_36 rfl (lv_at hl 0 rfl) ?_
  refine m_new (C := RX3) (T := TX3) (N := 6) (ci := 2) (fs := [.int (iv 0), .int (iv 0), .int (iv 0), .int (iv 0), .int (iv 0), .int (iv 0)]) hx hb hts i_X3 tyX3 tyX3_ok hown f_11 f_13 f_14 hK hH hS rfl (fun j hj => by rcases (show j = 0 ∨ j = 1 ∨ j = 2 ∨ j = 3 ∨ j = 4 ∨ j = 5 by omega) with rfl | rfl | rfl | rfl | rfl | rfl <;> rfl) dX6_init_37 (Nat.le_of_ble_eq_true rfl) (Nat.le_of_ble_eq_true rfl) (fun H hH hS hnn => ?_)
  have hP_1 := hu_n' (a := (sa + 22)) (e := (.inr (2, [.int (iv 0), .int (iv 0), .int (iv 0), .int (iv 0), .int (iv 0), .int (iv 0)]))) (b := sa) (by omega) hP.1
  have hP_2_2_1 := hu_n' (a := (sa + 22)) (e := (.inr (2, [.int (iv 0), .int (iv 0), .int (iv 0), .int (iv 0), .int (iv 0), .int (iv 0)]))) (b := (sa + 16)) (by omega) hP.2.2.1
  have hfr : ∀ q, q < sa → (hu ν35 (sa + 22) (.inr (2, [.int (iv 0), .int (iv 0), .int (iv 0), .int (iv 0), .int (iv 0), .int (iv 0)]))) q = μ q := fun q hq => (hu_n (by omega)).trans (hfr q hq)
  have hin2 : ∀ q, q < (sa + 22) → (hu ν35 (sa + 22) (.inr (2, [.int (iv 0), .int (iv 0), .int (iv 0), .int (iv 0), .int (iv 0), .int (iv 0)]))) q = ν35 q := fun q hq => hu_n (by omega)
  have hO37 : (hu ν35 (sa + 22) (.inr (2, [.int (iv 0), .int (iv 0), .int (iv 0), .int (iv 0), .int (iv 0), .int (iv 0)]))) (sa + 22) = some (.inr (2, [.int (iv 0), .int (iv 0), .int (iv 0), .int (iv 0), .int (iv 0), .int (iv 0)])) := hu_s
  have hH : gP G (hu ν35 (sa + 22) (.inr (2, [.int (iv 0), .int (iv 0), .int (iv 0), .int (iv 0), .int (iv 0), .int (iv 0)]))) (sa + 23) H := hH
  refine lv_dup hx hb dX6_init_40 rfl ?_
  refine m_callINv (As := []) (rest := [.ref (sa + 22), .int (iv 5), .ref (sa + 16)]) ⟨hx, hb, hml, hown, hts⟩ hK hH hS (c_X3_init l G (hu ν35 (sa + 22) (.inr (2, [.int (iv 0), .int (iv 0), .int (iv 0), .int (iv 0), .int (iv 0), .int (iv 0)]))) (sa + 23) (sa + 22)) ⟨va_cnB 0 hts gX6_init_X3_init_n24 rfl rfl rfl hK.2.2.2.2.2.1 f_14 (by decide +kernel) ⟨(Nat.le_of_ble_eq_true rfl), (Nat.le_of_ble_eq_true rfl)⟩, rfl, f_16⟩ rfl rfl hl.1 (Nat.le_of_ble_eq_true rfl) dX6_init_41 ⟨(Nat.le_of_ble_eq_true rfl), (Nat.le_of_ble_eq_true rfl)⟩ (fun μ38 n39 H locs hp40 hH hS => ?_)
  obtain ⟨hm2, hn2⟩ := hp40; rw [hm2, hn2] at hH; clear hm2 hn2
  refine m_aast hx hb hK hH hS 3 2 hP_2_2_1 rfl hO37 rfl dX6_init_44 (fun H locs hH hS => ?_) (by omega) (by omega)
  have hP : SaP G (hu (hu ν35 (sa + 22) (.inr (2, [.int (iv 0), .int (iv 0), .int (iv 0), .int (iv 0), .int (iv 0), .int (iv 0)]))) (sa + 16) (.inl (G.2.1 3, 12, .inr (.inr (.inr (.inr (qu (fun r => if r < 5 then some (sa + 17 + r) else none) 5 (sa + 22)))))))) sa 6 := hP.step (k := 5) (fun q h1 h2 => hin2 q (by omega)) hO37
  have hfr : ∀ q, q < sa → (hu (hu ν35 (sa + 22) (.inr (2, [.int (iv 0), .int (iv 0), .int (iv 0), .int (iv 0), .int (iv 0), .int (iv 0)]))) (sa + 16) (.inl (G.2.1 3, 12, .inr (.inr (.inr (.inr (qu (fun r => if r < 5 then some (sa + 17 + r) else none) 5 (sa + 22)))))))) q = μ q := fun q hq => (hu_n (by omega)).trans (hfr q hq)
  have hH : gP G (hu (hu ν35 (sa + 22) (.inr (2, [.int (iv 0), .int (iv 0), .int (iv 0), .int (iv 0), .int (iv 0), .int (iv 0)]))) (sa + 16) (.inl (G.2.1 3, 12, .inr (.inr (.inr (.inr (qu (fun r => if r < 5 then some (sa + 17 + r) else none) 5 (sa + 22)))))))) (sa + 23) H := hH
  obtain ⟨ν41, hν41⟩ : ∃ ν : hM, ν = (hu (hu ν35 (sa + 22) (.inr (2, [.int (iv 0), .int (iv 0), .int (iv 0), .int (iv 0), .int (iv 0), .int (iv 0)]))) (sa + 16) (.inl (G.2.1 3, 12, .inr (.inr (.inr (.inr (qu (fun r => if r < 5 then some (sa + 17 + r) else none) 5 (sa + 22)))))))) := ⟨_, rfl⟩
  rw [← hν41] at hP hfr hH
  have hH : gP G ν41 (sa + 23) H := hH
  refine j_iinc (lv' := [(1, .int (iv 6)), (0, .ref sa)]) hx hb dX6_init_45 hl (k := 0) rfl (by decide) rfl (fun ls hl => ?_)
  refine lv_goto (tgt := 26) hx hb dX6_init_48 (by decide) ?_
  refine lv_iload_n hx hb dX6_init_26 rfl (lv_at hl 0 rfl) ?_
  refine j_bipush hx hb dX6_init_27 ?_ (by decide)
  refine j_icmp_ge (tgt := 51) hx hb dX6_init_29 (by decide) (fun c42 => absurd c42 (by omega)) (fun c42 => ?_) (by omega) (by omega)
  refine lv_aload_n hx hb dX6_init_32 rfl (lv_at hl 1 rfl) ?_
  refine m_get (C := RX6) (T := TX6) (N := 8) (ci := 5) hx hb hts i_X6 hown hK hH hP.1 rfl 1 (by decide) f_12 rfl dX6_init_33 ?_
  refine lv_iload_n hx hb dX6_init_36 rfl (lv_at hl 0 rfl) ?_
  refine m_new (C := RX3) (T := TX3) (N := 6) (ci := 2) (fs := [.int (iv 0), .int (iv 0), .int (iv 0), .int (iv 0), .int (iv 0), .int (iv 0)]) hx hb hts i_X3 tyX3 tyX3_ok hown f_11 f_13 f_14 hK hH hS rfl (fun j hj => by rcases (show j = 0 ∨ j = 1 ∨ j = 2 ∨ j = 3 ∨ j = 4 ∨ j = 5 by omega) with rfl | rfl | rfl | rfl | rfl | rfl <;> rfl) dX6_init_37 (Nat.le_of_ble_eq_true rfl) (Nat.le_of_ble_eq_true rfl) (fun H hH hS hnn => ?_)
  have hP_1 := hu_n' (a := (sa + 23)) (e := (.inr (2, [.int (iv 0), .int (iv 0), .int (iv 0), .int (iv 0), .int (iv 0), .int (iv 0)]))) (b := sa) (by omega) hP.1
  have hP_2_2_1 := hu_n' (a := (sa + 23)) (e := (.inr (2, [.int (iv 0), .int (iv 0), .int (iv 0), .int (iv 0), .int (iv 0), .int (iv 0)]))) (b := (sa + 16)) (by omega) hP.2.2.1
  have hfr : ∀ q, q < sa → (hu ν41 (sa + 23) (.inr (2, [.int (iv 0), .int (iv 0), .int (iv 0), .int (iv 0), .int (iv 0), .int (iv 0)]))) q = μ q := fun q hq => (hu_n (by omega)).trans (hfr q hq)
  have hin2 : ∀ q, q < (sa + 23) → (hu ν41 (sa + 23) (.inr (2, [.int (iv 0), .int (iv 0), .int (iv 0), .int (iv 0), .int (iv 0), .int (iv 0)]))) q = ν41 q := fun q hq => hu_n (by omega)
  have hO43 : (hu ν41 (sa + 23) (.inr (2, [.int (iv 0), .int (iv 0), .int (iv 0), .int (iv 0), .int (iv 0), .int (iv 0)]))) (sa + 23) = some (.inr (2, [.int (iv 0), .int (iv 0), .int (iv 0), .int (iv 0), .int (iv 0), .int (iv 0)])) := hu_s
  have hH : gP G (hu ν41 (sa + 23) (.inr (2, [.int (iv 0), .int (iv 0), .int (iv 0), .int (iv 0), .int (iv 0), .int (iv 0)]))) (sa + 24) H := hH
  refine lv_dup hx hb dX6_init_40 rfl ?_
  refine m_callINv (As := []) (rest := [.ref (sa + 23), .int (iv 6), .ref (sa + 16)]) ⟨hx, hb, hml, hown, hts⟩ hK hH hS (c_X3_init l G (hu ν41 (sa + 23) (.inr (2, [.int (iv 0), .int (iv 0), .int (iv 0), .int (iv 0), .int (iv 0), .int (iv 0)]))) (sa + 24) (sa + 23)) ⟨va_cnB 0 hts gX6_init_X3_init_n24 rfl rfl rfl hK.2.2.2.2.2.1 f_14 (by decide +kernel) ⟨(Nat.le_of_ble_eq_true rfl), (Nat.le_of_ble_eq_true rfl)⟩, rfl, f_16⟩ rfl rfl hl.1 (Nat.le_of_ble_eq_true rfl) dX6_init_41 ⟨(Nat.le_of_ble_eq_true rfl), (Nat.le_of_ble_eq_true rfl)⟩ (fun μ44 n45 H locs hp46 hH hS => ?_)
  obtain ⟨hm2, hn2⟩ := hp46; rw [hm2, hn2] at hH; clear hm2 hn2
  refine m_aast hx hb hK hH hS 3 2 hP_2_2_1 rfl hO43 rfl dX6_init_44 (fun H locs hH hS => ?_) (by omega) (by omega)
  have hP : SaP G (hu (hu ν41 (sa + 23) (.inr (2, [.int (iv 0), .int (iv 0), .int (iv 0), .int (iv 0), .int (iv 0), .int (iv 0)]))) (sa + 16) (.inl (G.2.1 3, 12, .inr (.inr (.inr (.inr (qu (fun r => if r < 6 then some (sa + 17 + r) else none) 6 (sa + 23)))))))) sa 7 := hP.step (k := 6) (fun q h1 h2 => hin2 q (by omega)) hO43
  have hfr : ∀ q, q < sa → (hu (hu ν41 (sa + 23) (.inr (2, [.int (iv 0), .int (iv 0), .int (iv 0), .int (iv 0), .int (iv 0), .int (iv 0)]))) (sa + 16) (.inl (G.2.1 3, 12, .inr (.inr (.inr (.inr (qu (fun r => if r < 6 then some (sa + 17 + r) else none) 6 (sa + 23)))))))) q = μ q := fun q hq => (hu_n (by omega)).trans (hfr q hq)
  have hH : gP G (hu (hu ν41 (sa + 23) (.inr (2, [.int (iv 0), .int (iv 0), .int (iv 0), .int (iv 0), .int (iv 0), .int (iv 0)]))) (sa + 16) (.inl (G.2.1 3, 12, .inr (.inr (.inr (.inr (qu (fun r => if r < 6 then some (sa + 17 + r) else none) 6 (sa + 23)))))))) (sa + 24) H := hH
  obtain ⟨ν47, hν47⟩ : ∃ ν : hM, ν = (hu (hu ν41 (sa + 23) (.inr (2, [.int (iv 0), .int (iv 0), .int (iv 0), .int (iv 0), .int (iv 0), .int (iv 0)]))) (sa + 16) (.inl (G.2.1 3, 12, .inr (.inr (.inr (.inr (qu (fun r => if r < 6 then some (sa + 17 + r) else none) 6 (sa + 23)))))))) := ⟨_, rfl⟩
  rw [← hν47] at hP hfr hH
  have hH : gP G ν47 (sa + 24) H := hH
  refine j_iinc (lv' := [(1, .int (iv 7)), (0, .ref sa)]) hx hb dX6_init_45 hl (k := 0) rfl (by decide) rfl (fun ls hl => ?_)
  refine lv_goto (tgt := 26) hx hb dX6_init_48 (by decide) ?_
  refine lv_iload_n hx hb dX6_init_26 rfl (lv_at hl 0 rfl) ?_
  refine j_bipush hx hb dX6_init_27 ?_ (by decide)
  refine j_icmp_ge (tgt := 51) hx hb dX6_init_29 (by decide) (fun c48 => absurd c48 (by omega)) (fun c48 => ?_) (by omega) (by omega)
  refine lv_aload_n hx hb dX6_init_32 rfl (lv_at hl 1 rfl) ?_
  refine m_get (C := RX6) (T := TX6) (N := 8) (ci := 5) hx hb hts i_X6 hown hK hH hP.1 rfl 1 (by decide) f_12 rfl dX6_init_33 ?_
  refine lv_iload_n hx hb dX6_init_36 rfl (lv_at hl 0 rfl) ?_
  refine m_new (C := RX3) (T := TX3) (N := 6) (ci := 2) (fs := [.int (iv 0), .int (iv 0), .int (iv 0), .int (iv 0), .int (iv 0), .int (iv 0)]) hx hb hts i_X3 tyX3 tyX3_ok hown f_11 f_13 f_14 hK hH hS rfl (fun j hj => by rcases (show j = 0 ∨ j = 1 ∨ j = 2 ∨ j = 3 ∨ j = 4 ∨ j = 5 by omega) with rfl | rfl | rfl | rfl | rfl | rfl <;> rfl) dX6_init_37 (Nat.le_of_ble_eq_true rfl) (Nat.le_of_ble_eq_true rfl) (fun H hH hS hnn => ?_)
  have hP_1 := hu_n' (a := (sa + 24)) (e := (.inr (2, [.int (iv 0), .int (iv 0), .int (iv 0), .int (iv 0), .int (iv 0), .int (iv 0)]))) (b := sa) (by omega) hP.1
  have hP_2_2_1 := hu_n' (a := (sa + 24)) (e := (.inr (2, [.int (iv 0), .int (iv 0), .int (iv 0), .int (iv 0), .int (iv 0), .int (iv 0)]))) (b := (sa + 16)) (by omega) hP.2.2.1
  have hfr : ∀ q, q < sa → (hu ν47 (sa + 24) (.inr (2, [.int (iv 0), .int (iv 0), .int (iv 0), .int (iv 0), .int (iv 0), .int (iv 0)]))) q = μ q := fun q hq => (hu_n (by omega)).trans (hfr q hq)
  have hin2 : ∀ q, q < (sa + 24) → (hu ν47 (sa + 24) (.inr (2, [.int (iv 0), .int (iv 0), .int (iv 0), .int (iv 0), .int (iv 0), .int (iv 0)]))) q = ν47 q := fun q hq => hu_n (by omega)
  have hO49 : (hu ν47 (sa + 24) (.inr (2, [.int (iv 0), .int (iv 0), .int (iv 0), .int (iv 0), .int (iv 0), .int (iv 0)]))) (sa + 24) = some (.inr (2, [.int (iv 0), .int (iv 0), .int (iv 0), .int (iv 0), .int (iv 0), .int (iv 0)])) := hu_s
  have hH : gP G (hu ν47 (sa + 24) (.inr (2, [.int (iv 0), .int (iv 0), .int (iv 0), .int (iv 0), .int (iv 0), .int (iv 0)]))) (sa + 25) H := hH
  refine lv_dup hx hb dX6_init_40 rfl ?_
  refine m_callINv (As := []) (rest := [.ref (sa + 24), .int (iv 7), .ref (sa + 16)]) ⟨hx, hb, hml, hown, hts⟩ hK hH hS (c_X3_init l G (hu ν47 (sa + 24) (.inr (2, [.int (iv 0), .int (iv 0), .int (iv 0), .int (iv 0), .int (iv 0), .int (iv 0)]))) (sa + 25) (sa + 24)) ⟨va_cnB 0 hts gX6_init_X3_init_n24 rfl rfl rfl hK.2.2.2.2.2.1 f_14 (by decide +kernel) ⟨(Nat.le_of_ble_eq_true rfl), (Nat.le_of_ble_eq_true rfl)⟩, rfl, f_16⟩ rfl rfl hl.1 (Nat.le_of_ble_eq_true rfl) dX6_init_41 ⟨(Nat.le_of_ble_eq_true rfl), (Nat.le_of_ble_eq_true rfl)⟩ (fun μ50 n51 H locs hp52 hH hS => ?_)
  obtain ⟨hm2, hn2⟩ := hp52; rw [hm2, hn2] at hH; clear hm2 hn2
  refine m_aast hx hb hK hH hS 3 2 hP_2_2_1 rfl hO49 rfl dX6_init_44 (fun H locs hH hS => ?_) (by omega) (by omega)
  have hP : SaP G (hu (hu ν47 (sa + 24) (.inr (2, [.int (iv 0), .int (iv 0), .int (iv 0), .int (iv 0), .int (iv 0), .int (iv 0)]))) (sa + 16) (.inl (G.2.1 3, 12, .inr (.inr (.inr (.inr (qu (fun r => if r < 7 then some (sa + 17 + r) else none) 7 (sa + 24)))))))) sa 8 := hP.step (k := 7) (fun q h1 h2 => hin2 q (by omega)) hO49
  have hfr : ∀ q, q < sa → (hu (hu ν47 (sa + 24) (.inr (2, [.int (iv 0), .int (iv 0), .int (iv 0), .int (iv 0), .int (iv 0), .int (iv 0)]))) (sa + 16) (.inl (G.2.1 3, 12, .inr (.inr (.inr (.inr (qu (fun r => if r < 7 then some (sa + 17 + r) else none) 7 (sa + 24)))))))) q = μ q := fun q hq => (hu_n (by omega)).trans (hfr q hq)
  have hH : gP G (hu (hu ν47 (sa + 24) (.inr (2, [.int (iv 0), .int (iv 0), .int (iv 0), .int (iv 0), .int (iv 0), .int (iv 0)]))) (sa + 16) (.inl (G.2.1 3, 12, .inr (.inr (.inr (.inr (qu (fun r => if r < 7 then some (sa + 17 + r) else none) 7 (sa + 24)))))))) (sa + 25) H := hH
  obtain ⟨ν53, hν53⟩ : ∃ ν : hM, ν = (hu (hu ν47 (sa + 24) (.inr (2, [.int (iv 0), .int (iv 0), .int (iv 0), .int (iv 0), .int (iv 0), .int (iv 0)]))) (sa + 16) (.inl (G.2.1 3, 12, .inr (.inr (.inr (.inr (qu (fun r => if r < 7 then some (sa + 17 + r) else none) 7 (sa + 24)))))))) := ⟨_, rfl⟩
  rw [← hν53] at hP hfr hH
  have hH : gP G ν53 (sa + 25) H := hH
  refine j_iinc (lv' := [(1, .int (iv 8)), (0, .ref sa)]) hx hb dX6_init_45 hl (k := 0) rfl (by decide) rfl (fun ls hl => ?_)
  refine lv_goto (tgt := 26) hx hb dX6_init_48 (by decide) ?_
  refine lv_iload_n hx hb dX6_init_26 rfl (lv_at hl 0 rfl) ?_
  refine j_bipush hx hb dX6_init_27 ?_ (by decide)
  refine j_icmp_ge (tgt := 51) hx hb dX6_init_29 (by decide) (fun c54 => absurd c54 (by omega)) (fun c54 => ?_) (by omega) (by omega)
  refine lv_aload_n hx hb dX6_init_32 rfl (lv_at hl 1 rfl) ?_
  refine m_get (C := RX6) (T := TX6) (N := 8) (ci := 5) hx hb hts i_X6 hown hK hH hP.1 rfl 1 (by decide) f_12 rfl dX6_init_33 ?_
  refine lv_iload_n hx hb dX6_init_36 rfl (lv_at hl 0 rfl) ?_
  refine m_new (C := RX3) (T := TX3) (N := 6) (ci := 2) (fs := [.int (iv 0), .int (iv 0), .int (iv 0), .int (iv 0), .int (iv 0), .int (iv 0)]) hx hb hts i_X3 tyX3 tyX3_ok hown f_11 f_13 f_14 hK hH hS rfl (fun j hj => by rcases (show j = 0 ∨ j = 1 ∨ j = 2 ∨ j = 3 ∨ j = 4 ∨ j = 5 by omega) with rfl | rfl | rfl | rfl | rfl | rfl <;> rfl) dX6_init_37 (Nat.le_of_ble_eq_true rfl) (Nat.le_of_ble_eq_true rfl) (fun H hH hS hnn => ?_)
  have hP_1 := hu_n' (a := (sa + 25)) (e := (.inr (2, [.int (iv 0), .int (iv 0), .int (iv 0), .int (iv 0), .int (iv 0), .int (iv 0)]))) (b := sa) (by omega) hP.1
  have hP_2_2_1 := hu_n' (a := (sa + 25)) (e := (.inr (2, [.int (iv 0), .int (iv 0), .int (iv 0), .int (iv 0), .int (iv 0), .int (iv 0)]))) (b := (sa + 16)) (by omega) hP.2.2.1
  have hfr : ∀ q, q < sa → (hu ν53 (sa + 25) (.inr (2, [.int (iv 0), .int (iv 0), .int (iv 0), .int (iv 0), .int (iv 0), .int (iv 0)]))) q = μ q := fun q hq => (hu_n (by omega)).trans (hfr q hq)
  have hin2 : ∀ q, q < (sa + 25) → (hu ν53 (sa + 25) (.inr (2, [.int (iv 0), .int (iv 0), .int (iv 0), .int (iv 0), .int (iv 0), .int (iv 0)]))) q = ν53 q := fun q hq => hu_n (by omega)
  have hO55 : (hu ν53 (sa + 25) (.inr (2, [.int (iv 0), .int (iv 0), .int (iv 0), .int (iv 0), .int (iv 0), .int (iv 0)]))) (sa + 25) = some (.inr (2, [.int (iv 0), .int (iv 0), .int (iv 0), .int (iv 0), .int (iv 0), .int (iv 0)])) := hu_s
  have hH : gP G (hu ν53 (sa + 25) (.inr (2, [.int (iv 0), .int (iv 0), .int (iv 0), .int (iv 0), .int (iv 0), .int (iv 0)]))) (sa + 26) H := hH
  refine lv_dup hx hb dX6_init_40 rfl ?_
  refine m_callINv (As := []) (rest := [.ref (sa + 25), .int (iv 8), .ref (sa + 16)]) ⟨hx, hb, hml, hown, hts⟩ hK hH hS (c_X3_init l G (hu ν53 (sa + 25) (.inr (2, [.int (iv 0), .int (iv 0), .int (iv 0), .int (iv 0), .int (iv 0), .int (iv 0)]))) (sa + 26) (sa + 25)) ⟨va_cnB 0 hts gX6_init_X3_init_n24 rfl rfl rfl hK.2.2.2.2.2.1 f_14 (by decide +kernel) ⟨(Nat.le_of_ble_eq_true rfl), (Nat.le_of_ble_eq_true rfl)⟩, rfl, f_16⟩ rfl rfl hl.1 (Nat.le_of_ble_eq_true rfl) dX6_init_41 ⟨(Nat.le_of_ble_eq_true rfl), (Nat.le_of_ble_eq_true rfl)⟩ (fun μ56 n57 H locs hp58 hH hS => ?_)
  obtain ⟨hm2, hn2⟩ := hp58; rw [hm2, hn2] at hH; clear hm2 hn2
  refine m_aast hx hb hK hH hS 3 2 hP_2_2_1 rfl hO55 rfl dX6_init_44 (fun H locs hH hS => ?_) (by omega) (by omega)
  have hP : SaP G (hu (hu ν53 (sa + 25) (.inr (2, [.int (iv 0), .int (iv 0), .int (iv 0), .int (iv 0), .int (iv 0), .int (iv 0)]))) (sa + 16) (.inl (G.2.1 3, 12, .inr (.inr (.inr (.inr (qu (fun r => if r < 8 then some (sa + 17 + r) else none) 8 (sa + 25)))))))) sa 9 := hP.step (k := 8) (fun q h1 h2 => hin2 q (by omega)) hO55
  have hfr : ∀ q, q < sa → (hu (hu ν53 (sa + 25) (.inr (2, [.int (iv 0), .int (iv 0), .int (iv 0), .int (iv 0), .int (iv 0), .int (iv 0)]))) (sa + 16) (.inl (G.2.1 3, 12, .inr (.inr (.inr (.inr (qu (fun r => if r < 8 then some (sa + 17 + r) else none) 8 (sa + 25)))))))) q = μ q := fun q hq => (hu_n (by omega)).trans (hfr q hq)
  have hH : gP G (hu (hu ν53 (sa + 25) (.inr (2, [.int (iv 0), .int (iv 0), .int (iv 0), .int (iv 0), .int (iv 0), .int (iv 0)]))) (sa + 16) (.inl (G.2.1 3, 12, .inr (.inr (.inr (.inr (qu (fun r => if r < 8 then some (sa + 17 + r) else none) 8 (sa + 25)))))))) (sa + 26) H := hH
  obtain ⟨ν59, hν59⟩ : ∃ ν : hM, ν = (hu (hu ν53 (sa + 25) (.inr (2, [.int (iv 0), .int (iv 0), .int (iv 0), .int (iv 0), .int (iv 0), .int (iv 0)]))) (sa + 16) (.inl (G.2.1 3, 12, .inr (.inr (.inr (.inr (qu (fun r => if r < 8 then some (sa + 17 + r) else none) 8 (sa + 25)))))))) := ⟨_, rfl⟩
  rw [← hν59] at hP hfr hH
  have hH : gP G ν59 (sa + 26) H := hH
  refine j_iinc (lv' := [(1, .int (iv 9)), (0, .ref sa)]) hx hb dX6_init_45 hl (k := 0) rfl (by decide) rfl (fun ls hl => ?_)
  refine lv_goto (tgt := 26) hx hb dX6_init_48 (by decide) ?_
  refine lv_iload_n hx hb dX6_init_26 rfl (lv_at hl 0 rfl) ?_
  refine j_bipush hx hb dX6_init_27 ?_ (by decide)
  refine j_icmp_ge (tgt := 51) hx hb dX6_init_29 (by decide) (fun c60 => absurd c60 (by omega)) (fun c60 => ?_) (by omega) (by omega)
  refine lv_aload_n hx hb dX6_init_32 rfl (lv_at hl 1 rfl) ?_
  refine m_get (C := RX6) (T := TX6) (N := 8) (ci := 5) hx hb hts i_X6 hown hK hH hP.1 rfl 1 (by decide) f_12 rfl dX6_init_33 ?_
  refine lv_iload_n hx hb dX6_init_36 rfl (lv_at hl 0 rfl) ?_
  refine m_new (C := RX3) (T := TX3) (N := 6) (ci := 2) (fs := [.int (iv 0), .int (iv 0), .int (iv 0), .int (iv 0), .int (iv 0), .int (iv 0)]) hx hb hts i_X3 tyX3 tyX3_ok hown f_11 f_13 f_14 hK hH hS rfl (fun j hj => by rcases (show j = 0 ∨ j = 1 ∨ j = 2 ∨ j = 3 ∨ j = 4 ∨ j = 5 by omega) with rfl | rfl | rfl | rfl | rfl | rfl <;> rfl) dX6_init_37 (Nat.le_of_ble_eq_true rfl) (Nat.le_of_ble_eq_true rfl) (fun H hH hS hnn => ?_)
  have hP_1 := hu_n' (a := (sa + 26)) (e := (.inr (2, [.int (iv 0), .int (iv 0), .int (iv 0), .int (iv 0), .int (iv 0), .int (iv 0)]))) (b := sa) (by omega) hP.1
  have hP_2_2_1 := hu_n' (a := (sa + 26)) (e := (.inr (2, [.int (iv 0), .int (iv 0), .int (iv 0), .int (iv 0), .int (iv 0), .int (iv 0)]))) (b := (sa + 16)) (by omega) hP.2.2.1
  have hfr : ∀ q, q < sa → (hu ν59 (sa + 26) (.inr (2, [.int (iv 0), .int (iv 0), .int (iv 0), .int (iv 0), .int (iv 0), .int (iv 0)]))) q = μ q := fun q hq => (hu_n (by omega)).trans (hfr q hq)
  have hin2 : ∀ q, q < (sa + 26) → (hu ν59 (sa + 26) (.inr (2, [.int (iv 0), .int (iv 0), .int (iv 0), .int (iv 0), .int (iv 0), .int (iv 0)]))) q = ν59 q := fun q hq => hu_n (by omega)
  have hO61 : (hu ν59 (sa + 26) (.inr (2, [.int (iv 0), .int (iv 0), .int (iv 0), .int (iv 0), .int (iv 0), .int (iv 0)]))) (sa + 26) = some (.inr (2, [.int (iv 0), .int (iv 0), .int (iv 0), .int (iv 0), .int (iv 0), .int (iv 0)])) := hu_s
  have hH : gP G (hu ν59 (sa + 26) (.inr (2, [.int (iv 0), .int (iv 0), .int (iv 0), .int (iv 0), .int (iv 0), .int (iv 0)]))) (sa + 27) H := hH
  refine lv_dup hx hb dX6_init_40 rfl ?_
  refine m_callINv (As := []) (rest := [.ref (sa + 26), .int (iv 9), .ref (sa + 16)]) ⟨hx, hb, hml, hown, hts⟩ hK hH hS (c_X3_init l G (hu ν59 (sa + 26) (.inr (2, [.int (iv 0), .int (iv 0), .int (iv 0), .int (iv 0), .int (iv 0), .int (iv 0)]))) (sa + 27) (sa + 26)) ⟨va_cnB 0 hts gX6_init_X3_init_n24 rfl rfl rfl hK.2.2.2.2.2.1 f_14 (by decide +kernel) ⟨(Nat.le_of_ble_eq_true rfl), (Nat.le_of_ble_eq_true rfl)⟩, rfl, f_16⟩ rfl rfl hl.1 (Nat.le_of_ble_eq_true rfl) dX6_init_41 ⟨(Nat.le_of_ble_eq_true rfl), (Nat.le_of_ble_eq_true rfl)⟩ (fun μ62 n63 H locs hp64 hH hS => ?_)
  obtain ⟨hm2, hn2⟩ := hp64; rw [hm2, hn2] at hH; clear hm2 hn2
  refine m_aast hx hb hK hH hS 3 2 hP_2_2_1 rfl hO61 rfl dX6_init_44 (fun H locs hH hS => ?_) (by omega) (by omega)
  have hP : SaP G (hu (hu ν59 (sa + 26) (.inr (2, [.int (iv 0), .int (iv 0), .int (iv 0), .int (iv 0), .int (iv 0), .int (iv 0)]))) (sa + 16) (.inl (G.2.1 3, 12, .inr (.inr (.inr (.inr (qu (fun r => if r < 9 then some (sa + 17 + r) else none) 9 (sa + 26)))))))) sa 10 := hP.step (k := 9) (fun q h1 h2 => hin2 q (by omega)) hO61
  have hfr : ∀ q, q < sa → (hu (hu ν59 (sa + 26) (.inr (2, [.int (iv 0), .int (iv 0), .int (iv 0), .int (iv 0), .int (iv 0), .int (iv 0)]))) (sa + 16) (.inl (G.2.1 3, 12, .inr (.inr (.inr (.inr (qu (fun r => if r < 9 then some (sa + 17 + r) else none) 9 (sa + 26)))))))) q = μ q := fun q hq => (hu_n (by omega)).trans (hfr q hq)
  have hH : gP G (hu (hu ν59 (sa + 26) (.inr (2, [.int (iv 0), .int (iv 0), .int (iv 0), .int (iv 0), .int (iv 0), .int (iv 0)]))) (sa + 16) (.inl (G.2.1 3, 12, .inr (.inr (.inr (.inr (qu (fun r => if r < 9 then some (sa + 17 + r) else none) 9 (sa + 26)))))))) (sa + 27) H := hH
  obtain ⟨ν65, hν65⟩ : ∃ ν : hM, ν = (hu (hu ν59 (sa + 26) (.inr (2, [.int (iv 0), .int (iv 0), .int (iv 0), .int (iv 0), .int (iv 0), .int (iv 0)]))) (sa + 16) (.inl (G.2.1 3, 12, .inr (.inr (.inr (.inr (qu (fun r => if r < 9 then some (sa + 17 + r) else none) 9 (sa + 26)))))))) := ⟨_, rfl⟩
  rw [← hν65] at hP hfr hH
  have hH : gP G ν65 (sa + 27) H := hH
  refine j_iinc (lv' := [(1, .int (iv 10)), (0, .ref sa)]) hx hb dX6_init_45 hl (k := 0) rfl (by decide) rfl (fun ls hl => ?_)
  refine lv_goto (tgt := 26) hx hb dX6_init_48 (by decide) ?_
  refine lv_iload_n hx hb dX6_init_26 rfl (lv_at hl 0 rfl) ?_
  refine j_bipush hx hb dX6_init_27 ?_ (by decide)
  refine j_icmp_ge (tgt := 51) hx hb dX6_init_29 (by decide) (fun c66 => absurd c66 (by omega)) (fun c66 => ?_) (by omega) (by omega)
  refine lv_aload_n hx hb dX6_init_32 rfl (lv_at hl 1 rfl) ?_
  refine m_get (C := RX6) (T := TX6) (N := 8) (ci := 5) hx hb hts i_X6 hown hK hH hP.1 rfl 1 (by decide) f_12 rfl dX6_init_33 ?_
  refine lv_iload_n hx hb dX6_init_36 rfl (lv_at hl 0 rfl) ?_
  refine m_new (C := RX3) (T := TX3) (N := 6) (ci := 2) (fs := [.int (iv 0), .int (iv 0), .int (iv 0), .int (iv 0), .int (iv 0), .int (iv 0)]) hx hb hts i_X3 tyX3 tyX3_ok hown f_11 f_13 f_14 hK hH hS rfl (fun j hj => by rcases (show j = 0 ∨ j = 1 ∨ j = 2 ∨ j = 3 ∨ j = 4 ∨ j = 5 by omega) with rfl | rfl | rfl | rfl | rfl | rfl <;> rfl) dX6_init_37 (Nat.le_of_ble_eq_true rfl) (Nat.le_of_ble_eq_true rfl) (fun H hH hS hnn => ?_)
  have hP_1 := hu_n' (a := (sa + 27)) (e := (.inr (2, [.int (iv 0), .int (iv 0), .int (iv 0), .int (iv 0), .int (iv 0), .int (iv 0)]))) (b := sa) (by omega) hP.1
  have hP_2_2_1 := hu_n' (a := (sa + 27)) (e := (.inr (2, [.int (iv 0), .int (iv 0), .int (iv 0), .int (iv 0), .int (iv 0), .int (iv 0)]))) (b := (sa + 16)) (by omega) hP.2.2.1
  have hfr : ∀ q, q < sa → (hu ν65 (sa + 27) (.inr (2, [.int (iv 0), .int (iv 0), .int (iv 0), .int (iv 0), .int (iv 0), .int (iv 0)]))) q = μ q := fun q hq => (hu_n (by omega)).trans (hfr q hq)
  have hin2 : ∀ q, q < (sa + 27) → (hu ν65 (sa + 27) (.inr (2, [.int (iv 0), .int (iv 0), .int (iv 0), .int (iv 0), .int (iv 0), .int (iv 0)]))) q = ν65 q := fun q hq => hu_n (by omega)
  have hO67 : (hu ν65 (sa + 27) (.inr (2, [.int (iv 0), .int (iv 0), .int (iv 0), .int (iv 0), .int (iv 0), .int (iv 0)]))) (sa + 27) = some (.inr (2, [.int (iv 0), .int (iv 0), .int (iv 0), .int (iv 0), .int (iv 0), .int (iv 0)])) := hu_s
  have hH : gP G (hu ν65 (sa + 27) (.inr (2, [.int (iv 0), .int (iv 0), .int (iv 0), .int (iv 0), .int (iv 0), .int (iv 0)]))) (sa + 28) H := hH
  refine lv_dup hx hb dX6_init_40 rfl ?_
  refine m_callINv (As := []) (rest := [.ref (sa + 27), .int (iv 10), .ref (sa + 16)]) ⟨hx, hb, hml, hown, hts⟩ hK hH hS (c_X3_init l G (hu ν65 (sa + 27) (.inr (2, [.int (iv 0), .int (iv 0), .int (iv 0), .int (iv 0), .int (iv 0), .int (iv 0)]))) (sa + 28) (sa + 27)) ⟨va_cnB 0 hts gX6_init_X3_init_n24 rfl rfl rfl hK.2.2.2.2.2.1 f_14 (by decide +kernel) ⟨(Nat.le_of_ble_eq_true rfl), (Nat.le_of_ble_eq_true rfl)⟩, rfl, f_16⟩ rfl rfl hl.1 (Nat.le_of_ble_eq_true rfl) dX6_init_41 ⟨(Nat.le_of_ble_eq_true rfl), (Nat.le_of_ble_eq_true rfl)⟩ (fun μ68 n69 H locs hp70 hH hS => ?_)
  obtain ⟨hm2, hn2⟩ := hp70; rw [hm2, hn2] at hH; clear hm2 hn2
  refine m_aast hx hb hK hH hS 3 2 hP_2_2_1 rfl hO67 rfl dX6_init_44 (fun H locs hH hS => ?_) (by omega) (by omega)
  have hP : SaP G (hu (hu ν65 (sa + 27) (.inr (2, [.int (iv 0), .int (iv 0), .int (iv 0), .int (iv 0), .int (iv 0), .int (iv 0)]))) (sa + 16) (.inl (G.2.1 3, 12, .inr (.inr (.inr (.inr (qu (fun r => if r < 10 then some (sa + 17 + r) else none) 10 (sa + 27)))))))) sa 11 := hP.step (k := 10) (fun q h1 h2 => hin2 q (by omega)) hO67
  have hfr : ∀ q, q < sa → (hu (hu ν65 (sa + 27) (.inr (2, [.int (iv 0), .int (iv 0), .int (iv 0), .int (iv 0), .int (iv 0), .int (iv 0)]))) (sa + 16) (.inl (G.2.1 3, 12, .inr (.inr (.inr (.inr (qu (fun r => if r < 10 then some (sa + 17 + r) else none) 10 (sa + 27)))))))) q = μ q := fun q hq => (hu_n (by omega)).trans (hfr q hq)
  have hH : gP G (hu (hu ν65 (sa + 27) (.inr (2, [.int (iv 0), .int (iv 0), .int (iv 0), .int (iv 0), .int (iv 0), .int (iv 0)]))) (sa + 16) (.inl (G.2.1 3, 12, .inr (.inr (.inr (.inr (qu (fun r => if r < 10 then some (sa + 17 + r) else none) 10 (sa + 27)))))))) (sa + 28) H := hH
  obtain ⟨ν71, hν71⟩ : ∃ ν : hM, ν = (hu (hu ν65 (sa + 27) (.inr (2, [.int (iv 0), .int (iv 0), .int (iv 0), .int (iv 0), .int (iv 0), .int (iv 0)]))) (sa + 16) (.inl (G.2.1 3, 12, .inr (.inr (.inr (.inr (qu (fun r => if r < 10 then some (sa + 17 + r) else none) 10 (sa + 27)))))))) := ⟨_, rfl⟩
  rw [← hν71] at hP hfr hH
  have hH : gP G ν71 (sa + 28) H := hH
  refine j_iinc (lv' := [(1, .int (iv 11)), (0, .ref sa)]) hx hb dX6_init_45 hl (k := 0) rfl (by decide) rfl (fun ls hl => ?_)
  refine lv_goto (tgt := 26) hx hb dX6_init_48 (by decide) ?_
  refine lv_iload_n hx hb dX6_init_26 rfl (lv_at hl 0 rfl) ?_
  refine j_bipush hx hb dX6_init_27 ?_ (by decide)
  refine j_icmp_ge (tgt := 51) hx hb dX6_init_29 (by decide) (fun c72 => absurd c72 (by omega)) (fun c72 => ?_) (by omega) (by omega)
  refine lv_aload_n hx hb dX6_init_32 rfl (lv_at hl 1 rfl) ?_
  refine m_get (C := RX6) (T := TX6) (N := 8) (ci := 5) hx hb hts i_X6 hown hK hH hP.1 rfl 1 (by decide) f_12 rfl dX6_init_33 ?_
  refine lv_iload_n hx hb dX6_init_36 rfl (lv_at hl 0 rfl) ?_
  refine m_new (C := RX3) (T := TX3) (N := 6) (ci := 2) (fs := [.int (iv 0), .int (iv 0), .int (iv 0), .int (iv 0), .int (iv 0), .int (iv 0)]) hx hb hts i_X3 tyX3 tyX3_ok hown f_11 f_13 f_14 hK hH hS rfl (fun j hj => by rcases (show j = 0 ∨ j = 1 ∨ j = 2 ∨ j = 3 ∨ j = 4 ∨ j = 5 by omega) with rfl | rfl | rfl | rfl | rfl | rfl <;> rfl) dX6_init_37 (Nat.le_of_ble_eq_true rfl) (Nat.le_of_ble_eq_true rfl) (fun H hH hS hnn => ?_)
  have hP_1 := hu_n' (a := (sa + 28)) (e := (.inr (2, [.int (iv 0), .int (iv 0), .int (iv 0), .int (iv 0), .int (iv 0), .int (iv 0)]))) (b := sa) (by omega) hP.1
  have hP_2_2_1 := hu_n' (a := (sa + 28)) (e := (.inr (2, [.int (iv 0), .int (iv 0), .int (iv 0), .int (iv 0), .int (iv 0), .int (iv 0)]))) (b := (sa + 16)) (by omega) hP.2.2.1
  have hfr : ∀ q, q < sa → (hu ν71 (sa + 28) (.inr (2, [.int (iv 0), .int (iv 0), .int (iv 0), .int (iv 0), .int (iv 0), .int (iv 0)]))) q = μ q := fun q hq => (hu_n (by omega)).trans (hfr q hq)
  have hin2 : ∀ q, q < (sa + 28) → (hu ν71 (sa + 28) (.inr (2, [.int (iv 0), .int (iv 0), .int (iv 0), .int (iv 0), .int (iv 0), .int (iv 0)]))) q = ν71 q := fun q hq => hu_n (by omega)
  have hO73 : (hu ν71 (sa + 28) (.inr (2, [.int (iv 0), .int (iv 0), .int (iv 0), .int (iv 0), .int (iv 0), .int (iv 0)]))) (sa + 28) = some (.inr (2, [.int (iv 0), .int (iv 0), .int (iv 0), .int (iv 0), .int (iv 0), .int (iv 0)])) := hu_s
  have hH : gP G (hu ν71 (sa + 28) (.inr (2, [.int (iv 0), .int (iv 0), .int (iv 0), .int (iv 0), .int (iv 0), .int (iv 0)]))) (sa + 29) H := hH
  refine lv_dup hx hb dX6_init_40 rfl ?_
  refine m_callINv (As := []) (rest := [.ref (sa + 28), .int (iv 11), .ref (sa + 16)]) ⟨hx, hb, hml, hown, hts⟩ hK hH hS (c_X3_init l G (hu ν71 (sa + 28) (.inr (2, [.int (iv 0), .int (iv 0), .int (iv 0), .int (iv 0), .int (iv 0), .int (iv 0)]))) (sa + 29) (sa + 28)) ⟨va_cnB 0 hts gX6_init_X3_init_n24 rfl rfl rfl hK.2.2.2.2.2.1 f_14 (by decide +kernel) ⟨(Nat.le_of_ble_eq_true rfl), (Nat.le_of_ble_eq_true rfl)⟩, rfl, f_16⟩ rfl rfl hl.1 (Nat.le_of_ble_eq_true rfl) dX6_init_41 ⟨(Nat.le_of_ble_eq_true rfl), (Nat.le_of_ble_eq_true rfl)⟩ (fun μ74 n75 H locs hp76 hH hS => ?_)
  obtain ⟨hm2, hn2⟩ := hp76; rw [hm2, hn2] at hH; clear hm2 hn2
  refine m_aast hx hb hK hH hS 3 2 hP_2_2_1 rfl hO73 rfl dX6_init_44 (fun H locs hH hS => ?_) (by omega) (by omega)
  have hP : SaP G (hu (hu ν71 (sa + 28) (.inr (2, [.int (iv 0), .int (iv 0), .int (iv 0), .int (iv 0), .int (iv 0), .int (iv 0)]))) (sa + 16) (.inl (G.2.1 3, 12, .inr (.inr (.inr (.inr (qu (fun r => if r < 11 then some (sa + 17 + r) else none) 11 (sa + 28)))))))) sa 12 := hP.step (k := 11) (fun q h1 h2 => hin2 q (by omega)) hO73
  have hfr : ∀ q, q < sa → (hu (hu ν71 (sa + 28) (.inr (2, [.int (iv 0), .int (iv 0), .int (iv 0), .int (iv 0), .int (iv 0), .int (iv 0)]))) (sa + 16) (.inl (G.2.1 3, 12, .inr (.inr (.inr (.inr (qu (fun r => if r < 11 then some (sa + 17 + r) else none) 11 (sa + 28)))))))) q = μ q := fun q hq => (hu_n (by omega)).trans (hfr q hq)
  have hH : gP G (hu (hu ν71 (sa + 28) (.inr (2, [.int (iv 0), .int (iv 0), .int (iv 0), .int (iv 0), .int (iv 0), .int (iv 0)]))) (sa + 16) (.inl (G.2.1 3, 12, .inr (.inr (.inr (.inr (qu (fun r => if r < 11 then some (sa + 17 + r) else none) 11 (sa + 28)))))))) (sa + 29) H := hH
  obtain ⟨ν77, hν77⟩ : ∃ ν : hM, ν = (hu (hu ν71 (sa + 28) (.inr (2, [.int (iv 0), .int (iv 0), .int (iv 0), .int (iv 0), .int (iv 0), .int (iv 0)]))) (sa + 16) (.inl (G.2.1 3, 12, .inr (.inr (.inr (.inr (qu (fun r => if r < 11 then some (sa + 17 + r) else none) 11 (sa + 28)))))))) := ⟨_, rfl⟩
  rw [← hν77] at hP hfr hH
  have hH : gP G ν77 (sa + 29) H := hH
  refine j_iinc (lv' := [(1, .int (iv 12)), (0, .ref sa)]) hx hb dX6_init_45 hl (k := 0) rfl (by decide) rfl (fun ls hl => ?_)
  refine lv_goto (tgt := 26) hx hb dX6_init_48 (by decide) ?_
  refine lv_iload_n hx hb dX6_init_26 rfl (lv_at hl 0 rfl) ?_
  refine j_bipush hx hb dX6_init_27 ?_ (by decide)
  refine j_icmp_ge (tgt := 51) hx hb dX6_init_29 (by decide) (fun c78 => ?_) (fun c78 => absurd c78 (by omega)) (by omega) (by omega)
  have hH : gP G (hu ν77 (sa + 16) (.inl (G.2.1 3, 12, .inr (.inr (.inr (.inr (fun r => some (sa + 17 + r)))))))) (sa + 29) H := hH.cgq hP.2.2.1 (fun j hj => if_pos hj)
  have hfr : ∀ q, q < sa → (hu ν77 (sa + 16) (.inl (G.2.1 3, 12, .inr (.inr (.inr (.inr (fun r => some (sa + 17 + r)))))))) q = μ q := fun q hq => (hu_n (by omega)).trans (hfr q hq)
  subst hQ
  refine m_vret hx hb hr hlocks hH hS dX6_init_51 ?_
  exact ⟨IsState.of hP, rfl, hfr⟩

abbrev rm_c_X2_init : Room := { frames := 4, cells := 117, slots := 772, locals := 83 }
set_option maxHeartbeats 4000000 in
set_option maxRecDepth 100000 in
theorem c_X2_init (l : Launch) (G : wG) (μ : hM) (n : Nat) (h : Nat) (hB : μ h = some (.inr (1, [.null, .int (iv 0)]))) (hn : n = h + 1) : Met l yX2_init wsX2_init rm_c_X2_init (mPc G μ n [.ref h]) (mQv G (fun μ1 n1 => IsHist G μ1 h (fun r => r) 0 (fun _ p => p) (fun _ => s0) (fun _ => 0) (fun _ => 0) (fun _ => none) ∧ n1 = h + 118 ∧ ∀ q, q < h → μ1 q = μ q)) 117 772 (gA G) := by
  refine Met.ofW (cc := cX2_init) (maxL := 2) (ret := none) (by decide) rfl ?_
  intro p e s m args below meth c s₁ B hml hv
  obtain ⟨hav, hK, hH⟩ := hv
  have hx := B.exec
  have hb := B.bytes
  have hr := B.returns
  have hts := atoms_spec (ws := wsX2_init) B.pre
  have hown : s.vm.findClass RX2 = some m.cls := findClass_of_methodNamed B.named
  have hlocks := B.notSynchronized
  have hin : meth.name = "<init>" := (name_of_methodNamed B.named B.method).1
  have hS : va_S (gA G) s.heap s.heap [] := va_S.rf
  have hl := lv_entry ([.ref h]) (n := 2) (Nat.le_of_ble_eq_true rfl)
  have hfr : entryFrame m args 2 = entryFrame m ([.ref h] : List Value).toArray 2 := by rw [hav]
  rw [hfr, lg_entry_eq]
  generalize (lg_sl ([.ref h]) ++ List.replicate (2 - (lg_sl ([.ref h])).length) Slot.unset).toArray = ls at hl ⊢
  have hl : lv_has ls 2 [(0, .ref h)] := hl
  generalize hQ : MQ below _ args s 117 772 (gA G) = Q
  show W p l e rm_c_X2_init s m args below meth c s.heap [] 0 0 Q (F0 m 0 ls [])
  obtain ⟨H, hHe⟩ : ∃ H, H = s.heap := ⟨_, rfl⟩
  obtain ⟨locs, hlo⟩ : ∃ q : List Loc, q = [] := ⟨_, rfl⟩
  have hH : gP G μ n H := by rw [hHe]; exact hH
  have hS : va_S (gA G) s.heap H locs := by rw [hHe, hlo]; exact hS
  suffices hgo : W p l e rm_c_X2_init s m args below meth c H locs 0 0 Q (F0 m 0 ls []) by rw [hHe, hlo] at hgo; exact hgo
  clear hHe hlo hfr hav
  have f_0 := hts (.methodLink RX2 3 objectInit) (List.mem_of_getElem? (i := 1) rfl)
  have f_1 := hts (.instanceMethod objectInit) (List.mem_of_getElem? (i := 2) rfl)
  have f_2 := hts (.code objectInit ⟨#[0xb1]⟩ 1 none) (List.mem_of_getElem? (i := 3) rfl)
  have f_3 := hts (.classLink RX2 9 RX6) (List.mem_of_getElem? (i := 4) rfl)
  have f_4 := hts (.fieldLink RX2 11 "StampDater$History" "states" "[LStampDater$State;") (List.mem_of_getElem? (i := 5) rfl)
  have i_X2 : ∀ w ∈ u_ws RX2 TX2 2, w ∈ wsX2_init := by decide +kernel
  have f_6 := hts (.instantiable RX6 8) (List.mem_of_getElem? (i := 6) rfl)
  have f_7 := hts (.initialized RX6) (List.mem_of_getElem? (i := 7) rfl)
  have i_X6 : ∀ w ∈ u_ws RX6 TX6 8, w ∈ wsX2_init := by decide +kernel
  have f_9 := hts (.methodLink RX2 17 yX6_init) (List.mem_of_getElem? (i := 8) rfl)
  have f_10 := hts (.instanceMethod yX6_init) (List.mem_of_getElem? (i := 9) rfl)
  subst hn
  have hfr : ∀ q, q < h → μ q = μ q := fun q _ => rfl
  refine lv_aload_n hx hb dX2_init_0 rfl (lv_at hl 0 rfl) ?_
  refine W.objInit hx hb hown f_0 f_1 f_2 rfl (hl.1.trans hml.symm) rfl dX2_init_1 (Nat.le_of_ble_eq_true rfl) (Nat.le_of_ble_eq_true rfl) ?_
  show W p l e rm_c_X2_init s m args below meth c H locs 0 0 Q (F0 m 4 ls [])
  refine lv_aload_n hx hb dX2_init_4 rfl (lv_at hl 0 rfl) ?_
  refine j_const hx hb dX2_init_5 ?_
  refine m_anew hx hb hown f_3 (hK.2.2.2.2.2.2.2.2.use) hK hH hS 4 rfl 4 rfl (by decide) dX2_init_6 (Nat.le_of_ble_eq_true rfl) (Nat.le_of_ble_eq_true rfl) (fun H hH hS hnn => ?_)
  have hB := hu_n' (a := (h + 1)) (e := (.inl (G.2.1 4, 4, .inr (.inr (.inr (.inr (fun _ => none))))))) (b := h) (by omega) hB
  have hfr : ∀ q, q < h → (hu μ (h + 1) (.inl (G.2.1 4, 4, .inr (.inr (.inr (.inr (fun _ => none))))))) q = μ q := fun q hq => (hu_n (by omega)).trans (hfr q hq)
  have hA1 : (hu μ (h + 1) (.inl (G.2.1 4, 4, .inr (.inr (.inr (.inr (fun _ => none))))))) (h + 1) = some (.inl (G.2.1 4, 4, .inr (.inr (.inr (.inr (fun _ => none)))))) := hu_s
  have hH : gP G (hu μ (h + 1) (.inl (G.2.1 4, 4, .inr (.inr (.inr (.inr (fun _ => none))))))) (h + 2) H := hH
  refine m_putF (C := RX2) (T := TX2) (N := 2) (ci := 1) hx hb hts i_X2 tyX2 tyX2_ok nmX2 hown hK hH hS hB rfl 0 (by decide) f_4 rfl hin rfl rfl rfl (Nat.le_of_ble_eq_true rfl) dX2_init_9 (fun H locs hH hS => ?_)
  have hA1 := hu_n' (a := h) (e := (.inr (1, [.ref (h + 1), .int (iv 0)]))) (b := (h + 1)) (by omega) hA1
  have hB : (hu (hu μ (h + 1) (.inl (G.2.1 4, 4, .inr (.inr (.inr (.inr (fun _ => none))))))) h (.inr (1, [.ref (h + 1), .int (iv 0)]))) h = some (.inr (1, [.ref (h + 1), .int (iv 0)])) := hu_s
  have hfr2 : ∀ q, q ≠ h → q < h → (hu (hu μ (h + 1) (.inl (G.2.1 4, 4, .inr (.inr (.inr (.inr (fun _ => none))))))) h (.inr (1, [.ref (h + 1), .int (iv 0)]))) q = μ q := fun q _ hq => (hu_n (by omega)).trans (hfr q hq)
  have hfr : ∀ q, q < h → (hu (hu μ (h + 1) (.inl (G.2.1 4, 4, .inr (.inr (.inr (.inr (fun _ => none))))))) h (.inr (1, [.ref (h + 1), .int (iv 0)]))) q = μ q := fun q hq => hfr2 q (by omega) hq
  have hH : gP G (hu (hu μ (h + 1) (.inl (G.2.1 4, 4, .inr (.inr (.inr (.inr (fun _ => none))))))) h (.inr (1, [.ref (h + 1), .int (iv 0)]))) (h + 2) H := hH
  have hP : HiP G (hu (hu μ (h + 1) (.inl (G.2.1 4, 4, .inr (.inr (.inr (.inr (fun _ => none))))))) h (.inr (1, [.ref (h + 1), .int (iv 0)]))) h 0 := ⟨hB, hA1, fun p hp => absurd hp (Nat.not_lt_zero p)⟩
  refine j_const hx hb dX2_init_12 ?_
  refine lv_istore_n (lv' := [(1, .int (iv 0)), (0, .ref h)]) hx hb dX2_init_13 rfl hl (by decide) rfl (fun ls hl => ?_)
  refine lv_iload_n hx hb dX2_init_14 rfl (lv_at hl 0 rfl) ?_
  refine j_const hx hb dX2_init_15 ?_
  refine j_icmp_ge (tgt := 38) hx hb dX2_init_16 (by decide) (fun c2 => absurd c2 (by omega)) (fun c2 => ?_) (by omega) (by omega)
  refine lv_aload_n hx hb dX2_init_19 rfl (lv_at hl 1 rfl) ?_
  refine m_get (C := RX2) (T := TX2) (N := 2) (ci := 1) hx hb hts i_X2 hown hK hH hP.1 rfl 0 (by decide) f_4 rfl dX2_init_20 ?_
  refine lv_iload_n hx hb dX2_init_23 rfl (lv_at hl 0 rfl) ?_
  refine m_new (C := RX6) (T := TX6) (N := 8) (ci := 5) (fs := [.null, .null, .int (iv 0), .int (iv 0), .int (iv 0), .int (iv 0), .int (iv 0), .null]) hx hb hts i_X6 tyX6 tyX6_ok hown f_3 f_6 f_7 hK hH hS rfl (fun j hj => by rcases (show j = 0 ∨ j = 1 ∨ j = 2 ∨ j = 3 ∨ j = 4 ∨ j = 5 ∨ j = 6 ∨ j = 7 by omega) with rfl | rfl | rfl | rfl | rfl | rfl | rfl | rfl <;> rfl) dX2_init_24 (Nat.le_of_ble_eq_true rfl) (Nat.le_of_ble_eq_true rfl) (fun H hH hS hnn => ?_)
  have hP_1 := hu_n' (a := (h + 2)) (e := (.inr (5, [.null, .null, .int (iv 0), .int (iv 0), .int (iv 0), .int (iv 0), .int (iv 0), .null]))) (b := h) (by omega) hP.1
  have hP_2_1 := hu_n' (a := (h + 2)) (e := (.inr (5, [.null, .null, .int (iv 0), .int (iv 0), .int (iv 0), .int (iv 0), .int (iv 0), .null]))) (b := (h + 1)) (by omega) hP.2.1
  have hfr : ∀ q, q < h → (hu (hu (hu μ (h + 1) (.inl (G.2.1 4, 4, .inr (.inr (.inr (.inr (fun _ => none))))))) h (.inr (1, [.ref (h + 1), .int (iv 0)]))) (h + 2) (.inr (5, [.null, .null, .int (iv 0), .int (iv 0), .int (iv 0), .int (iv 0), .int (iv 0), .null]))) q = μ q := fun q hq => (hu_n (by omega)).trans (hfr q hq)
  have hin2 : ∀ q, q < (h + 2) → (hu (hu (hu μ (h + 1) (.inl (G.2.1 4, 4, .inr (.inr (.inr (.inr (fun _ => none))))))) h (.inr (1, [.ref (h + 1), .int (iv 0)]))) (h + 2) (.inr (5, [.null, .null, .int (iv 0), .int (iv 0), .int (iv 0), .int (iv 0), .int (iv 0), .null]))) q = (hu (hu μ (h + 1) (.inl (G.2.1 4, 4, .inr (.inr (.inr (.inr (fun _ => none))))))) h (.inr (1, [.ref (h + 1), .int (iv 0)]))) q := fun q hq => hu_n (by omega)
  have hO3 : (hu (hu (hu μ (h + 1) (.inl (G.2.1 4, 4, .inr (.inr (.inr (.inr (fun _ => none))))))) h (.inr (1, [.ref (h + 1), .int (iv 0)]))) (h + 2) (.inr (5, [.null, .null, .int (iv 0), .int (iv 0), .int (iv 0), .int (iv 0), .int (iv 0), .null]))) (h + 2) = some (.inr (5, [.null, .null, .int (iv 0), .int (iv 0), .int (iv 0), .int (iv 0), .int (iv 0), .null])) := hu_s
  have hH : gP G (hu (hu (hu μ (h + 1) (.inl (G.2.1 4, 4, .inr (.inr (.inr (.inr (fun _ => none))))))) h (.inr (1, [.ref (h + 1), .int (iv 0)]))) (h + 2) (.inr (5, [.null, .null, .int (iv 0), .int (iv 0), .int (iv 0), .int (iv 0), .int (iv 0), .null]))) (h + 3) H := hH
  refine lv_dup hx hb dX2_init_27 rfl ?_
  refine m_callIv (As := []) (rest := [.ref (h + 2), .int (iv 0), .ref (h + 1)]) ⟨hx, hb, hml, hown, hts⟩ hK hH hS (c_X6_init l G (hu (hu (hu μ (h + 1) (.inl (G.2.1 4, 4, .inr (.inr (.inr (.inr (fun _ => none))))))) h (.inr (1, [.ref (h + 1), .int (iv 0)]))) (h + 2) (.inr (5, [.null, .null, .int (iv 0), .int (iv 0), .int (iv 0), .int (iv 0), .int (iv 0), .null]))) (h + 3) (h + 2) hO3 rfl) (cwI 0 hts gX2_init_X6_init rfl rfl rfl f_7 f_9 f_10 rfl (by decide +kernel) ⟨(Nat.le_of_ble_eq_true rfl), (Nat.le_of_ble_eq_true rfl)⟩) rfl rfl hl.1 (Nat.le_of_ble_eq_true rfl) dX2_init_28 ⟨(Nat.le_of_ble_eq_true rfl), (Nat.le_of_ble_eq_true rfl)⟩ (fun μ4 n5 H locs hp6 hH hS => ?_)
  obtain ⟨hZ1, hn1, hfr1⟩ := hp6
  rw [hn1] at hH
  have hin3 : ∀ q, h ≤ q → q < h + 2 + 29 * 0 → μ4 q = (hu (hu μ (h + 1) (.inl (G.2.1 4, 4, .inr (.inr (.inr (.inr (fun _ => none))))))) h (.inr (1, [.ref (h + 1), .int (iv 0)]))) q := fun q h1 h2 => (hfr1 q (by omega)).trans (hin2 q (by omega))
  have hfr : ∀ q, q < h → μ4 q = μ q := fun q hq => (hfr1 q (by omega)).trans (hfr q hq)
  have hrow : μ4 (h + 1) = _ := (hin3 (h + 1) (by omega) (by omega)).trans hP.2.1
  refine m_aast hx hb hK hH hS 4 5 hrow rfl hZ1.1 rfl dX2_init_31 (fun H locs hH hS => ?_) (by omega) (by omega)
  have hP : HiP G (hu μ4 (h + 1) (.inl (G.2.1 4, 4, .inr (.inr (.inr (.inr (qu (fun r => if r < 0 then some (h + 2 + 29 * r) else none) 0 (h + 2)))))))) h 1 := hP.step (k := 0) hin3 hZ1
  have hfr : ∀ q, q < h → (hu μ4 (h + 1) (.inl (G.2.1 4, 4, .inr (.inr (.inr (.inr (qu (fun r => if r < 0 then some (h + 2 + 29 * r) else none) 0 (h + 2)))))))) q = μ q := fun q hq => (hu_n (by omega)).trans (hfr q hq)
  have hH : gP G (hu μ4 (h + 1) (.inl (G.2.1 4, 4, .inr (.inr (.inr (.inr (qu (fun r => if r < 0 then some (h + 2 + 29 * r) else none) 0 (h + 2)))))))) (h + 31) H := hH
  obtain ⟨ν7, hν7⟩ : ∃ ν : hM, ν = (hu μ4 (h + 1) (.inl (G.2.1 4, 4, .inr (.inr (.inr (.inr (qu (fun r => if r < 0 then some (h + 2 + 29 * r) else none) 0 (h + 2)))))))) := ⟨_, rfl⟩
  rw [← hν7] at hP hfr hH
  have hH : gP G ν7 (h + 31) H := hH
  refine j_iinc (lv' := [(1, .int (iv 1)), (0, .ref h)]) hx hb dX2_init_32 hl (k := 0) rfl (by decide) rfl (fun ls hl => ?_)
  refine lv_goto (tgt := 14) hx hb dX2_init_35 (by decide) ?_
  refine lv_iload_n hx hb dX2_init_14 rfl (lv_at hl 0 rfl) ?_
  refine j_const hx hb dX2_init_15 ?_
  refine j_icmp_ge (tgt := 38) hx hb dX2_init_16 (by decide) (fun c8 => absurd c8 (by omega)) (fun c8 => ?_) (by omega) (by omega)
  refine lv_aload_n hx hb dX2_init_19 rfl (lv_at hl 1 rfl) ?_
  refine m_get (C := RX2) (T := TX2) (N := 2) (ci := 1) hx hb hts i_X2 hown hK hH hP.1 rfl 0 (by decide) f_4 rfl dX2_init_20 ?_
  refine lv_iload_n hx hb dX2_init_23 rfl (lv_at hl 0 rfl) ?_
  refine m_new (C := RX6) (T := TX6) (N := 8) (ci := 5) (fs := [.null, .null, .int (iv 0), .int (iv 0), .int (iv 0), .int (iv 0), .int (iv 0), .null]) hx hb hts i_X6 tyX6 tyX6_ok hown f_3 f_6 f_7 hK hH hS rfl (fun j hj => by rcases (show j = 0 ∨ j = 1 ∨ j = 2 ∨ j = 3 ∨ j = 4 ∨ j = 5 ∨ j = 6 ∨ j = 7 by omega) with rfl | rfl | rfl | rfl | rfl | rfl | rfl | rfl <;> rfl) dX2_init_24 (Nat.le_of_ble_eq_true rfl) (Nat.le_of_ble_eq_true rfl) (fun H hH hS hnn => ?_)
  have hP_1 := hu_n' (a := (h + 31)) (e := (.inr (5, [.null, .null, .int (iv 0), .int (iv 0), .int (iv 0), .int (iv 0), .int (iv 0), .null]))) (b := h) (by omega) hP.1
  have hP_2_1 := hu_n' (a := (h + 31)) (e := (.inr (5, [.null, .null, .int (iv 0), .int (iv 0), .int (iv 0), .int (iv 0), .int (iv 0), .null]))) (b := (h + 1)) (by omega) hP.2.1
  have hfr : ∀ q, q < h → (hu ν7 (h + 31) (.inr (5, [.null, .null, .int (iv 0), .int (iv 0), .int (iv 0), .int (iv 0), .int (iv 0), .null]))) q = μ q := fun q hq => (hu_n (by omega)).trans (hfr q hq)
  have hin2 : ∀ q, q < (h + 31) → (hu ν7 (h + 31) (.inr (5, [.null, .null, .int (iv 0), .int (iv 0), .int (iv 0), .int (iv 0), .int (iv 0), .null]))) q = ν7 q := fun q hq => hu_n (by omega)
  have hO9 : (hu ν7 (h + 31) (.inr (5, [.null, .null, .int (iv 0), .int (iv 0), .int (iv 0), .int (iv 0), .int (iv 0), .null]))) (h + 31) = some (.inr (5, [.null, .null, .int (iv 0), .int (iv 0), .int (iv 0), .int (iv 0), .int (iv 0), .null])) := hu_s
  have hH : gP G (hu ν7 (h + 31) (.inr (5, [.null, .null, .int (iv 0), .int (iv 0), .int (iv 0), .int (iv 0), .int (iv 0), .null]))) (h + 32) H := hH
  refine lv_dup hx hb dX2_init_27 rfl ?_
  refine m_callIv (As := []) (rest := [.ref (h + 31), .int (iv 1), .ref (h + 1)]) ⟨hx, hb, hml, hown, hts⟩ hK hH hS (c_X6_init l G (hu ν7 (h + 31) (.inr (5, [.null, .null, .int (iv 0), .int (iv 0), .int (iv 0), .int (iv 0), .int (iv 0), .null]))) (h + 32) (h + 31) hO9 rfl) (cwI 0 hts gX2_init_X6_init rfl rfl rfl f_7 f_9 f_10 rfl (by decide +kernel) ⟨(Nat.le_of_ble_eq_true rfl), (Nat.le_of_ble_eq_true rfl)⟩) rfl rfl hl.1 (Nat.le_of_ble_eq_true rfl) dX2_init_28 ⟨(Nat.le_of_ble_eq_true rfl), (Nat.le_of_ble_eq_true rfl)⟩ (fun μ10 n11 H locs hp12 hH hS => ?_)
  obtain ⟨hZ1, hn1, hfr1⟩ := hp12
  rw [hn1] at hH
  have hin3 : ∀ q, h ≤ q → q < h + 2 + 29 * 1 → μ10 q = ν7 q := fun q h1 h2 => (hfr1 q (by omega)).trans (hin2 q (by omega))
  have hfr : ∀ q, q < h → μ10 q = μ q := fun q hq => (hfr1 q (by omega)).trans (hfr q hq)
  have hrow : μ10 (h + 1) = _ := (hin3 (h + 1) (by omega) (by omega)).trans hP.2.1
  refine m_aast hx hb hK hH hS 4 5 hrow rfl hZ1.1 rfl dX2_init_31 (fun H locs hH hS => ?_) (by omega) (by omega)
  have hP : HiP G (hu μ10 (h + 1) (.inl (G.2.1 4, 4, .inr (.inr (.inr (.inr (qu (fun r => if r < 1 then some (h + 2 + 29 * r) else none) 1 (h + 31)))))))) h 2 := hP.step (k := 1) hin3 hZ1
  have hfr : ∀ q, q < h → (hu μ10 (h + 1) (.inl (G.2.1 4, 4, .inr (.inr (.inr (.inr (qu (fun r => if r < 1 then some (h + 2 + 29 * r) else none) 1 (h + 31)))))))) q = μ q := fun q hq => (hu_n (by omega)).trans (hfr q hq)
  have hH : gP G (hu μ10 (h + 1) (.inl (G.2.1 4, 4, .inr (.inr (.inr (.inr (qu (fun r => if r < 1 then some (h + 2 + 29 * r) else none) 1 (h + 31)))))))) (h + 60) H := hH
  obtain ⟨ν13, hν13⟩ : ∃ ν : hM, ν = (hu μ10 (h + 1) (.inl (G.2.1 4, 4, .inr (.inr (.inr (.inr (qu (fun r => if r < 1 then some (h + 2 + 29 * r) else none) 1 (h + 31)))))))) := ⟨_, rfl⟩
  rw [← hν13] at hP hfr hH
  have hH : gP G ν13 (h + 60) H := hH
  refine j_iinc (lv' := [(1, .int (iv 2)), (0, .ref h)]) hx hb dX2_init_32 hl (k := 0) rfl (by decide) rfl (fun ls hl => ?_)
  refine lv_goto (tgt := 14) hx hb dX2_init_35 (by decide) ?_
  refine lv_iload_n hx hb dX2_init_14 rfl (lv_at hl 0 rfl) ?_
  refine j_const hx hb dX2_init_15 ?_
  refine j_icmp_ge (tgt := 38) hx hb dX2_init_16 (by decide) (fun c14 => absurd c14 (by omega)) (fun c14 => ?_) (by omega) (by omega)
  refine lv_aload_n hx hb dX2_init_19 rfl (lv_at hl 1 rfl) ?_
  refine m_get (C := RX2) (T := TX2) (N := 2) (ci := 1) hx hb hts i_X2 hown hK hH hP.1 rfl 0 (by decide) f_4 rfl dX2_init_20 ?_
  refine lv_iload_n hx hb dX2_init_23 rfl (lv_at hl 0 rfl) ?_
  refine m_new (C := RX6) (T := TX6) (N := 8) (ci := 5) (fs := [.null, .null, .int (iv 0), .int (iv 0), .int (iv 0), .int (iv 0), .int (iv 0), .null]) hx hb hts i_X6 tyX6 tyX6_ok hown f_3 f_6 f_7 hK hH hS rfl (fun j hj => by rcases (show j = 0 ∨ j = 1 ∨ j = 2 ∨ j = 3 ∨ j = 4 ∨ j = 5 ∨ j = 6 ∨ j = 7 by omega) with rfl | rfl | rfl | rfl | rfl | rfl | rfl | rfl <;> rfl) dX2_init_24 (Nat.le_of_ble_eq_true rfl) (Nat.le_of_ble_eq_true rfl) (fun H hH hS hnn => ?_)
  have hP_1 := hu_n' (a := (h + 60)) (e := (.inr (5, [.null, .null, .int (iv 0), .int (iv 0), .int (iv 0), .int (iv 0), .int (iv 0), .null]))) (b := h) (by omega) hP.1
  have hP_2_1 := hu_n' (a := (h + 60)) (e := (.inr (5, [.null, .null, .int (iv 0), .int (iv 0), .int (iv 0), .int (iv 0), .int (iv 0), .null]))) (b := (h + 1)) (by omega) hP.2.1
  have hfr : ∀ q, q < h → (hu ν13 (h + 60) (.inr (5, [.null, .null, .int (iv 0), .int (iv 0), .int (iv 0), .int (iv 0), .int (iv 0), .null]))) q = μ q := fun q hq => (hu_n (by omega)).trans (hfr q hq)
  have hin2 : ∀ q, q < (h + 60) → (hu ν13 (h + 60) (.inr (5, [.null, .null, .int (iv 0), .int (iv 0), .int (iv 0), .int (iv 0), .int (iv 0), .null]))) q = ν13 q := fun q hq => hu_n (by omega)
  have hO15 : (hu ν13 (h + 60) (.inr (5, [.null, .null, .int (iv 0), .int (iv 0), .int (iv 0), .int (iv 0), .int (iv 0), .null]))) (h + 60) = some (.inr (5, [.null, .null, .int (iv 0), .int (iv 0), .int (iv 0), .int (iv 0), .int (iv 0), .null])) := hu_s
  have hH : gP G (hu ν13 (h + 60) (.inr (5, [.null, .null, .int (iv 0), .int (iv 0), .int (iv 0), .int (iv 0), .int (iv 0), .null]))) (h + 61) H := hH
  refine lv_dup hx hb dX2_init_27 rfl ?_
  refine m_callIv (As := []) (rest := [.ref (h + 60), .int (iv 2), .ref (h + 1)]) ⟨hx, hb, hml, hown, hts⟩ hK hH hS (c_X6_init l G (hu ν13 (h + 60) (.inr (5, [.null, .null, .int (iv 0), .int (iv 0), .int (iv 0), .int (iv 0), .int (iv 0), .null]))) (h + 61) (h + 60) hO15 rfl) (cwI 0 hts gX2_init_X6_init rfl rfl rfl f_7 f_9 f_10 rfl (by decide +kernel) ⟨(Nat.le_of_ble_eq_true rfl), (Nat.le_of_ble_eq_true rfl)⟩) rfl rfl hl.1 (Nat.le_of_ble_eq_true rfl) dX2_init_28 ⟨(Nat.le_of_ble_eq_true rfl), (Nat.le_of_ble_eq_true rfl)⟩ (fun μ16 n17 H locs hp18 hH hS => ?_)
  obtain ⟨hZ1, hn1, hfr1⟩ := hp18
  rw [hn1] at hH
  have hin3 : ∀ q, h ≤ q → q < h + 2 + 29 * 2 → μ16 q = ν13 q := fun q h1 h2 => (hfr1 q (by omega)).trans (hin2 q (by omega))
  have hfr : ∀ q, q < h → μ16 q = μ q := fun q hq => (hfr1 q (by omega)).trans (hfr q hq)
  have hrow : μ16 (h + 1) = _ := (hin3 (h + 1) (by omega) (by omega)).trans hP.2.1
  refine m_aast hx hb hK hH hS 4 5 hrow rfl hZ1.1 rfl dX2_init_31 (fun H locs hH hS => ?_) (by omega) (by omega)
  have hP : HiP G (hu μ16 (h + 1) (.inl (G.2.1 4, 4, .inr (.inr (.inr (.inr (qu (fun r => if r < 2 then some (h + 2 + 29 * r) else none) 2 (h + 60)))))))) h 3 := hP.step (k := 2) hin3 hZ1
  have hfr : ∀ q, q < h → (hu μ16 (h + 1) (.inl (G.2.1 4, 4, .inr (.inr (.inr (.inr (qu (fun r => if r < 2 then some (h + 2 + 29 * r) else none) 2 (h + 60)))))))) q = μ q := fun q hq => (hu_n (by omega)).trans (hfr q hq)
  have hH : gP G (hu μ16 (h + 1) (.inl (G.2.1 4, 4, .inr (.inr (.inr (.inr (qu (fun r => if r < 2 then some (h + 2 + 29 * r) else none) 2 (h + 60)))))))) (h + 89) H := hH
  obtain ⟨ν19, hν19⟩ : ∃ ν : hM, ν = (hu μ16 (h + 1) (.inl (G.2.1 4, 4, .inr (.inr (.inr (.inr (qu (fun r => if r < 2 then some (h + 2 + 29 * r) else none) 2 (h + 60)))))))) := ⟨_, rfl⟩
  rw [← hν19] at hP hfr hH
  have hH : gP G ν19 (h + 89) H := hH
  refine j_iinc (lv' := [(1, .int (iv 3)), (0, .ref h)]) hx hb dX2_init_32 hl (k := 0) rfl (by decide) rfl (fun ls hl => ?_)
  refine lv_goto (tgt := 14) hx hb dX2_init_35 (by decide) ?_
  refine lv_iload_n hx hb dX2_init_14 rfl (lv_at hl 0 rfl) ?_
  refine j_const hx hb dX2_init_15 ?_
  refine j_icmp_ge (tgt := 38) hx hb dX2_init_16 (by decide) (fun c20 => absurd c20 (by omega)) (fun c20 => ?_) (by omega) (by omega)
  refine lv_aload_n hx hb dX2_init_19 rfl (lv_at hl 1 rfl) ?_
  refine m_get (C := RX2) (T := TX2) (N := 2) (ci := 1) hx hb hts i_X2 hown hK hH hP.1 rfl 0 (by decide) f_4 rfl dX2_init_20 ?_
  refine lv_iload_n hx hb dX2_init_23 rfl (lv_at hl 0 rfl) ?_
  refine m_new (C := RX6) (T := TX6) (N := 8) (ci := 5) (fs := [.null, .null, .int (iv 0), .int (iv 0), .int (iv 0), .int (iv 0), .int (iv 0), .null]) hx hb hts i_X6 tyX6 tyX6_ok hown f_3 f_6 f_7 hK hH hS rfl (fun j hj => by rcases (show j = 0 ∨ j = 1 ∨ j = 2 ∨ j = 3 ∨ j = 4 ∨ j = 5 ∨ j = 6 ∨ j = 7 by omega) with rfl | rfl | rfl | rfl | rfl | rfl | rfl | rfl <;> rfl) dX2_init_24 (Nat.le_of_ble_eq_true rfl) (Nat.le_of_ble_eq_true rfl) (fun H hH hS hnn => ?_)
  have hP_1 := hu_n' (a := (h + 89)) (e := (.inr (5, [.null, .null, .int (iv 0), .int (iv 0), .int (iv 0), .int (iv 0), .int (iv 0), .null]))) (b := h) (by omega) hP.1
  have hP_2_1 := hu_n' (a := (h + 89)) (e := (.inr (5, [.null, .null, .int (iv 0), .int (iv 0), .int (iv 0), .int (iv 0), .int (iv 0), .null]))) (b := (h + 1)) (by omega) hP.2.1
  have hfr : ∀ q, q < h → (hu ν19 (h + 89) (.inr (5, [.null, .null, .int (iv 0), .int (iv 0), .int (iv 0), .int (iv 0), .int (iv 0), .null]))) q = μ q := fun q hq => (hu_n (by omega)).trans (hfr q hq)
  have hin2 : ∀ q, q < (h + 89) → (hu ν19 (h + 89) (.inr (5, [.null, .null, .int (iv 0), .int (iv 0), .int (iv 0), .int (iv 0), .int (iv 0), .null]))) q = ν19 q := fun q hq => hu_n (by omega)
  have hO21 : (hu ν19 (h + 89) (.inr (5, [.null, .null, .int (iv 0), .int (iv 0), .int (iv 0), .int (iv 0), .int (iv 0), .null]))) (h + 89) = some (.inr (5, [.null, .null, .int (iv 0), .int (iv 0), .int (iv 0), .int (iv 0), .int (iv 0), .null])) := hu_s
  have hH : gP G (hu ν19 (h + 89) (.inr (5, [.null, .null, .int (iv 0), .int (iv 0), .int (iv 0), .int (iv 0), .int (iv 0), .null]))) (h + 90) H := hH
  refine lv_dup hx hb dX2_init_27 rfl ?_
  refine m_callIv (As := []) (rest := [.ref (h + 89), .int (iv 3), .ref (h + 1)]) ⟨hx, hb, hml, hown, hts⟩ hK hH hS (c_X6_init l G (hu ν19 (h + 89) (.inr (5, [.null, .null, .int (iv 0), .int (iv 0), .int (iv 0), .int (iv 0), .int (iv 0), .null]))) (h + 90) (h + 89) hO21 rfl) (cwI 0 hts gX2_init_X6_init rfl rfl rfl f_7 f_9 f_10 rfl (by decide +kernel) ⟨(Nat.le_of_ble_eq_true rfl), (Nat.le_of_ble_eq_true rfl)⟩) rfl rfl hl.1 (Nat.le_of_ble_eq_true rfl) dX2_init_28 ⟨(Nat.le_of_ble_eq_true rfl), (Nat.le_of_ble_eq_true rfl)⟩ (fun μ22 n23 H locs hp24 hH hS => ?_)
  obtain ⟨hZ1, hn1, hfr1⟩ := hp24
  rw [hn1] at hH
  have hin3 : ∀ q, h ≤ q → q < h + 2 + 29 * 3 → μ22 q = ν19 q := fun q h1 h2 => (hfr1 q (by omega)).trans (hin2 q (by omega))
  have hfr : ∀ q, q < h → μ22 q = μ q := fun q hq => (hfr1 q (by omega)).trans (hfr q hq)
  have hrow : μ22 (h + 1) = _ := (hin3 (h + 1) (by omega) (by omega)).trans hP.2.1
  refine m_aast hx hb hK hH hS 4 5 hrow rfl hZ1.1 rfl dX2_init_31 (fun H locs hH hS => ?_) (by omega) (by omega)
  have hP : HiP G (hu μ22 (h + 1) (.inl (G.2.1 4, 4, .inr (.inr (.inr (.inr (qu (fun r => if r < 3 then some (h + 2 + 29 * r) else none) 3 (h + 89)))))))) h 4 := hP.step (k := 3) hin3 hZ1
  have hfr : ∀ q, q < h → (hu μ22 (h + 1) (.inl (G.2.1 4, 4, .inr (.inr (.inr (.inr (qu (fun r => if r < 3 then some (h + 2 + 29 * r) else none) 3 (h + 89)))))))) q = μ q := fun q hq => (hu_n (by omega)).trans (hfr q hq)
  have hH : gP G (hu μ22 (h + 1) (.inl (G.2.1 4, 4, .inr (.inr (.inr (.inr (qu (fun r => if r < 3 then some (h + 2 + 29 * r) else none) 3 (h + 89)))))))) (h + 118) H := hH
  obtain ⟨ν25, hν25⟩ : ∃ ν : hM, ν = (hu μ22 (h + 1) (.inl (G.2.1 4, 4, .inr (.inr (.inr (.inr (qu (fun r => if r < 3 then some (h + 2 + 29 * r) else none) 3 (h + 89)))))))) := ⟨_, rfl⟩
  rw [← hν25] at hP hfr hH
  have hH : gP G ν25 (h + 118) H := hH
  refine j_iinc (lv' := [(1, .int (iv 4)), (0, .ref h)]) hx hb dX2_init_32 hl (k := 0) rfl (by decide) rfl (fun ls hl => ?_)
  refine lv_goto (tgt := 14) hx hb dX2_init_35 (by decide) ?_
  refine lv_iload_n hx hb dX2_init_14 rfl (lv_at hl 0 rfl) ?_
  refine j_const hx hb dX2_init_15 ?_
  refine j_icmp_ge (tgt := 38) hx hb dX2_init_16 (by decide) (fun c26 => ?_) (fun c26 => absurd c26 (by omega)) (by omega) (by omega)
  have hH : gP G (hu ν25 (h + 1) (.inl (G.2.1 4, 4, .inr (.inr (.inr (.inr (fun r => some (h + 2 + 29 * r)))))))) (h + 118) H := hH.cgq hP.2.1 (fun j hj => if_pos hj)
  have hfr : ∀ q, q < h → (hu ν25 (h + 1) (.inl (G.2.1 4, 4, .inr (.inr (.inr (.inr (fun r => some (h + 2 + 29 * r)))))))) q = μ q := fun q hq => (hu_n (by omega)).trans (hfr q hq)
  subst hQ
  refine m_vret hx hb hr hlocks hH hS dX2_init_38 ?_
  exact ⟨IsHist.of hP, rfl, hfr⟩

abbrev rm_c_X7_init : Room := { frames := 1, cells := 1, slots := 60, locals := 20 }
set_option maxHeartbeats 4000000 in
set_option maxRecDepth 100000 in
theorem c_X7_init (l : Launch) (G : wG) (μ : hM) (n : Nat) (tx : Nat) (hB : μ tx = some (.inr (6, [.null, .int (iv 0), .int (iv 0), .int (iv 0), .int (iv 0), .int (iv 0), .int (iv 0), .int (iv 0)]))) (hn : n = tx + 1) : Met l yX7_init wsX7_init rm_c_X7_init (mPc G μ n [.ref tx]) (mQv G (fun μ1 n1 => IsText G μ1 tx (fun _ => 0) 0 0 0 0 0 0 0 ∧ n1 = tx + 2 ∧ ∀ q, q < tx → μ1 q = μ q)) 1 60 (gA G) := by
  refine Met.ofW (cc := cX7_init) (maxL := 1) (ret := none) (by decide) rfl ?_
  intro p e s m args below meth c s₁ B hml hv
  obtain ⟨hav, hK, hH⟩ := hv
  have hx := B.exec
  have hb := B.bytes
  have hr := B.returns
  have hts := atoms_spec (ws := wsX7_init) B.pre
  have hown : s.vm.findClass RX7 = some m.cls := findClass_of_methodNamed B.named
  have hlocks := B.notSynchronized
  have hin : meth.name = "<init>" := (name_of_methodNamed B.named B.method).1
  have hS : va_S (gA G) s.heap s.heap [] := va_S.rf
  have hl := lv_entry ([.ref tx]) (n := 1) (Nat.le_of_ble_eq_true rfl)
  have hfr : entryFrame m args 1 = entryFrame m ([.ref tx] : List Value).toArray 1 := by rw [hav]
  rw [hfr, lg_entry_eq]
  generalize (lg_sl ([.ref tx]) ++ List.replicate (1 - (lg_sl ([.ref tx])).length) Slot.unset).toArray = ls at hl ⊢
  have hl : lv_has ls 1 [(0, .ref tx)] := hl
  generalize hQ : MQ below _ args s 1 60 (gA G) = Q
  show W p l e rm_c_X7_init s m args below meth c s.heap [] 0 0 Q (F0 m 0 ls [])
  obtain ⟨H, hHe⟩ : ∃ H, H = s.heap := ⟨_, rfl⟩
  obtain ⟨locs, hlo⟩ : ∃ q : List Loc, q = [] := ⟨_, rfl⟩
  have hH : gP G μ n H := by rw [hHe]; exact hH
  have hS : va_S (gA G) s.heap H locs := by rw [hHe, hlo]; exact hS
  suffices hgo : W p l e rm_c_X7_init s m args below meth c H locs 0 0 Q (F0 m 0 ls []) by rw [hHe, hlo] at hgo; exact hgo
  clear hHe hlo hfr hav
  have f_0 := hts (.methodLink RX7 3 objectInit) (List.mem_of_getElem? (i := 1) rfl)
  have f_1 := hts (.instanceMethod objectInit) (List.mem_of_getElem? (i := 2) rfl)
  have f_2 := hts (.code objectInit ⟨#[0xb1]⟩ 1 none) (List.mem_of_getElem? (i := 3) rfl)
  have f_3 := hts (.arrayClass .char) (List.mem_of_getElem? (i := 4) rfl)
  have f_4 := hts (.fieldLink RX7 9 "StampDater$Text" "characters" "[C") (List.mem_of_getElem? (i := 5) rfl)
  have i_X7 : ∀ w ∈ u_ws RX7 TX7 8, w ∈ wsX7_init := by decide +kernel
  subst hn
  have hfr : ∀ q, q < tx → μ q = μ q := fun q _ => rfl
  refine lv_aload_n hx hb dX7_init_0 rfl (lv_at hl 0 rfl) ?_
  refine W.objInit hx hb hown f_0 f_1 f_2 rfl (hl.1.trans hml.symm) rfl dX7_init_1 (Nat.le_of_ble_eq_true rfl) (Nat.le_of_ble_eq_true rfl) ?_
  show W p l e rm_c_X7_init s m args below meth c H locs 0 0 Q (F0 m 4 ls [])
  refine lv_aload_n hx hb dX7_init_4 rfl (lv_at hl 0 rfl) ?_
  refine j_bipush hx hb dX7_init_5 ?_ (by decide)
  refine m_newC hx hb f_3 hK hH hS 60 rfl (by decide) dX7_init_7 (Nat.le_of_ble_eq_true rfl) (Nat.le_of_ble_eq_true rfl) (fun H hH hS hnn => ?_)
  have hB := hu_n' (a := (tx + 1)) (e := (.inl (G.2.1 1, 60, .inl (fun _ => iv 0)))) (b := tx) (by omega) hB
  have hfr : ∀ q, q < tx → (hu μ (tx + 1) (.inl (G.2.1 1, 60, .inl (fun _ => iv 0)))) q = μ q := fun q hq => (hu_n (by omega)).trans (hfr q hq)
  have hN1 : (hu μ (tx + 1) (.inl (G.2.1 1, 60, .inl (fun _ => iv 0)))) (tx + 1) = some (.inl (G.2.1 1, 60, .inl (fun _ => iv 0))) := hu_s
  have hH : gP G (hu μ (tx + 1) (.inl (G.2.1 1, 60, .inl (fun _ => iv 0)))) (tx + 2) H := hH
  refine m_putF (C := RX7) (T := TX7) (N := 8) (ci := 6) hx hb hts i_X7 tyX7 tyX7_ok nmX7 hown hK hH hS hB rfl 0 (by decide) f_4 rfl hin rfl rfl rfl (Nat.le_of_ble_eq_true rfl) dX7_init_9 (fun H locs hH hS => ?_)
  have hN1 := hu_n' (a := tx) (e := (.inr (6, [.ref (tx + 1), .int (iv 0), .int (iv 0), .int (iv 0), .int (iv 0), .int (iv 0), .int (iv 0), .int (iv 0)]))) (b := (tx + 1)) (by omega) hN1
  have hB : (hu (hu μ (tx + 1) (.inl (G.2.1 1, 60, .inl (fun _ => iv 0)))) tx (.inr (6, [.ref (tx + 1), .int (iv 0), .int (iv 0), .int (iv 0), .int (iv 0), .int (iv 0), .int (iv 0), .int (iv 0)]))) tx = some (.inr (6, [.ref (tx + 1), .int (iv 0), .int (iv 0), .int (iv 0), .int (iv 0), .int (iv 0), .int (iv 0), .int (iv 0)])) := hu_s
  have hfr2 : ∀ q, q ≠ tx → q < tx → (hu (hu μ (tx + 1) (.inl (G.2.1 1, 60, .inl (fun _ => iv 0)))) tx (.inr (6, [.ref (tx + 1), .int (iv 0), .int (iv 0), .int (iv 0), .int (iv 0), .int (iv 0), .int (iv 0), .int (iv 0)]))) q = μ q := fun q _ hq => (hu_n (by omega)).trans (hfr q hq)
  have hfr : ∀ q, q < tx → (hu (hu μ (tx + 1) (.inl (G.2.1 1, 60, .inl (fun _ => iv 0)))) tx (.inr (6, [.ref (tx + 1), .int (iv 0), .int (iv 0), .int (iv 0), .int (iv 0), .int (iv 0), .int (iv 0), .int (iv 0)]))) q = μ q := fun q hq => hfr2 q (by omega) hq
  have hH : gP G (hu (hu μ (tx + 1) (.inl (G.2.1 1, 60, .inl (fun _ => iv 0)))) tx (.inr (6, [.ref (tx + 1), .int (iv 0), .int (iv 0), .int (iv 0), .int (iv 0), .int (iv 0), .int (iv 0), .int (iv 0)]))) (tx + 2) H := hH
  subst hQ
  refine m_vret hx hb hr hlocks hH hS dX7_init_12 ?_
  exact ⟨⟨hB, hN1⟩, rfl, hfr⟩
