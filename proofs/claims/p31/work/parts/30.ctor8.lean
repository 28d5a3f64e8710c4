abbrev rm_c_X8_init : Room := { frames := 5, cells := 193, slots := 1326, locals := 104 }
set_option maxHeartbeats 4000000 in
set_option maxRecDepth 100000 in
theorem c_X8_init (l : Launch) (G : wG) (μ : hM) (n : Nat) (x : Nat) (hB : μ x = some (.inr (7, [.null, .null, .null, .int (iv 0), .null, .null]))) (hn : n = x + 1) : Met l yX8_init wsX8_init rm_c_X8_init (mPc G μ n [.ref x]) (mQv G (fun μ1 n1 => μ1 x = some (.inr (7, [.ref (x + 1), .ref (x + 30), .ref (x + 148), .int (iv 0), .ref (x + 177), .ref (x + 179)])) ∧ (IsState G μ1 (x + 1) (fun p => p) s0 0 0 none) ∧ (IsHist G μ1 (x + 30) (fun r => r) 0 (fun _ p => p) (fun _ => s0) (fun _ => 0) (fun _ => 0) (fun _ => none)) ∧ (IsState G μ1 (x + 148) (fun p => p) s0 0 0 none) ∧ (IsText G μ1 (x + 177) (fun _ => 0) 0 0 0 0 0 0 0) ∧ (IsSt G μ1 (x + 179) (fun p => p) s0 0 0) ∧ n1 = x + 194 ∧ ∀ q, q < x → μ1 q = μ q)) 193 1326 (gA G) := by
  refine Met.ofW (cc := cX8_init) (maxL := 1) (ret := none) (by decide) rfl ?_
  intro p e s m args below meth c s₁ B hml hv
  obtain ⟨hav, hK, hH⟩ := hv
  have hx := B.exec
  have hb := B.bytes
  have hr := B.returns
  have hts := atoms_spec (ws := wsX8_init) B.pre
  have hown : s.vm.findClass RX8 = some m.cls := findClass_of_methodNamed B.named
  have hlocks := B.notSynchronized
  have hin : meth.name = "<init>" := (name_of_methodNamed B.named B.method).1
  have hS : va_S (gA G) s.heap s.heap [] := va_S.rf
  have hl := lv_entry ([.ref x]) (n := 1) (Nat.le_of_ble_eq_true rfl)
  have hfr : entryFrame m args 1 = entryFrame m ([.ref x] : List Value).toArray 1 := by rw [hav]
  rw [hfr, lg_entry_eq]
  generalize (lg_sl ([.ref x]) ++ List.replicate (1 - (lg_sl ([.ref x])).length) Slot.unset).toArray = ls at hl ⊢
  have hl : lv_has ls 1 [(0, .ref x)] := hl
  generalize hQ : MQ below _ args s 193 1326 (gA G) = Q
  show W p l e rm_c_X8_init s m args below meth c s.heap [] 0 0 Q (F0 m 0 ls [])
  obtain ⟨H, hHe⟩ : ∃ H, H = s.heap := ⟨_, rfl⟩
  obtain ⟨locs, hlo⟩ : ∃ q : List Loc, q = [] := ⟨_, rfl⟩
  have hH : gP G μ n H := by rw [hHe]; exact hH
  have hS : va_S (gA G) s.heap H locs := by rw [hHe, hlo]; exact hS
  suffices hgo : W p l e rm_c_X8_init s m args below meth c H locs 0 0 Q (F0 m 0 ls []) by rw [hHe, hlo] at hgo; exact hgo
  clear hHe hlo hfr hav
  have f_0 := hts (.methodLink RX8 1 objectInit) (List.mem_of_getElem? (i := 1) rfl)
  have f_1 := hts (.instanceMethod objectInit) (List.mem_of_getElem? (i := 2) rfl)
  have f_2 := hts (.code objectInit ⟨#[0xb1]⟩ 1 none) (List.mem_of_getElem? (i := 3) rfl)
  have f_3 := hts (.classLink RX8 7 RX6) (List.mem_of_getElem? (i := 4) rfl)
  have f_4 := hts (.instantiable RX6 8) (List.mem_of_getElem? (i := 5) rfl)
  have f_5 := hts (.initialized RX6) (List.mem_of_getElem? (i := 6) rfl)
  have i_X6 : ∀ w ∈ u_ws RX6 TX6 8, w ∈ wsX8_init := by decide +kernel
  have f_7 := hts (.methodLink RX8 9 yX6_init) (List.mem_of_getElem? (i := 22) rfl)
  have f_8 := hts (.instanceMethod yX6_init) (List.mem_of_getElem? (i := 23) rfl)
  have f_9 := hts (.fieldLink RX8 10 "StampDater" "state" "LStampDater$State;") (List.mem_of_getElem? (i := 7) rfl)
  have i_X8 : ∀ w ∈ u_ws RX8 TX8 6, w ∈ wsX8_init := by decide +kernel
  have f_11 := hts (.classLink RX8 16 RX2) (List.mem_of_getElem? (i := 8) rfl)
  have f_12 := hts (.instantiable RX2 2) (List.mem_of_getElem? (i := 9) rfl)
  have f_13 := hts (.initialized RX2) (List.mem_of_getElem? (i := 10) rfl)
  have i_X2 : ∀ w ∈ u_ws RX2 TX2 2, w ∈ wsX8_init := by decide +kernel
  have f_15 := hts (.methodLink RX8 18 yX2_init) (List.mem_of_getElem? (i := 52) rfl)
  have f_16 := hts (.instanceMethod yX2_init) (List.mem_of_getElem? (i := 53) rfl)
  have f_17 := hts (.fieldLink RX8 19 "StampDater" "history" "LStampDater$History;") (List.mem_of_getElem? (i := 11) rfl)
  have f_18 := hts (.fieldLink RX8 23 "StampDater" "snapshot" "LStampDater$State;") (List.mem_of_getElem? (i := 12) rfl)
  have f_19 := hts (.fieldLink RX8 26 "StampDater" "snapshotTaken" "Z") (List.mem_of_getElem? (i := 13) rfl)
  have f_20 := hts (.classLink RX8 30 RX7) (List.mem_of_getElem? (i := 14) rfl)
  have f_21 := hts (.instantiable RX7 8) (List.mem_of_getElem? (i := 15) rfl)
  have f_22 := hts (.initialized RX7) (List.mem_of_getElem? (i := 16) rfl)
  have i_X7 : ∀ w ∈ u_ws RX7 TX7 8, w ∈ wsX8_init := by decide +kernel
  have f_24 := hts (.methodLink RX8 32 yX7_init) (List.mem_of_getElem? (i := 59) rfl)
  have f_25 := hts (.instanceMethod yX7_init) (List.mem_of_getElem? (i := 60) rfl)
  have f_26 := hts (.fieldLink RX8 33 "StampDater" "text" "LStampDater$Text;") (List.mem_of_getElem? (i := 17) rfl)
  have f_27 := hts (.classLink RX8 37 RX5) (List.mem_of_getElem? (i := 18) rfl)
  have f_28 := hts (.instantiable RX5 7) (List.mem_of_getElem? (i := 19) rfl)
  have f_29 := hts (.initialized RX5) (List.mem_of_getElem? (i := 20) rfl)
  have i_X5 : ∀ w ∈ u_ws RX5 TX5 7, w ∈ wsX8_init := by decide +kernel
  have f_31 := hts (.methodLink RX8 39 yX5_init) (List.mem_of_getElem? (i := 65) rfl)
  have f_32 := hts (.instanceMethod yX5_init) (List.mem_of_getElem? (i := 33) rfl)
  have f_33 := hts (.fieldLink RX8 40 "StampDater" "trial" "LStampDater$Stamp;") (List.mem_of_getElem? (i := 21) rfl)
  subst hn
  have hfr : ∀ q, q < x → μ q = μ q := fun q _ => rfl
  refine lv_aload_n hx hb dX8_init_0 rfl (lv_at hl 0 rfl) ?_
  refine W.objInit hx hb hown f_0 f_1 f_2 rfl (hl.1.trans hml.symm) rfl dX8_init_1 (Nat.le_of_ble_eq_true rfl) (Nat.le_of_ble_eq_true rfl) ?_
  show W p l e rm_c_X8_init s m args below meth c H locs 0 0 Q (F0 m 4 ls [])
  refine lv_aload_n hx hb dX8_init_4 rfl (lv_at hl 0 rfl) ?_
  refine m_new (C := RX6) (T := TX6) (N := 8) (ci := 5) (fs := [.null, .null, .int (iv 0), .int (iv 0), .int (iv 0), .int (iv 0), .int (iv 0), .null]) hx hb hts i_X6 tyX6 tyX6_ok hown f_3 f_4 f_5 hK hH hS rfl (fun j hj => by rcases (show j = 0 ∨ j = 1 ∨ j = 2 ∨ j = 3 ∨ j = 4 ∨ j = 5 ∨ j = 6 ∨ j = 7 by omega) with rfl | rfl | rfl | rfl | rfl | rfl | rfl | rfl <;> rfl) dX8_init_5 (Nat.le_of_ble_eq_true rfl) (Nat.le_of_ble_eq_true rfl) (fun H hH hS hnn => ?_)
  have hB := hu_n' (a := (x + 1)) (e := (.inr (5, [.null, .null, .int (iv 0), .int (iv 0), .int (iv 0), .int (iv 0), .int (iv 0), .null]))) (b := x) (by omega) hB
  have hfr : ∀ q, q < x → (hu μ (x + 1) (.inr (5, [.null, .null, .int (iv 0), .int (iv 0), .int (iv 0), .int (iv 0), .int (iv 0), .null]))) q = μ q := fun q hq => (hu_n (by omega)).trans (hfr q hq)
  have hO1 : (hu μ (x + 1) (.inr (5, [.null, .null, .int (iv 0), .int (iv 0), .int (iv 0), .int (iv 0), .int (iv 0), .null]))) (x + 1) = some (.inr (5, [.null, .null, .int (iv 0), .int (iv 0), .int (iv 0), .int (iv 0), .int (iv 0), .null])) := hu_s
  have hH : gP G (hu μ (x + 1) (.inr (5, [.null, .null, .int (iv 0), .int (iv 0), .int (iv 0), .int (iv 0), .int (iv 0), .null]))) (x + 2) H := hH
  refine lv_dup hx hb dX8_init_8 rfl ?_
  refine m_callIv (As := []) (rest := [.ref (x + 1), .ref x]) ⟨hx, hb, hml, hown, hts⟩ hK hH hS (c_X6_init l G (hu μ (x + 1) (.inr (5, [.null, .null, .int (iv 0), .int (iv 0), .int (iv 0), .int (iv 0), .int (iv 0), .null]))) (x + 2) (x + 1) hO1 rfl) (cwI 0 hts gX8_init_X6_init rfl rfl rfl f_5 f_7 f_8 rfl (by decide +kernel) ⟨(Nat.le_of_ble_eq_true rfl), (Nat.le_of_ble_eq_true rfl)⟩) rfl rfl hl.1 (Nat.le_of_ble_eq_true rfl) dX8_init_9 ⟨(Nat.le_of_ble_eq_true rfl), (Nat.le_of_ble_eq_true rfl)⟩ (fun μ2 n3 H locs hp4 hH hS => ?_)
  obtain ⟨hZ, hn1, hfr1⟩ := hp4
  rw [hn1] at hH
  have hB := (hfr1 x (by omega)).trans hB
  have hfr : ∀ q, q < x → μ2 q = μ q := fun q hq => (hfr1 q (by omega)).trans (hfr q hq)
  refine m_putF (C := RX8) (T := TX8) (N := 6) (ci := 7) hx hb hts i_X8 tyX8 tyX8_ok nmX8 hown hK hH hS hB rfl 0 (by decide) f_9 rfl hin rfl rfl rfl (Nat.le_of_ble_eq_true rfl) dX8_init_12 (fun H locs hH hS => ?_)
  have hZ : IsState G (hu μ2 x (.inr (7, [.ref (x + 1), .null, .null, .int (iv 0), .null, .null]))) (x + 1) (fun p => p) s0 0 0 none := hZ.fr (fun q b c => hu_n (by omega))
  have hfr2 : ∀ q, q ≠ x → q < x → (hu μ2 x (.inr (7, [.ref (x + 1), .null, .null, .int (iv 0), .null, .null]))) q = μ q := fun q _ hq => (hu_n (by omega)).trans (hfr q hq)
  have hfr : ∀ q, q < x → (hu μ2 x (.inr (7, [.ref (x + 1), .null, .null, .int (iv 0), .null, .null]))) q = μ q := fun q hq => hfr2 q (by omega) hq
  have hB : (hu μ2 x (.inr (7, [.ref (x + 1), .null, .null, .int (iv 0), .null, .null]))) x = some (.inr (7, [.ref (x + 1), .null, .null, .int (iv 0), .null, .null])) := hu_s
  have hH : gP G (hu μ2 x (.inr (7, [.ref (x + 1), .null, .null, .int (iv 0), .null, .null]))) (x + 30) H := hH
  obtain ⟨ν5, hν5⟩ : ∃ ν : hM, ν = (hu μ2 x (.inr (7, [.ref (x + 1), .null, .null, .int (iv 0), .null, .null]))) := ⟨_, rfl⟩
  rw [← hν5] at hB hfr hH hZ
  have hH : gP G ν5 (x + 30) H := hH
  refine lv_aload_n hx hb dX8_init_15 rfl (lv_at hl 0 rfl) ?_
  refine m_new (C := RX2) (T := TX2) (N := 2) (ci := 1) (fs := [.null, .int (iv 0)]) hx hb hts i_X2 tyX2 tyX2_ok hown f_11 f_12 f_13 hK hH hS rfl (fun j hj => by rcases (show j = 0 ∨ j = 1 by omega) with rfl | rfl <;> rfl) dX8_init_16 (Nat.le_of_ble_eq_true rfl) (Nat.le_of_ble_eq_true rfl) (fun H hH hS hnn => ?_)
  have hZ : IsState G (hu ν5 (x + 30) (.inr (1, [.null, .int (iv 0)]))) (x + 1) (fun p => p) s0 0 0 none := hZ.fr (fun q b c => hu_n (by omega))
  have hB := hu_n' (a := (x + 30)) (e := (.inr (1, [.null, .int (iv 0)]))) (b := x) (by omega) hB
  have hfr : ∀ q, q < x → (hu ν5 (x + 30) (.inr (1, [.null, .int (iv 0)]))) q = μ q := fun q hq => (hu_n (by omega)).trans (hfr q hq)
  have hO6 : (hu ν5 (x + 30) (.inr (1, [.null, .int (iv 0)]))) (x + 30) = some (.inr (1, [.null, .int (iv 0)])) := hu_s
  have hH : gP G (hu ν5 (x + 30) (.inr (1, [.null, .int (iv 0)]))) (x + 31) H := hH
  refine lv_dup hx hb dX8_init_19 rfl ?_
  refine m_callIv (As := []) (rest := [.ref (x + 30), .ref x]) ⟨hx, hb, hml, hown, hts⟩ hK hH hS (c_X2_init l G (hu ν5 (x + 30) (.inr (1, [.null, .int (iv 0)]))) (x + 31) (x + 30) hO6 rfl) (cwI 0 hts gX8_init_X2_init rfl rfl rfl f_13 f_15 f_16 rfl (by decide +kernel) ⟨(Nat.le_of_ble_eq_true rfl), (Nat.le_of_ble_eq_true rfl)⟩) rfl rfl hl.1 (Nat.le_of_ble_eq_true rfl) dX8_init_20 ⟨(Nat.le_of_ble_eq_true rfl), (Nat.le_of_ble_eq_true rfl)⟩ (fun μ7 n8 H locs hp9 hH hS => ?_)
  obtain ⟨hL, hn1, hfr1⟩ := hp9
  rw [hn1] at hH
  have hZ : IsState G μ7 (x + 1) (fun p => p) s0 0 0 none := hZ.fr (fun q b c => hfr1 q (by omega))
  have hB := (hfr1 x (by omega)).trans hB
  have hfr : ∀ q, q < x → μ7 q = μ q := fun q hq => (hfr1 q (by omega)).trans (hfr q hq)
  refine m_putF (C := RX8) (T := TX8) (N := 6) (ci := 7) hx hb hts i_X8 tyX8 tyX8_ok nmX8 hown hK hH hS hB rfl 1 (by decide) f_17 rfl hin rfl rfl rfl (Nat.le_of_ble_eq_true rfl) dX8_init_23 (fun H locs hH hS => ?_)
  have hZ : IsState G (hu μ7 x (.inr (7, [.ref (x + 1), .ref (x + 30), .null, .int (iv 0), .null, .null]))) (x + 1) (fun p => p) s0 0 0 none := hZ.fr (fun q b c => hu_n (by omega))
  have hL : IsHist G (hu μ7 x (.inr (7, [.ref (x + 1), .ref (x + 30), .null, .int (iv 0), .null, .null]))) (x + 30) (fun r => r) 0 (fun _ p => p) (fun _ => s0) (fun _ => 0) (fun _ => 0) (fun _ => none) := hL.fr (fun q b c => hu_n (by omega))
  have hfr2 : ∀ q, q ≠ x → q < x → (hu μ7 x (.inr (7, [.ref (x + 1), .ref (x + 30), .null, .int (iv 0), .null, .null]))) q = μ q := fun q _ hq => (hu_n (by omega)).trans (hfr q hq)
  have hfr : ∀ q, q < x → (hu μ7 x (.inr (7, [.ref (x + 1), .ref (x + 30), .null, .int (iv 0), .null, .null]))) q = μ q := fun q hq => hfr2 q (by omega) hq
  have hB : (hu μ7 x (.inr (7, [.ref (x + 1), .ref (x + 30), .null, .int (iv 0), .null, .null]))) x = some (.inr (7, [.ref (x + 1), .ref (x + 30), .null, .int (iv 0), .null, .null])) := hu_s
  have hH : gP G (hu μ7 x (.inr (7, [.ref (x + 1), .ref (x + 30), .null, .int (iv 0), .null, .null]))) (x + 148) H := hH
  obtain ⟨ν10, hν10⟩ : ∃ ν : hM, ν = (hu μ7 x (.inr (7, [.ref (x + 1), .ref (x + 30), .null, .int (iv 0), .null, .null]))) := ⟨_, rfl⟩
  rw [← hν10] at hB hfr hH hZ hL
  have hH : gP G ν10 (x + 148) H := hH
  refine lv_aload_n hx hb dX8_init_26 rfl (lv_at hl 0 rfl) ?_
  refine m_new (C := RX6) (T := TX6) (N := 8) (ci := 5) (fs := [.null, .null, .int (iv 0), .int (iv 0), .int (iv 0), .int (iv 0), .int (iv 0), .null]) hx hb hts i_X6 tyX6 tyX6_ok hown f_3 f_4 f_5 hK hH hS rfl (fun j hj => by rcases (show j = 0 ∨ j = 1 ∨ j = 2 ∨ j = 3 ∨ j = 4 ∨ j = 5 ∨ j = 6 ∨ j = 7 by omega) with rfl | rfl | rfl | rfl | rfl | rfl | rfl | rfl <;> rfl) dX8_init_27 (Nat.le_of_ble_eq_true rfl) (Nat.le_of_ble_eq_true rfl) (fun H hH hS hnn => ?_)
  have hZ : IsState G (hu ν10 (x + 148) (.inr (5, [.null, .null, .int (iv 0), .int (iv 0), .int (iv 0), .int (iv 0), .int (iv 0), .null]))) (x + 1) (fun p => p) s0 0 0 none := hZ.fr (fun q b c => hu_n (by omega))
  have hL : IsHist G (hu ν10 (x + 148) (.inr (5, [.null, .null, .int (iv 0), .int (iv 0), .int (iv 0), .int (iv 0), .int (iv 0), .null]))) (x + 30) (fun r => r) 0 (fun _ p => p) (fun _ => s0) (fun _ => 0) (fun _ => 0) (fun _ => none) := hL.fr (fun q b c => hu_n (by omega))
  have hB := hu_n' (a := (x + 148)) (e := (.inr (5, [.null, .null, .int (iv 0), .int (iv 0), .int (iv 0), .int (iv 0), .int (iv 0), .null]))) (b := x) (by omega) hB
  have hfr : ∀ q, q < x → (hu ν10 (x + 148) (.inr (5, [.null, .null, .int (iv 0), .int (iv 0), .int (iv 0), .int (iv 0), .int (iv 0), .null]))) q = μ q := fun q hq => (hu_n (by omega)).trans (hfr q hq)
  have hO11 : (hu ν10 (x + 148) (.inr (5, [.null, .null, .int (iv 0), .int (iv 0), .int (iv 0), .int (iv 0), .int (iv 0), .null]))) (x + 148) = some (.inr (5, [.null, .null, .int (iv 0), .int (iv 0), .int (iv 0), .int (iv 0), .int (iv 0), .null])) := hu_s
  have hH : gP G (hu ν10 (x + 148) (.inr (5, [.null, .null, .int (iv 0), .int (iv 0), .int (iv 0), .int (iv 0), .int (iv 0), .null]))) (x + 149) H := hH
  refine lv_dup hx hb dX8_init_30 rfl ?_
  refine m_callIv (As := []) (rest := [.ref (x + 148), .ref x]) ⟨hx, hb, hml, hown, hts⟩ hK hH hS (c_X6_init l G (hu ν10 (x + 148) (.inr (5, [.null, .null, .int (iv 0), .int (iv 0), .int (iv 0), .int (iv 0), .int (iv 0), .null]))) (x + 149) (x + 148) hO11 rfl) (cwI 0 hts gX8_init_X6_init rfl rfl rfl f_5 f_7 f_8 rfl (by decide +kernel) ⟨(Nat.le_of_ble_eq_true rfl), (Nat.le_of_ble_eq_true rfl)⟩) rfl rfl hl.1 (Nat.le_of_ble_eq_true rfl) dX8_init_31 ⟨(Nat.le_of_ble_eq_true rfl), (Nat.le_of_ble_eq_true rfl)⟩ (fun μ12 n13 H locs hp14 hH hS => ?_)
  obtain ⟨hY, hn1, hfr1⟩ := hp14
  rw [hn1] at hH
  have hZ : IsState G μ12 (x + 1) (fun p => p) s0 0 0 none := hZ.fr (fun q b c => hfr1 q (by omega))
  have hL : IsHist G μ12 (x + 30) (fun r => r) 0 (fun _ p => p) (fun _ => s0) (fun _ => 0) (fun _ => 0) (fun _ => none) := hL.fr (fun q b c => hfr1 q (by omega))
  have hB := (hfr1 x (by omega)).trans hB
  have hfr : ∀ q, q < x → μ12 q = μ q := fun q hq => (hfr1 q (by omega)).trans (hfr q hq)
  refine m_putF (C := RX8) (T := TX8) (N := 6) (ci := 7) hx hb hts i_X8 tyX8 tyX8_ok nmX8 hown hK hH hS hB rfl 2 (by decide) f_18 rfl hin rfl rfl rfl (Nat.le_of_ble_eq_true rfl) dX8_init_34 (fun H locs hH hS => ?_)
  have hZ : IsState G (hu μ12 x (.inr (7, [.ref (x + 1), .ref (x + 30), .ref (x + 148), .int (iv 0), .null, .null]))) (x + 1) (fun p => p) s0 0 0 none := hZ.fr (fun q b c => hu_n (by omega))
  have hL : IsHist G (hu μ12 x (.inr (7, [.ref (x + 1), .ref (x + 30), .ref (x + 148), .int (iv 0), .null, .null]))) (x + 30) (fun r => r) 0 (fun _ p => p) (fun _ => s0) (fun _ => 0) (fun _ => 0) (fun _ => none) := hL.fr (fun q b c => hu_n (by omega))
  have hY : IsState G (hu μ12 x (.inr (7, [.ref (x + 1), .ref (x + 30), .ref (x + 148), .int (iv 0), .null, .null]))) (x + 148) (fun p => p) s0 0 0 none := hY.fr (fun q b c => hu_n (by omega))
  have hfr2 : ∀ q, q ≠ x → q < x → (hu μ12 x (.inr (7, [.ref (x + 1), .ref (x + 30), .ref (x + 148), .int (iv 0), .null, .null]))) q = μ q := fun q _ hq => (hu_n (by omega)).trans (hfr q hq)
  have hfr : ∀ q, q < x → (hu μ12 x (.inr (7, [.ref (x + 1), .ref (x + 30), .ref (x + 148), .int (iv 0), .null, .null]))) q = μ q := fun q hq => hfr2 q (by omega) hq
  have hB : (hu μ12 x (.inr (7, [.ref (x + 1), .ref (x + 30), .ref (x + 148), .int (iv 0), .null, .null]))) x = some (.inr (7, [.ref (x + 1), .ref (x + 30), .ref (x + 148), .int (iv 0), .null, .null])) := hu_s
  have hH : gP G (hu μ12 x (.inr (7, [.ref (x + 1), .ref (x + 30), .ref (x + 148), .int (iv 0), .null, .null]))) (x + 177) H := hH
  obtain ⟨ν15, hν15⟩ : ∃ ν : hM, ν = (hu μ12 x (.inr (7, [.ref (x + 1), .ref (x + 30), .ref (x + 148), .int (iv 0), .null, .null]))) := ⟨_, rfl⟩
  rw [← hν15] at hB hfr hH hZ hL hY
  have hH : gP G ν15 (x + 177) H := hH
  refine lv_aload_n hx hb dX8_init_37 rfl (lv_at hl 0 rfl) ?_
  refine j_const hx hb dX8_init_38 ?_
  refine m_put (C := RX8) (T := TX8) (N := 6) (ci := 7) hx hb hts i_X8 tyX8 tyX8_ok nmX8 hown hK hH hS hB rfl 3 (by decide) f_19 rfl (nar_z (by omega)) (fit_z (by omega)) (Nat.le_of_ble_eq_true rfl) dX8_init_39 (fun H locs hH hS => ?_)
  have hZ : IsState G (hu ν15 x (.inr (7, [.ref (x + 1), .ref (x + 30), .ref (x + 148), .int (iv 0), .null, .null]))) (x + 1) (fun p => p) s0 0 0 none := hZ.fr (fun q b c => hu_n (by omega))
  have hL : IsHist G (hu ν15 x (.inr (7, [.ref (x + 1), .ref (x + 30), .ref (x + 148), .int (iv 0), .null, .null]))) (x + 30) (fun r => r) 0 (fun _ p => p) (fun _ => s0) (fun _ => 0) (fun _ => 0) (fun _ => none) := hL.fr (fun q b c => hu_n (by omega))
  have hY : IsState G (hu ν15 x (.inr (7, [.ref (x + 1), .ref (x + 30), .ref (x + 148), .int (iv 0), .null, .null]))) (x + 148) (fun p => p) s0 0 0 none := hY.fr (fun q b c => hu_n (by omega))
  have hfr2 : ∀ q, q ≠ x → q < x → (hu ν15 x (.inr (7, [.ref (x + 1), .ref (x + 30), .ref (x + 148), .int (iv 0), .null, .null]))) q = μ q := fun q _ hq => (hu_n (by omega)).trans (hfr q hq)
  have hfr : ∀ q, q < x → (hu ν15 x (.inr (7, [.ref (x + 1), .ref (x + 30), .ref (x + 148), .int (iv 0), .null, .null]))) q = μ q := fun q hq => hfr2 q (by omega) hq
  have hB : (hu ν15 x (.inr (7, [.ref (x + 1), .ref (x + 30), .ref (x + 148), .int (iv 0), .null, .null]))) x = some (.inr (7, [.ref (x + 1), .ref (x + 30), .ref (x + 148), .int (iv 0), .null, .null])) := hu_s
  have hH : gP G (hu ν15 x (.inr (7, [.ref (x + 1), .ref (x + 30), .ref (x + 148), .int (iv 0), .null, .null]))) (x + 177) H := hH
  obtain ⟨ν16, hν16⟩ : ∃ ν : hM, ν = (hu ν15 x (.inr (7, [.ref (x + 1), .ref (x + 30), .ref (x + 148), .int (iv 0), .null, .null]))) := ⟨_, rfl⟩
  rw [← hν16] at hB hfr hH hZ hL hY
  have hH : gP G ν16 (x + 177) H := hH
  refine lv_aload_n hx hb dX8_init_42 rfl (lv_at hl 0 rfl) ?_
  refine m_new (C := RX7) (T := TX7) (N := 8) (ci := 6) (fs := [.null, .int (iv 0), .int (iv 0), .int (iv 0), .int (iv 0), .int (iv 0), .int (iv 0), .int (iv 0)]) hx hb hts i_X7 tyX7 tyX7_ok hown f_20 f_21 f_22 hK hH hS rfl (fun j hj => by rcases (show j = 0 ∨ j = 1 ∨ j = 2 ∨ j = 3 ∨ j = 4 ∨ j = 5 ∨ j = 6 ∨ j = 7 by omega) with rfl | rfl | rfl | rfl | rfl | rfl | rfl | rfl <;> rfl) dX8_init_43 (Nat.le_of_ble_eq_true rfl) (Nat.le_of_ble_eq_true rfl) (fun H hH hS hnn => ?_)
  have hZ : IsState G (hu ν16 (x + 177) (.inr (6, [.null, .int (iv 0), .int (iv 0), .int (iv 0), .int (iv 0), .int (iv 0), .int (iv 0), .int (iv 0)]))) (x + 1) (fun p => p) s0 0 0 none := hZ.fr (fun q b c => hu_n (by omega))
  have hL : IsHist G (hu ν16 (x + 177) (.inr (6, [.null, .int (iv 0), .int (iv 0), .int (iv 0), .int (iv 0), .int (iv 0), .int (iv 0), .int (iv 0)]))) (x + 30) (fun r => r) 0 (fun _ p => p) (fun _ => s0) (fun _ => 0) (fun _ => 0) (fun _ => none) := hL.fr (fun q b c => hu_n (by omega))
  have hY : IsState G (hu ν16 (x + 177) (.inr (6, [.null, .int (iv 0), .int (iv 0), .int (iv 0), .int (iv 0), .int (iv 0), .int (iv 0), .int (iv 0)]))) (x + 148) (fun p => p) s0 0 0 none := hY.fr (fun q b c => hu_n (by omega))
  have hB := hu_n' (a := (x + 177)) (e := (.inr (6, [.null, .int (iv 0), .int (iv 0), .int (iv 0), .int (iv 0), .int (iv 0), .int (iv 0), .int (iv 0)]))) (b := x) (by omega) hB
  have hfr : ∀ q, q < x → (hu ν16 (x + 177) (.inr (6, [.null, .int (iv 0), .int (iv 0), .int (iv 0), .int (iv 0), .int (iv 0), .int (iv 0), .int (iv 0)]))) q = μ q := fun q hq => (hu_n (by omega)).trans (hfr q hq)
  have hO17 : (hu ν16 (x + 177) (.inr (6, [.null, .int (iv 0), .int (iv 0), .int (iv 0), .int (iv 0), .int (iv 0), .int (iv 0), .int (iv 0)]))) (x + 177) = some (.inr (6, [.null, .int (iv 0), .int (iv 0), .int (iv 0), .int (iv 0), .int (iv 0), .int (iv 0), .int (iv 0)])) := hu_s
  have hH : gP G (hu ν16 (x + 177) (.inr (6, [.null, .int (iv 0), .int (iv 0), .int (iv 0), .int (iv 0), .int (iv 0), .int (iv 0), .int (iv 0)]))) (x + 178) H := hH
  refine lv_dup hx hb dX8_init_46 rfl ?_
  refine m_callIv (As := []) (rest := [.ref (x + 177), .ref x]) ⟨hx, hb, hml, hown, hts⟩ hK hH hS (c_X7_init l G (hu ν16 (x + 177) (.inr (6, [.null, .int (iv 0), .int (iv 0), .int (iv 0), .int (iv 0), .int (iv 0), .int (iv 0), .int (iv 0)]))) (x + 178) (x + 177) hO17 rfl) (cwI 0 hts gX8_init_X7_init rfl rfl rfl f_22 f_24 f_25 rfl (by decide +kernel) ⟨(Nat.le_of_ble_eq_true rfl), (Nat.le_of_ble_eq_true rfl)⟩) rfl rfl hl.1 (Nat.le_of_ble_eq_true rfl) dX8_init_47 ⟨(Nat.le_of_ble_eq_true rfl), (Nat.le_of_ble_eq_true rfl)⟩ (fun μ18 n19 H locs hp20 hH hS => ?_)
  obtain ⟨hT, hn1, hfr1⟩ := hp20
  rw [hn1] at hH
  have hZ : IsState G μ18 (x + 1) (fun p => p) s0 0 0 none := hZ.fr (fun q b c => hfr1 q (by omega))
  have hL : IsHist G μ18 (x + 30) (fun r => r) 0 (fun _ p => p) (fun _ => s0) (fun _ => 0) (fun _ => 0) (fun _ => none) := hL.fr (fun q b c => hfr1 q (by omega))
  have hY : IsState G μ18 (x + 148) (fun p => p) s0 0 0 none := hY.fr (fun q b c => hfr1 q (by omega))
  have hB := (hfr1 x (by omega)).trans hB
  have hfr : ∀ q, q < x → μ18 q = μ q := fun q hq => (hfr1 q (by omega)).trans (hfr q hq)
  refine m_putF (C := RX8) (T := TX8) (N := 6) (ci := 7) hx hb hts i_X8 tyX8 tyX8_ok nmX8 hown hK hH hS hB rfl 4 (by decide) f_26 rfl hin rfl rfl rfl (Nat.le_of_ble_eq_true rfl) dX8_init_50 (fun H locs hH hS => ?_)
  have hZ : IsState G (hu μ18 x (.inr (7, [.ref (x + 1), .ref (x + 30), .ref (x + 148), .int (iv 0), .ref (x + 177), .null]))) (x + 1) (fun p => p) s0 0 0 none := hZ.fr (fun q b c => hu_n (by omega))
  have hL : IsHist G (hu μ18 x (.inr (7, [.ref (x + 1), .ref (x + 30), .ref (x + 148), .int (iv 0), .ref (x + 177), .null]))) (x + 30) (fun r => r) 0 (fun _ p => p) (fun _ => s0) (fun _ => 0) (fun _ => 0) (fun _ => none) := hL.fr (fun q b c => hu_n (by omega))
  have hY : IsState G (hu μ18 x (.inr (7, [.ref (x + 1), .ref (x + 30), .ref (x + 148), .int (iv 0), .ref (x + 177), .null]))) (x + 148) (fun p => p) s0 0 0 none := hY.fr (fun q b c => hu_n (by omega))
  have hT : IsText G (hu μ18 x (.inr (7, [.ref (x + 1), .ref (x + 30), .ref (x + 148), .int (iv 0), .ref (x + 177), .null]))) (x + 177) (fun _ => 0) 0 0 0 0 0 0 0 := hT.fr (fun q b c => hu_n (by omega))
  have hfr2 : ∀ q, q ≠ x → q < x → (hu μ18 x (.inr (7, [.ref (x + 1), .ref (x + 30), .ref (x + 148), .int (iv 0), .ref (x + 177), .null]))) q = μ q := fun q _ hq => (hu_n (by omega)).trans (hfr q hq)
  have hfr : ∀ q, q < x → (hu μ18 x (.inr (7, [.ref (x + 1), .ref (x + 30), .ref (x + 148), .int (iv 0), .ref (x + 177), .null]))) q = μ q := fun q hq => hfr2 q (by omega) hq
  have hB : (hu μ18 x (.inr (7, [.ref (x + 1), .ref (x + 30), .ref (x + 148), .int (iv 0), .ref (x + 177), .null]))) x = some (.inr (7, [.ref (x + 1), .ref (x + 30), .ref (x + 148), .int (iv 0), .ref (x + 177), .null])) := hu_s
  have hH : gP G (hu μ18 x (.inr (7, [.ref (x + 1), .ref (x + 30), .ref (x + 148), .int (iv 0), .ref (x + 177), .null]))) (x + 179) H := hH
  obtain ⟨ν21, hν21⟩ : ∃ ν : hM, ν = (hu μ18 x (.inr (7, [.ref (x + 1), .ref (x + 30), .ref (x + 148), .int (iv 0), .ref (x + 177), .null]))) := ⟨_, rfl⟩
  rw [← hν21] at hB hfr hH hZ hL hY hT
  have hH : gP G ν21 (x + 179) H := hH
  refine lv_aload_n hx hb dX8_init_53 rfl (lv_at hl 0 rfl) ?_
  refine m_new (C := RX5) (T := TX5) (N := 7) (ci := 4) (fs := [.null, .null, .int (iv 0), .int (iv 0), .int (iv 0), .int (iv 0), .int (iv 0)]) hx hb hts i_X5 tyX5 tyX5_ok hown f_27 f_28 f_29 hK hH hS rfl (fun j hj => by rcases (show j = 0 ∨ j = 1 ∨ j = 2 ∨ j = 3 ∨ j = 4 ∨ j = 5 ∨ j = 6 by omega) with rfl | rfl | rfl | rfl | rfl | rfl | rfl <;> rfl) dX8_init_54 (Nat.le_of_ble_eq_true rfl) (Nat.le_of_ble_eq_true rfl) (fun H hH hS hnn => ?_)
  have hZ : IsState G (hu ν21 (x + 179) (.inr (4, [.null, .null, .int (iv 0), .int (iv 0), .int (iv 0), .int (iv 0), .int (iv 0)]))) (x + 1) (fun p => p) s0 0 0 none := hZ.fr (fun q b c => hu_n (by omega))
  have hL : IsHist G (hu ν21 (x + 179) (.inr (4, [.null, .null, .int (iv 0), .int (iv 0), .int (iv 0), .int (iv 0), .int (iv 0)]))) (x + 30) (fun r => r) 0 (fun _ p => p) (fun _ => s0) (fun _ => 0) (fun _ => 0) (fun _ => none) := hL.fr (fun q b c => hu_n (by omega))
  have hY : IsState G (hu ν21 (x + 179) (.inr (4, [.null, .null, .int (iv 0), .int (iv 0), .int (iv 0), .int (iv 0), .int (iv 0)]))) (x + 148) (fun p => p) s0 0 0 none := hY.fr (fun q b c => hu_n (by omega))
  have hT : IsText G (hu ν21 (x + 179) (.inr (4, [.null, .null, .int (iv 0), .int (iv 0), .int (iv 0), .int (iv 0), .int (iv 0)]))) (x + 177) (fun _ => 0) 0 0 0 0 0 0 0 := hT.fr (fun q b c => hu_n (by omega))
  have hB := hu_n' (a := (x + 179)) (e := (.inr (4, [.null, .null, .int (iv 0), .int (iv 0), .int (iv 0), .int (iv 0), .int (iv 0)]))) (b := x) (by omega) hB
  have hfr : ∀ q, q < x → (hu ν21 (x + 179) (.inr (4, [.null, .null, .int (iv 0), .int (iv 0), .int (iv 0), .int (iv 0), .int (iv 0)]))) q = μ q := fun q hq => (hu_n (by omega)).trans (hfr q hq)
  have hO22 : (hu ν21 (x + 179) (.inr (4, [.null, .null, .int (iv 0), .int (iv 0), .int (iv 0), .int (iv 0), .int (iv 0)]))) (x + 179) = some (.inr (4, [.null, .null, .int (iv 0), .int (iv 0), .int (iv 0), .int (iv 0), .int (iv 0)])) := hu_s
  have hH : gP G (hu ν21 (x + 179) (.inr (4, [.null, .null, .int (iv 0), .int (iv 0), .int (iv 0), .int (iv 0), .int (iv 0)]))) (x + 180) H := hH
  refine lv_dup hx hb dX8_init_57 rfl ?_
  refine m_callIv (As := []) (rest := [.ref (x + 179), .ref x]) ⟨hx, hb, hml, hown, hts⟩ hK hH hS (c_X5_init l G (hu ν21 (x + 179) (.inr (4, [.null, .null, .int (iv 0), .int (iv 0), .int (iv 0), .int (iv 0), .int (iv 0)]))) (x + 180) (x + 179) hO22 rfl) (cwI 0 hts gX8_init_X5_init rfl rfl rfl f_29 f_31 f_32 rfl (by decide +kernel) ⟨(Nat.le_of_ble_eq_true rfl), (Nat.le_of_ble_eq_true rfl)⟩) rfl rfl hl.1 (Nat.le_of_ble_eq_true rfl) dX8_init_58 ⟨(Nat.le_of_ble_eq_true rfl), (Nat.le_of_ble_eq_true rfl)⟩ (fun μ23 n24 H locs hp25 hH hS => ?_)
  obtain ⟨hI, hn1, hfr1⟩ := hp25
  rw [hn1] at hH
  have hZ : IsState G μ23 (x + 1) (fun p => p) s0 0 0 none := hZ.fr (fun q b c => hfr1 q (by omega))
  have hL : IsHist G μ23 (x + 30) (fun r => r) 0 (fun _ p => p) (fun _ => s0) (fun _ => 0) (fun _ => 0) (fun _ => none) := hL.fr (fun q b c => hfr1 q (by omega))
  have hY : IsState G μ23 (x + 148) (fun p => p) s0 0 0 none := hY.fr (fun q b c => hfr1 q (by omega))
  have hT : IsText G μ23 (x + 177) (fun _ => 0) 0 0 0 0 0 0 0 := hT.fr (fun q b c => hfr1 q (by omega))
  have hB := (hfr1 x (by omega)).trans hB
  have hfr : ∀ q, q < x → μ23 q = μ q := fun q hq => (hfr1 q (by omega)).trans (hfr q hq)
  refine m_putF (C := RX8) (T := TX8) (N := 6) (ci := 7) hx hb hts i_X8 tyX8 tyX8_ok nmX8 hown hK hH hS hB rfl 5 (by decide) f_33 rfl hin rfl rfl rfl (Nat.le_of_ble_eq_true rfl) dX8_init_61 (fun H locs hH hS => ?_)
  have hZ : IsState G (hu μ23 x (.inr (7, [.ref (x + 1), .ref (x + 30), .ref (x + 148), .int (iv 0), .ref (x + 177), .ref (x + 179)]))) (x + 1) (fun p => p) s0 0 0 none := hZ.fr (fun q b c => hu_n (by omega))
  have hL : IsHist G (hu μ23 x (.inr (7, [.ref (x + 1), .ref (x + 30), .ref (x + 148), .int (iv 0), .ref (x + 177), .ref (x + 179)]))) (x + 30) (fun r => r) 0 (fun _ p => p) (fun _ => s0) (fun _ => 0) (fun _ => 0) (fun _ => none) := hL.fr (fun q b c => hu_n (by omega))
  have hY : IsState G (hu μ23 x (.inr (7, [.ref (x + 1), .ref (x + 30), .ref (x + 148), .int (iv 0), .ref (x + 177), .ref (x + 179)]))) (x + 148) (fun p => p) s0 0 0 none := hY.fr (fun q b c => hu_n (by omega))
  have hT : IsText G (hu μ23 x (.inr (7, [.ref (x + 1), .ref (x + 30), .ref (x + 148), .int (iv 0), .ref (x + 177), .ref (x + 179)]))) (x + 177) (fun _ => 0) 0 0 0 0 0 0 0 := hT.fr (fun q b c => hu_n (by omega))
  have hI : IsSt G (hu μ23 x (.inr (7, [.ref (x + 1), .ref (x + 30), .ref (x + 148), .int (iv 0), .ref (x + 177), .ref (x + 179)]))) (x + 179) (fun p => p) s0 0 0 := hI.fr (fun q b c => hu_n (by omega))
  have hfr2 : ∀ q, q ≠ x → q < x → (hu μ23 x (.inr (7, [.ref (x + 1), .ref (x + 30), .ref (x + 148), .int (iv 0), .ref (x + 177), .ref (x + 179)]))) q = μ q := fun q _ hq => (hu_n (by omega)).trans (hfr q hq)
  have hfr : ∀ q, q < x → (hu μ23 x (.inr (7, [.ref (x + 1), .ref (x + 30), .ref (x + 148), .int (iv 0), .ref (x + 177), .ref (x + 179)]))) q = μ q := fun q hq => hfr2 q (by omega) hq
  have hB : (hu μ23 x (.inr (7, [.ref (x + 1), .ref (x + 30), .ref (x + 148), .int (iv 0), .ref (x + 177), .ref (x + 179)]))) x = some (.inr (7, [.ref (x + 1), .ref (x + 30), .ref (x + 148), .int (iv 0), .ref (x + 177), .ref (x + 179)])) := hu_s
  have hH : gP G (hu μ23 x (.inr (7, [.ref (x + 1), .ref (x + 30), .ref (x + 148), .int (iv 0), .ref (x + 177), .ref (x + 179)]))) (x + 194) H := hH
  obtain ⟨ν26, hν26⟩ : ∃ ν : hM, ν = (hu μ23 x (.inr (7, [.ref (x + 1), .ref (x + 30), .ref (x + 148), .int (iv 0), .ref (x + 177), .ref (x + 179)]))) := ⟨_, rfl⟩
  rw [← hν26] at hB hfr hH hZ hL hY hT hI
  have hH : gP G ν26 (x + 194) H := hH
  subst hQ
  refine m_vret hx hb hr hlocks hH hS dX8_init_64 ?_
  exact ⟨hB, hZ, hL, hY, hT, hI, rfl, hfr⟩
