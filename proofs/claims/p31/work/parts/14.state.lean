abbrev rm_c_J6_bitCount_0f7a4 : Room := { frames := 0, cells := 0, slots := 0, locals := 0 }
set_option maxHeartbeats 4000000 in
set_option maxRecDepth 100000 in
theorem c_J6_bitCount_0f7a4 (l : Launch) (G : wG) (μ : hM) (n : Nat) (x : Nat) (hx6 : x < 64) : Met l yJ6_bitCount_0f7a4 wsJ6_bitCount_0f7a4 rm_c_J6_bitCount_0f7a4 (mPc G μ n [.int (iv (x : Int))]) (mQi G (fun z μ1 n1 => z = ((pc6 x : Nat) : Int) ∧ μ1 = μ ∧ n1 = n)) 0 0 (gA G) := by
  refine Met.ofW (cc := cJ6_bitCount_0f7a4) (maxL := 1) (ret := (some .int)) (by decide) rfl ?_
  intro p e s m args below meth c s₁ B hml hv
  obtain ⟨hav, hK, hH⟩ := hv
  have hx := B.exec
  have hb := B.bytes
  have hr := B.returns
  have hts := atoms_spec (ws := wsJ6_bitCount_0f7a4) B.pre
  have hown : s.vm.findClass RJ6 = some m.cls := findClass_of_methodNamed B.named
  have hlocks := B.notSynchronized
  have hS : va_S (gA G) s.heap s.heap [] := va_S.rf
  have hl := lv_entry ([.int (iv (x : Int))]) (n := 1) (Nat.le_of_ble_eq_true rfl)
  have hfr : entryFrame m args 1 = entryFrame m ([.int (iv (x : Int))] : List Value).toArray 1 := by rw [hav]
  rw [hfr, lg_entry_eq]
  generalize (lg_sl ([.int (iv (x : Int))]) ++ List.replicate (1 - (lg_sl ([.int (iv (x : Int))])).length) Slot.unset).toArray = ls at hl ⊢
  have hl : lv_has ls 1 [(0, .int (iv (x : Int)))] := hl
  generalize hQ : MQ below _ args s 0 0 (gA G) = Q
  show W p l e rm_c_J6_bitCount_0f7a4 s m args below meth c s.heap [] 0 0 Q (F0 m 0 ls [])
  obtain ⟨H, hHe⟩ : ∃ H, H = s.heap := ⟨_, rfl⟩
  obtain ⟨locs, hlo⟩ : ∃ q : List Loc, q = [] := ⟨_, rfl⟩
  have hH : gP G μ n H := by rw [hHe]; exact hH
  have hS : va_S (gA G) s.heap H locs := by rw [hHe, hlo]; exact hS
  suffices hgo : W p l e rm_c_J6_bitCount_0f7a4 s m args below meth c H locs 0 0 Q (F0 m 0 ls []) by rw [hHe, hlo] at hgo; exact hgo
  clear hHe hlo hfr hav
  have f_0 := hts (.constant RJ6 265 (1431655765)) (List.mem_of_getElem? (i := 1) rfl)
  have f_1 := hts (.constant RJ6 266 (858993459)) (List.mem_of_getElem? (i := 2) rfl)
  have f_2 := hts (.constant RJ6 267 (252645135)) (List.mem_of_getElem? (i := 3) rfl)
  refine lv_iload_n hx hb dJ6_bitCount_0f7a4_0 rfl (lv_at hl 0 rfl) ?_
  refine lv_iload_n hx hb dJ6_bitCount_0f7a4_1 rfl (lv_at hl 0 rfl) ?_
  refine j_const hx hb dJ6_bitCount_0f7a4_2 ?_
  refine j_iushr (v := ((x / 2 : Nat) : Int)) hx hb dJ6_bitCount_0f7a4_3 (bcA x hx6) ?_
  refine j_ldcw hx hb (1431655765) hown f_0 dJ6_bitCount_0f7a4_4 ?_ (by decide)
  refine j_iand (v := (((x / 2) &&& 1431655765 : Nat) : Int)) hx hb dJ6_bitCount_0f7a4_7 (bcB x hx6) ?_
  refine j_isub hx hb dJ6_bitCount_0f7a4_8 ?_
  refine j_norm (y := ((bc1 x : Nat) : Int)) (bcC x hx6) ?_
  refine lv_istore_n (lv' := [(0, .int (iv ((bc1 x : Nat) : Int)))]) hx hb dJ6_bitCount_0f7a4_9 rfl hl (by decide) rfl (fun ls hl => ?_)
  refine lv_iload_n hx hb dJ6_bitCount_0f7a4_10 rfl (lv_at hl 0 rfl) ?_
  refine j_ldcw hx hb (858993459) hown f_1 dJ6_bitCount_0f7a4_11 ?_ (by decide)
  refine j_iand (v := ((bc1 x &&& 858993459 : Nat) : Int)) hx hb dJ6_bitCount_0f7a4_14 (bcD x hx6) ?_
  refine lv_iload_n hx hb dJ6_bitCount_0f7a4_15 rfl (lv_at hl 0 rfl) ?_
  refine j_const hx hb dJ6_bitCount_0f7a4_16 ?_
  refine j_iushr (v := ((bc1 x / 4 : Nat) : Int)) hx hb dJ6_bitCount_0f7a4_17 (bcE x hx6) ?_
  refine j_ldcw hx hb (858993459) hown f_1 dJ6_bitCount_0f7a4_18 ?_ (by decide)
  refine j_iand (v := ((bc1 x / 4 &&& 858993459 : Nat) : Int)) hx hb dJ6_bitCount_0f7a4_21 (bcF x hx6) ?_
  refine j_iadd hx hb dJ6_bitCount_0f7a4_22 ?_
  refine j_norm (y := ((bc2 x : Nat) : Int)) rfl ?_
  refine lv_istore_n (lv' := [(0, .int (iv ((bc2 x : Nat) : Int)))]) hx hb dJ6_bitCount_0f7a4_23 rfl hl (by decide) rfl (fun ls hl => ?_)
  refine lv_iload_n hx hb dJ6_bitCount_0f7a4_24 rfl (lv_at hl 0 rfl) ?_
  refine lv_iload_n hx hb dJ6_bitCount_0f7a4_25 rfl (lv_at hl 0 rfl) ?_
  refine j_const hx hb dJ6_bitCount_0f7a4_26 ?_
  refine j_iushr (v := ((bc2 x / 16 : Nat) : Int)) hx hb dJ6_bitCount_0f7a4_27 (bcH x hx6) ?_
  refine j_iadd hx hb dJ6_bitCount_0f7a4_28 ?_
  refine j_norm (y := ((bc2 x + bc2 x / 16 : Nat) : Int)) rfl ?_
  refine j_ldcw hx hb (252645135) hown f_2 dJ6_bitCount_0f7a4_29 ?_ (by decide)
  refine j_iand (v := ((bc3 x : Nat) : Int)) hx hb dJ6_bitCount_0f7a4_32 (bcI x hx6) ?_
  refine lv_istore_n (lv' := [(0, .int (iv ((bc3 x : Nat) : Int)))]) hx hb dJ6_bitCount_0f7a4_33 rfl hl (by decide) rfl (fun ls hl => ?_)
  refine lv_iload_n hx hb dJ6_bitCount_0f7a4_34 rfl (lv_at hl 0 rfl) ?_
  refine lv_iload_n hx hb dJ6_bitCount_0f7a4_35 rfl (lv_at hl 0 rfl) ?_
  refine j_bipush hx hb dJ6_bitCount_0f7a4_36 ?_ (by decide)
  refine j_iushr (v := ((bc3 x / 256 : Nat) : Int)) hx hb dJ6_bitCount_0f7a4_38 (bcJ x hx6) ?_
  refine j_iadd hx hb dJ6_bitCount_0f7a4_39 ?_
  refine j_norm (y := ((bc4 x : Nat) : Int)) rfl ?_
  refine lv_istore_n (lv' := [(0, .int (iv ((bc4 x : Nat) : Int)))]) hx hb dJ6_bitCount_0f7a4_40 rfl hl (by decide) rfl (fun ls hl => ?_)
  refine lv_iload_n hx hb dJ6_bitCount_0f7a4_41 rfl (lv_at hl 0 rfl) ?_
  refine lv_iload_n hx hb dJ6_bitCount_0f7a4_42 rfl (lv_at hl 0 rfl) ?_
  refine j_bipush hx hb dJ6_bitCount_0f7a4_43 ?_ (by decide)
  refine j_iushr (v := ((bc4 x / 65536 : Nat) : Int)) hx hb dJ6_bitCount_0f7a4_45 (bcL x hx6) ?_
  refine j_iadd hx hb dJ6_bitCount_0f7a4_46 ?_
  refine j_norm (y := ((bc5 x : Nat) : Int)) rfl ?_
  refine lv_istore_n (lv' := [(0, .int (iv ((bc5 x : Nat) : Int)))]) hx hb dJ6_bitCount_0f7a4_47 rfl hl (by decide) rfl (fun ls hl => ?_)
  refine lv_iload_n hx hb dJ6_bitCount_0f7a4_48 rfl (lv_at hl 0 rfl) ?_
  refine j_bipush hx hb dJ6_bitCount_0f7a4_49 ?_ (by decide)
  refine j_iand (v := ((pc6 x : Nat) : Int)) hx hb dJ6_bitCount_0f7a4_51 (bcN x hx6) ?_
  have h6 := pc6_rng x
  subst hQ
  refine m_iret hx hb hr hlocks hH hS dJ6_bitCount_0f7a4_52 ?_ (by omega)
  exact ⟨rfl, rfl, rfl⟩

abbrev rm_c_X3_init : Room := { frames := 1, cells := 0, slots := 0, locals := 20 }
set_option maxHeartbeats 4000000 in
set_option maxRecDepth 100000 in
theorem c_X3_init (l : Launch) (G : wG) (μ : hM) (n : Nat) (b : Nat) : Met l yX3_init wsX3_init rm_c_X3_init (mPc G μ n [.ref b]) (mQv G (fun μ1 n1 => μ1 = μ ∧ n1 = n)) 0 0 (gA G) := by
  refine Met.ofW (cc := cX3_init) (maxL := 1) (ret := none) (by decide) rfl ?_
  intro p e s m args below meth c s₁ B hml hv
  obtain ⟨hav, hK, hH⟩ := hv
  have hx := B.exec
  have hb := B.bytes
  have hr := B.returns
  have hts := atoms_spec (ws := wsX3_init) B.pre
  have hown : s.vm.findClass RX3 = some m.cls := findClass_of_methodNamed B.named
  have hlocks := B.notSynchronized
  have hin : meth.name = "<init>" := (name_of_methodNamed B.named B.method).1
  have hS : va_S (gA G) s.heap s.heap [] := va_S.rf
  have hl := lv_entry ([.ref b]) (n := 1) (Nat.le_of_ble_eq_true rfl)
  have hfr : entryFrame m args 1 = entryFrame m ([.ref b] : List Value).toArray 1 := by rw [hav]
  rw [hfr, lg_entry_eq]
  generalize (lg_sl ([.ref b]) ++ List.replicate (1 - (lg_sl ([.ref b])).length) Slot.unset).toArray = ls at hl ⊢
  have hl : lv_has ls 1 [(0, .ref b)] := hl
  generalize hQ : MQ below _ args s 0 0 (gA G) = Q
  show W p l e rm_c_X3_init s m args below meth c s.heap [] 0 0 Q (F0 m 0 ls [])
  obtain ⟨H, hHe⟩ : ∃ H, H = s.heap := ⟨_, rfl⟩
  obtain ⟨locs, hlo⟩ : ∃ q : List Loc, q = [] := ⟨_, rfl⟩
  have hH : gP G μ n H := by rw [hHe]; exact hH
  have hS : va_S (gA G) s.heap H locs := by rw [hHe, hlo]; exact hS
  suffices hgo : W p l e rm_c_X3_init s m args below meth c H locs 0 0 Q (F0 m 0 ls []) by rw [hHe, hlo] at hgo; exact hgo
  clear hHe hlo hfr hav
  have f_0 := hts (.methodLink RX3 3 objectInit) (List.mem_of_getElem? (i := 1) rfl)
  have f_1 := hts (.instanceMethod objectInit) (List.mem_of_getElem? (i := 2) rfl)
  have f_2 := hts (.code objectInit ⟨#[0xb1]⟩ 1 none) (List.mem_of_getElem? (i := 3) rfl)
  refine lv_aload_n hx hb dX3_init_0 rfl (lv_at hl 0 rfl) ?_
  refine W.objInit hx hb hown f_0 f_1 f_2 rfl (hl.1.trans hml.symm) rfl dX3_init_1 (Nat.le_of_ble_eq_true rfl) (Nat.le_of_ble_eq_true rfl) ?_
  show W p l e rm_c_X3_init s m args below meth c H locs 0 0 Q (F0 m 4 ls [])
  subst hQ
  refine m_vret hx hb hr hlocks hH hS dX3_init_4 ?_
  exact ⟨rfl, rfl⟩

abbrev rm_c_X3_copyPrint : Room := { frames := 0, cells := 0, slots := 0, locals := 0 }
set_option maxHeartbeats 4000000 in
set_option maxRecDepth 100000 in
theorem c_X3_copyPrint (l : Launch) (G : wG) (μ : hM) (n : Nat) (b b2 : Nat) (x0 x1 x2 x3 x4 x5 y0 y1 y2 y3 y4 y5 : Int) (hB : μ b = some (.inr (2, [.int (iv x0), .int (iv x1), .int (iv x2), .int (iv x3), .int (iv x4), .int (iv x5)]))) (hB2 : μ b2 = some (.inr (2, [.int (iv y0), .int (iv y1), .int (iv y2), .int (iv y3), .int (iv y4), .int (iv y5)]))) (hbb : b2 ≠ b) (hy4 : 0 ≤ y4 ∧ y4 ≤ 1) : Met l yX3_copyPrint wsX3_copyPrint rm_c_X3_copyPrint (mPc G μ n [.ref b, .ref b2]) (mQv G (fun μ1 n1 => μ1 = hu μ b (.inr (2, [.int (iv y0), .int (iv y1), .int (iv y2), .int (iv y3), .int (iv y4), .int (iv y5)])) ∧ n1 = n)) 0 0 (gA G) := by
  refine Met.ofW (cc := cX3_copyPrint) (maxL := 2) (ret := none) (by decide) rfl ?_
  intro p e s m args below meth c s₁ B hml hv
  obtain ⟨hav, hK, hH⟩ := hv
  have hx := B.exec
  have hb := B.bytes
  have hr := B.returns
  have hts := atoms_spec (ws := wsX3_copyPrint) B.pre
  have hown : s.vm.findClass RX3 = some m.cls := findClass_of_methodNamed B.named
  have hlocks := B.notSynchronized
  have hS : va_S (gA G) s.heap s.heap [] := va_S.rf
  have hl := lv_entry ([.ref b, .ref b2]) (n := 2) (Nat.le_of_ble_eq_true rfl)
  have hfr : entryFrame m args 2 = entryFrame m ([.ref b, .ref b2] : List Value).toArray 2 := by rw [hav]
  rw [hfr, lg_entry_eq]
  generalize (lg_sl ([.ref b, .ref b2]) ++ List.replicate (2 - (lg_sl ([.ref b, .ref b2])).length) Slot.unset).toArray = ls at hl ⊢
  have hl : lv_has ls 2 [(0, .ref b), (1, .ref b2)] := hl
  generalize hQ : MQ below _ args s 0 0 (gA G) = Q
  show W p l e rm_c_X3_copyPrint s m args below meth c s.heap [] 0 0 Q (F0 m 0 ls [])
  obtain ⟨H, hHe⟩ : ∃ H, H = s.heap := ⟨_, rfl⟩
  obtain ⟨locs, hlo⟩ : ∃ q : List Loc, q = [] := ⟨_, rfl⟩
  have hH : gP G μ n H := by rw [hHe]; exact hH
  have hS : va_S (gA G) s.heap H locs := by rw [hHe, hlo]; exact hS
  suffices hgo : W p l e rm_c_X3_copyPrint s m args below meth c H locs 0 0 Q (F0 m 0 ls []) by rw [hHe, hlo] at hgo; exact hgo
  clear hHe hlo hfr hav
  have f_0 := hts (.fieldLink RX3 9 "StampDater$Print" "digits" "I") (List.mem_of_getElem? (i := 1) rfl)
  have i_X3 : ∀ w ∈ u_ws RX3 TX3 6, w ∈ wsX3_copyPrint := by decide +kernel
  have f_2 := hts (.fieldLink RX3 15 "StampDater$Print" "day" "I") (List.mem_of_getElem? (i := 2) rfl)
  have f_3 := hts (.fieldLink RX3 18 "StampDater$Print" "faint" "I") (List.mem_of_getElem? (i := 3) rfl)
  have f_4 := hts (.fieldLink RX3 21 "StampDater$Print" "smudged" "I") (List.mem_of_getElem? (i := 4) rfl)
  have f_5 := hts (.fieldLink RX3 24 "StampDater$Print" "right" "Z") (List.mem_of_getElem? (i := 5) rfl)
  have f_6 := hts (.fieldLink RX3 28 "StampDater$Print" "strength" "I") (List.mem_of_getElem? (i := 6) rfl)
  refine lv_aload_n hx hb dX3_copyPrint_0 rfl (lv_at hl 0 rfl) ?_
  refine lv_aload_n hx hb dX3_copyPrint_1 rfl (lv_at hl 1 rfl) ?_
  refine m_get (C := RX3) (T := TX3) (N := 6) (ci := 2) hx hb hts i_X3 hown hK hH hB2 rfl 0 (by decide) f_0 rfl dX3_copyPrint_2 ?_
  refine m_put (C := RX3) (T := TX3) (N := 6) (ci := 2) hx hb hts i_X3 tyX3 tyX3_ok nmX3 hown hK hH hS hB rfl 0 (by decide) f_0 rfl rfl rfl (Nat.le_of_ble_eq_true rfl) dX3_copyPrint_5 (fun H locs hH hS => ?_)
  have hB2 := hu_n' (a := b) (e := (.inr (2, [.int (iv y0), .int (iv x1), .int (iv x2), .int (iv x3), .int (iv x4), .int (iv x5)]))) (by omega) hB2
  have hB : (hu μ b (.inr (2, [.int (iv y0), .int (iv x1), .int (iv x2), .int (iv x3), .int (iv x4), .int (iv x5)]))) b = some (.inr (2, [.int (iv y0), .int (iv x1), .int (iv x2), .int (iv x3), .int (iv x4), .int (iv x5)])) := hu_s
  have hH : gP G (hu μ b (.inr (2, [.int (iv y0), .int (iv x1), .int (iv x2), .int (iv x3), .int (iv x4), .int (iv x5)]))) n H := hH
  refine lv_aload_n hx hb dX3_copyPrint_8 rfl (lv_at hl 0 rfl) ?_
  refine lv_aload_n hx hb dX3_copyPrint_9 rfl (lv_at hl 1 rfl) ?_
  refine m_get (C := RX3) (T := TX3) (N := 6) (ci := 2) hx hb hts i_X3 hown hK hH hB2 rfl 1 (by decide) f_2 rfl dX3_copyPrint_10 ?_
  refine m_put (C := RX3) (T := TX3) (N := 6) (ci := 2) hx hb hts i_X3 tyX3 tyX3_ok nmX3 hown hK hH hS hB rfl 1 (by decide) f_2 rfl rfl rfl (Nat.le_of_ble_eq_true rfl) dX3_copyPrint_13 (fun H locs hH hS => ?_)
  have hB2 := hu_n' (a := b) (e := (.inr (2, [.int (iv y0), .int (iv y1), .int (iv x2), .int (iv x3), .int (iv x4), .int (iv x5)]))) (by omega) hB2
  have hB : (hu (hu μ b (.inr (2, [.int (iv y0), .int (iv x1), .int (iv x2), .int (iv x3), .int (iv x4), .int (iv x5)]))) b (.inr (2, [.int (iv y0), .int (iv y1), .int (iv x2), .int (iv x3), .int (iv x4), .int (iv x5)]))) b = some (.inr (2, [.int (iv y0), .int (iv y1), .int (iv x2), .int (iv x3), .int (iv x4), .int (iv x5)])) := hu_s
  have hH : gP G (hu (hu μ b (.inr (2, [.int (iv y0), .int (iv x1), .int (iv x2), .int (iv x3), .int (iv x4), .int (iv x5)]))) b (.inr (2, [.int (iv y0), .int (iv y1), .int (iv x2), .int (iv x3), .int (iv x4), .int (iv x5)]))) n H := hH
  refine lv_aload_n hx hb dX3_copyPrint_16 rfl (lv_at hl 0 rfl) ?_
  refine lv_aload_n hx hb dX3_copyPrint_17 rfl (lv_at hl 1 rfl) ?_
  refine m_get (C := RX3) (T := TX3) (N := 6) (ci := 2) hx hb hts i_X3 hown hK hH hB2 rfl 2 (by decide) f_3 rfl dX3_copyPrint_18 ?_
  refine m_put (C := RX3) (T := TX3) (N := 6) (ci := 2) hx hb hts i_X3 tyX3 tyX3_ok nmX3 hown hK hH hS hB rfl 2 (by decide) f_3 rfl rfl rfl (Nat.le_of_ble_eq_true rfl) dX3_copyPrint_21 (fun H locs hH hS => ?_)
  have hB2 := hu_n' (a := b) (e := (.inr (2, [.int (iv y0), .int (iv y1), .int (iv y2), .int (iv x3), .int (iv x4), .int (iv x5)]))) (by omega) hB2
  have hB : (hu (hu (hu μ b (.inr (2, [.int (iv y0), .int (iv x1), .int (iv x2), .int (iv x3), .int (iv x4), .int (iv x5)]))) b (.inr (2, [.int (iv y0), .int (iv y1), .int (iv x2), .int (iv x3), .int (iv x4), .int (iv x5)]))) b (.inr (2, [.int (iv y0), .int (iv y1), .int (iv y2), .int (iv x3), .int (iv x4), .int (iv x5)]))) b = some (.inr (2, [.int (iv y0), .int (iv y1), .int (iv y2), .int (iv x3), .int (iv x4), .int (iv x5)])) := hu_s
  have hH : gP G (hu (hu (hu μ b (.inr (2, [.int (iv y0), .int (iv x1), .int (iv x2), .int (iv x3), .int (iv x4), .int (iv x5)]))) b (.inr (2, [.int (iv y0), .int (iv y1), .int (iv x2), .int (iv x3), .int (iv x4), .int (iv x5)]))) b (.inr (2, [.int (iv y0), .int (iv y1), .int (iv y2), .int (iv x3), .int (iv x4), .int (iv x5)]))) n H := hH
  refine lv_aload_n hx hb dX3_copyPrint_24 rfl (lv_at hl 0 rfl) ?_
  refine lv_aload_n hx hb dX3_copyPrint_25 rfl (lv_at hl 1 rfl) ?_
  refine m_get (C := RX3) (T := TX3) (N := 6) (ci := 2) hx hb hts i_X3 hown hK hH hB2 rfl 3 (by decide) f_4 rfl dX3_copyPrint_26 ?_
  refine m_put (C := RX3) (T := TX3) (N := 6) (ci := 2) hx hb hts i_X3 tyX3 tyX3_ok nmX3 hown hK hH hS hB rfl 3 (by decide) f_4 rfl rfl rfl (Nat.le_of_ble_eq_true rfl) dX3_copyPrint_29 (fun H locs hH hS => ?_)
  have hB2 := hu_n' (a := b) (e := (.inr (2, [.int (iv y0), .int (iv y1), .int (iv y2), .int (iv y3), .int (iv x4), .int (iv x5)]))) (by omega) hB2
  have hB : (hu (hu (hu (hu μ b (.inr (2, [.int (iv y0), .int (iv x1), .int (iv x2), .int (iv x3), .int (iv x4), .int (iv x5)]))) b (.inr (2, [.int (iv y0), .int (iv y1), .int (iv x2), .int (iv x3), .int (iv x4), .int (iv x5)]))) b (.inr (2, [.int (iv y0), .int (iv y1), .int (iv y2), .int (iv x3), .int (iv x4), .int (iv x5)]))) b (.inr (2, [.int (iv y0), .int (iv y1), .int (iv y2), .int (iv y3), .int (iv x4), .int (iv x5)]))) b = some (.inr (2, [.int (iv y0), .int (iv y1), .int (iv y2), .int (iv y3), .int (iv x4), .int (iv x5)])) := hu_s
  have hH : gP G (hu (hu (hu (hu μ b (.inr (2, [.int (iv y0), .int (iv x1), .int (iv x2), .int (iv x3), .int (iv x4), .int (iv x5)]))) b (.inr (2, [.int (iv y0), .int (iv y1), .int (iv x2), .int (iv x3), .int (iv x4), .int (iv x5)]))) b (.inr (2, [.int (iv y0), .int (iv y1), .int (iv y2), .int (iv x3), .int (iv x4), .int (iv x5)]))) b (.inr (2, [.int (iv y0), .int (iv y1), .int (iv y2), .int (iv y3), .int (iv x4), .int (iv x5)]))) n H := hH
  refine lv_aload_n hx hb dX3_copyPrint_32 rfl (lv_at hl 0 rfl) ?_
  refine lv_aload_n hx hb dX3_copyPrint_33 rfl (lv_at hl 1 rfl) ?_
  refine m_get (C := RX3) (T := TX3) (N := 6) (ci := 2) hx hb hts i_X3 hown hK hH hB2 rfl 4 (by decide) f_5 rfl dX3_copyPrint_34 ?_
  refine m_put (C := RX3) (T := TX3) (N := 6) (ci := 2) hx hb hts i_X3 tyX3 tyX3_ok nmX3 hown hK hH hS hB rfl 4 (by decide) f_5 rfl (nar_z (by omega)) (fit_z (by omega)) (Nat.le_of_ble_eq_true rfl) dX3_copyPrint_37 (fun H locs hH hS => ?_)
  have hB2 := hu_n' (a := b) (e := (.inr (2, [.int (iv y0), .int (iv y1), .int (iv y2), .int (iv y3), .int (iv y4), .int (iv x5)]))) (by omega) hB2
  have hB : (hu (hu (hu (hu (hu μ b (.inr (2, [.int (iv y0), .int (iv x1), .int (iv x2), .int (iv x3), .int (iv x4), .int (iv x5)]))) b (.inr (2, [.int (iv y0), .int (iv y1), .int (iv x2), .int (iv x3), .int (iv x4), .int (iv x5)]))) b (.inr (2, [.int (iv y0), .int (iv y1), .int (iv y2), .int (iv x3), .int (iv x4), .int (iv x5)]))) b (.inr (2, [.int (iv y0), .int (iv y1), .int (iv y2), .int (iv y3), .int (iv x4), .int (iv x5)]))) b (.inr (2, [.int (iv y0), .int (iv y1), .int (iv y2), .int (iv y3), .int (iv y4), .int (iv x5)]))) b = some (.inr (2, [.int (iv y0), .int (iv y1), .int (iv y2), .int (iv y3), .int (iv y4), .int (iv x5)])) := hu_s
  have hH : gP G (hu (hu (hu (hu (hu μ b (.inr (2, [.int (iv y0), .int (iv x1), .int (iv x2), .int (iv x3), .int (iv x4), .int (iv x5)]))) b (.inr (2, [.int (iv y0), .int (iv y1), .int (iv x2), .int (iv x3), .int (iv x4), .int (iv x5)]))) b (.inr (2, [.int (iv y0), .int (iv y1), .int (iv y2), .int (iv x3), .int (iv x4), .int (iv x5)]))) b (.inr (2, [.int (iv y0), .int (iv y1), .int (iv y2), .int (iv y3), .int (iv x4), .int (iv x5)]))) b (.inr (2, [.int (iv y0), .int (iv y1), .int (iv y2), .int (iv y3), .int (iv y4), .int (iv x5)]))) n H := hH
  refine lv_aload_n hx hb dX3_copyPrint_40 rfl (lv_at hl 0 rfl) ?_
  refine lv_aload_n hx hb dX3_copyPrint_41 rfl (lv_at hl 1 rfl) ?_
  refine m_get (C := RX3) (T := TX3) (N := 6) (ci := 2) hx hb hts i_X3 hown hK hH hB2 rfl 5 (by decide) f_6 rfl dX3_copyPrint_42 ?_
  refine m_put (C := RX3) (T := TX3) (N := 6) (ci := 2) hx hb hts i_X3 tyX3 tyX3_ok nmX3 hown hK hH hS hB rfl 5 (by decide) f_6 rfl rfl rfl (Nat.le_of_ble_eq_true rfl) dX3_copyPrint_45 (fun H locs hH hS => ?_)
  have hB2 := hu_n' (a := b) (e := (.inr (2, [.int (iv y0), .int (iv y1), .int (iv y2), .int (iv y3), .int (iv y4), .int (iv y5)]))) (by omega) hB2
  have hB : (hu (hu (hu (hu (hu (hu μ b (.inr (2, [.int (iv y0), .int (iv x1), .int (iv x2), .int (iv x3), .int (iv x4), .int (iv x5)]))) b (.inr (2, [.int (iv y0), .int (iv y1), .int (iv x2), .int (iv x3), .int (iv x4), .int (iv x5)]))) b (.inr (2, [.int (iv y0), .int (iv y1), .int (iv y2), .int (iv x3), .int (iv x4), .int (iv x5)]))) b (.inr (2, [.int (iv y0), .int (iv y1), .int (iv y2), .int (iv y3), .int (iv x4), .int (iv x5)]))) b (.inr (2, [.int (iv y0), .int (iv y1), .int (iv y2), .int (iv y3), .int (iv y4), .int (iv x5)]))) b (.inr (2, [.int (iv y0), .int (iv y1), .int (iv y2), .int (iv y3), .int (iv y4), .int (iv y5)]))) b = some (.inr (2, [.int (iv y0), .int (iv y1), .int (iv y2), .int (iv y3), .int (iv y4), .int (iv y5)])) := hu_s
  have hH : gP G (hu (hu (hu (hu (hu (hu μ b (.inr (2, [.int (iv y0), .int (iv x1), .int (iv x2), .int (iv x3), .int (iv x4), .int (iv x5)]))) b (.inr (2, [.int (iv y0), .int (iv y1), .int (iv x2), .int (iv x3), .int (iv x4), .int (iv x5)]))) b (.inr (2, [.int (iv y0), .int (iv y1), .int (iv y2), .int (iv x3), .int (iv x4), .int (iv x5)]))) b (.inr (2, [.int (iv y0), .int (iv y1), .int (iv y2), .int (iv y3), .int (iv x4), .int (iv x5)]))) b (.inr (2, [.int (iv y0), .int (iv y1), .int (iv y2), .int (iv y3), .int (iv y4), .int (iv x5)]))) b (.inr (2, [.int (iv y0), .int (iv y1), .int (iv y2), .int (iv y3), .int (iv y4), .int (iv y5)]))) n H := hH
  subst hQ
  refine m_vret hx hb hr hlocks hH hS dX3_copyPrint_48 ?_
  exact ⟨by rw [hu_uu, hu_uu, hu_uu, hu_uu, hu_uu], rfl⟩

abbrev rm_c_X3_clearPlaces : Room := { frames := 0, cells := 0, slots := 0, locals := 0 }
set_option maxHeartbeats 4000000 in
set_option maxRecDepth 100000 in
theorem c_X3_clearPlaces (l : Launch) (G : wG) (μ : hM) (n : Nat) (b : Nat) (x0 x1 x4 x5 : Int) (f g : Nat) (hB : μ b = some (.inr (2, [.int (iv x0), .int (iv x1), .int (iv (f : Int)), .int (iv (g : Int)), .int (iv x4), .int (iv x5)]))) (hf : f < 64) (hg : g < 64) : Met l yX3_clearPlaces wsX3_clearPlaces rm_c_X3_clearPlaces (mPc G μ n [.ref b]) (mQi G (fun z μ1 n1 => z = ((63 - (f ||| g) : Nat) : Int) ∧ μ1 = μ ∧ n1 = n)) 0 0 (gA G) := by
  refine Met.ofW (cc := cX3_clearPlaces) (maxL := 1) (ret := (some .int)) (by decide) rfl ?_
  intro p e s m args below meth c s₁ B hml hv
  obtain ⟨hav, hK, hH⟩ := hv
  have hx := B.exec
  have hb := B.bytes
  have hr := B.returns
  have hts := atoms_spec (ws := wsX3_clearPlaces) B.pre
  have hown : s.vm.findClass RX3 = some m.cls := findClass_of_methodNamed B.named
  have hlocks := B.notSynchronized
  have hS : va_S (gA G) s.heap s.heap [] := va_S.rf
  have hl := lv_entry ([.ref b]) (n := 1) (Nat.le_of_ble_eq_true rfl)
  have hfr : entryFrame m args 1 = entryFrame m ([.ref b] : List Value).toArray 1 := by rw [hav]
  rw [hfr, lg_entry_eq]
  generalize (lg_sl ([.ref b]) ++ List.replicate (1 - (lg_sl ([.ref b])).length) Slot.unset).toArray = ls at hl ⊢
  have hl : lv_has ls 1 [(0, .ref b)] := hl
  generalize hQ : MQ below _ args s 0 0 (gA G) = Q
  show W p l e rm_c_X3_clearPlaces s m args below meth c s.heap [] 0 0 Q (F0 m 0 ls [])
  obtain ⟨H, hHe⟩ : ∃ H, H = s.heap := ⟨_, rfl⟩
  obtain ⟨locs, hlo⟩ : ∃ q : List Loc, q = [] := ⟨_, rfl⟩
  have hH : gP G μ n H := by rw [hHe]; exact hH
  have hS : va_S (gA G) s.heap H locs := by rw [hHe, hlo]; exact hS
  suffices hgo : W p l e rm_c_X3_clearPlaces s m args below meth c H locs 0 0 Q (F0 m 0 ls []) by rw [hHe, hlo] at hgo; exact hgo
  clear hHe hlo hfr hav
  have f_0 := hts (.fieldLink RX3 18 "StampDater$Print" "faint" "I") (List.mem_of_getElem? (i := 1) rfl)
  have i_X3 : ∀ w ∈ u_ws RX3 TX3 6, w ∈ wsX3_clearPlaces := by decide +kernel
  have f_2 := hts (.fieldLink RX3 21 "StampDater$Print" "smudged" "I") (List.mem_of_getElem? (i := 2) rfl)
  have hfg := clD f hf g hg
  refine j_bipush hx hb dX3_clearPlaces_0 ?_ (by decide)
  refine lv_aload_n hx hb dX3_clearPlaces_2 rfl (lv_at hl 0 rfl) ?_
  refine m_get (C := RX3) (T := TX3) (N := 6) (ci := 2) hx hb hts i_X3 hown hK hH hB rfl 2 (by decide) f_0 rfl dX3_clearPlaces_3 ?_
  refine lv_aload_n hx hb dX3_clearPlaces_6 rfl (lv_at hl 0 rfl) ?_
  refine m_get (C := RX3) (T := TX3) (N := 6) (ci := 2) hx hb hts i_X3 hown hK hH hB rfl 3 (by decide) f_2 rfl dX3_clearPlaces_7 ?_
  refine j_ior (v := ((f ||| g : Nat) : Int)) hx hb dX3_clearPlaces_10 (clA f hf g hg) ?_
  refine j_const hx hb dX3_clearPlaces_11 ?_
  refine j_ixor (v := (-((f ||| g : Nat) : Int) - 1)) hx hb dX3_clearPlaces_12 (clB _ hfg) ?_
  refine j_iand (v := ((63 - (f ||| g) : Nat) : Int)) hx hb dX3_clearPlaces_13 (clC _ hfg) ?_
  subst hQ
  refine m_iret hx hb hr hlocks hH hS dX3_clearPlaces_14 ?_ (by omega)
  exact ⟨rfl, rfl, rfl⟩

abbrev rm_c_X4_init_n : Room := { frames := 1, cells := 0, slots := 0, locals := 20 }
set_option maxHeartbeats 4000000 in
set_option maxRecDepth 100000 in
theorem c_X4_init_n (l : Launch) (G : wG) (μ : hM) (n : Nat) (b : Nat) (dv cv : Int) (hB : μ b = some (.inr (3, [.int (iv 0), .int (iv 0), .int (iv 0), .null]))) : Met l yX4_init wsX4_init rm_c_X4_init_n (mPc G μ n [.ref b, .int (iv dv), .int (iv cv), .null]) (mQv G (fun μ1 n1 => μ1 = hu μ b (.inr (3, [.int (iv dv), .int (iv cv), .int (iv (0 + 1)), va_rf none])) ∧ n1 = n)) 0 0 (gA G) := by
  refine Met.ofW (cc := cX4_init) (maxL := 4) (ret := none) (by decide) rfl ?_
  intro p e s m args below meth c s₁ B hml hv
  obtain ⟨hav, hK, hH⟩ := hv
  have hx := B.exec
  have hb := B.bytes
  have hr := B.returns
  have hts := atoms_spec (ws := wsX4_init) B.pre
  have hown : s.vm.findClass RX4 = some m.cls := findClass_of_methodNamed B.named
  have hlocks := B.notSynchronized
  have hin : meth.name = "<init>" := (name_of_methodNamed B.named B.method).1
  have hS : va_S (gA G) s.heap s.heap [] := va_S.rf
  have hl := lv_entry ([.ref b, .int (iv dv), .int (iv cv), .null]) (n := 4) (Nat.le_of_ble_eq_true rfl)
  have hfr : entryFrame m args 4 = entryFrame m ([.ref b, .int (iv dv), .int (iv cv), .null] : List Value).toArray 4 := by rw [hav]
  rw [hfr, lg_entry_eq]
  generalize (lg_sl ([.ref b, .int (iv dv), .int (iv cv), .null]) ++ List.replicate (4 - (lg_sl ([.ref b, .int (iv dv), .int (iv cv), .null])).length) Slot.unset).toArray = ls at hl ⊢
  have hl : lv_has ls 4 [(0, .ref b), (1, .int (iv dv)), (2, .int (iv cv)), (3, .null)] := hl
  generalize hQ : MQ below _ args s 0 0 (gA G) = Q
  show W p l e rm_c_X4_init_n s m args below meth c s.heap [] 0 0 Q (F0 m 0 ls [])
  obtain ⟨H, hHe⟩ : ∃ H, H = s.heap := ⟨_, rfl⟩
  obtain ⟨locs, hlo⟩ : ∃ q : List Loc, q = [] := ⟨_, rfl⟩
  have hH : gP G μ n H := by rw [hHe]; exact hH
  have hS : va_S (gA G) s.heap H locs := by rw [hHe, hlo]; exact hS
  suffices hgo : W p l e rm_c_X4_init_n s m args below meth c H locs 0 0 Q (F0 m 0 ls []) by rw [hHe, hlo] at hgo; exact hgo
  clear hHe hlo hfr hav
  have f_0 := hts (.methodLink RX4 1 objectInit) (List.mem_of_getElem? (i := 1) rfl)
  have f_1 := hts (.instanceMethod objectInit) (List.mem_of_getElem? (i := 2) rfl)
  have f_2 := hts (.code objectInit ⟨#[0xb1]⟩ 1 none) (List.mem_of_getElem? (i := 3) rfl)
  have f_3 := hts (.fieldLink RX4 7 "StampDater$RightDay" "day" "I") (List.mem_of_getElem? (i := 4) rfl)
  have i_X4 : ∀ w ∈ u_ws RX4 TX4 4, w ∈ wsX4_init := by decide +kernel
  have f_5 := hts (.fieldLink RX4 13 "StampDater$RightDay" "prints" "I") (List.mem_of_getElem? (i := 5) rfl)
  have f_6 := hts (.fieldLink RX4 16 "StampDater$RightDay" "days" "I") (List.mem_of_getElem? (i := 6) rfl)
  have f_7 := hts (.fieldLink RX4 19 "StampDater$RightDay" "earlier" "LStampDater$RightDay;") (List.mem_of_getElem? (i := 7) rfl)
  refine lv_aload_n hx hb dX4_init_0 rfl (lv_at hl 0 rfl) ?_
  refine W.objInit hx hb hown f_0 f_1 f_2 rfl (hl.1.trans hml.symm) rfl dX4_init_1 (Nat.le_of_ble_eq_true rfl) (Nat.le_of_ble_eq_true rfl) ?_
  show W p l e rm_c_X4_init_n s m args below meth c H locs 0 0 Q (F0 m 4 ls [])
  refine lv_aload_n hx hb dX4_init_4 rfl (lv_at hl 0 rfl) ?_
  refine lv_iload_n hx hb dX4_init_5 rfl (lv_at hl 1 rfl) ?_
  refine m_putF (C := RX4) (T := TX4) (N := 4) (ci := 3) hx hb hts i_X4 tyX4 tyX4_ok nmX4 hown hK hH hS hB rfl 0 (by decide) f_3 rfl hin rfl rfl rfl (Nat.le_of_ble_eq_true rfl) dX4_init_6 (fun H locs hH hS => ?_)
  have hB : (hu μ b (.inr (3, [.int (iv dv), .int (iv 0), .int (iv 0), .null]))) b = some (.inr (3, [.int (iv dv), .int (iv 0), .int (iv 0), .null])) := hu_s
  have hH : gP G (hu μ b (.inr (3, [.int (iv dv), .int (iv 0), .int (iv 0), .null]))) n H := hH
  refine lv_aload_n hx hb dX4_init_9 rfl (lv_at hl 0 rfl) ?_
  refine lv_iload_n hx hb dX4_init_10 rfl (lv_at hl 2 rfl) ?_
  refine m_putF (C := RX4) (T := TX4) (N := 4) (ci := 3) hx hb hts i_X4 tyX4 tyX4_ok nmX4 hown hK hH hS hB rfl 1 (by decide) f_5 rfl hin rfl rfl rfl (Nat.le_of_ble_eq_true rfl) dX4_init_11 (fun H locs hH hS => ?_)
  have hB : (hu (hu μ b (.inr (3, [.int (iv dv), .int (iv 0), .int (iv 0), .null]))) b (.inr (3, [.int (iv dv), .int (iv cv), .int (iv 0), .null]))) b = some (.inr (3, [.int (iv dv), .int (iv cv), .int (iv 0), .null])) := hu_s
  have hH : gP G (hu (hu μ b (.inr (3, [.int (iv dv), .int (iv 0), .int (iv 0), .null]))) b (.inr (3, [.int (iv dv), .int (iv cv), .int (iv 0), .null]))) n H := hH
  refine lv_aload_n hx hb dX4_init_14 rfl (lv_at hl 0 rfl) ?_
  refine lv_aload_nN hx hb dX4_init_15 rfl (lv_at hl 3 rfl) ?_
  refine lv_ifnonnullN hx hb dX4_init_16 ?_
  refine j_const hx hb dX4_init_19 ?_
  refine lv_goto (tgt := 29) hx hb dX4_init_20 (by decide) ?_
  refine m_putF (C := RX4) (T := TX4) (N := 4) (ci := 3) hx hb hts i_X4 tyX4 tyX4_ok nmX4 hown hK hH hS hB rfl 2 (by decide) f_6 rfl hin rfl rfl rfl (Nat.le_of_ble_eq_true rfl) dX4_init_29 (fun H locs hH hS => ?_)
  have hB : (hu (hu (hu μ b (.inr (3, [.int (iv dv), .int (iv 0), .int (iv 0), .null]))) b (.inr (3, [.int (iv dv), .int (iv cv), .int (iv 0), .null]))) b (.inr (3, [.int (iv dv), .int (iv cv), .int (iv 1), .null]))) b = some (.inr (3, [.int (iv dv), .int (iv cv), .int (iv 1), .null])) := hu_s
  have hH : gP G (hu (hu (hu μ b (.inr (3, [.int (iv dv), .int (iv 0), .int (iv 0), .null]))) b (.inr (3, [.int (iv dv), .int (iv cv), .int (iv 0), .null]))) b (.inr (3, [.int (iv dv), .int (iv cv), .int (iv 1), .null]))) n H := hH
  refine lv_aload_n hx hb dX4_init_32 rfl (lv_at hl 0 rfl) ?_
  refine lv_aload_nN hx hb dX4_init_33 rfl (lv_at hl 3 rfl) ?_
  refine m_putF (C := RX4) (T := TX4) (N := 4) (ci := 3) hx hb hts i_X4 tyX4 tyX4_ok nmX4 hown hK hH hS hB rfl 3 (by decide) f_7 rfl hin rfl rfl rfl (Nat.le_of_ble_eq_true rfl) dX4_init_34 (fun H locs hH hS => ?_)
  have hB : (hu (hu (hu (hu μ b (.inr (3, [.int (iv dv), .int (iv 0), .int (iv 0), .null]))) b (.inr (3, [.int (iv dv), .int (iv cv), .int (iv 0), .null]))) b (.inr (3, [.int (iv dv), .int (iv cv), .int (iv 1), .null]))) b (.inr (3, [.int (iv dv), .int (iv cv), .int (iv 1), .null]))) b = some (.inr (3, [.int (iv dv), .int (iv cv), .int (iv 1), .null])) := hu_s
  have hH : gP G (hu (hu (hu (hu μ b (.inr (3, [.int (iv dv), .int (iv 0), .int (iv 0), .null]))) b (.inr (3, [.int (iv dv), .int (iv cv), .int (iv 0), .null]))) b (.inr (3, [.int (iv dv), .int (iv cv), .int (iv 1), .null]))) b (.inr (3, [.int (iv dv), .int (iv cv), .int (iv 1), .null]))) n H := hH
  subst hQ
  refine m_vret hx hb hr hlocks hH hS dX4_init_37 ?_
  exact ⟨by rw [hu_uu, hu_uu, hu_uu]; rfl, rfl⟩

abbrev rm_c_X4_init_s : Room := { frames := 1, cells := 0, slots := 0, locals := 20 }
set_option maxHeartbeats 4000000 in
set_option maxRecDepth 100000 in
theorem c_X4_init_s (l : Launch) (G : wG) (μ : hM) (n : Nat) (b : Nat) (dv cv dl : Int) (x y : Int) (av : Nat) (z : Option Nat) (hB : μ b = some (.inr (3, [.int (iv 0), .int (iv 0), .int (iv 0), .null]))) (hA : μ av = some (.inr (3, [.int (iv x), .int (iv y), .int (iv dl), va_rf z]))) (hab : av ≠ b) : Met l yX4_init wsX4_init rm_c_X4_init_s (mPc G μ n [.ref b, .int (iv dv), .int (iv cv), .ref av]) (mQv G (fun μ1 n1 => μ1 = hu μ b (.inr (3, [.int (iv dv), .int (iv cv), .int (iv (dl + 1)), va_rf (some av)])) ∧ n1 = n)) 0 0 (gA G) := by
  refine Met.ofW (cc := cX4_init) (maxL := 4) (ret := none) (by decide) rfl ?_
  intro p e s m args below meth c s₁ B hml hv
  obtain ⟨hav, hK, hH⟩ := hv
  have hx := B.exec
  have hb := B.bytes
  have hr := B.returns
  have hts := atoms_spec (ws := wsX4_init) B.pre
  have hown : s.vm.findClass RX4 = some m.cls := findClass_of_methodNamed B.named
  have hlocks := B.notSynchronized
  have hin : meth.name = "<init>" := (name_of_methodNamed B.named B.method).1
  have hS : va_S (gA G) s.heap s.heap [] := va_S.rf
  have hl := lv_entry ([.ref b, .int (iv dv), .int (iv cv), .ref av]) (n := 4) (Nat.le_of_ble_eq_true rfl)
  have hfr : entryFrame m args 4 = entryFrame m ([.ref b, .int (iv dv), .int (iv cv), .ref av] : List Value).toArray 4 := by rw [hav]
  rw [hfr, lg_entry_eq]
  generalize (lg_sl ([.ref b, .int (iv dv), .int (iv cv), .ref av]) ++ List.replicate (4 - (lg_sl ([.ref b, .int (iv dv), .int (iv cv), .ref av])).length) Slot.unset).toArray = ls at hl ⊢
  have hl : lv_has ls 4 [(0, .ref b), (1, .int (iv dv)), (2, .int (iv cv)), (3, .ref av)] := hl
  generalize hQ : MQ below _ args s 0 0 (gA G) = Q
  show W p l e rm_c_X4_init_s s m args below meth c s.heap [] 0 0 Q (F0 m 0 ls [])
  obtain ⟨H, hHe⟩ : ∃ H, H = s.heap := ⟨_, rfl⟩
  obtain ⟨locs, hlo⟩ : ∃ q : List Loc, q = [] := ⟨_, rfl⟩
  have hH : gP G μ n H := by rw [hHe]; exact hH
  have hS : va_S (gA G) s.heap H locs := by rw [hHe, hlo]; exact hS
  suffices hgo : W p l e rm_c_X4_init_s s m args below meth c H locs 0 0 Q (F0 m 0 ls []) by rw [hHe, hlo] at hgo; exact hgo
  clear hHe hlo hfr hav
  have f_0 := hts (.methodLink RX4 1 objectInit) (List.mem_of_getElem? (i := 1) rfl)
  have f_1 := hts (.instanceMethod objectInit) (List.mem_of_getElem? (i := 2) rfl)
  have f_2 := hts (.code objectInit ⟨#[0xb1]⟩ 1 none) (List.mem_of_getElem? (i := 3) rfl)
  have f_3 := hts (.fieldLink RX4 7 "StampDater$RightDay" "day" "I") (List.mem_of_getElem? (i := 4) rfl)
  have i_X4 : ∀ w ∈ u_ws RX4 TX4 4, w ∈ wsX4_init := by decide +kernel
  have f_5 := hts (.fieldLink RX4 13 "StampDater$RightDay" "prints" "I") (List.mem_of_getElem? (i := 5) rfl)
  have f_6 := hts (.fieldLink RX4 16 "StampDater$RightDay" "days" "I") (List.mem_of_getElem? (i := 6) rfl)
  have f_7 := hts (.fieldLink RX4 19 "StampDater$RightDay" "earlier" "LStampDater$RightDay;") (List.mem_of_getElem? (i := 7) rfl)
  refine lv_aload_n hx hb dX4_init_0 rfl (lv_at hl 0 rfl) ?_
  refine W.objInit hx hb hown f_0 f_1 f_2 rfl (hl.1.trans hml.symm) rfl dX4_init_1 (Nat.le_of_ble_eq_true rfl) (Nat.le_of_ble_eq_true rfl) ?_
  show W p l e rm_c_X4_init_s s m args below meth c H locs 0 0 Q (F0 m 4 ls [])
  refine lv_aload_n hx hb dX4_init_4 rfl (lv_at hl 0 rfl) ?_
  refine lv_iload_n hx hb dX4_init_5 rfl (lv_at hl 1 rfl) ?_
  refine m_putF (C := RX4) (T := TX4) (N := 4) (ci := 3) hx hb hts i_X4 tyX4 tyX4_ok nmX4 hown hK hH hS hB rfl 0 (by decide) f_3 rfl hin rfl rfl rfl (Nat.le_of_ble_eq_true rfl) dX4_init_6 (fun H locs hH hS => ?_)
  have hA := hu_n' (a := b) (e := (.inr (3, [.int (iv dv), .int (iv 0), .int (iv 0), .null]))) (by omega) hA
  have hB : (hu μ b (.inr (3, [.int (iv dv), .int (iv 0), .int (iv 0), .null]))) b = some (.inr (3, [.int (iv dv), .int (iv 0), .int (iv 0), .null])) := hu_s
  have hH : gP G (hu μ b (.inr (3, [.int (iv dv), .int (iv 0), .int (iv 0), .null]))) n H := hH
  refine lv_aload_n hx hb dX4_init_9 rfl (lv_at hl 0 rfl) ?_
  refine lv_iload_n hx hb dX4_init_10 rfl (lv_at hl 2 rfl) ?_
  refine m_putF (C := RX4) (T := TX4) (N := 4) (ci := 3) hx hb hts i_X4 tyX4 tyX4_ok nmX4 hown hK hH hS hB rfl 1 (by decide) f_5 rfl hin rfl rfl rfl (Nat.le_of_ble_eq_true rfl) dX4_init_11 (fun H locs hH hS => ?_)
  have hA := hu_n' (a := b) (e := (.inr (3, [.int (iv dv), .int (iv cv), .int (iv 0), .null]))) (by omega) hA
  have hB : (hu (hu μ b (.inr (3, [.int (iv dv), .int (iv 0), .int (iv 0), .null]))) b (.inr (3, [.int (iv dv), .int (iv cv), .int (iv 0), .null]))) b = some (.inr (3, [.int (iv dv), .int (iv cv), .int (iv 0), .null])) := hu_s
  have hH : gP G (hu (hu μ b (.inr (3, [.int (iv dv), .int (iv 0), .int (iv 0), .null]))) b (.inr (3, [.int (iv dv), .int (iv cv), .int (iv 0), .null]))) n H := hH
  refine lv_aload_n hx hb dX4_init_14 rfl (lv_at hl 0 rfl) ?_
  refine lv_aload_n hx hb dX4_init_15 rfl (lv_at hl 3 rfl) ?_
  refine lv_ifnonnull (tgt := 23) hx hb dX4_init_16 (by decide) ?_
  refine lv_aload_n hx hb dX4_init_23 rfl (lv_at hl 3 rfl) ?_
  refine m_get (C := RX4) (T := TX4) (N := 4) (ci := 3) hx hb hts i_X4 hown hK hH hA rfl 2 (by decide) f_6 rfl dX4_init_24 ?_
  refine j_const hx hb dX4_init_27 ?_
  refine j_iadd hx hb dX4_init_28 ?_
  refine m_putF (C := RX4) (T := TX4) (N := 4) (ci := 3) hx hb hts i_X4 tyX4 tyX4_ok nmX4 hown hK hH hS hB rfl 2 (by decide) f_6 rfl hin rfl rfl rfl (Nat.le_of_ble_eq_true rfl) dX4_init_29 (fun H locs hH hS => ?_)
  have hA := hu_n' (a := b) (e := (.inr (3, [.int (iv dv), .int (iv cv), .int (iv (dl + 1)), .null]))) (by omega) hA
  have hB : (hu (hu (hu μ b (.inr (3, [.int (iv dv), .int (iv 0), .int (iv 0), .null]))) b (.inr (3, [.int (iv dv), .int (iv cv), .int (iv 0), .null]))) b (.inr (3, [.int (iv dv), .int (iv cv), .int (iv (dl + 1)), .null]))) b = some (.inr (3, [.int (iv dv), .int (iv cv), .int (iv (dl + 1)), .null])) := hu_s
  have hH : gP G (hu (hu (hu μ b (.inr (3, [.int (iv dv), .int (iv 0), .int (iv 0), .null]))) b (.inr (3, [.int (iv dv), .int (iv cv), .int (iv 0), .null]))) b (.inr (3, [.int (iv dv), .int (iv cv), .int (iv (dl + 1)), .null]))) n H := hH
  refine lv_aload_n hx hb dX4_init_32 rfl (lv_at hl 0 rfl) ?_
  refine lv_aload_n hx hb dX4_init_33 rfl (lv_at hl 3 rfl) ?_
  refine m_putF (C := RX4) (T := TX4) (N := 4) (ci := 3) hx hb hts i_X4 tyX4 tyX4_ok nmX4 hown hK hH hS hB rfl 3 (by decide) f_7 rfl hin rfl rfl rfl (Nat.le_of_ble_eq_true rfl) dX4_init_34 (fun H locs hH hS => ?_)
  have hA := hu_n' (a := b) (e := (.inr (3, [.int (iv dv), .int (iv cv), .int (iv (dl + 1)), .ref av]))) (by omega) hA
  have hB : (hu (hu (hu (hu μ b (.inr (3, [.int (iv dv), .int (iv 0), .int (iv 0), .null]))) b (.inr (3, [.int (iv dv), .int (iv cv), .int (iv 0), .null]))) b (.inr (3, [.int (iv dv), .int (iv cv), .int (iv (dl + 1)), .null]))) b (.inr (3, [.int (iv dv), .int (iv cv), .int (iv (dl + 1)), .ref av]))) b = some (.inr (3, [.int (iv dv), .int (iv cv), .int (iv (dl + 1)), .ref av])) := hu_s
  have hH : gP G (hu (hu (hu (hu μ b (.inr (3, [.int (iv dv), .int (iv 0), .int (iv 0), .null]))) b (.inr (3, [.int (iv dv), .int (iv cv), .int (iv 0), .null]))) b (.inr (3, [.int (iv dv), .int (iv cv), .int (iv (dl + 1)), .null]))) b (.inr (3, [.int (iv dv), .int (iv cv), .int (iv (dl + 1)), .ref av]))) n H := hH
  subst hQ
  refine m_vret hx hb hr hlocks hH hS dX4_init_37 ?_
  exact ⟨by rw [hu_uu, hu_uu, hu_uu]; rfl, rfl⟩

abbrev rm_c_X4_init : Room := rm_c_X4_init_n
theorem c_X4_init (l : Launch) (G : wG) (μ : hM) (n : Nat) (b : Nat) (dv cv dl : Int) (ev : Option Nat) (hB : μ b = some (.inr (3, [.int (iv 0), .int (iv 0), .int (iv 0), .null]))) (hE0 : ev = none → dl = 0) (hE : ∀ a, ev = some a → a ≠ b ∧ ∃ (x y : Int) (z : Option Nat), μ a = some (.inr (3, [.int (iv x), .int (iv y), .int (iv dl), va_rf z]))) : Met l yX4_init wsX4_init rm_c_X4_init (mPc G μ n [.ref b, .int (iv dv), .int (iv cv), va_rf ev]) (mQv G (fun μ1 n1 => μ1 = hu μ b (.inr (3, [.int (iv dv), .int (iv cv), .int (iv (dl + 1)), va_rf ev])) ∧ n1 = n)) 0 0 (gA G) := by
  cases ev with
  | none =>
    have h0 := hE0 rfl
    subst h0
    exact c_X4_init_n l G μ n b dv cv hB
  | some a =>
    obtain ⟨h1, x, y, z, h2⟩ := hE a rfl
    exact c_X4_init_s l G μ n b dv cv dl x y a z hB h2 h1

abbrev rm_c_X6_isKnownPrint : Room := { frames := 0, cells := 0, slots := 0, locals := 0 }
set_option maxHeartbeats 4000000 in
set_option maxRecDepth 100000 in
theorem c_X6_isKnownPrint (l : Launch) (G : wG) (μ : hM) (n : Nat) (sa : Nat) (π : Nat → Nat) (σ : Nat → Int) (fp sp : Int) (rd : Option Nat) (i : Int) (hZ : IsState G μ sa π σ fp sp rd) (hT : OkT σ) (hi1 : -2147483648 ≤ i ∧ i ≤ 2147483647) : Met l yX6_isKnownPrint wsX6_isKnownPrint rm_c_X6_isKnownPrint (mPc G μ n [.ref sa, .int (iv i)]) (mQi G (fun z μ1 n1 => z = (if 0 ≤ i ∧ i < 12 ∧ i < σ 5 then 1 else 0) ∧ μ1 = μ ∧ n1 = n)) 0 0 (gA G) := by
  refine Met.ofW (cc := cX6_isKnownPrint) (maxL := 2) (ret := (some .boolean)) (by decide) rfl ?_
  intro p e s m args below meth c s₁ B hml hv
  obtain ⟨hav, hK, hH⟩ := hv
  have hx := B.exec
  have hb := B.bytes
  have hr := B.returns
  have hts := atoms_spec (ws := wsX6_isKnownPrint) B.pre
  have hown : s.vm.findClass RX6 = some m.cls := findClass_of_methodNamed B.named
  have hlocks := B.notSynchronized
  have hS : va_S (gA G) s.heap s.heap [] := va_S.rf
  have hl := lv_entry ([.ref sa, .int (iv i)]) (n := 2) (Nat.le_of_ble_eq_true rfl)
  have hfr : entryFrame m args 2 = entryFrame m ([.ref sa, .int (iv i)] : List Value).toArray 2 := by rw [hav]
  rw [hfr, lg_entry_eq]
  generalize (lg_sl ([.ref sa, .int (iv i)]) ++ List.replicate (2 - (lg_sl ([.ref sa, .int (iv i)])).length) Slot.unset).toArray = ls at hl ⊢
  have hl : lv_has ls 2 [(0, .ref sa), (1, .int (iv i))] := hl
  generalize hQ : MQ below _ args s 0 0 (gA G) = Q
  show W p l e rm_c_X6_isKnownPrint s m args below meth c s.heap [] 0 0 Q (F0 m 0 ls [])
  obtain ⟨H, hHe⟩ : ∃ H, H = s.heap := ⟨_, rfl⟩
  obtain ⟨locs, hlo⟩ : ∃ q : List Loc, q = [] := ⟨_, rfl⟩
  have hH : gP G μ n H := by rw [hHe]; exact hH
  have hS : va_S (gA G) s.heap H locs := by rw [hHe, hlo]; exact hS
  suffices hgo : W p l e rm_c_X6_isKnownPrint s m args below meth c H locs 0 0 Q (F0 m 0 ls []) by rw [hHe, hlo] at hgo; exact hgo
  clear hHe hlo hfr hav
  have f_0 := hts (.fieldLink RX6 37 "StampDater$State" "printed" "I") (List.mem_of_getElem? (i := 1) rfl)
  have i_X6 : ∀ w ∈ u_ws RX6 TX6 8, w ∈ wsX6_isKnownPrint := by decide +kernel
  have h5 := hT.2.2.1
  refine lv_iload_n hx hb dX6_isKnownPrint_0 rfl (lv_at hl 1 rfl) ?_
  refine j_if_lt (tgt := 22) hx hb dX6_isKnownPrint_1 (by decide) (fun c1 => ?_) (fun c1 => ?_) (by omega)
  · skip
    refine j_const hx hb dX6_isKnownPrint_22 ?_
    subst hQ
    refine m_zret hx hb hr hlocks hH hS dX6_isKnownPrint_23 ?_ (by omega)
    refine ⟨?_, rfl, rfl⟩
    split <;> omega
  · skip
    refine lv_iload_n hx hb dX6_isKnownPrint_4 rfl (lv_at hl 1 rfl) ?_
    refine j_bipush hx hb dX6_isKnownPrint_5 ?_ (by decide)
    refine j_icmp_ge (tgt := 22) hx hb dX6_isKnownPrint_7 (by decide) (fun c2 => ?_) (fun c2 => ?_) (by omega) (by omega)
    · skip
      refine j_const hx hb dX6_isKnownPrint_22 ?_
      subst hQ
      refine m_zret hx hb hr hlocks hH hS dX6_isKnownPrint_23 ?_ (by omega)
      refine ⟨?_, rfl, rfl⟩
      split <;> omega
    · skip
      refine lv_iload_n hx hb dX6_isKnownPrint_10 rfl (lv_at hl 1 rfl) ?_
      refine lv_aload_n hx hb dX6_isKnownPrint_11 rfl (lv_at hl 0 rfl) ?_
      refine m_get (C := RX6) (T := TX6) (N := 8) (ci := 5) hx hb hts i_X6 hown hK hH hZ.1 rfl 3 (by decide) f_0 rfl dX6_isKnownPrint_12 ?_
      refine j_icmp_ge (tgt := 22) hx hb dX6_isKnownPrint_15 (by decide) (fun c3 => ?_) (fun c3 => ?_) (by omega) (by omega)
      · skip
        refine j_const hx hb dX6_isKnownPrint_22 ?_
        subst hQ
        refine m_zret hx hb hr hlocks hH hS dX6_isKnownPrint_23 ?_ (by omega)
        refine ⟨?_, rfl, rfl⟩
        split <;> omega
      · skip
        refine j_const hx hb dX6_isKnownPrint_18 ?_
        refine lv_goto (tgt := 23) hx hb dX6_isKnownPrint_19 (by decide) ?_
        subst hQ
        refine m_zret hx hb hr hlocks hH hS dX6_isKnownPrint_23 ?_ (by omega)
        refine ⟨?_, rfl, rfl⟩
        split <;> omega

abbrev rm_c_X6_rowOfPrint : Room := { frames := 1, cells := 0, slots := 0, locals := 22 }
set_option maxHeartbeats 4000000 in
set_option maxRecDepth 100000 in
theorem c_X6_rowOfPrint (l : Launch) (G : wG) (μ : hM) (n : Nat) (sa : Nat) (π : Nat → Nat) (σ : Nat → Int) (fp sp : Int) (rd : Option Nat) (i : Int) (hZ1 : μ sa = some (stcell sa σ rd)) (h5 : 0 ≤ σ 5 ∧ σ 5 ≤ 2000000000) (hi1 : -1 ≤ i ∧ i ≤ 1000) : Met l yX6_rowOfPrint wsX6_rowOfPrint rm_c_X6_rowOfPrint (mPc G μ n [.ref sa, .int (iv i)]) (mQi G (fun z μ1 n1 => z = (σ 5 - 1 - i) % 12 ∧ μ1 = μ ∧ n1 = n)) 0 0 (gA G) := by
  refine Met.ofW (cc := cX6_rowOfPrint) (maxL := 2) (ret := (some .int)) (by decide) rfl ?_
  intro p e s m args below meth c s₁ B hml hv
  obtain ⟨hav, hK, hH⟩ := hv
  have hx := B.exec
  have hb := B.bytes
  have hr := B.returns
  have hts := atoms_spec (ws := wsX6_rowOfPrint) B.pre
  have hown : s.vm.findClass RX6 = some m.cls := findClass_of_methodNamed B.named
  have hlocks := B.notSynchronized
  have hS : va_S (gA G) s.heap s.heap [] := va_S.rf
  have hl := lv_entry ([.ref sa, .int (iv i)]) (n := 2) (Nat.le_of_ble_eq_true rfl)
  have hfr : entryFrame m args 2 = entryFrame m ([.ref sa, .int (iv i)] : List Value).toArray 2 := by rw [hav]
  rw [hfr, lg_entry_eq]
  generalize (lg_sl ([.ref sa, .int (iv i)]) ++ List.replicate (2 - (lg_sl ([.ref sa, .int (iv i)])).length) Slot.unset).toArray = ls at hl ⊢
  have hl : lv_has ls 2 [(0, .ref sa), (1, .int (iv i))] := hl
  generalize hQ : MQ below _ args s 0 0 (gA G) = Q
  show W p l e rm_c_X6_rowOfPrint s m args below meth c s.heap [] 0 0 Q (F0 m 0 ls [])
  obtain ⟨H, hHe⟩ : ∃ H, H = s.heap := ⟨_, rfl⟩
  obtain ⟨locs, hlo⟩ : ∃ q : List Loc, q = [] := ⟨_, rfl⟩
  have hH : gP G μ n H := by rw [hHe]; exact hH
  have hS : va_S (gA G) s.heap H locs := by rw [hHe, hlo]; exact hS
  suffices hgo : W p l e rm_c_X6_rowOfPrint s m args below meth c H locs 0 0 Q (F0 m 0 ls []) by rw [hHe, hlo] at hgo; exact hgo
  clear hHe hlo hfr hav
  have f_0 := hts (.fieldLink RX6 37 "StampDater$State" "printed" "I") (List.mem_of_getElem? (i := 1) rfl)
  have i_X6 : ∀ w ∈ u_ws RX6 TX6 8, w ∈ wsX6_rowOfPrint := by decide +kernel
  refine lv_aload_n hx hb dX6_rowOfPrint_0 rfl (lv_at hl 0 rfl) ?_
  refine m_get (C := RX6) (T := TX6) (N := 8) (ci := 5) hx hb hts i_X6 hown hK hH hZ1 rfl 3 (by decide) f_0 rfl dX6_rowOfPrint_1 ?_
  refine j_const hx hb dX6_rowOfPrint_4 ?_
  refine j_isub hx hb dX6_rowOfPrint_5 ?_
  refine lv_iload_n hx hb dX6_rowOfPrint_6 rfl (lv_at hl 1 rfl) ?_
  refine j_isub hx hb dX6_rowOfPrint_7 ?_
  refine j_bipush hx hb dX6_rowOfPrint_8 ?_ (by decide)
  refine m_callSi (As := [.int (iv (((σ 5) - 1) - i)), .int (iv 12)]) (rest := []) ⟨hx, hb, hml, hown, hts⟩ hK hH hS (c_J9_floorMod_7cf53 l G μ n (((σ 5) - 1) - i) 12 (by omega) (by omega)) (va_cwS 2 hts gX6_rowOfPrint_J9_floorMod_7cf53 rfl rfl rfl (by decide +kernel) ⟨(Nat.le_of_ble_eq_true rfl), (Nat.le_of_ble_eq_true rfl)⟩) rfl rfl hl.1 (Nat.le_of_ble_eq_true rfl) dX6_rowOfPrint_10 ⟨Nat.zero_le _, Nat.zero_le _⟩ (fun z4 μ1 n2 H locs hz4 hp3 hH hS => ?_)
  obtain ⟨hz2, hm2, hn2⟩ := hp3; rw [hz2]; rw [hm2, hn2] at hH; clear hz2 hm2 hn2
  subst hQ
  refine m_iret hx hb hr hlocks hH hS dX6_rowOfPrint_13 ?_ (by omega)
  exact ⟨rfl, rfl, rfl⟩

abbrev rm_c_X6_countPrint : Room := { frames := 1, cells := 0, slots := 0, locals := 20 }
set_option maxHeartbeats 4000000 in
set_option maxRecDepth 100000 in
theorem c_X6_countPrint (l : Launch) (G : wG) (μ : hM) (n : Nat) (sa : Nat) (π : Nat → Nat) (σ : Nat → Int) (fp sp : Int) (rd : Option Nat) (b : Nat) (x0 x1 x4 x5 : Int) (f g : Nat) (hZ1 : μ sa = some (stcell sa σ rd)) (hB : μ b = some (.inr (2, [.int (iv x0), .int (iv x1), .int (iv (f : Int)), .int (iv (g : Int)), .int (iv x4), .int (iv x5)]))) (hf : f < 64) (hg : g < 64) (h4 : 0 ≤ x4 ∧ x4 ≤ 1) : Met l yX6_countPrint wsX6_countPrint rm_c_X6_countPrint (mPc G μ n [.ref sa, .ref b]) (mQv G (fun μ1 n1 => μ1 = hu μ sa (.inr (5, [.ref (sa + 1), .ref (sa + 16), .int (iv (σ 3)), .int (iv (σ 5 + 1)), .int (iv (σ 6 + x4)), .int (iv (σ 7 + (pc6 f : Int))), .int (iv (σ 8 + (pc6 g : Int))), va_rf rd])) ∧ n1 = n)) 0 0 (gA G) := by
  refine Met.ofW (cc := cX6_countPrint) (maxL := 2) (ret := none) (by decide) rfl ?_
  intro p e s m args below meth c s₁ B hml hv
  obtain ⟨hav, hK, hH⟩ := hv
  have hx := B.exec
  have hb := B.bytes
  have hr := B.returns
  have hts := atoms_spec (ws := wsX6_countPrint) B.pre
  have hown : s.vm.findClass RX6 = some m.cls := findClass_of_methodNamed B.named
  have hlocks := B.notSynchronized
  have hS : va_S (gA G) s.heap s.heap [] := va_S.rf
  have hl := lv_entry ([.ref sa, .ref b]) (n := 2) (Nat.le_of_ble_eq_true rfl)
  have hfr : entryFrame m args 2 = entryFrame m ([.ref sa, .ref b] : List Value).toArray 2 := by rw [hav]
  rw [hfr, lg_entry_eq]
  generalize (lg_sl ([.ref sa, .ref b]) ++ List.replicate (2 - (lg_sl ([.ref sa, .ref b])).length) Slot.unset).toArray = ls at hl ⊢
  have hl : lv_has ls 2 [(0, .ref sa), (1, .ref b)] := hl
  generalize hQ : MQ below _ args s 0 0 (gA G) = Q
  show W p l e rm_c_X6_countPrint s m args below meth c s.heap [] 0 0 Q (F0 m 0 ls [])
  obtain ⟨H, hHe⟩ : ∃ H, H = s.heap := ⟨_, rfl⟩
  obtain ⟨locs, hlo⟩ : ∃ q : List Loc, q = [] := ⟨_, rfl⟩
  have hH : gP G μ n H := by rw [hHe]; exact hH
  have hS : va_S (gA G) s.heap H locs := by rw [hHe, hlo]; exact hS
  suffices hgo : W p l e rm_c_X6_countPrint s m args below meth c H locs 0 0 Q (F0 m 0 ls []) by rw [hHe, hlo] at hgo; exact hgo
  clear hHe hlo hfr hav
  have f_0 := hts (.fieldLink RX6 37 "StampDater$State" "printed" "I") (List.mem_of_getElem? (i := 1) rfl)
  have i_X6 : ∀ w ∈ u_ws RX6 TX6 8, w ∈ wsX6_countPrint := by decide +kernel
  have f_2 := hts (.fieldLink RX6 40 "StampDater$State" "right" "I") (List.mem_of_getElem? (i := 2) rfl)
  have f_3 := hts (.fieldLink RX6 73 "StampDater$Print" "right" "Z") (List.mem_of_getElem? (i := 3) rfl)
  have i_X3 : ∀ w ∈ u_ws RX3 TX3 6, w ∈ wsX6_countPrint := by decide +kernel
  have f_5 := hts (.fieldLink RX6 43 "StampDater$State" "faint" "I") (List.mem_of_getElem? (i := 4) rfl)
  have f_6 := hts (.fieldLink RX6 82 "StampDater$Print" "faint" "I") (List.mem_of_getElem? (i := 5) rfl)
  have f_7 := hts (.fieldLink RX6 46 "StampDater$State" "smudged" "I") (List.mem_of_getElem? (i := 6) rfl)
  have f_8 := hts (.fieldLink RX6 86 "StampDater$Print" "smudged" "I") (List.mem_of_getElem? (i := 7) rfl)
  have hne : b ≠ sa := fun q => by rw [q, hZ1] at hB; cases hB
  refine lv_aload_n hx hb dX6_countPrint_0 rfl (lv_at hl 0 rfl) ?_
  refine lv_dup hx hb dX6_countPrint_1 rfl ?_
  refine m_get (C := RX6) (T := TX6) (N := 8) (ci := 5) hx hb hts i_X6 hown hK hH hZ1 rfl 3 (by decide) f_0 rfl dX6_countPrint_2 ?_
  refine j_const hx hb dX6_countPrint_5 ?_
  refine j_iadd hx hb dX6_countPrint_6 ?_
  refine m_put (C := RX6) (T := TX6) (N := 8) (ci := 5) hx hb hts i_X6 tyX6 tyX6_ok nmX6 hown hK hH hS hZ1 rfl 3 (by decide) f_0 rfl rfl rfl (Nat.le_of_ble_eq_true rfl) dX6_countPrint_7 (fun H locs hH hS => ?_)
  have hB := hu_n' (a := sa) (e := (.inr (5, [.ref (sa + 1), .ref (sa + 16), .int (iv (σ 3)), .int (iv ((σ 5) + 1)), .int (iv (σ 6)), .int (iv (σ 7)), .int (iv (σ 8)), va_rf rd]))) (by omega) hB
  have hZ1 : (hu μ sa (.inr (5, [.ref (sa + 1), .ref (sa + 16), .int (iv (σ 3)), .int (iv ((σ 5) + 1)), .int (iv (σ 6)), .int (iv (σ 7)), .int (iv (σ 8)), va_rf rd]))) sa = some (.inr (5, [.ref (sa + 1), .ref (sa + 16), .int (iv (σ 3)), .int (iv ((σ 5) + 1)), .int (iv (σ 6)), .int (iv (σ 7)), .int (iv (σ 8)), va_rf rd])) := hu_s
  have hH : gP G (hu μ sa (.inr (5, [.ref (sa + 1), .ref (sa + 16), .int (iv (σ 3)), .int (iv ((σ 5) + 1)), .int (iv (σ 6)), .int (iv (σ 7)), .int (iv (σ 8)), va_rf rd]))) n H := hH
  refine lv_aload_n hx hb dX6_countPrint_10 rfl (lv_at hl 0 rfl) ?_
  refine lv_dup hx hb dX6_countPrint_11 rfl ?_
  refine m_get (C := RX6) (T := TX6) (N := 8) (ci := 5) hx hb hts i_X6 hown hK hH hZ1 rfl 4 (by decide) f_2 rfl dX6_countPrint_12 ?_
  refine lv_aload_n hx hb dX6_countPrint_15 rfl (lv_at hl 1 rfl) ?_
  refine m_get (C := RX3) (T := TX3) (N := 6) (ci := 2) hx hb hts i_X3 hown hK hH hB rfl 4 (by decide) f_3 rfl dX6_countPrint_16 ?_
  refine j_if_eq (tgt := 26) hx hb dX6_countPrint_19 (by decide) (fun c1 => ?_) (fun c1 => ?_) (by omega)
  · skip
    refine j_const hx hb dX6_countPrint_26 ?_
    refine j_norm (y := x4) (by omega) ?_
    refine j_iadd hx hb dX6_countPrint_27 ?_
    refine m_put (C := RX6) (T := TX6) (N := 8) (ci := 5) hx hb hts i_X6 tyX6 tyX6_ok nmX6 hown hK hH hS hZ1 rfl 4 (by decide) f_2 rfl rfl rfl (Nat.le_of_ble_eq_true rfl) dX6_countPrint_28 (fun H locs hH hS => ?_)
    have hB := hu_n' (a := sa) (e := (.inr (5, [.ref (sa + 1), .ref (sa + 16), .int (iv (σ 3)), .int (iv ((σ 5) + 1)), .int (iv ((σ 6) + x4)), .int (iv (σ 7)), .int (iv (σ 8)), va_rf rd]))) (by omega) hB
    have hZ1 : (hu (hu μ sa (.inr (5, [.ref (sa + 1), .ref (sa + 16), .int (iv (σ 3)), .int (iv ((σ 5) + 1)), .int (iv (σ 6)), .int (iv (σ 7)), .int (iv (σ 8)), va_rf rd]))) sa (.inr (5, [.ref (sa + 1), .ref (sa + 16), .int (iv (σ 3)), .int (iv ((σ 5) + 1)), .int (iv ((σ 6) + x4)), .int (iv (σ 7)), .int (iv (σ 8)), va_rf rd]))) sa = some (.inr (5, [.ref (sa + 1), .ref (sa + 16), .int (iv (σ 3)), .int (iv ((σ 5) + 1)), .int (iv ((σ 6) + x4)), .int (iv (σ 7)), .int (iv (σ 8)), va_rf rd])) := hu_s
    have hH : gP G (hu (hu μ sa (.inr (5, [.ref (sa + 1), .ref (sa + 16), .int (iv (σ 3)), .int (iv ((σ 5) + 1)), .int (iv (σ 6)), .int (iv (σ 7)), .int (iv (σ 8)), va_rf rd]))) sa (.inr (5, [.ref (sa + 1), .ref (sa + 16), .int (iv (σ 3)), .int (iv ((σ 5) + 1)), .int (iv ((σ 6) + x4)), .int (iv (σ 7)), .int (iv (σ 8)), va_rf rd]))) n H := hH
    refine lv_aload_n hx hb dX6_countPrint_31 rfl (lv_at hl 0 rfl) ?_
    refine lv_dup hx hb dX6_countPrint_32 rfl ?_
    refine m_get (C := RX6) (T := TX6) (N := 8) (ci := 5) hx hb hts i_X6 hown hK hH hZ1 rfl 5 (by decide) f_5 rfl dX6_countPrint_33 ?_
    refine lv_aload_n hx hb dX6_countPrint_36 rfl (lv_at hl 1 rfl) ?_
    refine m_get (C := RX3) (T := TX3) (N := 6) (ci := 2) hx hb hts i_X3 hown hK hH hB rfl 2 (by decide) f_6 rfl dX6_countPrint_37 ?_
    refine m_callSi (As := [.int (iv (f : Int))]) (rest := [.int (iv (σ 7)), .ref sa]) ⟨hx, hb, hml, hown, hts⟩ hK hH hS (c_J6_bitCount_0f7a4 l G (hu (hu μ sa (.inr (5, [.ref (sa + 1), .ref (sa + 16), .int (iv (σ 3)), .int (iv ((σ 5) + 1)), .int (iv (σ 6)), .int (iv (σ 7)), .int (iv (σ 8)), va_rf rd]))) sa (.inr (5, [.ref (sa + 1), .ref (sa + 16), .int (iv (σ 3)), .int (iv ((σ 5) + 1)), .int (iv ((σ 6) + x4)), .int (iv (σ 7)), .int (iv (σ 8)), va_rf rd]))) n f (by omega)) (va_cwS 1 hts gX6_countPrint_J6_bitCount_0f7a4 rfl rfl rfl (by decide +kernel) ⟨(Nat.le_of_ble_eq_true rfl), (Nat.le_of_ble_eq_true rfl)⟩) rfl rfl hl.1 (Nat.le_of_ble_eq_true rfl) dX6_countPrint_40 ⟨Nat.zero_le _, Nat.zero_le _⟩ (fun z5 μ2 n3 H locs hz5 hp4 hH hS => ?_)
    obtain ⟨hz2, hm2, hn2⟩ := hp4; rw [hz2]; rw [hm2, hn2] at hH; clear hz2 hm2 hn2
    refine j_iadd hx hb dX6_countPrint_43 ?_
    refine m_put (C := RX6) (T := TX6) (N := 8) (ci := 5) hx hb hts i_X6 tyX6 tyX6_ok nmX6 hown hK hH hS hZ1 rfl 5 (by decide) f_5 rfl rfl rfl (Nat.le_of_ble_eq_true rfl) dX6_countPrint_44 (fun H locs hH hS => ?_)
    have hB := hu_n' (a := sa) (e := (.inr (5, [.ref (sa + 1), .ref (sa + 16), .int (iv (σ 3)), .int (iv ((σ 5) + 1)), .int (iv ((σ 6) + x4)), .int (iv ((σ 7) + ((pc6 f : Nat) : Int))), .int (iv (σ 8)), va_rf rd]))) (by omega) hB
    have hZ1 : (hu (hu (hu μ sa (.inr (5, [.ref (sa + 1), .ref (sa + 16), .int (iv (σ 3)), .int (iv ((σ 5) + 1)), .int (iv (σ 6)), .int (iv (σ 7)), .int (iv (σ 8)), va_rf rd]))) sa (.inr (5, [.ref (sa + 1), .ref (sa + 16), .int (iv (σ 3)), .int (iv ((σ 5) + 1)), .int (iv ((σ 6) + x4)), .int (iv (σ 7)), .int (iv (σ 8)), va_rf rd]))) sa (.inr (5, [.ref (sa + 1), .ref (sa + 16), .int (iv (σ 3)), .int (iv ((σ 5) + 1)), .int (iv ((σ 6) + x4)), .int (iv ((σ 7) + ((pc6 f : Nat) : Int))), .int (iv (σ 8)), va_rf rd]))) sa = some (.inr (5, [.ref (sa + 1), .ref (sa + 16), .int (iv (σ 3)), .int (iv ((σ 5) + 1)), .int (iv ((σ 6) + x4)), .int (iv ((σ 7) + ((pc6 f : Nat) : Int))), .int (iv (σ 8)), va_rf rd])) := hu_s
    have hH : gP G (hu (hu (hu μ sa (.inr (5, [.ref (sa + 1), .ref (sa + 16), .int (iv (σ 3)), .int (iv ((σ 5) + 1)), .int (iv (σ 6)), .int (iv (σ 7)), .int (iv (σ 8)), va_rf rd]))) sa (.inr (5, [.ref (sa + 1), .ref (sa + 16), .int (iv (σ 3)), .int (iv ((σ 5) + 1)), .int (iv ((σ 6) + x4)), .int (iv (σ 7)), .int (iv (σ 8)), va_rf rd]))) sa (.inr (5, [.ref (sa + 1), .ref (sa + 16), .int (iv (σ 3)), .int (iv ((σ 5) + 1)), .int (iv ((σ 6) + x4)), .int (iv ((σ 7) + ((pc6 f : Nat) : Int))), .int (iv (σ 8)), va_rf rd]))) n H := hH
    refine lv_aload_n hx hb dX6_countPrint_47 rfl (lv_at hl 0 rfl) ?_
    refine lv_dup hx hb dX6_countPrint_48 rfl ?_
    refine m_get (C := RX6) (T := TX6) (N := 8) (ci := 5) hx hb hts i_X6 hown hK hH hZ1 rfl 6 (by decide) f_7 rfl dX6_countPrint_49 ?_
    refine lv_aload_n hx hb dX6_countPrint_52 rfl (lv_at hl 1 rfl) ?_
    refine m_get (C := RX3) (T := TX3) (N := 6) (ci := 2) hx hb hts i_X3 hown hK hH hB rfl 3 (by decide) f_8 rfl dX6_countPrint_53 ?_
    refine m_callSi (As := [.int (iv (g : Int))]) (rest := [.int (iv (σ 8)), .ref sa]) ⟨hx, hb, hml, hown, hts⟩ hK hH hS (c_J6_bitCount_0f7a4 l G (hu (hu (hu μ sa (.inr (5, [.ref (sa + 1), .ref (sa + 16), .int (iv (σ 3)), .int (iv ((σ 5) + 1)), .int (iv (σ 6)), .int (iv (σ 7)), .int (iv (σ 8)), va_rf rd]))) sa (.inr (5, [.ref (sa + 1), .ref (sa + 16), .int (iv (σ 3)), .int (iv ((σ 5) + 1)), .int (iv ((σ 6) + x4)), .int (iv (σ 7)), .int (iv (σ 8)), va_rf rd]))) sa (.inr (5, [.ref (sa + 1), .ref (sa + 16), .int (iv (σ 3)), .int (iv ((σ 5) + 1)), .int (iv ((σ 6) + x4)), .int (iv ((σ 7) + ((pc6 f : Nat) : Int))), .int (iv (σ 8)), va_rf rd]))) n g (by omega)) (va_cwS 1 hts gX6_countPrint_J6_bitCount_0f7a4 rfl rfl rfl (by decide +kernel) ⟨(Nat.le_of_ble_eq_true rfl), (Nat.le_of_ble_eq_true rfl)⟩) rfl rfl hl.1 (Nat.le_of_ble_eq_true rfl) dX6_countPrint_56 ⟨Nat.zero_le _, Nat.zero_le _⟩ (fun z9 μ6 n7 H locs hz9 hp8 hH hS => ?_)
    obtain ⟨hz2, hm2, hn2⟩ := hp8; rw [hz2]; rw [hm2, hn2] at hH; clear hz2 hm2 hn2
    refine j_iadd hx hb dX6_countPrint_59 ?_
    refine m_put (C := RX6) (T := TX6) (N := 8) (ci := 5) hx hb hts i_X6 tyX6 tyX6_ok nmX6 hown hK hH hS hZ1 rfl 6 (by decide) f_7 rfl rfl rfl (Nat.le_of_ble_eq_true rfl) dX6_countPrint_60 (fun H locs hH hS => ?_)
    have hB := hu_n' (a := sa) (e := (.inr (5, [.ref (sa + 1), .ref (sa + 16), .int (iv (σ 3)), .int (iv ((σ 5) + 1)), .int (iv ((σ 6) + x4)), .int (iv ((σ 7) + ((pc6 f : Nat) : Int))), .int (iv ((σ 8) + ((pc6 g : Nat) : Int))), va_rf rd]))) (by omega) hB
    have hZ1 : (hu (hu (hu (hu μ sa (.inr (5, [.ref (sa + 1), .ref (sa + 16), .int (iv (σ 3)), .int (iv ((σ 5) + 1)), .int (iv (σ 6)), .int (iv (σ 7)), .int (iv (σ 8)), va_rf rd]))) sa (.inr (5, [.ref (sa + 1), .ref (sa + 16), .int (iv (σ 3)), .int (iv ((σ 5) + 1)), .int (iv ((σ 6) + x4)), .int (iv (σ 7)), .int (iv (σ 8)), va_rf rd]))) sa (.inr (5, [.ref (sa + 1), .ref (sa + 16), .int (iv (σ 3)), .int (iv ((σ 5) + 1)), .int (iv ((σ 6) + x4)), .int (iv ((σ 7) + ((pc6 f : Nat) : Int))), .int (iv (σ 8)), va_rf rd]))) sa (.inr (5, [.ref (sa + 1), .ref (sa + 16), .int (iv (σ 3)), .int (iv ((σ 5) + 1)), .int (iv ((σ 6) + x4)), .int (iv ((σ 7) + ((pc6 f : Nat) : Int))), .int (iv ((σ 8) + ((pc6 g : Nat) : Int))), va_rf rd]))) sa = some (.inr (5, [.ref (sa + 1), .ref (sa + 16), .int (iv (σ 3)), .int (iv ((σ 5) + 1)), .int (iv ((σ 6) + x4)), .int (iv ((σ 7) + ((pc6 f : Nat) : Int))), .int (iv ((σ 8) + ((pc6 g : Nat) : Int))), va_rf rd])) := hu_s
    have hH : gP G (hu (hu (hu (hu μ sa (.inr (5, [.ref (sa + 1), .ref (sa + 16), .int (iv (σ 3)), .int (iv ((σ 5) + 1)), .int (iv (σ 6)), .int (iv (σ 7)), .int (iv (σ 8)), va_rf rd]))) sa (.inr (5, [.ref (sa + 1), .ref (sa + 16), .int (iv (σ 3)), .int (iv ((σ 5) + 1)), .int (iv ((σ 6) + x4)), .int (iv (σ 7)), .int (iv (σ 8)), va_rf rd]))) sa (.inr (5, [.ref (sa + 1), .ref (sa + 16), .int (iv (σ 3)), .int (iv ((σ 5) + 1)), .int (iv ((σ 6) + x4)), .int (iv ((σ 7) + ((pc6 f : Nat) : Int))), .int (iv (σ 8)), va_rf rd]))) sa (.inr (5, [.ref (sa + 1), .ref (sa + 16), .int (iv (σ 3)), .int (iv ((σ 5) + 1)), .int (iv ((σ 6) + x4)), .int (iv ((σ 7) + ((pc6 f : Nat) : Int))), .int (iv ((σ 8) + ((pc6 g : Nat) : Int))), va_rf rd]))) n H := hH
    subst hQ
    refine m_vret hx hb hr hlocks hH hS dX6_countPrint_63 ?_
    exact ⟨by rw [hu_uu, hu_uu, hu_uu], rfl⟩
  · skip
    refine j_const hx hb dX6_countPrint_22 ?_
    refine lv_goto (tgt := 27) hx hb dX6_countPrint_23 (by decide) ?_
    refine j_norm (y := x4) (by omega) ?_
    refine j_iadd hx hb dX6_countPrint_27 ?_
    refine m_put (C := RX6) (T := TX6) (N := 8) (ci := 5) hx hb hts i_X6 tyX6 tyX6_ok nmX6 hown hK hH hS hZ1 rfl 4 (by decide) f_2 rfl rfl rfl (Nat.le_of_ble_eq_true rfl) dX6_countPrint_28 (fun H locs hH hS => ?_)
    have hB := hu_n' (a := sa) (e := (.inr (5, [.ref (sa + 1), .ref (sa + 16), .int (iv (σ 3)), .int (iv ((σ 5) + 1)), .int (iv ((σ 6) + x4)), .int (iv (σ 7)), .int (iv (σ 8)), va_rf rd]))) (by omega) hB
    have hZ1 : (hu (hu μ sa (.inr (5, [.ref (sa + 1), .ref (sa + 16), .int (iv (σ 3)), .int (iv ((σ 5) + 1)), .int (iv (σ 6)), .int (iv (σ 7)), .int (iv (σ 8)), va_rf rd]))) sa (.inr (5, [.ref (sa + 1), .ref (sa + 16), .int (iv (σ 3)), .int (iv ((σ 5) + 1)), .int (iv ((σ 6) + x4)), .int (iv (σ 7)), .int (iv (σ 8)), va_rf rd]))) sa = some (.inr (5, [.ref (sa + 1), .ref (sa + 16), .int (iv (σ 3)), .int (iv ((σ 5) + 1)), .int (iv ((σ 6) + x4)), .int (iv (σ 7)), .int (iv (σ 8)), va_rf rd])) := hu_s
    have hH : gP G (hu (hu μ sa (.inr (5, [.ref (sa + 1), .ref (sa + 16), .int (iv (σ 3)), .int (iv ((σ 5) + 1)), .int (iv (σ 6)), .int (iv (σ 7)), .int (iv (σ 8)), va_rf rd]))) sa (.inr (5, [.ref (sa + 1), .ref (sa + 16), .int (iv (σ 3)), .int (iv ((σ 5) + 1)), .int (iv ((σ 6) + x4)), .int (iv (σ 7)), .int (iv (σ 8)), va_rf rd]))) n H := hH
    refine lv_aload_n hx hb dX6_countPrint_31 rfl (lv_at hl 0 rfl) ?_
    refine lv_dup hx hb dX6_countPrint_32 rfl ?_
    refine m_get (C := RX6) (T := TX6) (N := 8) (ci := 5) hx hb hts i_X6 hown hK hH hZ1 rfl 5 (by decide) f_5 rfl dX6_countPrint_33 ?_
    refine lv_aload_n hx hb dX6_countPrint_36 rfl (lv_at hl 1 rfl) ?_
    refine m_get (C := RX3) (T := TX3) (N := 6) (ci := 2) hx hb hts i_X3 hown hK hH hB rfl 2 (by decide) f_6 rfl dX6_countPrint_37 ?_
    refine m_callSi (As := [.int (iv (f : Int))]) (rest := [.int (iv (σ 7)), .ref sa]) ⟨hx, hb, hml, hown, hts⟩ hK hH hS (c_J6_bitCount_0f7a4 l G (hu (hu μ sa (.inr (5, [.ref (sa + 1), .ref (sa + 16), .int (iv (σ 3)), .int (iv ((σ 5) + 1)), .int (iv (σ 6)), .int (iv (σ 7)), .int (iv (σ 8)), va_rf rd]))) sa (.inr (5, [.ref (sa + 1), .ref (sa + 16), .int (iv (σ 3)), .int (iv ((σ 5) + 1)), .int (iv ((σ 6) + x4)), .int (iv (σ 7)), .int (iv (σ 8)), va_rf rd]))) n f (by omega)) (va_cwS 1 hts gX6_countPrint_J6_bitCount_0f7a4 rfl rfl rfl (by decide +kernel) ⟨(Nat.le_of_ble_eq_true rfl), (Nat.le_of_ble_eq_true rfl)⟩) rfl rfl hl.1 (Nat.le_of_ble_eq_true rfl) dX6_countPrint_40 ⟨Nat.zero_le _, Nat.zero_le _⟩ (fun z13 μ10 n11 H locs hz13 hp12 hH hS => ?_)
    obtain ⟨hz2, hm2, hn2⟩ := hp12; rw [hz2]; rw [hm2, hn2] at hH; clear hz2 hm2 hn2
    refine j_iadd hx hb dX6_countPrint_43 ?_
    refine m_put (C := RX6) (T := TX6) (N := 8) (ci := 5) hx hb hts i_X6 tyX6 tyX6_ok nmX6 hown hK hH hS hZ1 rfl 5 (by decide) f_5 rfl rfl rfl (Nat.le_of_ble_eq_true rfl) dX6_countPrint_44 (fun H locs hH hS => ?_)
    have hB := hu_n' (a := sa) (e := (.inr (5, [.ref (sa + 1), .ref (sa + 16), .int (iv (σ 3)), .int (iv ((σ 5) + 1)), .int (iv ((σ 6) + x4)), .int (iv ((σ 7) + ((pc6 f : Nat) : Int))), .int (iv (σ 8)), va_rf rd]))) (by omega) hB
    have hZ1 : (hu (hu (hu μ sa (.inr (5, [.ref (sa + 1), .ref (sa + 16), .int (iv (σ 3)), .int (iv ((σ 5) + 1)), .int (iv (σ 6)), .int (iv (σ 7)), .int (iv (σ 8)), va_rf rd]))) sa (.inr (5, [.ref (sa + 1), .ref (sa + 16), .int (iv (σ 3)), .int (iv ((σ 5) + 1)), .int (iv ((σ 6) + x4)), .int (iv (σ 7)), .int (iv (σ 8)), va_rf rd]))) sa (.inr (5, [.ref (sa + 1), .ref (sa + 16), .int (iv (σ 3)), .int (iv ((σ 5) + 1)), .int (iv ((σ 6) + x4)), .int (iv ((σ 7) + ((pc6 f : Nat) : Int))), .int (iv (σ 8)), va_rf rd]))) sa = some (.inr (5, [.ref (sa + 1), .ref (sa + 16), .int (iv (σ 3)), .int (iv ((σ 5) + 1)), .int (iv ((σ 6) + x4)), .int (iv ((σ 7) + ((pc6 f : Nat) : Int))), .int (iv (σ 8)), va_rf rd])) := hu_s
    have hH : gP G (hu (hu (hu μ sa (.inr (5, [.ref (sa + 1), .ref (sa + 16), .int (iv (σ 3)), .int (iv ((σ 5) + 1)), .int (iv (σ 6)), .int (iv (σ 7)), .int (iv (σ 8)), va_rf rd]))) sa (.inr (5, [.ref (sa + 1), .ref (sa + 16), .int (iv (σ 3)), .int (iv ((σ 5) + 1)), .int (iv ((σ 6) + x4)), .int (iv (σ 7)), .int (iv (σ 8)), va_rf rd]))) sa (.inr (5, [.ref (sa + 1), .ref (sa + 16), .int (iv (σ 3)), .int (iv ((σ 5) + 1)), .int (iv ((σ 6) + x4)), .int (iv ((σ 7) + ((pc6 f : Nat) : Int))), .int (iv (σ 8)), va_rf rd]))) n H := hH
    refine lv_aload_n hx hb dX6_countPrint_47 rfl (lv_at hl 0 rfl) ?_
    refine lv_dup hx hb dX6_countPrint_48 rfl ?_
    refine m_get (C := RX6) (T := TX6) (N := 8) (ci := 5) hx hb hts i_X6 hown hK hH hZ1 rfl 6 (by decide) f_7 rfl dX6_countPrint_49 ?_
    refine lv_aload_n hx hb dX6_countPrint_52 rfl (lv_at hl 1 rfl) ?_
    refine m_get (C := RX3) (T := TX3) (N := 6) (ci := 2) hx hb hts i_X3 hown hK hH hB rfl 3 (by decide) f_8 rfl dX6_countPrint_53 ?_
    refine m_callSi (As := [.int (iv (g : Int))]) (rest := [.int (iv (σ 8)), .ref sa]) ⟨hx, hb, hml, hown, hts⟩ hK hH hS (c_J6_bitCount_0f7a4 l G (hu (hu (hu μ sa (.inr (5, [.ref (sa + 1), .ref (sa + 16), .int (iv (σ 3)), .int (iv ((σ 5) + 1)), .int (iv (σ 6)), .int (iv (σ 7)), .int (iv (σ 8)), va_rf rd]))) sa (.inr (5, [.ref (sa + 1), .ref (sa + 16), .int (iv (σ 3)), .int (iv ((σ 5) + 1)), .int (iv ((σ 6) + x4)), .int (iv (σ 7)), .int (iv (σ 8)), va_rf rd]))) sa (.inr (5, [.ref (sa + 1), .ref (sa + 16), .int (iv (σ 3)), .int (iv ((σ 5) + 1)), .int (iv ((σ 6) + x4)), .int (iv ((σ 7) + ((pc6 f : Nat) : Int))), .int (iv (σ 8)), va_rf rd]))) n g (by omega)) (va_cwS 1 hts gX6_countPrint_J6_bitCount_0f7a4 rfl rfl rfl (by decide +kernel) ⟨(Nat.le_of_ble_eq_true rfl), (Nat.le_of_ble_eq_true rfl)⟩) rfl rfl hl.1 (Nat.le_of_ble_eq_true rfl) dX6_countPrint_56 ⟨Nat.zero_le _, Nat.zero_le _⟩ (fun z17 μ14 n15 H locs hz17 hp16 hH hS => ?_)
    obtain ⟨hz2, hm2, hn2⟩ := hp16; rw [hz2]; rw [hm2, hn2] at hH; clear hz2 hm2 hn2
    refine j_iadd hx hb dX6_countPrint_59 ?_
    refine m_put (C := RX6) (T := TX6) (N := 8) (ci := 5) hx hb hts i_X6 tyX6 tyX6_ok nmX6 hown hK hH hS hZ1 rfl 6 (by decide) f_7 rfl rfl rfl (Nat.le_of_ble_eq_true rfl) dX6_countPrint_60 (fun H locs hH hS => ?_)
    have hB := hu_n' (a := sa) (e := (.inr (5, [.ref (sa + 1), .ref (sa + 16), .int (iv (σ 3)), .int (iv ((σ 5) + 1)), .int (iv ((σ 6) + x4)), .int (iv ((σ 7) + ((pc6 f : Nat) : Int))), .int (iv ((σ 8) + ((pc6 g : Nat) : Int))), va_rf rd]))) (by omega) hB
    have hZ1 : (hu (hu (hu (hu μ sa (.inr (5, [.ref (sa + 1), .ref (sa + 16), .int (iv (σ 3)), .int (iv ((σ 5) + 1)), .int (iv (σ 6)), .int (iv (σ 7)), .int (iv (σ 8)), va_rf rd]))) sa (.inr (5, [.ref (sa + 1), .ref (sa + 16), .int (iv (σ 3)), .int (iv ((σ 5) + 1)), .int (iv ((σ 6) + x4)), .int (iv (σ 7)), .int (iv (σ 8)), va_rf rd]))) sa (.inr (5, [.ref (sa + 1), .ref (sa + 16), .int (iv (σ 3)), .int (iv ((σ 5) + 1)), .int (iv ((σ 6) + x4)), .int (iv ((σ 7) + ((pc6 f : Nat) : Int))), .int (iv (σ 8)), va_rf rd]))) sa (.inr (5, [.ref (sa + 1), .ref (sa + 16), .int (iv (σ 3)), .int (iv ((σ 5) + 1)), .int (iv ((σ 6) + x4)), .int (iv ((σ 7) + ((pc6 f : Nat) : Int))), .int (iv ((σ 8) + ((pc6 g : Nat) : Int))), va_rf rd]))) sa = some (.inr (5, [.ref (sa + 1), .ref (sa + 16), .int (iv (σ 3)), .int (iv ((σ 5) + 1)), .int (iv ((σ 6) + x4)), .int (iv ((σ 7) + ((pc6 f : Nat) : Int))), .int (iv ((σ 8) + ((pc6 g : Nat) : Int))), va_rf rd])) := hu_s
    have hH : gP G (hu (hu (hu (hu μ sa (.inr (5, [.ref (sa + 1), .ref (sa + 16), .int (iv (σ 3)), .int (iv ((σ 5) + 1)), .int (iv (σ 6)), .int (iv (σ 7)), .int (iv (σ 8)), va_rf rd]))) sa (.inr (5, [.ref (sa + 1), .ref (sa + 16), .int (iv (σ 3)), .int (iv ((σ 5) + 1)), .int (iv ((σ 6) + x4)), .int (iv (σ 7)), .int (iv (σ 8)), va_rf rd]))) sa (.inr (5, [.ref (sa + 1), .ref (sa + 16), .int (iv (σ 3)), .int (iv ((σ 5) + 1)), .int (iv ((σ 6) + x4)), .int (iv ((σ 7) + ((pc6 f : Nat) : Int))), .int (iv (σ 8)), va_rf rd]))) sa (.inr (5, [.ref (sa + 1), .ref (sa + 16), .int (iv (σ 3)), .int (iv ((σ 5) + 1)), .int (iv ((σ 6) + x4)), .int (iv ((σ 7) + ((pc6 f : Nat) : Int))), .int (iv ((σ 8) + ((pc6 g : Nat) : Int))), va_rf rd]))) n H := hH
    subst hQ
    refine m_vret hx hb hr hlocks hH hS dX6_countPrint_63 ?_
    exact ⟨by rw [hu_uu, hu_uu, hu_uu], rfl⟩

abbrev rm_c_X6_rightPrintsOf : Room := { frames := 0, cells := 0, slots := 0, locals := 0 }
set_option maxHeartbeats 4000000 in
set_option maxRecDepth 100000 in
theorem c_X6_rightPrintsOf (l : Launch) (G : wG) (μ : hM) (n : Nat) (sa : Nat) (π : Nat → Nat) (σ : Nat → Int) (fp sp : Int) (rd : Option Nat) (rb : Nat) (ch : List (Int × Int)) (d : Int) (hZ1 : μ sa = some (stcell sa σ rd)) (hC : Chn μ rb rd ch) (hd : 0 ≤ d ∧ d ≤ 40000) (hch : ∀ x ∈ ch, 0 ≤ x.1 ∧ x.1 ≤ 40000) : Met l yX6_rightPrintsOf wsX6_rightPrintsOf rm_c_X6_rightPrintsOf (mPc G μ n [.ref sa, .int (iv d)]) (mQi G (fun z μ1 n1 => z = wr32 (chOf ch d) ∧ μ1 = μ ∧ n1 = n)) 0 0 (gA G) := by
  refine Met.ofW (cc := cX6_rightPrintsOf) (maxL := 3) (ret := (some .int)) (by decide) rfl ?_
  intro p e s m args below meth c s₁ B hml hv
  obtain ⟨hav, hK, hH⟩ := hv
  have hx := B.exec
  have hb := B.bytes
  have hr := B.returns
  have hts := atoms_spec (ws := wsX6_rightPrintsOf) B.pre
  have hown : s.vm.findClass RX6 = some m.cls := findClass_of_methodNamed B.named
  have hlocks := B.notSynchronized
  have hS : va_S (gA G) s.heap s.heap [] := va_S.rf
  have hl := lv_entry ([.ref sa, .int (iv d)]) (n := 3) (Nat.le_of_ble_eq_true rfl)
  have hfr : entryFrame m args 3 = entryFrame m ([.ref sa, .int (iv d)] : List Value).toArray 3 := by rw [hav]
  rw [hfr, lg_entry_eq]
  generalize (lg_sl ([.ref sa, .int (iv d)]) ++ List.replicate (3 - (lg_sl ([.ref sa, .int (iv d)])).length) Slot.unset).toArray = ls at hl ⊢
  have hl : lv_has ls 3 [(0, .ref sa), (1, .int (iv d))] := hl
  generalize hQ : MQ below _ args s 0 0 (gA G) = Q
  show W p l e rm_c_X6_rightPrintsOf s m args below meth c s.heap [] 0 0 Q (F0 m 0 ls [])
  obtain ⟨H, hHe⟩ : ∃ H, H = s.heap := ⟨_, rfl⟩
  obtain ⟨locs, hlo⟩ : ∃ q : List Loc, q = [] := ⟨_, rfl⟩
  have hH : gP G μ n H := by rw [hHe]; exact hH
  have hS : va_S (gA G) s.heap H locs := by rw [hHe, hlo]; exact hS
  suffices hgo : W p l e rm_c_X6_rightPrintsOf s m args below meth c H locs 0 0 Q (F0 m 0 ls []) by rw [hHe, hlo] at hgo; exact hgo
  clear hHe hlo hfr hav
  have f_0 := hts (.fieldLink RX6 49 "StampDater$State" "rightDays" "LStampDater$RightDay;") (List.mem_of_getElem? (i := 1) rfl)
  have i_X6 : ∀ w ∈ u_ws RX6 TX6 8, w ∈ wsX6_rightPrintsOf := by decide +kernel
  have f_2 := hts (.fieldLink RX6 102 "StampDater$RightDay" "day" "I") (List.mem_of_getElem? (i := 2) rfl)
  have i_X4 : ∀ w ∈ u_ws RX4 TX4 4, w ∈ wsX6_rightPrintsOf := by decide +kernel
  have f_4 := hts (.fieldLink RX6 107 "StampDater$RightDay" "earlier" "LStampDater$RightDay;") (List.mem_of_getElem? (i := 4) rfl)
  have f_5 := hts (.fieldLink RX6 105 "StampDater$RightDay" "prints" "I") (List.mem_of_getElem? (i := 3) rfl)
  refine lv_aload_n hx hb dX6_rightPrintsOf_0 rfl (lv_at hl 0 rfl) ?_
  refine m_get (C := RX6) (T := TX6) (N := 8) (ci := 5) hx hb hts i_X6 hown hK hH hZ1 rfl 7 (by decide) f_0 rfl dX6_rightPrintsOf_1 ?_
  refine j_astoreq (lv' := [(2, va_rf rd), (0, .ref sa), (1, .int (iv d))]) hx hb dX6_rightPrintsOf_4 rfl hl (by decide) rfl (fun ls hl => ?_)
  have lp5 : ∀ (fuel : Nat) (r : Option Nat) (cs : List (Int × Int)) (hc1 : Chn μ rb r cs) (hch1 : ∀ x ∈ cs, 0 ≤ x.1 ∧ x.1 ≤ 40000) (he : chOf ch d = chOf cs d) (_ : cs.length < fuel) (H : Heap) (locs : List Loc) (ls : Array Slot) (_ : gP G μ n H) (_ : va_S (gA G) s.heap H locs) (_ : lv_has ls 3 [(1, .int (iv d)), (2, va_rf r)]), W p l e rm_c_X6_rightPrintsOf s m args below meth c H locs 0 0 Q (F0 m 5 ls []) := by
    intro fuel
    induction fuel with
    | zero => intro _ _ _ _ _ hfuel; exact absurd hfuel (Nat.not_lt_zero _)
    | succ fuel ih =>
      intro r cs hc1 hch1 he hfuel H locs ls hH hS hl
      have ih1 := ih; clear ih
      refine j_aloadq hx hb dX6_rightPrintsOf_5 rfl (lv_at hl 1 rfl) ?_
      refine j_ifnullq (tgt := 30) hx hb dX6_rightPrintsOf_6 (by decide) (fun hna2 => ?_) (fun a2 hsa2 => ?_)
      · skip
        subst hna2
        have hnil := hc1.none_
        subst hnil
        refine j_const hx hb dX6_rightPrintsOf_30 ?_
        subst hQ
        refine m_iret hx hb hr hlocks hH hS dX6_rightPrintsOf_31 ?_ (by omega)
        refine ⟨?_, rfl, rfl⟩
        rw [he]
        rfl
      · skip
        subst hsa2
        obtain ⟨d1, c1, t, e, rfl, hrb1, hA, hc2⟩ := hc1.some_
        have hd1 := hch1 (d1, c1) List.mem_cons_self
        dsimp only at hd1
        refine lv_aload_n hx hb dX6_rightPrintsOf_9 rfl (lv_at hl 1 rfl) ?_
        refine m_get (C := RX4) (T := TX4) (N := 4) (ci := 3) hx hb hts i_X4 hown hK hH hA rfl 0 (by decide) f_2 rfl dX6_rightPrintsOf_10 ?_
        refine lv_iload_n hx hb dX6_rightPrintsOf_13 rfl (lv_at hl 0 rfl) ?_
        refine j_icmp_ne (tgt := 22) hx hb dX6_rightPrintsOf_14 (by decide) (fun c3 => ?_) (fun c3 => ?_) (by omega) (by omega)
        · skip
          refine lv_aload_n hx hb dX6_rightPrintsOf_22 rfl (lv_at hl 1 rfl) ?_
          refine m_get (C := RX4) (T := TX4) (N := 4) (ci := 3) hx hb hts i_X4 hown hK hH hA rfl 3 (by decide) f_4 rfl dX6_rightPrintsOf_23 ?_
          refine j_astoreq (lv' := [(2, va_rf e), (1, .int (iv d))]) hx hb dX6_rightPrintsOf_26 rfl hl (by decide) rfl (fun ls hl => ?_)
          refine lv_goto (tgt := 5) hx hb dX6_rightPrintsOf_27 (by decide) ?_
          exact ih1 e t hc2 (fun x hx => hch1 x (List.mem_cons_of_mem _ hx)) (by rw [he]; show (if d1 = d then c1 else chOf t d) = chOf t d; rw [if_neg (by omega)]) (by simp only [List.length_cons] at *; omega) H locs ls hH hS (lv_sub hl [1, 0] rfl)
        · skip
          refine lv_aload_n hx hb dX6_rightPrintsOf_17 rfl (lv_at hl 1 rfl) ?_
          refine m_get (C := RX4) (T := TX4) (N := 4) (ci := 3) hx hb hts i_X4 hown hK hH hA rfl 1 (by decide) f_5 rfl dX6_rightPrintsOf_18 ?_
          rw [← wr32_iv c1]
          have hwr := wr32_rng c1
          subst hQ
          refine m_iret hx hb hr hlocks hH hS dX6_rightPrintsOf_21 ?_ (by omega)
          refine ⟨?_, rfl, rfl⟩
          rw [he]
          show wr32 c1 = wr32 (if d1 = d then c1 else chOf t d)
          rw [if_pos (by omega)]
  exact lp5 (ch.length + 1) rd ch hC hch rfl (by omega) H locs ls hH hS (lv_sub hl [2, 0] rfl)

abbrev rm_c_X6_addRightPrints : Room := { frames := 2, cells := 1, slots := 4, locals := 43 }
set_option maxHeartbeats 4000000 in
set_option maxRecDepth 100000 in
theorem c_X6_addRightPrints (l : Launch) (G : wG) (μ : hM) (n : Nat) (sa : Nat) (π : Nat → Nat) (σ : Nat → Int) (fp sp : Int) (rd : Option Nat) (rb : Nat) (ch : List (Int × Int)) (mo : Int) (hZ : IsState G μ sa π σ fp sp rd) (hC : Chn μ rb rd ch) (h3 : 0 ≤ σ 3 ∧ σ 3 ≤ 36524) (hch : ∀ x ∈ ch, 0 ≤ x.1 ∧ x.1 ≤ 40000) (hmo : -2147483648 ≤ mo ∧ mo ≤ 2147483647) (hrb : sa + 29 ≤ rb ∧ rb ≤ n) : Met l yX6_addRightPrints wsX6_addRightPrints rm_c_X6_addRightPrints (mPc G μ n [.ref sa, .int (iv mo)]) (mQv G (fun μ1 n1 => ∃ rd2 : Option Nat, IsState G μ1 sa π σ fp sp rd2 ∧ Chn μ1 rb rd2 (chAdd ch (σ 3) mo) ∧ (∀ q e, (q < sa ∨ sa + 29 ≤ q) → μ q = some e → μ1 q = some e))) 1 4 (gA G) := by
  refine Met.ofW (cc := cX6_addRightPrints) (maxL := 2) (ret := none) (by decide) rfl ?_
  intro p e s m args below meth c s₁ B hml hv
  obtain ⟨hav, hK, hH⟩ := hv
  have hx := B.exec
  have hb := B.bytes
  have hr := B.returns
  have hts := atoms_spec (ws := wsX6_addRightPrints) B.pre
  have hown : s.vm.findClass RX6 = some m.cls := findClass_of_methodNamed B.named
  have hlocks := B.notSynchronized
  have hS : va_S (gA G) s.heap s.heap [] := va_S.rf
  have hl := lv_entry ([.ref sa, .int (iv mo)]) (n := 2) (Nat.le_of_ble_eq_true rfl)
  have hfr : entryFrame m args 2 = entryFrame m ([.ref sa, .int (iv mo)] : List Value).toArray 2 := by rw [hav]
  rw [hfr, lg_entry_eq]
  generalize (lg_sl ([.ref sa, .int (iv mo)]) ++ List.replicate (2 - (lg_sl ([.ref sa, .int (iv mo)])).length) Slot.unset).toArray = ls at hl ⊢
  have hl : lv_has ls 2 [(0, .ref sa), (1, .int (iv mo))] := hl
  generalize hQ : MQ below _ args s 1 4 (gA G) = Q
  show W p l e rm_c_X6_addRightPrints s m args below meth c s.heap [] 0 0 Q (F0 m 0 ls [])
  obtain ⟨H, hHe⟩ : ∃ H, H = s.heap := ⟨_, rfl⟩
  obtain ⟨locs, hlo⟩ : ∃ q : List Loc, q = [] := ⟨_, rfl⟩
  have hH : gP G μ n H := by rw [hHe]; exact hH
  have hS : va_S (gA G) s.heap H locs := by rw [hHe, hlo]; exact hS
  suffices hgo : W p l e rm_c_X6_addRightPrints s m args below meth c H locs 0 0 Q (F0 m 0 ls []) by rw [hHe, hlo] at hgo; exact hgo
  clear hHe hlo hfr hav
  have f_0 := hts (.fieldLink RX6 49 "StampDater$State" "rightDays" "LStampDater$RightDay;") (List.mem_of_getElem? (i := 1) rfl)
  have i_X6 : ∀ w ∈ u_ws RX6 TX6 8, w ∈ wsX6_addRightPrints := by decide +kernel
  have f_2 := hts (.classLink RX6 103 RX4) (List.mem_of_getElem? (i := 4) rfl)
  have f_3 := hts (.instantiable RX4 4) (List.mem_of_getElem? (i := 5) rfl)
  have f_4 := hts (.initialized RX4) (List.mem_of_getElem? (i := 6) rfl)
  have i_X4 : ∀ w ∈ u_ws RX4 TX4 4, w ∈ wsX6_addRightPrints := by decide +kernel
  have f_6 := hts (.fieldLink RX6 33 "StampDater$State" "today" "I") (List.mem_of_getElem? (i := 3) rfl)
  have f_7 := hts (.methodLink RX6 110 yX4_init) (List.mem_of_getElem? (i := 9) rfl)
  have f_8 := hts (.instanceMethod yX4_init) (List.mem_of_getElem? (i := 10) rfl)
  have f_9 := hts (.fieldLink RX6 102 "StampDater$RightDay" "day" "I") (List.mem_of_getElem? (i := 2) rfl)
  have f_10 := hts (.fieldLink RX6 105 "StampDater$RightDay" "prints" "I") (List.mem_of_getElem? (i := 7) rfl)
  have f_11 := hts (.fieldLink RX6 107 "StampDater$RightDay" "earlier" "LStampDater$RightDay;") (List.mem_of_getElem? (i := 8) rfl)
  have hZ1 := hZ.1
  have hfm : ∀ q e, (q < sa ∨ sa + 29 ≤ q) → μ q = some e → μ q = some e := fun q e _ h => h
  refine lv_iload_n hx hb dX6_addRightPrints_0 rfl (lv_at hl 1 rfl) ?_
  refine j_if_ne (tgt := 5) hx hb dX6_addRightPrints_1 (by decide) (fun c1 => ?_) (fun c1 => ?_) (by omega)
  · skip
    refine lv_aload_n hx hb dX6_addRightPrints_5 rfl (lv_at hl 0 rfl) ?_
    refine m_get (C := RX6) (T := TX6) (N := 8) (ci := 5) hx hb hts i_X6 hown hK hH hZ1 rfl 7 (by decide) f_0 rfl dX6_addRightPrints_6 ?_
    refine j_ifnullq (tgt := 60) hx hb dX6_addRightPrints_9 (by decide) (fun hna2 => ?_) (fun a2 hsa2 => ?_)
    · skip
      subst hna2
      have hnil := hC.none_
      subst hnil
      refine lv_aload_n hx hb dX6_addRightPrints_60 rfl (lv_at hl 0 rfl) ?_
      refine m_new (C := RX4) (T := TX4) (N := 4) (ci := 3) (fs := [.int (iv 0), .int (iv 0), .int (iv 0), .null]) hx hb hts i_X4 tyX4 tyX4_ok hown f_2 f_3 f_4 hK hH hS rfl (fun j hj => by rcases (show j = 0 ∨ j = 1 ∨ j = 2 ∨ j = 3 by omega) with rfl | rfl | rfl | rfl <;> rfl) dX6_addRightPrints_61 (Nat.le_of_ble_eq_true rfl) (Nat.le_of_ble_eq_true rfl) (fun H hH hS hnn => ?_)
      have ne_hZ1 : sa ≠ n := fun q => by rw [← q] at hnn; rw [hnn] at hZ1; cases hZ1
      have hZ1 := hu_n' (a := n) (e := (.inr (3, [.int (iv 0), .int (iv 0), .int (iv 0), .null]))) ne_hZ1 hZ1
      have hO3 : (hu μ n (.inr (3, [.int (iv 0), .int (iv 0), .int (iv 0), .null]))) n = some (.inr (3, [.int (iv 0), .int (iv 0), .int (iv 0), .null])) := hu_s
      have hH : gP G (hu μ n (.inr (3, [.int (iv 0), .int (iv 0), .int (iv 0), .null]))) (n + 1) H := hH
      refine lv_dup hx hb dX6_addRightPrints_64 rfl ?_
      refine lv_aload_n hx hb dX6_addRightPrints_65 rfl (lv_at hl 0 rfl) ?_
      refine m_get (C := RX6) (T := TX6) (N := 8) (ci := 5) hx hb hts i_X6 hown hK hH hZ1 rfl 2 (by decide) f_6 rfl dX6_addRightPrints_66 ?_
      refine lv_iload_n hx hb dX6_addRightPrints_69 rfl (lv_at hl 1 rfl) ?_
      refine lv_aload_n hx hb dX6_addRightPrints_70 rfl (lv_at hl 0 rfl) ?_
      refine m_get (C := RX6) (T := TX6) (N := 8) (ci := 5) hx hb hts i_X6 hown hK hH hZ1 rfl 7 (by decide) f_0 rfl dX6_addRightPrints_71 ?_
      refine m_callIv (As := [.int (iv (σ 3)), .int (iv mo), .null]) (rest := [.ref n, .ref sa]) ⟨hx, hb, hml, hown, hts⟩ hK hH hS (c_X4_init l G (hu μ n (.inr (3, [.int (iv 0), .int (iv 0), .int (iv 0), .null]))) (n + 1) n (σ 3) mo 0 none hO3 (fun _ => rfl) (fun a h => by cases h)) (cwI 3 hts gX6_addRightPrints_X4_init rfl rfl rfl f_4 f_7 f_8 rfl (by decide +kernel) ⟨(Nat.le_of_ble_eq_true rfl), (Nat.le_of_ble_eq_true rfl)⟩) rfl rfl hl.1 (Nat.le_of_ble_eq_true rfl) dX6_addRightPrints_74 ⟨(Nat.le_of_ble_eq_true rfl), (Nat.le_of_ble_eq_true rfl)⟩ (fun μ4 n5 H locs hp6 hH hS => ?_)
      obtain ⟨hm2, hn2⟩ := hp6; rw [hm2, hn2] at hH; clear hm2 hn2
      rw [hu_uu] at hH
      have hZ1 := hu_n' (a := n) (e := (.inr (3, [.int (iv (σ 3)), .int (iv mo), .int (iv (0 + 1)), va_rf none]))) ne_hZ1 hZ.1
      have hO : (hu μ n (.inr (3, [.int (iv (σ 3)), .int (iv mo), .int (iv (0 + 1)), va_rf none]))) n = some (.inr (3, [.int (iv (σ 3)), .int (iv mo), .int (iv (0 + 1)), va_rf none])) := hu_s
      refine m_put (C := RX6) (T := TX6) (N := 8) (ci := 5) hx hb hts i_X6 tyX6 tyX6_ok nmX6 hown hK hH hS hZ1 rfl 7 (by decide) f_0 rfl rfl rfl (Nat.le_of_ble_eq_true rfl) dX6_addRightPrints_77 (fun H locs hH hS => ?_)
      have hZ1 : (hu (hu μ n (.inr (3, [.int (iv (σ 3)), .int (iv mo), .int (iv (0 + 1)), va_rf none]))) sa (.inr (5, [.ref (sa + 1), .ref (sa + 16), .int (iv (σ 3)), .int (iv (σ 5)), .int (iv (σ 6)), .int (iv (σ 7)), .int (iv (σ 8)), .ref n]))) sa = some (.inr (5, [.ref (sa + 1), .ref (sa + 16), .int (iv (σ 3)), .int (iv (σ 5)), .int (iv (σ 6)), .int (iv (σ 7)), .int (iv (σ 8)), .ref n])) := hu_s
      have hH : gP G (hu (hu μ n (.inr (3, [.int (iv (σ 3)), .int (iv mo), .int (iv (0 + 1)), va_rf none]))) sa (.inr (5, [.ref (sa + 1), .ref (sa + 16), .int (iv (σ 3)), .int (iv (σ 5)), .int (iv (σ 6)), .int (iv (σ 7)), .int (iv (σ 8)), .ref n]))) (n + 1) H := hH
      subst hQ
      refine m_vret hx hb hr hlocks hH hS dX6_addRightPrints_80 ?_
      have hold : ∀ q e9, q ≠ sa → μ q = some e9 → (hu (hu μ n (.inr (3, [.int (iv (σ 3)), .int (iv mo), .int (iv (0 + 1)), va_rf none]))) sa (.inr (5, [.ref (sa + 1), .ref (sa + 16), .int (iv (σ 3)), .int (iv (σ 5)), .int (iv (σ 6)), .int (iv (σ 7)), .int (iv (σ 8)), .ref n]))) q = some e9 := fun q e9 h1 h2 => hu_n' h1 (hu_n' (fun q2 => by rw [← q2] at hnn; rw [h2] at hnn; cases hnn) h2)
      refine ⟨some n, ⟨hu_s, hZ.2.1.mn (fun q e9 a b h9 => hold q e9 (by omega) h9), hold _ _ (by omega) hZ.2.2.1, fun r hr => hold _ _ (by omega) (hZ.2.2.2 r hr)⟩, ?_, fun q e9 a h9 => hold q e9 (by omega) h9⟩
      have hnew := hu_n (μ := hu μ n (.inr (3, [.int (iv (σ 3)), .int (iv mo), .int (iv (0 + 1)), va_rf none]))) (a := sa) (b := n) (e := (.inr (5, [.ref (sa + 1), .ref (sa + 16), .int (iv (σ 3)), .int (iv (σ 5)), .int (iv (σ 6)), .int (iv (σ 7)), .int (iv (σ 8)), va_rf (some n)]))) (by omega)
      rw [hu_s] at hnew
      unfold chAdd
      rw [if_neg (by omega)]
      exact ⟨none, hrb.2, hnew, trivial⟩
    · skip
      subst hsa2
      obtain ⟨d1, c1, t, ev, rfl, hrb1, hA, hc2⟩ := hC.some_
      have hd1 := hch (d1, c1) List.mem_cons_self
      dsimp only at hd1
      refine lv_aload_n hx hb dX6_addRightPrints_12 rfl (lv_at hl 0 rfl) ?_
      refine m_get (C := RX6) (T := TX6) (N := 8) (ci := 5) hx hb hts i_X6 hown hK hH hZ1 rfl 7 (by decide) f_0 rfl dX6_addRightPrints_13 ?_
      refine m_get (C := RX4) (T := TX4) (N := 4) (ci := 3) hx hb hts i_X4 hown hK hH hA rfl 0 (by decide) f_9 rfl dX6_addRightPrints_16 ?_
      refine lv_aload_n hx hb dX6_addRightPrints_19 rfl (lv_at hl 0 rfl) ?_
      refine m_get (C := RX6) (T := TX6) (N := 8) (ci := 5) hx hb hts i_X6 hown hK hH hZ1 rfl 2 (by decide) f_6 rfl dX6_addRightPrints_20 ?_
      refine j_icmp_ne (tgt := 60) hx hb dX6_addRightPrints_23 (by decide) (fun c7 => ?_) (fun c7 => ?_) (by omega) (by omega)
      · skip
        refine lv_aload_n hx hb dX6_addRightPrints_60 rfl (lv_at hl 0 rfl) ?_
        refine m_new (C := RX4) (T := TX4) (N := 4) (ci := 3) (fs := [.int (iv 0), .int (iv 0), .int (iv 0), .null]) hx hb hts i_X4 tyX4 tyX4_ok hown f_2 f_3 f_4 hK hH hS rfl (fun j hj => by rcases (show j = 0 ∨ j = 1 ∨ j = 2 ∨ j = 3 by omega) with rfl | rfl | rfl | rfl <;> rfl) dX6_addRightPrints_61 (Nat.le_of_ble_eq_true rfl) (Nat.le_of_ble_eq_true rfl) (fun H hH hS hnn => ?_)
        have ne_hZ1 : sa ≠ n := fun q => by rw [← q] at hnn; rw [hnn] at hZ1; cases hZ1
        have hZ1 := hu_n' (a := n) (e := (.inr (3, [.int (iv 0), .int (iv 0), .int (iv 0), .null]))) ne_hZ1 hZ1
        have ne_hA : a2 ≠ n := fun q => by rw [← q] at hnn; rw [hnn] at hA; cases hA
        have hA := hu_n' (a := n) (e := (.inr (3, [.int (iv 0), .int (iv 0), .int (iv 0), .null]))) ne_hA hA
        have hO8 : (hu μ n (.inr (3, [.int (iv 0), .int (iv 0), .int (iv 0), .null]))) n = some (.inr (3, [.int (iv 0), .int (iv 0), .int (iv 0), .null])) := hu_s
        have hH : gP G (hu μ n (.inr (3, [.int (iv 0), .int (iv 0), .int (iv 0), .null]))) (n + 1) H := hH
        refine lv_dup hx hb dX6_addRightPrints_64 rfl ?_
        refine lv_aload_n hx hb dX6_addRightPrints_65 rfl (lv_at hl 0 rfl) ?_
        refine m_get (C := RX6) (T := TX6) (N := 8) (ci := 5) hx hb hts i_X6 hown hK hH hZ1 rfl 2 (by decide) f_6 rfl dX6_addRightPrints_66 ?_
        refine lv_iload_n hx hb dX6_addRightPrints_69 rfl (lv_at hl 1 rfl) ?_
        refine lv_aload_n hx hb dX6_addRightPrints_70 rfl (lv_at hl 0 rfl) ?_
        refine m_get (C := RX6) (T := TX6) (N := 8) (ci := 5) hx hb hts i_X6 hown hK hH hZ1 rfl 7 (by decide) f_0 rfl dX6_addRightPrints_71 ?_
        refine m_callIv (As := [.int (iv (σ 3)), .int (iv mo), .ref a2]) (rest := [.ref n, .ref sa]) ⟨hx, hb, hml, hown, hts⟩ hK hH hS (c_X4_init l G (hu μ n (.inr (3, [.int (iv 0), .int (iv 0), .int (iv 0), .null]))) (n + 1) n (σ 3) mo ((t.length : Int) + 1) (some a2) hO8 (fun h => by cases h) (fun a h => by cases h; exact ⟨by omega, d1, c1, ev, hA⟩)) (cwI 3 hts gX6_addRightPrints_X4_init rfl rfl rfl f_4 f_7 f_8 rfl (by decide +kernel) ⟨(Nat.le_of_ble_eq_true rfl), (Nat.le_of_ble_eq_true rfl)⟩) rfl rfl hl.1 (Nat.le_of_ble_eq_true rfl) dX6_addRightPrints_74 ⟨(Nat.le_of_ble_eq_true rfl), (Nat.le_of_ble_eq_true rfl)⟩ (fun μ9 n10 H locs hp11 hH hS => ?_)
        obtain ⟨hm2, hn2⟩ := hp11; rw [hm2, hn2] at hH; clear hm2 hn2
        rw [hu_uu] at hH
        have hZ1 := hu_n' (a := n) (e := (.inr (3, [.int (iv (σ 3)), .int (iv mo), .int (iv (((t.length : Int) + 1) + 1)), va_rf (some a2)]))) ne_hZ1 hZ.1
        have hO : (hu μ n (.inr (3, [.int (iv (σ 3)), .int (iv mo), .int (iv (((t.length : Int) + 1) + 1)), va_rf (some a2)]))) n = some (.inr (3, [.int (iv (σ 3)), .int (iv mo), .int (iv (((t.length : Int) + 1) + 1)), va_rf (some a2)])) := hu_s
        refine m_put (C := RX6) (T := TX6) (N := 8) (ci := 5) hx hb hts i_X6 tyX6 tyX6_ok nmX6 hown hK hH hS hZ1 rfl 7 (by decide) f_0 rfl rfl rfl (Nat.le_of_ble_eq_true rfl) dX6_addRightPrints_77 (fun H locs hH hS => ?_)
        have hZ1 : (hu (hu μ n (.inr (3, [.int (iv (σ 3)), .int (iv mo), .int (iv (((t.length : Int) + 1) + 1)), va_rf (some a2)]))) sa (.inr (5, [.ref (sa + 1), .ref (sa + 16), .int (iv (σ 3)), .int (iv (σ 5)), .int (iv (σ 6)), .int (iv (σ 7)), .int (iv (σ 8)), .ref n]))) sa = some (.inr (5, [.ref (sa + 1), .ref (sa + 16), .int (iv (σ 3)), .int (iv (σ 5)), .int (iv (σ 6)), .int (iv (σ 7)), .int (iv (σ 8)), .ref n])) := hu_s
        have hH : gP G (hu (hu μ n (.inr (3, [.int (iv (σ 3)), .int (iv mo), .int (iv (((t.length : Int) + 1) + 1)), va_rf (some a2)]))) sa (.inr (5, [.ref (sa + 1), .ref (sa + 16), .int (iv (σ 3)), .int (iv (σ 5)), .int (iv (σ 6)), .int (iv (σ 7)), .int (iv (σ 8)), .ref n]))) (n + 1) H := hH
        subst hQ
        refine m_vret hx hb hr hlocks hH hS dX6_addRightPrints_80 ?_
        have hold : ∀ q e9, q ≠ sa → μ q = some e9 → (hu (hu μ n (.inr (3, [.int (iv (σ 3)), .int (iv mo), .int (iv (((t.length : Int) + 1) + 1)), va_rf (some a2)]))) sa (.inr (5, [.ref (sa + 1), .ref (sa + 16), .int (iv (σ 3)), .int (iv (σ 5)), .int (iv (σ 6)), .int (iv (σ 7)), .int (iv (σ 8)), .ref n]))) q = some e9 := fun q e9 h1 h2 => hu_n' h1 (hu_n' (fun q2 => by rw [← q2] at hnn; rw [h2] at hnn; cases hnn) h2)
        refine ⟨some n, ⟨hu_s, hZ.2.1.mn (fun q e9 a b h9 => hold q e9 (by omega) h9), hold _ _ (by omega) hZ.2.2.1, fun r hr => hold _ _ (by omega) (hZ.2.2.2 r hr)⟩, ?_, fun q e9 a h9 => hold q e9 (by omega) h9⟩
        have hnew := hu_n (μ := hu μ n (.inr (3, [.int (iv (σ 3)), .int (iv mo), .int (iv (((t.length : Int) + 1) + 1)), va_rf (some a2)]))) (a := sa) (b := n) (e := (.inr (5, [.ref (sa + 1), .ref (sa + 16), .int (iv (σ 3)), .int (iv (σ 5)), .int (iv (σ 6)), .int (iv (σ 7)), .int (iv (σ 8)), va_rf (some n)]))) (by omega)
        rw [hu_s] at hnew
        unfold chAdd
        rw [if_neg (by omega)]
        show Chn _ rb (some n) (if d1 = σ 3 then (σ 3, c1 + mo) :: t else (σ 3, mo) :: (d1, c1) :: t)
        rw [if_neg (by omega)]
        exact ⟨(some a2), hrb.2, hnew, Chn.fr (fun q e9 a h9 => hold q e9 (by omega) h9) hC⟩
      · skip
        refine lv_aload_n hx hb dX6_addRightPrints_26 rfl (lv_at hl 0 rfl) ?_
        refine m_new (C := RX4) (T := TX4) (N := 4) (ci := 3) (fs := [.int (iv 0), .int (iv 0), .int (iv 0), .null]) hx hb hts i_X4 tyX4 tyX4_ok hown f_2 f_3 f_4 hK hH hS rfl (fun j hj => by rcases (show j = 0 ∨ j = 1 ∨ j = 2 ∨ j = 3 by omega) with rfl | rfl | rfl | rfl <;> rfl) dX6_addRightPrints_27 (Nat.le_of_ble_eq_true rfl) (Nat.le_of_ble_eq_true rfl) (fun H hH hS hnn => ?_)
        have ne_hZ1 : sa ≠ n := fun q => by rw [← q] at hnn; rw [hnn] at hZ1; cases hZ1
        have hZ1 := hu_n' (a := n) (e := (.inr (3, [.int (iv 0), .int (iv 0), .int (iv 0), .null]))) ne_hZ1 hZ1
        have ne_hA : a2 ≠ n := fun q => by rw [← q] at hnn; rw [hnn] at hA; cases hA
        have hA := hu_n' (a := n) (e := (.inr (3, [.int (iv 0), .int (iv 0), .int (iv 0), .null]))) ne_hA hA
        have hO12 : (hu μ n (.inr (3, [.int (iv 0), .int (iv 0), .int (iv 0), .null]))) n = some (.inr (3, [.int (iv 0), .int (iv 0), .int (iv 0), .null])) := hu_s
        have hH : gP G (hu μ n (.inr (3, [.int (iv 0), .int (iv 0), .int (iv 0), .null]))) (n + 1) H := hH
        refine lv_dup hx hb dX6_addRightPrints_30 rfl ?_
        refine lv_aload_n hx hb dX6_addRightPrints_31 rfl (lv_at hl 0 rfl) ?_
        refine m_get (C := RX6) (T := TX6) (N := 8) (ci := 5) hx hb hts i_X6 hown hK hH hZ1 rfl 2 (by decide) f_6 rfl dX6_addRightPrints_32 ?_
        refine lv_aload_n hx hb dX6_addRightPrints_35 rfl (lv_at hl 0 rfl) ?_
        refine m_get (C := RX6) (T := TX6) (N := 8) (ci := 5) hx hb hts i_X6 hown hK hH hZ1 rfl 7 (by decide) f_0 rfl dX6_addRightPrints_36 ?_
        refine m_get (C := RX4) (T := TX4) (N := 4) (ci := 3) hx hb hts i_X4 hown hK hH hA rfl 1 (by decide) f_10 rfl dX6_addRightPrints_39 ?_
        refine lv_iload_n hx hb dX6_addRightPrints_42 rfl (lv_at hl 1 rfl) ?_
        refine j_iadd hx hb dX6_addRightPrints_43 ?_
        refine lv_aload_n hx hb dX6_addRightPrints_44 rfl (lv_at hl 0 rfl) ?_
        refine m_get (C := RX6) (T := TX6) (N := 8) (ci := 5) hx hb hts i_X6 hown hK hH hZ1 rfl 7 (by decide) f_0 rfl dX6_addRightPrints_45 ?_
        refine m_get (C := RX4) (T := TX4) (N := 4) (ci := 3) hx hb hts i_X4 hown hK hH hA rfl 3 (by decide) f_11 rfl dX6_addRightPrints_48 ?_
        refine m_callIv (As := [.int (iv (σ 3)), .int (iv (c1 + mo)), va_rf ev]) (rest := [.ref n, .ref sa]) ⟨hx, hb, hml, hown, hts⟩ hK hH hS (c_X4_init l G (hu μ n (.inr (3, [.int (iv 0), .int (iv 0), .int (iv 0), .null]))) (n + 1) n (σ 3) (c1 + mo) (t.length : Int) ev hO12 (fun h => by subst h; have := hc2.none_; subst this; rfl) (fun a h => by subst h; obtain ⟨d2, c2, t2, e2, rfl, g1, g2, g3⟩ := hc2.some_; exact ⟨(fun q => by rw [← q] at hnn; rw [g2] at hnn; cases hnn), d2, c2, e2, hu_n' (fun q => by rw [← q] at hnn; rw [g2] at hnn; cases hnn) g2⟩)) (cwI 3 hts gX6_addRightPrints_X4_init rfl rfl rfl f_4 f_7 f_8 rfl (by decide +kernel) ⟨(Nat.le_of_ble_eq_true rfl), (Nat.le_of_ble_eq_true rfl)⟩) rfl rfl hl.1 (Nat.le_of_ble_eq_true rfl) dX6_addRightPrints_51 ⟨(Nat.le_of_ble_eq_true rfl), (Nat.le_of_ble_eq_true rfl)⟩ (fun μ13 n14 H locs hp15 hH hS => ?_)
        obtain ⟨hm2, hn2⟩ := hp15; rw [hm2, hn2] at hH; clear hm2 hn2
        rw [hu_uu] at hH
        have hZ1 := hu_n' (a := n) (e := (.inr (3, [.int (iv (σ 3)), .int (iv (c1 + mo)), .int (iv ((t.length : Int) + 1)), va_rf ev]))) ne_hZ1 hZ.1
        have hO : (hu μ n (.inr (3, [.int (iv (σ 3)), .int (iv (c1 + mo)), .int (iv ((t.length : Int) + 1)), va_rf ev]))) n = some (.inr (3, [.int (iv (σ 3)), .int (iv (c1 + mo)), .int (iv ((t.length : Int) + 1)), va_rf ev])) := hu_s
        refine m_put (C := RX6) (T := TX6) (N := 8) (ci := 5) hx hb hts i_X6 tyX6 tyX6_ok nmX6 hown hK hH hS hZ1 rfl 7 (by decide) f_0 rfl rfl rfl (Nat.le_of_ble_eq_true rfl) dX6_addRightPrints_54 (fun H locs hH hS => ?_)
        have hZ1 : (hu (hu μ n (.inr (3, [.int (iv (σ 3)), .int (iv (c1 + mo)), .int (iv ((t.length : Int) + 1)), va_rf ev]))) sa (.inr (5, [.ref (sa + 1), .ref (sa + 16), .int (iv (σ 3)), .int (iv (σ 5)), .int (iv (σ 6)), .int (iv (σ 7)), .int (iv (σ 8)), .ref n]))) sa = some (.inr (5, [.ref (sa + 1), .ref (sa + 16), .int (iv (σ 3)), .int (iv (σ 5)), .int (iv (σ 6)), .int (iv (σ 7)), .int (iv (σ 8)), .ref n])) := hu_s
        have hH : gP G (hu (hu μ n (.inr (3, [.int (iv (σ 3)), .int (iv (c1 + mo)), .int (iv ((t.length : Int) + 1)), va_rf ev]))) sa (.inr (5, [.ref (sa + 1), .ref (sa + 16), .int (iv (σ 3)), .int (iv (σ 5)), .int (iv (σ 6)), .int (iv (σ 7)), .int (iv (σ 8)), .ref n]))) (n + 1) H := hH
        refine lv_goto (tgt := 80) hx hb dX6_addRightPrints_57 (by decide) ?_
        subst hQ
        refine m_vret hx hb hr hlocks hH hS dX6_addRightPrints_80 ?_
        have hold : ∀ q e9, q ≠ sa → μ q = some e9 → (hu (hu μ n (.inr (3, [.int (iv (σ 3)), .int (iv (c1 + mo)), .int (iv ((t.length : Int) + 1)), va_rf ev]))) sa (.inr (5, [.ref (sa + 1), .ref (sa + 16), .int (iv (σ 3)), .int (iv (σ 5)), .int (iv (σ 6)), .int (iv (σ 7)), .int (iv (σ 8)), .ref n]))) q = some e9 := fun q e9 h1 h2 => hu_n' h1 (hu_n' (fun q2 => by rw [← q2] at hnn; rw [h2] at hnn; cases hnn) h2)
        refine ⟨some n, ⟨hu_s, hZ.2.1.mn (fun q e9 a b h9 => hold q e9 (by omega) h9), hold _ _ (by omega) hZ.2.2.1, fun r hr => hold _ _ (by omega) (hZ.2.2.2 r hr)⟩, ?_, fun q e9 a h9 => hold q e9 (by omega) h9⟩
        have hnew := hu_n (μ := hu μ n (.inr (3, [.int (iv (σ 3)), .int (iv (c1 + mo)), .int (iv ((t.length : Int) + 1)), va_rf ev]))) (a := sa) (b := n) (e := (.inr (5, [.ref (sa + 1), .ref (sa + 16), .int (iv (σ 3)), .int (iv (σ 5)), .int (iv (σ 6)), .int (iv (σ 7)), .int (iv (σ 8)), va_rf (some n)]))) (by omega)
        rw [hu_s] at hnew
        unfold chAdd
        rw [if_neg (by omega)]
        show Chn _ rb (some n) (if d1 = σ 3 then (σ 3, c1 + mo) :: t else (σ 3, mo) :: (d1, c1) :: t)
        rw [if_pos (by omega)]
        exact ⟨ev, hrb.2, hnew, Chn.fr (fun q e9 a h9 => hold q e9 (by omega) h9) hc2⟩
  · skip
    refine W.widen (k := 1) (n := 4) (by omega) (by omega) ?_
    subst hQ
    refine m_vret hx hb hr hlocks hH hS dX6_addRightPrints_4 ?_
    refine ⟨rd, hZ, ?_, hfm⟩
    unfold chAdd
    rw [if_pos (by omega)]
    exact hC
