abbrev rm_c_X9_putAside : Room := { frames := 0, cells := 0, slots := 0, locals := 0 }
set_option maxHeartbeats 4000000 in
set_option maxRecDepth 100000 in
theorem c_X9_putAside (l : Launch) (G : wG) (μ : hM) (n : Nat) (yy : Nat) (σ α β κ χ ω : Nat → Int) (kn ik ln en fr pl wr : Int) (hY : IsMM G μ yy σ α β κ χ ω kn ik ln en fr pl wr)  : Met l yX9_putAside wsX9_putAside rm_c_X9_putAside (mPc G μ n [.ref yy]) (mQv G (fun μ1 n1 => IsMM G μ1 yy σ σ β κ χ ω kn ik ln en (en + 1) pl wr ∧ MFr yy μ μ1)) 0 0 (gA G) := by
  refine Met.ofW (cc := cX9_putAside) (maxL := 2) (ret := none) (by decide) rfl ?_
  intro p e s m args below meth c s₁ B hml hv
  obtain ⟨hav, hK, hH⟩ := hv
  have hx := B.exec
  have hb := B.bytes
  have hr := B.returns
  have hts := atoms_spec (ws := wsX9_putAside) B.pre
  have hown : s.vm.findClass RX9 = some m.cls := findClass_of_methodNamed B.named
  have hlocks := B.notSynchronized
  have hS : va_S (gA G) s.heap s.heap [] := va_S.rf
  have hl := lv_entry ([.ref yy]) (n := 2) (Nat.le_of_ble_eq_true rfl)
  have hfr : entryFrame m args 2 = entryFrame m ([.ref yy] : List Value).toArray 2 := by rw [hav]
  rw [hfr, lg_entry_eq]
  generalize (lg_sl ([.ref yy]) ++ List.replicate (2 - (lg_sl ([.ref yy])).length) Slot.unset).toArray = ls at hl ⊢
  have hl : lv_has ls 2 [(0, .ref yy)] := hl
  generalize hQ : MQ below _ args s 0 0 (gA G) = Q
  show W p l e rm_c_X9_putAside s m args below meth c s.heap [] 0 0 Q (F0 m 0 ls [])
  obtain ⟨H, hHe⟩ : ∃ H, H = s.heap := ⟨_, rfl⟩
  obtain ⟨locs, hlo⟩ : ∃ q : List Loc, q = [] := ⟨_, rfl⟩
  have hH : gP G μ n H := by rw [hHe]; exact hH
  have hS : va_S (gA G) s.heap H locs := by rw [hHe, hlo]; exact hS
  suffices hgo : W p l e rm_c_X9_putAside s m args below meth c H locs 0 0 Q (F0 m 0 ls []) by rw [hHe, hlo] at hgo; exact hgo
  clear hHe hlo hfr hav
  have f_0 := hts (.fieldLink RX9 37 "StampDaterModel" "entries" "I") (List.mem_of_getElem? (i := 3) rfl)
  have i_X9 : ∀ w ∈ u_ws RX9 TX9 13, w ∈ wsX9_putAside := by decide +kernel
  have f_2 := hts (.fieldLink RX9 41 "StampDaterModel" "fresh" "I") (List.mem_of_getElem? (i := 4) rfl)
  have f_3 := hts (.fieldLink RX9 13 "StampDaterModel" "aside" "[I") (List.mem_of_getElem? (i := 1) rfl)
  have f_4 := hts (.fieldLink RX9 7 "StampDaterModel" "s" "[I") (List.mem_of_getElem? (i := 2) rfl)
  have hfr : MFr yy μ μ := MFr.rf
  refine j_const hx hb dX9_putAside_0 ?_
  refine lv_istore_n (lv' := [(1, .int (iv 0)), (0, .ref yy)]) hx hb dX9_putAside_1 rfl hl (by decide) rfl (fun ls hl => ?_)
  have lp2 : ∀ (fuel : Nat) (kk : Nat) (α1 : Nat → Int) (ν : hM) (ν0 : Nat) (hY : IsMM G ν yy σ α1 β κ χ ω kn ik ln en fr pl wr) (hfr : MFr yy μ ν) (hkk : kk ≤ 163) (hα : α1 = cpK σ α kk) (_ : 163 - kk < fuel) (H : Heap) (locs : List Loc) (ls : Array Slot) (_ : gP G ν ν0 H) (_ : va_S (gA G) s.heap H locs) (_ : lv_has ls 2 [(0, .ref yy), (1, .int (iv (kk : Int)))]), W p l e rm_c_X9_putAside s m args below meth c H locs 0 0 Q (F0 m 2 ls []) := by
    intro fuel
    induction fuel with
    | zero => intro _ _ _ _ _ _ _ _ hfuel; exact absurd hfuel (Nat.not_lt_zero _)
    | succ fuel ih =>
      intro kk α1 ν ν0 hY hfr hkk hα hfuel H locs ls hH hS hl
      have ih1 := ih; clear ih
      refine lv_iload_n hx hb dX9_putAside_2 rfl (lv_at hl 1 rfl) ?_
      refine j_sipush hx hb dX9_putAside_3 ?_ (by decide)
      refine j_icmp_ge (tgt := 27) hx hb dX9_putAside_6 (by decide) (fun c2 => ?_) (fun c2 => ?_) (by omega) (by omega)
      · skip
        obtain ⟨ν3, hY, hfr, hH⟩ : ∃ ξ : hM, IsMM G ξ yy σ σ β κ χ ω kn ik ln en fr pl wr ∧ MFr yy μ ξ ∧ gP G ξ ν0 H := hY.c2 hfr hH σ (fun j hj => by rw [hα, show kk = 163 by omega]; exact cpK_at hj)
        refine lv_aload_n hx hb dX9_putAside_27 rfl (lv_at hl 0 rfl) ?_
        refine lv_aload_n hx hb dX9_putAside_28 rfl (lv_at hl 0 rfl) ?_
        refine m_get (C := RX9) (T := TX9) (N := 13) (ci := 8) hx hb hts i_X9 hown hK hH hY.1 rfl 9 (by decide) f_0 rfl dX9_putAside_29 ?_
        refine j_const hx hb dX9_putAside_32 ?_
        refine j_iadd hx hb dX9_putAside_33 ?_
        refine m_put (C := RX9) (T := TX9) (N := 13) (ci := 8) hx hb hts i_X9 tyX9 tyX9_ok nmX9 hown hK hH hS hY.1 rfl 10 (by decide) f_2 rfl rfl rfl (Nat.le_of_ble_eq_true rfl) dX9_putAside_34 (fun H locs hH hS => ?_)
        obtain ⟨ν4, hY, hfr, hH⟩ : ∃ ξ : hM, IsMM G ξ yy σ σ β κ χ ω kn ik ln en (en + 1) pl wr ∧ MFr yy μ ξ ∧ gP G ξ ν0 H := hY.w0 hfr hH
        have hH : gP G ν4 ν0 H := hH
        subst hQ
        refine m_vret hx hb hr hlocks hH hS dX9_putAside_37 ?_
        exact ⟨hY, hfr⟩
      · skip
        refine lv_aload_n hx hb dX9_putAside_9 rfl (lv_at hl 0 rfl) ?_
        refine m_get (C := RX9) (T := TX9) (N := 13) (ci := 8) hx hb hts i_X9 hown hK hH hY.1 rfl 1 (by decide) f_3 rfl dX9_putAside_10 ?_
        refine lv_iload_n hx hb dX9_putAside_13 rfl (lv_at hl 1 rfl) ?_
        refine lv_aload_n hx hb dX9_putAside_14 rfl (lv_at hl 0 rfl) ?_
        refine m_get (C := RX9) (T := TX9) (N := 13) (ci := 8) hx hb hts i_X9 hown hK hH hY.1 rfl 0 (by decide) f_4 rfl dX9_putAside_15 ?_
        refine lv_iload_n hx hb dX9_putAside_18 rfl (lv_at hl 1 rfl) ?_
        refine m_iald (nA := 163) (f := σ) hx hb hK hH hY.2.1 dX9_putAside_19 ?_ (by omega) (by omega)
        refine j_norm (y := (σ kk)) rfl ?_
        refine m_iast (nA := 163) (f := α1) hx hb hK hH hS hY.2.2.1 dX9_putAside_20 (fun H locs hH hS => ?_) (by omega) (by omega)
        obtain ⟨ν5, hY, hfr, hH⟩ : ∃ ξ : hM, IsMM G ξ yy σ (fu α1 kk (σ kk)) β κ χ ω kn ik ln en fr pl wr ∧ MFr yy μ ξ ∧ gP G ξ ν0 H := hY.w2 hfr hH
        have hH : gP G ν5 ν0 H := hH
        refine j_iinc (lv' := [(1, .int (iv ((kk : Int) + 1))), (0, .ref yy)]) hx hb dX9_putAside_21 hl (k := 1) rfl (by decide) rfl (fun ls hl => ?_)
        refine lv_goto (tgt := 2) hx hb dX9_putAside_24 (by decide) ?_
        exact ih1 (kk + 1) (fu α1 kk (σ kk)) ν5 ν0 hY hfr (by omega) (by rw [hα]; exact cpK_s) (by omega) H locs ls hH hS (lv_sub hl [1, 0] rfl)
  exact lp2 (164) 0 α μ n hY hfr (by omega) (cpK_0 σ α).symm (by omega) H locs ls hH hS (lv_sub hl [1, 0] rfl)

abbrev rm_c_X9_putBack : Room := { frames := 0, cells := 0, slots := 0, locals := 0 }
set_option maxHeartbeats 4000000 in
set_option maxRecDepth 100000 in
theorem c_X9_putBack (l : Launch) (G : wG) (μ : hM) (n : Nat) (yy : Nat) (σ α β κ χ ω : Nat → Int) (kn ik ln en fr pl wr : Int) (hY : IsMM G μ yy σ α β κ χ ω kn ik ln en fr pl wr)  : Met l yX9_putBack wsX9_putBack rm_c_X9_putBack (mPc G μ n [.ref yy]) (mQv G (fun μ1 n1 => IsMM G μ1 yy α α β κ χ ω kn ik ln (fr - 1) fr pl wr ∧ MFr yy μ μ1)) 0 0 (gA G) := by
  refine Met.ofW (cc := cX9_putBack) (maxL := 2) (ret := none) (by decide) rfl ?_
  intro p e s m args below meth c s₁ B hml hv
  obtain ⟨hav, hK, hH⟩ := hv
  have hx := B.exec
  have hb := B.bytes
  have hr := B.returns
  have hts := atoms_spec (ws := wsX9_putBack) B.pre
  have hown : s.vm.findClass RX9 = some m.cls := findClass_of_methodNamed B.named
  have hlocks := B.notSynchronized
  have hS : va_S (gA G) s.heap s.heap [] := va_S.rf
  have hl := lv_entry ([.ref yy]) (n := 2) (Nat.le_of_ble_eq_true rfl)
  have hfr : entryFrame m args 2 = entryFrame m ([.ref yy] : List Value).toArray 2 := by rw [hav]
  rw [hfr, lg_entry_eq]
  generalize (lg_sl ([.ref yy]) ++ List.replicate (2 - (lg_sl ([.ref yy])).length) Slot.unset).toArray = ls at hl ⊢
  have hl : lv_has ls 2 [(0, .ref yy)] := hl
  generalize hQ : MQ below _ args s 0 0 (gA G) = Q
  show W p l e rm_c_X9_putBack s m args below meth c s.heap [] 0 0 Q (F0 m 0 ls [])
  obtain ⟨H, hHe⟩ : ∃ H, H = s.heap := ⟨_, rfl⟩
  obtain ⟨locs, hlo⟩ : ∃ q : List Loc, q = [] := ⟨_, rfl⟩
  have hH : gP G μ n H := by rw [hHe]; exact hH
  have hS : va_S (gA G) s.heap H locs := by rw [hHe, hlo]; exact hS
  suffices hgo : W p l e rm_c_X9_putBack s m args below meth c H locs 0 0 Q (F0 m 0 ls []) by rw [hHe, hlo] at hgo; exact hgo
  clear hHe hlo hfr hav
  have f_0 := hts (.fieldLink RX9 41 "StampDaterModel" "fresh" "I") (List.mem_of_getElem? (i := 3) rfl)
  have i_X9 : ∀ w ∈ u_ws RX9 TX9 13, w ∈ wsX9_putBack := by decide +kernel
  have f_2 := hts (.fieldLink RX9 37 "StampDaterModel" "entries" "I") (List.mem_of_getElem? (i := 4) rfl)
  have f_3 := hts (.fieldLink RX9 7 "StampDaterModel" "s" "[I") (List.mem_of_getElem? (i := 1) rfl)
  have f_4 := hts (.fieldLink RX9 13 "StampDaterModel" "aside" "[I") (List.mem_of_getElem? (i := 2) rfl)
  have hfr : MFr yy μ μ := MFr.rf
  refine j_const hx hb dX9_putBack_0 ?_
  refine lv_istore_n (lv' := [(1, .int (iv 0)), (0, .ref yy)]) hx hb dX9_putBack_1 rfl hl (by decide) rfl (fun ls hl => ?_)
  have lp2 : ∀ (fuel : Nat) (kk : Nat) (σ1 : Nat → Int) (ν : hM) (ν0 : Nat) (hY : IsMM G ν yy σ1 α β κ χ ω kn ik ln en fr pl wr) (hfr : MFr yy μ ν) (hkk : kk ≤ 163) (hσ : σ1 = cpK α σ kk) (_ : 163 - kk < fuel) (H : Heap) (locs : List Loc) (ls : Array Slot) (_ : gP G ν ν0 H) (_ : va_S (gA G) s.heap H locs) (_ : lv_has ls 2 [(0, .ref yy), (1, .int (iv (kk : Int)))]), W p l e rm_c_X9_putBack s m args below meth c H locs 0 0 Q (F0 m 2 ls []) := by
    intro fuel
    induction fuel with
    | zero => intro _ _ _ _ _ _ _ _ hfuel; exact absurd hfuel (Nat.not_lt_zero _)
    | succ fuel ih =>
      intro kk σ1 ν ν0 hY hfr hkk hσ hfuel H locs ls hH hS hl
      have ih1 := ih; clear ih
      refine lv_iload_n hx hb dX9_putBack_2 rfl (lv_at hl 1 rfl) ?_
      refine j_sipush hx hb dX9_putBack_3 ?_ (by decide)
      refine j_icmp_ge (tgt := 27) hx hb dX9_putBack_6 (by decide) (fun c2 => ?_) (fun c2 => ?_) (by omega) (by omega)
      · skip
        obtain ⟨ν3, hY, hfr, hH⟩ : ∃ ξ : hM, IsMM G ξ yy α α β κ χ ω kn ik ln en fr pl wr ∧ MFr yy μ ξ ∧ gP G ξ ν0 H := hY.c1 hfr hH α (fun j hj => by rw [hσ, show kk = 163 by omega]; exact cpK_at hj)
        refine lv_aload_n hx hb dX9_putBack_27 rfl (lv_at hl 0 rfl) ?_
        refine lv_aload_n hx hb dX9_putBack_28 rfl (lv_at hl 0 rfl) ?_
        refine m_get (C := RX9) (T := TX9) (N := 13) (ci := 8) hx hb hts i_X9 hown hK hH hY.1 rfl 10 (by decide) f_0 rfl dX9_putBack_29 ?_
        refine j_const hx hb dX9_putBack_32 ?_
        refine j_isub hx hb dX9_putBack_33 ?_
        refine m_put (C := RX9) (T := TX9) (N := 13) (ci := 8) hx hb hts i_X9 tyX9 tyX9_ok nmX9 hown hK hH hS hY.1 rfl 9 (by decide) f_2 rfl rfl rfl (Nat.le_of_ble_eq_true rfl) dX9_putBack_34 (fun H locs hH hS => ?_)
        obtain ⟨ν4, hY, hfr, hH⟩ : ∃ ξ : hM, IsMM G ξ yy α α β κ χ ω kn ik ln (fr - 1) fr pl wr ∧ MFr yy μ ξ ∧ gP G ξ ν0 H := hY.w0 hfr hH
        have hH : gP G ν4 ν0 H := hH
        subst hQ
        refine m_vret hx hb hr hlocks hH hS dX9_putBack_37 ?_
        exact ⟨hY, hfr⟩
      · skip
        refine lv_aload_n hx hb dX9_putBack_9 rfl (lv_at hl 0 rfl) ?_
        refine m_get (C := RX9) (T := TX9) (N := 13) (ci := 8) hx hb hts i_X9 hown hK hH hY.1 rfl 0 (by decide) f_3 rfl dX9_putBack_10 ?_
        refine lv_iload_n hx hb dX9_putBack_13 rfl (lv_at hl 1 rfl) ?_
        refine lv_aload_n hx hb dX9_putBack_14 rfl (lv_at hl 0 rfl) ?_
        refine m_get (C := RX9) (T := TX9) (N := 13) (ci := 8) hx hb hts i_X9 hown hK hH hY.1 rfl 1 (by decide) f_4 rfl dX9_putBack_15 ?_
        refine lv_iload_n hx hb dX9_putBack_18 rfl (lv_at hl 1 rfl) ?_
        refine m_iald (nA := 163) (f := α) hx hb hK hH hY.2.2.1 dX9_putBack_19 ?_ (by omega) (by omega)
        refine j_norm (y := (α kk)) rfl ?_
        refine m_iast (nA := 163) (f := σ1) hx hb hK hH hS hY.2.1 dX9_putBack_20 (fun H locs hH hS => ?_) (by omega) (by omega)
        obtain ⟨ν5, hY, hfr, hH⟩ : ∃ ξ : hM, IsMM G ξ yy (fu σ1 kk (α kk)) α β κ χ ω kn ik ln en fr pl wr ∧ MFr yy μ ξ ∧ gP G ξ ν0 H := hY.w1 hfr hH
        have hH : gP G ν5 ν0 H := hH
        refine j_iinc (lv' := [(1, .int (iv ((kk : Int) + 1))), (0, .ref yy)]) hx hb dX9_putBack_21 hl (k := 1) rfl (by decide) rfl (fun ls hl => ?_)
        refine lv_goto (tgt := 2) hx hb dX9_putBack_24 (by decide) ?_
        exact ih1 (kk + 1) (fu σ1 kk (α kk)) ν5 ν0 hY hfr (by omega) (by rw [hσ]; exact cpK_s) (by omega) H locs ls hH hS (lv_sub hl [1, 0] rfl)
  exact lp2 (164) 0 σ μ n hY hfr (by omega) (cpK_0 α σ).symm (by omega) H locs ls hH hS (lv_sub hl [1, 0] rfl)

abbrev rm_c_X9_act : Room := { frames := 1, cells := 0, slots := 0, locals := 21 }
set_option maxHeartbeats 4000000 in
set_option maxRecDepth 100000 in
theorem c_X9_act (l : Launch) (G : wG) (μ : hM) (n : Nat) (yy : Nat) (σ α β κ χ ω : Nat → Int) (kn ik ln en fr pl wr : Int) (hY : IsMM G μ yy σ α β κ χ ω kn ik ln en fr pl wr) (z0 : Int) (hz0 : -2147483648 ≤ z0 ∧ z0 ≤ 2147483647) (hkn : 0 ≤ kn ∧ kn ≤ 4) : Met l yX9_act wsX9_act rm_c_X9_act (mPc G μ n [.ref yy, .int (iv z0)]) (mQi G (fun z μ1 n1 => z = z0 ∧ MFr yy μ μ1 ∧ (z0 < 0 → IsMM G μ1 yy α α β κ χ ω kn ik ln (fr - 1) fr pl wr) ∧ (0 ≤ z0 → ∃ β1 : Nat → Int, IsMM G μ1 yy σ α β1 κ χ ω (min 4 (kn + 1)) ik ln en fr pl wr ∧ ∀ r j, r < 4 → j < 163 → β1 (163 * r + j) = hiS kn (fun r j => β (163 * r + j)) α r j))) 0 0 (gA G) := by
  refine Met.ofW (cc := cX9_act) (maxL := 3) (ret := (some .int)) (by decide) rfl ?_
  intro p e s m args below meth c s₁ B hml hv
  obtain ⟨hav, hK, hH⟩ := hv
  have hx := B.exec
  have hb := B.bytes
  have hr := B.returns
  have hts := atoms_spec (ws := wsX9_act) B.pre
  have hown : s.vm.findClass RX9 = some m.cls := findClass_of_methodNamed B.named
  have hlocks := B.notSynchronized
  have hS : va_S (gA G) s.heap s.heap [] := va_S.rf
  have hl := lv_entry ([.ref yy, .int (iv z0)]) (n := 3) (Nat.le_of_ble_eq_true rfl)
  have hfr : entryFrame m args 3 = entryFrame m ([.ref yy, .int (iv z0)] : List Value).toArray 3 := by rw [hav]
  rw [hfr, lg_entry_eq]
  generalize (lg_sl ([.ref yy, .int (iv z0)]) ++ List.replicate (3 - (lg_sl ([.ref yy, .int (iv z0)])).length) Slot.unset).toArray = ls at hl ⊢
  have hl : lv_has ls 3 [(0, .ref yy), (1, .int (iv z0))] := hl
  generalize hQ : MQ below _ args s 0 0 (gA G) = Q
  show W p l e rm_c_X9_act s m args below meth c s.heap [] 0 0 Q (F0 m 0 ls [])
  obtain ⟨H, hHe⟩ : ∃ H, H = s.heap := ⟨_, rfl⟩
  obtain ⟨locs, hlo⟩ : ∃ q : List Loc, q = [] := ⟨_, rfl⟩
  have hH : gP G μ n H := by rw [hHe]; exact hH
  have hS : va_S (gA G) s.heap H locs := by rw [hHe, hlo]; exact hS
  suffices hgo : W p l e rm_c_X9_act s m args below meth c H locs 0 0 Q (F0 m 0 ls []) by rw [hHe, hlo] at hgo; exact hgo
  clear hHe hlo hfr hav
  have f_0 := hts (.fieldLink RX9 47 "StampDaterModel" "known" "I") (List.mem_of_getElem? (i := 1) rfl)
  have i_X9 : ∀ w ∈ u_ws RX9 TX9 13, w ∈ wsX9_act := by decide +kernel
  have f_2 := hts (.fieldLink RX9 16 "StampDaterModel" "before" "[I") (List.mem_of_getElem? (i := 2) rfl)
  have f_3 := hts (.fieldLink RX9 13 "StampDaterModel" "aside" "[I") (List.mem_of_getElem? (i := 3) rfl)
  have hfr : MFr yy μ μ := MFr.rf
  refine lv_iload_n hx hb dX9_act_0 rfl (lv_at hl 1 rfl) ?_
  refine j_if_ge (tgt := 10) hx hb dX9_act_1 (by decide) (fun c1 => ?_) (fun c1 => ?_) (by omega)
  · skip
    refine lv_aload_n hx hb dX9_act_10 rfl (lv_at hl 0 rfl) ?_
    refine m_get (C := RX9) (T := TX9) (N := 13) (ci := 8) hx hb hts i_X9 hown hK hH hY.1 rfl 3 (by decide) f_0 rfl dX9_act_11 ?_
    refine j_const hx hb dX9_act_14 ?_
    refine j_icmp_ne (tgt := 59) hx hb dX9_act_15 (by decide) (fun c2 => ?_) (fun c2 => ?_) (by omega) (by omega)
    · skip
      refine j_const hx hb dX9_act_59 ?_
      refine lv_istore_n (lv' := [(2, .int (iv 0)), (0, .ref yy), (1, .int (iv z0))]) hx hb dX9_act_60 rfl hl (by decide) rfl (fun ls hl => ?_)
      have lp61 : ∀ (fuel : Nat) (q : Nat) (βb : Nat → Int) (k2 : Nat) (β2 : Nat → Int) (kn2 : Int) (ν : hM) (ν0 : Nat) (hY : IsMM G ν yy σ α β2 κ χ ω kn2 ik ln en fr pl wr) (hfr : MFr yy μ ν) (hk2 : k2 ≤ 163) (hq : (kn = 4 ∧ q = 3 ∧ (∀ j, j < 489 → βb j = β (163 + j))) ∨ (kn ≠ 4 ∧ (q : Int) = kn ∧ βb = β)) (hkq : kn2 = (q : Int)) (hβ2 : β2 = putK βb α q k2) (_ : 163 - k2 < fuel) (H : Heap) (locs : List Loc) (ls : Array Slot) (_ : gP G ν ν0 H) (_ : va_S (gA G) s.heap H locs) (_ : lv_has ls 3 [(0, .ref yy), (1, .int (iv z0)), (2, .int (iv (k2 : Int)))]), W p l e rm_c_X9_act s m args below meth c H locs 0 0 Q (F0 m 61 ls []) := by
        intro fuel
        induction fuel with
        | zero => intro _ _ _ _ _ _ _ _ _ _ _ _ _ hfuel; exact absurd hfuel (Nat.not_lt_zero _)
        | succ fuel ih =>
          intro q βb k2 β2 kn2 ν ν0 hY hfr hk2 hq hkq hβ2 hfuel H locs ls hH hS hl
          have hq4 : q < 4 := by rcases hq with h | h; omega; omega
          have ih3 := ih; clear ih
          refine lv_iload_n hx hb dX9_act_61 rfl (lv_at hl 2 rfl) ?_
          refine j_sipush hx hb dX9_act_62 ?_ (by decide)
          refine j_icmp_ge (tgt := 95) hx hb dX9_act_65 (by decide) (fun c4 => ?_) (fun c4 => ?_) (by omega) (by omega)
          · skip
            refine lv_aload_n hx hb dX9_act_95 rfl (lv_at hl 0 rfl) ?_
            refine lv_dup hx hb dX9_act_96 rfl ?_
            refine m_get (C := RX9) (T := TX9) (N := 13) (ci := 8) hx hb hts i_X9 hown hK hH hY.1 rfl 3 (by decide) f_0 rfl dX9_act_97 ?_
            refine j_const hx hb dX9_act_100 ?_
            refine j_iadd hx hb dX9_act_101 ?_
            refine m_put (C := RX9) (T := TX9) (N := 13) (ci := 8) hx hb hts i_X9 tyX9 tyX9_ok nmX9 hown hK hH hS hY.1 rfl 3 (by decide) f_0 rfl rfl rfl (Nat.le_of_ble_eq_true rfl) dX9_act_102 (fun H locs hH hS => ?_)
            obtain ⟨ν5, hY, hfr, hH⟩ : ∃ ξ : hM, IsMM G ξ yy σ α β2 κ χ ω (kn2 + 1) ik ln en fr pl wr ∧ MFr yy μ ξ ∧ gP G ξ ν0 H := hY.w0 hfr hH
            have hH : gP G ν5 ν0 H := hH
            refine lv_iload_n hx hb dX9_act_105 rfl (lv_at hl 1 rfl) ?_
            subst hQ
            refine m_iret hx hb hr hlocks hH hS dX9_act_106 ?_ (by omega)
            have hkm : kn2 + 1 = min 4 (kn + 1) := by rcases hq with h | h; omega; omega
            rw [hkm] at hY
            refine ⟨rfl, hfr, fun h9 => absurd h9 (by omega), fun _ => ⟨β2, hY, ?_⟩⟩
            rw [hβ2, show k2 = 163 by omega]
            exact act_rel hq
          · skip
            refine lv_aload_n hx hb dX9_act_68 rfl (lv_at hl 0 rfl) ?_
            refine m_get (C := RX9) (T := TX9) (N := 13) (ci := 8) hx hb hts i_X9 hown hK hH hY.1 rfl 2 (by decide) f_2 rfl dX9_act_69 ?_
            refine j_sipush hx hb dX9_act_72 ?_ (by decide)
            refine lv_aload_n hx hb dX9_act_75 rfl (lv_at hl 0 rfl) ?_
            refine m_get (C := RX9) (T := TX9) (N := 13) (ci := 8) hx hb hts i_X9 hown hK hH hY.1 rfl 3 (by decide) f_0 rfl dX9_act_76 ?_
            refine j_imul hx hb dX9_act_79 ?_
            refine lv_iload_n hx hb dX9_act_80 rfl (lv_at hl 2 rfl) ?_
            refine j_iadd hx hb dX9_act_81 ?_
            refine j_norm (y := ((163 * q + k2 : Nat) : Int)) (by omega) ?_
            refine lv_aload_n hx hb dX9_act_82 rfl (lv_at hl 0 rfl) ?_
            refine m_get (C := RX9) (T := TX9) (N := 13) (ci := 8) hx hb hts i_X9 hown hK hH hY.1 rfl 1 (by decide) f_3 rfl dX9_act_83 ?_
            refine lv_iload_n hx hb dX9_act_86 rfl (lv_at hl 2 rfl) ?_
            refine m_iald (nA := 163) (f := α) hx hb hK hH hY.2.2.1 dX9_act_87 ?_ (by omega) (by omega)
            refine j_norm (y := (α k2)) rfl ?_
            refine m_iast (nA := 652) (f := β2) hx hb hK hH hS hY.2.2.2.1 dX9_act_88 (fun H locs hH hS => ?_) (by omega) (by omega)
            obtain ⟨ν6, hY, hfr, hH⟩ : ∃ ξ : hM, IsMM G ξ yy σ α (fu β2 (163 * q + k2) (α k2)) κ χ ω kn2 ik ln en fr pl wr ∧ MFr yy μ ξ ∧ gP G ξ ν0 H := hY.w3 hfr hH
            have hH : gP G ν6 ν0 H := hH
            refine j_iinc (lv' := [(2, .int (iv ((k2 : Int) + 1))), (0, .ref yy), (1, .int (iv z0))]) hx hb dX9_act_89 hl (k := 2) rfl (by decide) rfl (fun ls hl => ?_)
            refine lv_goto (tgt := 61) hx hb dX9_act_92 (by decide) ?_
            exact ih3 q βb (k2 + 1) (fu β2 (163 * q + k2) (α k2)) kn2 ν6 ν0 hY hfr (by omega) hq hkq (by rw [hβ2]; exact putK_s) (by omega) H locs ls hH hS (lv_sub hl [1, 2, 0] rfl)
      exact lp61 (164) kn.toNat β 0 β kn μ n hY hfr (by omega) (Or.inr ⟨by omega, by omega, rfl⟩) (by omega) (putK_0 _ _ _).symm (by omega) H locs ls hH hS (lv_sub hl [1, 2, 0] rfl)
    · skip
      refine j_const hx hb dX9_act_18 ?_
      refine lv_istore_n (lv' := [(2, .int (iv 0)), (0, .ref yy), (1, .int (iv z0))]) hx hb dX9_act_19 rfl hl (by decide) rfl (fun ls hl => ?_)
      have lp20 : ∀ (fuel : Nat) (kk : Nat) (β1 : Nat → Int) (ν : hM) (ν0 : Nat) (hY : IsMM G ν yy σ α β1 κ χ ω kn ik ln en fr pl wr) (hfr : MFr yy μ ν) (hkk : kk ≤ 489) (hβ : β1 = shB β kk) (_ : 489 - kk < fuel) (H : Heap) (locs : List Loc) (ls : Array Slot) (_ : gP G ν ν0 H) (_ : va_S (gA G) s.heap H locs) (_ : lv_has ls 3 [(0, .ref yy), (1, .int (iv z0)), (2, .int (iv (kk : Int)))]), W p l e rm_c_X9_act s m args below meth c H locs 0 0 Q (F0 m 20 ls []) := by
        intro fuel
        induction fuel with
        | zero => intro _ _ _ _ _ _ _ _ hfuel; exact absurd hfuel (Nat.not_lt_zero _)
        | succ fuel ih =>
          intro kk β1 ν ν0 hY hfr hkk hβ hfuel H locs ls hH hS hl
          have ih7 := ih; clear ih
          refine lv_iload_n hx hb dX9_act_20 rfl (lv_at hl 2 rfl) ?_
          refine j_sipush hx hb dX9_act_21 ?_ (by decide)
          refine j_icmp_ge (tgt := 49) hx hb dX9_act_24 (by decide) (fun c8 => ?_) (fun c8 => ?_) (by omega) (by omega)
          · skip
            refine lv_aload_n hx hb dX9_act_49 rfl (lv_at hl 0 rfl) ?_
            refine lv_dup hx hb dX9_act_50 rfl ?_
            refine m_get (C := RX9) (T := TX9) (N := 13) (ci := 8) hx hb hts i_X9 hown hK hH hY.1 rfl 3 (by decide) f_0 rfl dX9_act_51 ?_
            refine j_const hx hb dX9_act_54 ?_
            refine j_isub hx hb dX9_act_55 ?_
            refine m_put (C := RX9) (T := TX9) (N := 13) (ci := 8) hx hb hts i_X9 tyX9 tyX9_ok nmX9 hown hK hH hS hY.1 rfl 3 (by decide) f_0 rfl rfl rfl (Nat.le_of_ble_eq_true rfl) dX9_act_56 (fun H locs hH hS => ?_)
            obtain ⟨ν9, hY, hfr, hH⟩ : ∃ ξ : hM, IsMM G ξ yy σ α β1 κ χ ω (kn - 1) ik ln en fr pl wr ∧ MFr yy μ ξ ∧ gP G ξ ν0 H := hY.w0 hfr hH
            have hH : gP G ν9 ν0 H := hH
            refine j_const hx hb dX9_act_59 ?_
            refine lv_istore_n (lv' := [(2, .int (iv 0)), (0, .ref yy), (1, .int (iv z0))]) hx hb dX9_act_60 rfl hl (by decide) rfl (fun ls hl => ?_)
            have lp61 : ∀ (fuel : Nat) (q : Nat) (βb : Nat → Int) (k2 : Nat) (β2 : Nat → Int) (kn2 : Int) (ν : hM) (ν0 : Nat) (hY : IsMM G ν yy σ α β2 κ χ ω kn2 ik ln en fr pl wr) (hfr : MFr yy μ ν) (hk2 : k2 ≤ 163) (hq : (kn = 4 ∧ q = 3 ∧ (∀ j, j < 489 → βb j = β (163 + j))) ∨ (kn ≠ 4 ∧ (q : Int) = kn ∧ βb = β)) (hkq : kn2 = (q : Int)) (hβ2 : β2 = putK βb α q k2) (_ : 163 - k2 < fuel) (H : Heap) (locs : List Loc) (ls : Array Slot) (_ : gP G ν ν0 H) (_ : va_S (gA G) s.heap H locs) (_ : lv_has ls 3 [(0, .ref yy), (1, .int (iv z0)), (2, .int (iv (k2 : Int)))]), W p l e rm_c_X9_act s m args below meth c H locs 0 0 Q (F0 m 61 ls []) := by
              intro fuel
              induction fuel with
              | zero => intro _ _ _ _ _ _ _ _ _ _ _ _ _ hfuel; exact absurd hfuel (Nat.not_lt_zero _)
              | succ fuel ih =>
                intro q βb k2 β2 kn2 ν ν0 hY hfr hk2 hq hkq hβ2 hfuel H locs ls hH hS hl
                have hq4 : q < 4 := by rcases hq with h | h; omega; omega
                have ih10 := ih; clear ih
                refine lv_iload_n hx hb dX9_act_61 rfl (lv_at hl 2 rfl) ?_
                refine j_sipush hx hb dX9_act_62 ?_ (by decide)
                refine j_icmp_ge (tgt := 95) hx hb dX9_act_65 (by decide) (fun c11 => ?_) (fun c11 => ?_) (by omega) (by omega)
                · skip
                  refine lv_aload_n hx hb dX9_act_95 rfl (lv_at hl 0 rfl) ?_
                  refine lv_dup hx hb dX9_act_96 rfl ?_
                  refine m_get (C := RX9) (T := TX9) (N := 13) (ci := 8) hx hb hts i_X9 hown hK hH hY.1 rfl 3 (by decide) f_0 rfl dX9_act_97 ?_
                  refine j_const hx hb dX9_act_100 ?_
                  refine j_iadd hx hb dX9_act_101 ?_
                  refine m_put (C := RX9) (T := TX9) (N := 13) (ci := 8) hx hb hts i_X9 tyX9 tyX9_ok nmX9 hown hK hH hS hY.1 rfl 3 (by decide) f_0 rfl rfl rfl (Nat.le_of_ble_eq_true rfl) dX9_act_102 (fun H locs hH hS => ?_)
                  obtain ⟨ν12, hY, hfr, hH⟩ : ∃ ξ : hM, IsMM G ξ yy σ α β2 κ χ ω (kn2 + 1) ik ln en fr pl wr ∧ MFr yy μ ξ ∧ gP G ξ ν0 H := hY.w0 hfr hH
                  have hH : gP G ν12 ν0 H := hH
                  refine lv_iload_n hx hb dX9_act_105 rfl (lv_at hl 1 rfl) ?_
                  subst hQ
                  refine m_iret hx hb hr hlocks hH hS dX9_act_106 ?_ (by omega)
                  have hkm : kn2 + 1 = min 4 (kn + 1) := by rcases hq with h | h; omega; omega
                  rw [hkm] at hY
                  refine ⟨rfl, hfr, fun h9 => absurd h9 (by omega), fun _ => ⟨β2, hY, ?_⟩⟩
                  rw [hβ2, show k2 = 163 by omega]
                  exact act_rel hq
                · skip
                  refine lv_aload_n hx hb dX9_act_68 rfl (lv_at hl 0 rfl) ?_
                  refine m_get (C := RX9) (T := TX9) (N := 13) (ci := 8) hx hb hts i_X9 hown hK hH hY.1 rfl 2 (by decide) f_2 rfl dX9_act_69 ?_
                  refine j_sipush hx hb dX9_act_72 ?_ (by decide)
                  refine lv_aload_n hx hb dX9_act_75 rfl (lv_at hl 0 rfl) ?_
                  refine m_get (C := RX9) (T := TX9) (N := 13) (ci := 8) hx hb hts i_X9 hown hK hH hY.1 rfl 3 (by decide) f_0 rfl dX9_act_76 ?_
                  refine j_imul hx hb dX9_act_79 ?_
                  refine lv_iload_n hx hb dX9_act_80 rfl (lv_at hl 2 rfl) ?_
                  refine j_iadd hx hb dX9_act_81 ?_
                  refine j_norm (y := ((163 * q + k2 : Nat) : Int)) (by omega) ?_
                  refine lv_aload_n hx hb dX9_act_82 rfl (lv_at hl 0 rfl) ?_
                  refine m_get (C := RX9) (T := TX9) (N := 13) (ci := 8) hx hb hts i_X9 hown hK hH hY.1 rfl 1 (by decide) f_3 rfl dX9_act_83 ?_
                  refine lv_iload_n hx hb dX9_act_86 rfl (lv_at hl 2 rfl) ?_
                  refine m_iald (nA := 163) (f := α) hx hb hK hH hY.2.2.1 dX9_act_87 ?_ (by omega) (by omega)
                  refine j_norm (y := (α k2)) rfl ?_
                  refine m_iast (nA := 652) (f := β2) hx hb hK hH hS hY.2.2.2.1 dX9_act_88 (fun H locs hH hS => ?_) (by omega) (by omega)
                  obtain ⟨ν13, hY, hfr, hH⟩ : ∃ ξ : hM, IsMM G ξ yy σ α (fu β2 (163 * q + k2) (α k2)) κ χ ω kn2 ik ln en fr pl wr ∧ MFr yy μ ξ ∧ gP G ξ ν0 H := hY.w3 hfr hH
                  have hH : gP G ν13 ν0 H := hH
                  refine j_iinc (lv' := [(2, .int (iv ((k2 : Int) + 1))), (0, .ref yy), (1, .int (iv z0))]) hx hb dX9_act_89 hl (k := 2) rfl (by decide) rfl (fun ls hl => ?_)
                  refine lv_goto (tgt := 61) hx hb dX9_act_92 (by decide) ?_
                  exact ih10 q βb (k2 + 1) (fu β2 (163 * q + k2) (α k2)) kn2 ν13 ν0 hY hfr (by omega) hq hkq (by rw [hβ2]; exact putK_s) (by omega) H locs ls hH hS (lv_sub hl [1, 2, 0] rfl)
            exact lp61 (164) 3 β1 0 β1 (kn - 1) ν9 ν0 hY hfr (by omega) (Or.inl ⟨by omega, rfl, fun j hj => by rw [hβ, show kk = 489 by omega]; exact if_pos hj⟩) (by omega) (putK_0 _ _ _).symm (by omega) H locs ls hH hS (lv_sub hl [1, 2, 0] rfl)
          · skip
            refine lv_aload_n hx hb dX9_act_27 rfl (lv_at hl 0 rfl) ?_
            refine m_get (C := RX9) (T := TX9) (N := 13) (ci := 8) hx hb hts i_X9 hown hK hH hY.1 rfl 2 (by decide) f_2 rfl dX9_act_28 ?_
            refine lv_iload_n hx hb dX9_act_31 rfl (lv_at hl 2 rfl) ?_
            refine lv_aload_n hx hb dX9_act_32 rfl (lv_at hl 0 rfl) ?_
            refine m_get (C := RX9) (T := TX9) (N := 13) (ci := 8) hx hb hts i_X9 hown hK hH hY.1 rfl 2 (by decide) f_2 rfl dX9_act_33 ?_
            refine j_sipush hx hb dX9_act_36 ?_ (by decide)
            refine lv_iload_n hx hb dX9_act_39 rfl (lv_at hl 2 rfl) ?_
            refine j_iadd hx hb dX9_act_40 ?_
            refine j_norm (y := ((163 + kk : Nat) : Int)) (by omega) ?_
            refine m_iald (nA := 652) (f := β1) hx hb hK hH hY.2.2.2.1 dX9_act_41 ?_ (by omega) (by omega)
            refine j_norm (y := (β1 (163 + kk))) rfl ?_
            refine m_iast (nA := 652) (f := β1) hx hb hK hH hS hY.2.2.2.1 dX9_act_42 (fun H locs hH hS => ?_) (by omega) (by omega)
            obtain ⟨ν14, hY, hfr, hH⟩ : ∃ ξ : hM, IsMM G ξ yy σ α (fu β1 kk (β1 (163 + kk))) κ χ ω kn ik ln en fr pl wr ∧ MFr yy μ ξ ∧ gP G ξ ν0 H := hY.w3 hfr hH
            have hH : gP G ν14 ν0 H := hH
            refine j_iinc (lv' := [(2, .int (iv ((kk : Int) + 1))), (0, .ref yy), (1, .int (iv z0))]) hx hb dX9_act_43 hl (k := 2) rfl (by decide) rfl (fun ls hl => ?_)
            refine lv_goto (tgt := 20) hx hb dX9_act_46 (by decide) ?_
            exact ih7 (kk + 1) (fu β1 kk (β1 (163 + kk))) ν14 ν0 hY hfr (by omega) (by rw [hβ]; exact shB_s) (by omega) H locs ls hH hS (lv_sub hl [1, 2, 0] rfl)
      exact lp20 (490) 0 β μ n hY hfr (by omega) (shB_0 β).symm (by omega) H locs ls hH hS (lv_sub hl [1, 2, 0] rfl)
  · skip
    refine lv_aload_n hx hb dX9_act_4 rfl (lv_at hl 0 rfl) ?_
    refine m_callVv (As := []) (rest := []) ⟨hx, hb, hml, hown, hts⟩ hK hH hS (c_X9_putBack l G μ n yy σ α β κ χ ω kn ik ln en fr pl wr hY ) (cwV 0 hts gX9_act_X9_putBack rfl rfl rfl (by decide +kernel) ⟨(Nat.le_of_ble_eq_true rfl), (Nat.le_of_ble_eq_true rfl)⟩) hY.1 rfl rfl rfl rfl hl.1 (Nat.le_of_ble_eq_true rfl) dX9_act_5 ⟨Nat.zero_le _, Nat.zero_le _⟩ (fun μ15 n16 H locs hp17 hH hS => ?_)
    obtain ⟨hY, hfr1⟩ := hp17
    have hfr := hfr.tr hfr1
    clear hfr1
    refine lv_iload_n hx hb dX9_act_8 rfl (lv_at hl 1 rfl) ?_
    subst hQ
    refine m_iret hx hb hr hlocks hH hS dX9_act_9 ?_ (by omega)
    exact ⟨rfl, hfr, fun _ => hY, fun h9 => absurd h9 (by omega)⟩
