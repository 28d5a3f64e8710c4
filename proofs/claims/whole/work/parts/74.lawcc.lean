section LAWC
variable {p : Program} {l : Launch} {e : Env} {s : State} {m : MethodId} {below : List Frame} {meth : Method} {c : Code} {b L : Nat} {xs : Nat → Int32} {G : wG} {ν : hM} {n0 x k : Nat} {H : Heap} {locs : List Loc} {ls : Array Slot} {Q : State → Prop}
set_option maxHeartbeats 4000000 in
set_option maxRecDepth 100000 in
theorem law_wear (C : LwC p s m c b L xs G) (hL : L ≤ 1536) (hkL : 3 * k + 3 ≤ L) (hl : lv_has ls 8 (lvL x b k)) (hH : gP G ν n0 H) (hS : va_S (gA G) s.heap H locs) (hJ : LwJ G ν x k) (K : ∀ (H : Heap) (locs : List Loc) (ν : hM) (n0 : Nat) (ls : Array Slot), gP G ν n0 H → va_S (gA G) s.heap H locs → lv_has ls 8 (lvL x b k) → LwJ G ν x (k + 1) → W p l e room_1 s m #[Value.ref b] below meth c H locs (201 + 62 * (k + 1)) (27000 + 248 * (k + 1)) Q (F0 m 854 ls [])) : W p l e room_1 s m #[Value.ref b] below meth c H locs (201 + 62 * k) (27000 + 248 * k) Q (F0 m 599 ls []) := by
  obtain ⟨hx, hb, hml, hown, hts, hX, hbl, hK, hGb⟩ := C
  have hbA : ¬ gA G b := fun q => by have q1 : G.2.2.1 ≤ b := q; omega
  obtain ⟨u, en, hD, hM, hen, hB6⟩ := hJ
  have hO := hD.okD
  have hK3 := hD.okK.1.2.1
  have h5 : (aD u).1 5 + 6200 ≤ 2000000000 := by have := hB6.1; omega
  have h599 : (aD u).1 5 + 99 ≤ 2000000000 := by omega
  obtain ⟨fs9, hobj⟩ := hM.obj
  refine lv_aload_n hx hb dL_law_599 rfl (lv_at hl 2 rfl) ?_
  refine lv_aload_n hx hb dL_law_600 rfl (lv_at hl 3 rfl) ?_
  refine lv_iload_n hx hb dL_law_601 rfl (lv_at hl 0 rfl) ?_
  refine j_const hx hb dL_law_602 ?_
  refine j_iadd hx hb dL_law_603 ?_
  refine va_sld hx hb hX hbl hbA hS (iv_in ⟨by omega, by omega⟩ (by omega)) dL_law_604 ?_
  obtain ⟨w1, hw1⟩ : ∃ y : Int32, y = xs (iv (3 * (k : Int) + 1)).toNatClampNeg := ⟨_, rfl⟩
  obtain ⟨k1, hk1e, hr1⟩ : ∃ z : Int, w1 = iv z ∧ -2147483648 ≤ z ∧ z ≤ 2147483647 := ⟨_, (iv_of _).symm, iv_rng _⟩
  rw [← hw1]
  rw [hk1e]
  refine lv_aload_n hx hb dL_law_605 rfl (lv_at hl 3 rfl) ?_
  refine lv_iload_n hx hb dL_law_606 rfl (lv_at hl 0 rfl) ?_
  refine j_const hx hb dL_law_607 ?_
  refine j_iadd hx hb dL_law_608 ?_
  refine va_sld hx hb hX hbl hbA hS (iv_in ⟨by omega, by omega⟩ (by omega)) dL_law_609 ?_
  obtain ⟨w2, hw2⟩ : ∃ y : Int32, y = xs (iv (3 * (k : Int) + 2)).toNatClampNeg := ⟨_, rfl⟩
  obtain ⟨k2, hk2e, hr2⟩ : ∃ z : Int, w2 = iv z ∧ -2147483648 ≤ z ∧ z ≤ 2147483647 := ⟨_, (iv_of _).symm, iv_rng _⟩
  rw [← hw2]
  rw [hk2e]
  refine m_callVi (As := [.int (iv k1), .int (iv k2)]) (rest := []) ⟨hx, hb, hml, hown, hts⟩ hK hH hS (c_X8_wear l G ν n0 x (x + 201) u k1 k2 hD hr1 hr2) (cwV 2 hts gL_law_X8_wear rfl rfl rfl (by decide +kernel) ⟨(Nat.le_of_ble_eq_true rfl), (Nat.le_of_ble_eq_true rfl)⟩) hD.1 rfl rfl rfl rfl hl.1 (Nat.le_of_ble_eq_true rfl) dL_law_610 ⟨by show 201 + 62 * k + 0 ≤ 600000; omega, by show 27000 + 248 * k + 0 ≤ 7302250; omega⟩ (fun z1 ν1 n1 H locs hz1 hp1 hH hS => ?_)
  obtain ⟨he1, hm1, hn1⟩ := hp1
  rw [hm1, hn1] at hH
  refine lv_aload_n hx hb dL_law_613 rfl (lv_at hl 1 rfl) ?_
  refine lv_aload_n hx hb dL_law_614 rfl (lv_at hl 3 rfl) ?_
  refine lv_iload_n hx hb dL_law_615 rfl (lv_at hl 0 rfl) ?_
  refine j_const hx hb dL_law_616 ?_
  refine j_iadd hx hb dL_law_617 ?_
  refine va_sld hx hb hX hbl hbA hS (iv_in ⟨by omega, by omega⟩ (by omega)) dL_law_618 ?_
  rw [← hw1]
  rw [hk1e]
  refine lv_aload_n hx hb dL_law_619 rfl (lv_at hl 3 rfl) ?_
  refine lv_iload_n hx hb dL_law_620 rfl (lv_at hl 0 rfl) ?_
  refine j_const hx hb dL_law_621 ?_
  refine j_iadd hx hb dL_law_622 ?_
  refine va_sld hx hb hX hbl hbA hS (iv_in ⟨by omega, by omega⟩ (by omega)) dL_law_623 ?_
  rw [← hw2]
  rw [hk2e]
  refine m_callVi (As := [.int (iv k1), .int (iv k2)]) (rest := [.int (iv z1)]) ⟨hx, hb, hml, hown, hts⟩ hK hH hS (t_X9_wear l G ν n0 (x + 194) u en k1 k2 hM (by omega) hO hr1 hr2) (cwV 2 hts gL_law_X9_wear rfl rfl rfl (by decide +kernel) ⟨(Nat.le_of_ble_eq_true rfl), (Nat.le_of_ble_eq_true rfl)⟩) hobj rfl rfl rfl rfl hl.1 (Nat.le_of_ble_eq_true rfl) dL_law_624 ⟨by show 201 + 62 * k + 0 + 0 ≤ 600000; omega, by show 27000 + 248 * k + 0 + 0 ≤ 7302250; omega⟩ (fun z2 ν2 n2 H locs hz2 hp2 hH hS => ?_)
  obtain ⟨he2, hm2, hn2⟩ := hp2
  rw [hm2, hn2] at hH
  refine j_icmp_eq (tgt := 854) hx hb dL_law_627 (by decide) (fun _ => ?_) (fun h9 => absurd (he1.trans he2.symm) h9) hz1 hz2
  refine W.widen (k := 201 + 62 * (k + 1)) (n := 27000 + 248 * (k + 1)) (by omega) (by omega) ?_
  exact K H locs ν n0 ls hH hS hl ⟨u, en, hD, hM, by omega, hB6.mono (by omega)⟩
set_option maxHeartbeats 4000000 in
set_option maxRecDepth 100000 in
theorem law_print (C : LwC p s m c b L xs G) (hL : L ≤ 1536) (hkL : 3 * k + 3 ≤ L) (hl : lv_has ls 8 (lvL x b k)) (hH : gP G ν n0 H) (hS : va_S (gA G) s.heap H locs) (hJ : LwJ G ν x k) (K : ∀ (H : Heap) (locs : List Loc) (ν : hM) (n0 : Nat) (ls : Array Slot), gP G ν n0 H → va_S (gA G) s.heap H locs → lv_has ls 8 (lvL x b k) → LwJ G ν x (k + 1) → W p l e room_1 s m #[Value.ref b] below meth c H locs (201 + 62 * (k + 1)) (27000 + 248 * (k + 1)) Q (F0 m 854 ls [])) : W p l e room_1 s m #[Value.ref b] below meth c H locs (201 + 62 * k) (27000 + 248 * k) Q (F0 m 632 ls []) := by
  obtain ⟨hx, hb, hml, hown, hts, hX, hbl, hK, hGb⟩ := C
  have hbA : ¬ gA G b := fun q => by have q1 : G.2.2.1 ≤ b := q; omega
  obtain ⟨u, en, hD, hM, hen, hB6⟩ := hJ
  have hO := hD.okD
  have hK3 := hD.okK.1.2.1
  have h5 : (aD u).1 5 + 6200 ≤ 2000000000 := by have := hB6.1; omega
  have h599 : (aD u).1 5 + 99 ≤ 2000000000 := by omega
  obtain ⟨fs9, hobj⟩ := hM.obj
  refine lv_aload_n hx hb dL_law_632 rfl (lv_at hl 2 rfl) ?_
  refine lv_aload_n hx hb dL_law_633 rfl (lv_at hl 3 rfl) ?_
  refine lv_iload_n hx hb dL_law_634 rfl (lv_at hl 0 rfl) ?_
  refine j_const hx hb dL_law_635 ?_
  refine j_iadd hx hb dL_law_636 ?_
  refine va_sld hx hb hX hbl hbA hS (iv_in ⟨by omega, by omega⟩ (by omega)) dL_law_637 ?_
  obtain ⟨w1, hw1⟩ : ∃ y : Int32, y = xs (iv (3 * (k : Int) + 1)).toNatClampNeg := ⟨_, rfl⟩
  obtain ⟨k1, hk1e, hr1⟩ : ∃ z : Int, w1 = iv z ∧ -2147483648 ≤ z ∧ z ≤ 2147483647 := ⟨_, (iv_of _).symm, iv_rng _⟩
  rw [← hw1]
  rw [hk1e]
  refine lv_aload_n hx hb dL_law_638 rfl (lv_at hl 3 rfl) ?_
  refine lv_iload_n hx hb dL_law_639 rfl (lv_at hl 0 rfl) ?_
  refine j_const hx hb dL_law_640 ?_
  refine j_iadd hx hb dL_law_641 ?_
  refine va_sld hx hb hX hbl hbA hS (iv_in ⟨by omega, by omega⟩ (by omega)) dL_law_642 ?_
  obtain ⟨w2, hw2⟩ : ∃ y : Int32, y = xs (iv (3 * (k : Int) + 2)).toNatClampNeg := ⟨_, rfl⟩
  obtain ⟨k2, hk2e, hr2⟩ : ∃ z : Int, w2 = iv z ∧ -2147483648 ≤ z ∧ z ≤ 2147483647 := ⟨_, (iv_of _).symm, iv_rng _⟩
  rw [← hw2]
  rw [hk2e]
  refine m_callVi (As := [.int (iv k1), .int (iv k2)]) (rest := []) ⟨hx, hb, hml, hown, hts⟩ hK hH hS (c_X8_print l G ν n0 x (x + 201) u k1 k2 hD hr1 hr2) (cwV 2 hts gL_law_X8_print rfl rfl rfl (by decide +kernel) ⟨(Nat.le_of_ble_eq_true rfl), (Nat.le_of_ble_eq_true rfl)⟩) hD.1 rfl rfl rfl rfl hl.1 (Nat.le_of_ble_eq_true rfl) dL_law_643 ⟨by show 201 + 62 * k + 0 ≤ 600000; omega, by show 27000 + 248 * k + 0 ≤ 7302250; omega⟩ (fun z1 ν1 n1 H locs hz1 hp1 hH hS => ?_)
  obtain ⟨he1, hm1, hn1⟩ := hp1
  rw [hm1, hn1] at hH
  refine lv_aload_n hx hb dL_law_646 rfl (lv_at hl 1 rfl) ?_
  refine lv_aload_n hx hb dL_law_647 rfl (lv_at hl 3 rfl) ?_
  refine lv_iload_n hx hb dL_law_648 rfl (lv_at hl 0 rfl) ?_
  refine j_const hx hb dL_law_649 ?_
  refine j_iadd hx hb dL_law_650 ?_
  refine va_sld hx hb hX hbl hbA hS (iv_in ⟨by omega, by omega⟩ (by omega)) dL_law_651 ?_
  rw [← hw1]
  rw [hk1e]
  refine lv_aload_n hx hb dL_law_652 rfl (lv_at hl 3 rfl) ?_
  refine lv_iload_n hx hb dL_law_653 rfl (lv_at hl 0 rfl) ?_
  refine j_const hx hb dL_law_654 ?_
  refine j_iadd hx hb dL_law_655 ?_
  refine va_sld hx hb hX hbl hbA hS (iv_in ⟨by omega, by omega⟩ (by omega)) dL_law_656 ?_
  rw [← hw2]
  rw [hk2e]
  refine m_callVi (As := [.int (iv k1), .int (iv k2)]) (rest := [.int (iv z1)]) ⟨hx, hb, hml, hown, hts⟩ hK hH hS (t_X9_print l G ν n0 (x + 194) u en k1 k2 hM (by omega) hO hr1 hr2) (cwV 2 hts gL_law_X9_print rfl rfl rfl (by decide +kernel) ⟨(Nat.le_of_ble_eq_true rfl), (Nat.le_of_ble_eq_true rfl)⟩) hobj rfl rfl rfl rfl hl.1 (Nat.le_of_ble_eq_true rfl) dL_law_657 ⟨by show 201 + 62 * k + 0 + 0 ≤ 600000; omega, by show 27000 + 248 * k + 0 + 0 ≤ 7302250; omega⟩ (fun z2 ν2 n2 H locs hz2 hp2 hH hS => ?_)
  obtain ⟨he2, hm2, hn2⟩ := hp2
  rw [hm2, hn2] at hH
  refine j_icmp_eq (tgt := 854) hx hb dL_law_660 (by decide) (fun _ => ?_) (fun h9 => absurd (he1.trans he2.symm) h9) hz1 hz2
  refine W.widen (k := 201 + 62 * (k + 1)) (n := 27000 + 248 * (k + 1)) (by omega) (by omega) ?_
  exact K H locs ν n0 ls hH hS hl ⟨u, en, hD, hM, by omega, hB6.mono (by omega)⟩
set_option maxHeartbeats 4000000 in
set_option maxRecDepth 100000 in
theorem law_rightOf (C : LwC p s m c b L xs G) (hL : L ≤ 1536) (hkL : 3 * k + 3 ≤ L) (hl : lv_has ls 8 (lvL x b k)) (hH : gP G ν n0 H) (hS : va_S (gA G) s.heap H locs) (hJ : LwJ G ν x k) (K : ∀ (H : Heap) (locs : List Loc) (ν : hM) (n0 : Nat) (ls : Array Slot), gP G ν n0 H → va_S (gA G) s.heap H locs → lv_has ls 8 (lvL x b k) → LwJ G ν x (k + 1) → W p l e room_1 s m #[Value.ref b] below meth c H locs (201 + 62 * (k + 1)) (27000 + 248 * (k + 1)) Q (F0 m 854 ls [])) : W p l e room_1 s m #[Value.ref b] below meth c H locs (201 + 62 * k) (27000 + 248 * k) Q (F0 m 665 ls []) := by
  obtain ⟨hx, hb, hml, hown, hts, hX, hbl, hK, hGb⟩ := C
  have hbA : ¬ gA G b := fun q => by have q1 : G.2.2.1 ≤ b := q; omega
  obtain ⟨u, en, hD, hM, hen, hB6⟩ := hJ
  have hO := hD.okD
  have hK3 := hD.okK.1.2.1
  have h5 : (aD u).1 5 + 6200 ≤ 2000000000 := by have := hB6.1; omega
  have h599 : (aD u).1 5 + 99 ≤ 2000000000 := by omega
  obtain ⟨fs9, hobj⟩ := hM.obj
  refine lv_aload_n hx hb dL_law_665 rfl (lv_at hl 2 rfl) ?_
  refine lv_aload_n hx hb dL_law_666 rfl (lv_at hl 3 rfl) ?_
  refine lv_iload_n hx hb dL_law_667 rfl (lv_at hl 0 rfl) ?_
  refine j_const hx hb dL_law_668 ?_
  refine j_iadd hx hb dL_law_669 ?_
  refine va_sld hx hb hX hbl hbA hS (iv_in ⟨by omega, by omega⟩ (by omega)) dL_law_670 ?_
  obtain ⟨w1, hw1⟩ : ∃ y : Int32, y = xs (iv (3 * (k : Int) + 1)).toNatClampNeg := ⟨_, rfl⟩
  obtain ⟨k1, hk1e, hr1⟩ : ∃ z : Int, w1 = iv z ∧ -2147483648 ≤ z ∧ z ≤ 2147483647 := ⟨_, (iv_of _).symm, iv_rng _⟩
  rw [← hw1]
  rw [hk1e]
  refine m_callVi (As := [.int (iv k1)]) (rest := []) ⟨hx, hb, hml, hown, hts⟩ hK hH hS (c_X8_rightOf l G ν n0 x (x + 201) u k1 hD hr1) (cwV 1 hts gL_law_X8_rightOf rfl rfl rfl (by decide +kernel) ⟨(Nat.le_of_ble_eq_true rfl), (Nat.le_of_ble_eq_true rfl)⟩) hD.1 rfl rfl rfl rfl hl.1 (Nat.le_of_ble_eq_true rfl) dL_law_671 ⟨by show 201 + 62 * k + 0 ≤ 600000; omega, by show 27000 + 248 * k + 0 ≤ 7302250; omega⟩ (fun z1 ν1 n1 H locs hz1 hp1 hH hS => ?_)
  obtain ⟨he1, hm1, hn1⟩ := hp1
  rw [hm1, hn1] at hH
  refine lv_aload_n hx hb dL_law_674 rfl (lv_at hl 1 rfl) ?_
  refine lv_aload_n hx hb dL_law_675 rfl (lv_at hl 3 rfl) ?_
  refine lv_iload_n hx hb dL_law_676 rfl (lv_at hl 0 rfl) ?_
  refine j_const hx hb dL_law_677 ?_
  refine j_iadd hx hb dL_law_678 ?_
  refine va_sld hx hb hX hbl hbA hS (iv_in ⟨by omega, by omega⟩ (by omega)) dL_law_679 ?_
  rw [← hw1]
  rw [hk1e]
  refine m_callVi (As := [.int (iv k1)]) (rest := [.int (iv z1)]) ⟨hx, hb, hml, hown, hts⟩ hK hH hS (t_X9_rightOf l G ν n0 (x + 194) u en k1 hM (by omega) hO hr1) (cwV 1 hts gL_law_X9_rightOf rfl rfl rfl (by decide +kernel) ⟨(Nat.le_of_ble_eq_true rfl), (Nat.le_of_ble_eq_true rfl)⟩) hobj rfl rfl rfl rfl hl.1 (Nat.le_of_ble_eq_true rfl) dL_law_680 ⟨by show 201 + 62 * k + 0 + 0 ≤ 600000; omega, by show 27000 + 248 * k + 0 + 0 ≤ 7302250; omega⟩ (fun z2 ν2 n2 H locs hz2 hp2 hH hS => ?_)
  obtain ⟨he2, hm2, hn2⟩ := hp2
  rw [hm2, hn2] at hH
  refine j_icmp_eq (tgt := 854) hx hb dL_law_683 (by decide) (fun _ => ?_) (fun h9 => absurd (he1.trans he2.symm) h9) hz1 hz2
  refine W.widen (k := 201 + 62 * (k + 1)) (n := 27000 + 248 * (k + 1)) (by omega) (by omega) ?_
  exact K H locs ν n0 ls hH hS hl ⟨u, en, hD, hM, by omega, hB6.mono (by omega)⟩
set_option maxHeartbeats 4000000 in
set_option maxRecDepth 100000 in
theorem law_count (C : LwC p s m c b L xs G) (hL : L ≤ 1536) (hkL : 3 * k + 3 ≤ L) (hl : lv_has ls 8 (lvL x b k)) (hH : gP G ν n0 H) (hS : va_S (gA G) s.heap H locs) (hJ : LwJ G ν x k) (K : ∀ (H : Heap) (locs : List Loc) (ν : hM) (n0 : Nat) (ls : Array Slot), gP G ν n0 H → va_S (gA G) s.heap H locs → lv_has ls 8 (lvL x b k) → LwJ G ν x (k + 1) → W p l e room_1 s m #[Value.ref b] below meth c H locs (201 + 62 * (k + 1)) (27000 + 248 * (k + 1)) Q (F0 m 854 ls [])) : W p l e room_1 s m #[Value.ref b] below meth c H locs (201 + 62 * k) (27000 + 248 * k) Q (F0 m 688 ls []) := by
  obtain ⟨hx, hb, hml, hown, hts, hX, hbl, hK, hGb⟩ := C
  have hbA : ¬ gA G b := fun q => by have q1 : G.2.2.1 ≤ b := q; omega
  obtain ⟨u, en, hD, hM, hen, hB6⟩ := hJ
  have hO := hD.okD
  have hK3 := hD.okK.1.2.1
  have h5 : (aD u).1 5 + 6200 ≤ 2000000000 := by have := hB6.1; omega
  have h599 : (aD u).1 5 + 99 ≤ 2000000000 := by omega
  obtain ⟨fs9, hobj⟩ := hM.obj
  refine lv_aload_n hx hb dL_law_688 rfl (lv_at hl 2 rfl) ?_
  refine lv_aload_n hx hb dL_law_689 rfl (lv_at hl 3 rfl) ?_
  refine lv_iload_n hx hb dL_law_690 rfl (lv_at hl 0 rfl) ?_
  refine j_const hx hb dL_law_691 ?_
  refine j_iadd hx hb dL_law_692 ?_
  refine va_sld hx hb hX hbl hbA hS (iv_in ⟨by omega, by omega⟩ (by omega)) dL_law_693 ?_
  obtain ⟨w1, hw1⟩ : ∃ y : Int32, y = xs (iv (3 * (k : Int) + 1)).toNatClampNeg := ⟨_, rfl⟩
  obtain ⟨k1, hk1e, hr1⟩ : ∃ z : Int, w1 = iv z ∧ -2147483648 ≤ z ∧ z ≤ 2147483647 := ⟨_, (iv_of _).symm, iv_rng _⟩
  rw [← hw1]
  rw [hk1e]
  refine m_callVi (As := [.int (iv k1)]) (rest := []) ⟨hx, hb, hml, hown, hts⟩ hK hH hS (c_X8_count l G ν n0 x (x + 201) u k1 hD hr1) (cwV 1 hts gL_law_X8_count rfl rfl rfl (by decide +kernel) ⟨(Nat.le_of_ble_eq_true rfl), (Nat.le_of_ble_eq_true rfl)⟩) hD.1 rfl rfl rfl rfl hl.1 (Nat.le_of_ble_eq_true rfl) dL_law_694 ⟨by show 201 + 62 * k + 0 ≤ 600000; omega, by show 27000 + 248 * k + 0 ≤ 7302250; omega⟩ (fun z1 ν1 n1 H locs hz1 hp1 hH hS => ?_)
  obtain ⟨he1, hm1, hn1⟩ := hp1
  rw [hm1, hn1] at hH
  refine lv_aload_n hx hb dL_law_697 rfl (lv_at hl 1 rfl) ?_
  refine lv_aload_n hx hb dL_law_698 rfl (lv_at hl 3 rfl) ?_
  refine lv_iload_n hx hb dL_law_699 rfl (lv_at hl 0 rfl) ?_
  refine j_const hx hb dL_law_700 ?_
  refine j_iadd hx hb dL_law_701 ?_
  refine va_sld hx hb hX hbl hbA hS (iv_in ⟨by omega, by omega⟩ (by omega)) dL_law_702 ?_
  rw [← hw1]
  rw [hk1e]
  refine m_callVi (As := [.int (iv k1)]) (rest := [.int (iv z1)]) ⟨hx, hb, hml, hown, hts⟩ hK hH hS (t_X9_count l G ν n0 (x + 194) u en k1 hM (by omega) hO hr1) (cwV 1 hts gL_law_X9_count rfl rfl rfl (by decide +kernel) ⟨(Nat.le_of_ble_eq_true rfl), (Nat.le_of_ble_eq_true rfl)⟩) hobj rfl rfl rfl rfl hl.1 (Nat.le_of_ble_eq_true rfl) dL_law_703 ⟨by show 201 + 62 * k + 0 + 0 ≤ 600000; omega, by show 27000 + 248 * k + 0 + 0 ≤ 7302250; omega⟩ (fun z2 ν2 n2 H locs hz2 hp2 hH hS => ?_)
  obtain ⟨he2, hm2, hn2⟩ := hp2
  rw [hm2, hn2] at hH
  refine j_icmp_eq (tgt := 854) hx hb dL_law_706 (by decide) (fun _ => ?_) (fun h9 => absurd (he1.trans he2.symm) h9) hz1 hz2
  refine W.widen (k := 201 + 62 * (k + 1)) (n := 27000 + 248 * (k + 1)) (by omega) (by omega) ?_
  exact K H locs ν n0 ls hH hS hl ⟨u, en, hD, hM, by omega, hB6.mono (by omega)⟩
set_option maxHeartbeats 4000000 in
set_option maxRecDepth 100000 in
theorem law_even (C : LwC p s m c b L xs G) (hL : L ≤ 1536) (hkL : 3 * k + 3 ≤ L) (hl : lv_has ls 8 (lvL x b k)) (hH : gP G ν n0 H) (hS : va_S (gA G) s.heap H locs) (hJ : LwJ G ν x k) (K : ∀ (H : Heap) (locs : List Loc) (ν : hM) (n0 : Nat) (ls : Array Slot), gP G ν n0 H → va_S (gA G) s.heap H locs → lv_has ls 8 (lvL x b k) → LwJ G ν x (k + 1) → W p l e room_1 s m #[Value.ref b] below meth c H locs (201 + 62 * (k + 1)) (27000 + 248 * (k + 1)) Q (F0 m 854 ls [])) : W p l e room_1 s m #[Value.ref b] below meth c H locs (201 + 62 * k) (27000 + 248 * k) Q (F0 m 711 ls []) := by
  obtain ⟨hx, hb, hml, hown, hts, hX, hbl, hK, hGb⟩ := C
  have hbA : ¬ gA G b := fun q => by have q1 : G.2.2.1 ≤ b := q; omega
  obtain ⟨u, en, hD, hM, hen, hB6⟩ := hJ
  have hO := hD.okD
  have hK3 := hD.okK.1.2.1
  have h5 : (aD u).1 5 + 6200 ≤ 2000000000 := by have := hB6.1; omega
  have h599 : (aD u).1 5 + 99 ≤ 2000000000 := by omega
  obtain ⟨fs9, hobj⟩ := hM.obj
  refine lv_aload_n hx hb dL_law_711 rfl (lv_at hl 2 rfl) ?_
  refine m_callVd (As := []) (rest := []) ⟨hx, hb, hml, hown, hts⟩ hK hH hS (c_X8_even l G ν n0 x (x + 201) u  hD ) (cwV 0 hts gL_law_X8_even rfl rfl rfl (by decide +kernel) ⟨(Nat.le_of_ble_eq_true rfl), (Nat.le_of_ble_eq_true rfl)⟩) hD.1 rfl rfl rfl rfl hl.1 (Nat.le_of_ble_eq_true rfl) dL_law_712 ⟨by show 201 + 62 * k + 0 ≤ 600000; omega, by show 27000 + 248 * k + 0 ≤ 7302250; omega⟩ (fun z1 ν1 n1 H locs hp1 hH hS => ?_)
  obtain ⟨he1, hm1, hn1⟩ := hp1
  rw [hm1, hn1] at hH
  refine lv_dstore (lv' := (4, .double z1) :: lvL x b k) hx hb dL_law_715 hl (by decide) rfl (fun ls hl => ?_)
  refine lv_aload_n hx hb dL_law_717 rfl (lv_at hl 2 rfl) ?_
  refine m_callVd (As := []) (rest := []) ⟨hx, hb, hml, hown, hts⟩ hK hH hS (t_X9_even l G ν n0 (x + 194) u en  hM (by omega) hO ) (cwV 0 hts gL_law_X9_even rfl rfl rfl (by decide +kernel) ⟨(Nat.le_of_ble_eq_true rfl), (Nat.le_of_ble_eq_true rfl)⟩) hobj rfl rfl rfl rfl hl.1 (Nat.le_of_ble_eq_true rfl) dL_law_718 ⟨by show 201 + 62 * k + 0 + 0 ≤ 600000; omega, by show 27000 + 248 * k + 0 + 0 ≤ 7302250; omega⟩ (fun z2 ν2 n2 H locs hp2 hH hS => ?_)
  obtain ⟨he2, hm2, hn2⟩ := hp2
  rw [hm2, hn2] at hH
  have he12 : z2 = z1 := he2.trans he1.symm
  subst he12
  refine lv_dstore (lv' := (6, .double z2) :: (4, .double z2) :: lvL x b k) hx hb dL_law_721 hl (by decide) rfl (fun ls hl => ?_)
  obtain ⟨v0, hv0⟩ : ∃ v, v = Op.cmpValue (FP.dcmp z2 z2) CmpOp.l := ⟨_, rfl⟩
  refine lv_dload hx hb dL_law_723 (lv_at hl 1 rfl) ?_
  refine lv_dload hx hb dL_law_725 (lv_at hl 0 rfl) ?_
  refine lv_dcmp hx hb dL_law_727 ?_
  rw [← hv0]
  refine lv_if_eq (tgt := 749) hx hb dL_law_728 (by decide) (fun h0 => ?_) (fun h0 => ?_)
  · skip
    refine lv_goto (tgt := 854) hx hb dL_law_749 (by decide) ?_
    refine W.widen (k := 201 + 62 * (k + 1)) (n := 27000 + 248 * (k + 1)) (by omega) (by omega) ?_
    exact K H locs ν n0 ls hH hS (lv_sub hl [2, 3, 4, 5] rfl) ⟨u, en, hD, hM, by omega, hB6.mono (by omega)⟩
  · skip
    refine lv_dload hx hb dL_law_731 (lv_at hl 1 rfl) ?_
    refine lv_dload hx hb dL_law_733 (lv_at hl 1 rfl) ?_
    refine lv_dcmp hx hb dL_law_735 ?_
    rw [← hv0]
    refine lv_if_eq (tgt := 747) hx hb dL_law_736 (by decide) (fun h1 => absurd h1 h0) (fun _ => ?_)
    refine lv_dload hx hb dL_law_739 (lv_at hl 0 rfl) ?_
    refine lv_dload hx hb dL_law_741 (lv_at hl 0 rfl) ?_
    refine lv_dcmp hx hb dL_law_743 ?_
    rw [← hv0]
    refine lv_if_ne (tgt := 749) hx hb dL_law_744 (by decide) (fun _ => ?_) (fun h1 => absurd h1 h0)
    refine lv_goto (tgt := 854) hx hb dL_law_749 (by decide) ?_
    refine W.widen (k := 201 + 62 * (k + 1)) (n := 27000 + 248 * (k + 1)) (by omega) (by omega) ?_
    exact K H locs ν n0 ls hH hS (lv_sub hl [2, 3, 4, 5] rfl) ⟨u, en, hD, hM, by omega, hB6.mono (by omega)⟩
set_option maxHeartbeats 4000000 in
set_option maxRecDepth 100000 in
theorem law_stepsTo (C : LwC p s m c b L xs G) (hL : L ≤ 1536) (hkL : 3 * k + 3 ≤ L) (hl : lv_has ls 8 (lvL x b k)) (hH : gP G ν n0 H) (hS : va_S (gA G) s.heap H locs) (hJ : LwJ G ν x k) (K : ∀ (H : Heap) (locs : List Loc) (ν : hM) (n0 : Nat) (ls : Array Slot), gP G ν n0 H → va_S (gA G) s.heap H locs → lv_has ls 8 (lvL x b k) → LwJ G ν x (k + 1) → W p l e room_1 s m #[Value.ref b] below meth c H locs (201 + 62 * (k + 1)) (27000 + 248 * (k + 1)) Q (F0 m 854 ls [])) : W p l e room_1 s m #[Value.ref b] below meth c H locs (201 + 62 * k) (27000 + 248 * k) Q (F0 m 752 ls []) := by
  obtain ⟨hx, hb, hml, hown, hts, hX, hbl, hK, hGb⟩ := C
  have hbA : ¬ gA G b := fun q => by have q1 : G.2.2.1 ≤ b := q; omega
  obtain ⟨u, en, hD, hM, hen, hB6⟩ := hJ
  have hO := hD.okD
  have hK3 := hD.okK.1.2.1
  have h5 : (aD u).1 5 + 6200 ≤ 2000000000 := by have := hB6.1; omega
  have h599 : (aD u).1 5 + 99 ≤ 2000000000 := by omega
  obtain ⟨fs9, hobj⟩ := hM.obj
  refine lv_aload_n hx hb dL_law_752 rfl (lv_at hl 2 rfl) ?_
  refine lv_aload_n hx hb dL_law_753 rfl (lv_at hl 3 rfl) ?_
  refine lv_iload_n hx hb dL_law_754 rfl (lv_at hl 0 rfl) ?_
  refine j_const hx hb dL_law_755 ?_
  refine j_iadd hx hb dL_law_756 ?_
  refine va_sld hx hb hX hbl hbA hS (iv_in ⟨by omega, by omega⟩ (by omega)) dL_law_757 ?_
  obtain ⟨w1, hw1⟩ : ∃ y : Int32, y = xs (iv (3 * (k : Int) + 1)).toNatClampNeg := ⟨_, rfl⟩
  obtain ⟨k1, hk1e, hr1⟩ : ∃ z : Int, w1 = iv z ∧ -2147483648 ≤ z ∧ z ≤ 2147483647 := ⟨_, (iv_of _).symm, iv_rng _⟩
  rw [← hw1]
  rw [hk1e]
  refine m_callVi (As := [.int (iv k1)]) (rest := []) ⟨hx, hb, hml, hown, hts⟩ hK hH hS (c_X8_stepsTo l G ν n0 x (x + 201) u k1 hD hr1) (cwV 1 hts gL_law_X8_stepsTo rfl rfl rfl (by decide +kernel) ⟨(Nat.le_of_ble_eq_true rfl), (Nat.le_of_ble_eq_true rfl)⟩) hD.1 rfl rfl rfl rfl hl.1 (Nat.le_of_ble_eq_true rfl) dL_law_758 ⟨by show 201 + 62 * k + 0 ≤ 600000; omega, by show 27000 + 248 * k + 0 ≤ 7302250; omega⟩ (fun z1 ν1 n1 H locs hz1 hp1 hH hS => ?_)
  obtain ⟨he1, hm1, hn1⟩ := hp1
  rw [hm1, hn1] at hH
  refine lv_aload_n hx hb dL_law_761 rfl (lv_at hl 1 rfl) ?_
  refine lv_aload_n hx hb dL_law_762 rfl (lv_at hl 3 rfl) ?_
  refine lv_iload_n hx hb dL_law_763 rfl (lv_at hl 0 rfl) ?_
  refine j_const hx hb dL_law_764 ?_
  refine j_iadd hx hb dL_law_765 ?_
  refine va_sld hx hb hX hbl hbA hS (iv_in ⟨by omega, by omega⟩ (by omega)) dL_law_766 ?_
  rw [← hw1]
  rw [hk1e]
  refine m_callVi (As := [.int (iv k1)]) (rest := [.int (iv z1)]) ⟨hx, hb, hml, hown, hts⟩ hK hH hS (t_X9_stepsTo l G ν n0 (x + 194) u en k1 hM (by omega) hO hr1) (cwV 1 hts gL_law_X9_stepsTo rfl rfl rfl (by decide +kernel) ⟨(Nat.le_of_ble_eq_true rfl), (Nat.le_of_ble_eq_true rfl)⟩) hobj rfl rfl rfl rfl hl.1 (Nat.le_of_ble_eq_true rfl) dL_law_767 ⟨by show 201 + 62 * k + 0 + 0 ≤ 600000; omega, by show 27000 + 248 * k + 0 + 0 ≤ 7302250; omega⟩ (fun z2 ν2 n2 H locs hz2 hp2 hH hS => ?_)
  obtain ⟨he2, hm2, hn2⟩ := hp2
  rw [hm2, hn2] at hH
  refine j_icmp_eq (tgt := 854) hx hb dL_law_770 (by decide) (fun _ => ?_) (fun h9 => absurd (he1.trans he2.symm) h9) hz1 hz2
  refine W.widen (k := 201 + 62 * (k + 1)) (n := 27000 + 248 * (k + 1)) (by omega) (by omega) ?_
  exact K H locs ν n0 ls hH hS hl ⟨u, en, hD, hM, by omega, hB6.mono (by omega)⟩
set_option maxHeartbeats 4000000 in
set_option maxRecDepth 100000 in
theorem law_leastPress (C : LwC p s m c b L xs G) (hL : L ≤ 1536) (hkL : 3 * k + 3 ≤ L) (hl : lv_has ls 8 (lvL x b k)) (hH : gP G ν n0 H) (hS : va_S (gA G) s.heap H locs) (hJ : LwJ G ν x k) (K : ∀ (H : Heap) (locs : List Loc) (ν : hM) (n0 : Nat) (ls : Array Slot), gP G ν n0 H → va_S (gA G) s.heap H locs → lv_has ls 8 (lvL x b k) → LwJ G ν x (k + 1) → W p l e room_1 s m #[Value.ref b] below meth c H locs (201 + 62 * (k + 1)) (27000 + 248 * (k + 1)) Q (F0 m 854 ls [])) : W p l e room_1 s m #[Value.ref b] below meth c H locs (201 + 62 * k) (27000 + 248 * k) Q (F0 m 775 ls []) := by
  obtain ⟨hx, hb, hml, hown, hts, hX, hbl, hK, hGb⟩ := C
  have hbA : ¬ gA G b := fun q => by have q1 : G.2.2.1 ≤ b := q; omega
  obtain ⟨u, en, hD, hM, hen, hB6⟩ := hJ
  have hO := hD.okD
  have hK3 := hD.okK.1.2.1
  have h5 : (aD u).1 5 + 6200 ≤ 2000000000 := by have := hB6.1; omega
  have h599 : (aD u).1 5 + 99 ≤ 2000000000 := by omega
  obtain ⟨fs9, hobj⟩ := hM.obj
  refine lv_aload_n hx hb dL_law_775 rfl (lv_at hl 2 rfl) ?_
  refine m_callVi (As := []) (rest := []) ⟨hx, hb, hml, hown, hts⟩ hK hH hS (c_X8_leastPress l G ν n0 x (x + 201) u  hD ) (cwV 0 hts gL_law_X8_leastPress rfl rfl rfl (by decide +kernel) ⟨(Nat.le_of_ble_eq_true rfl), (Nat.le_of_ble_eq_true rfl)⟩) hD.1 rfl rfl rfl rfl hl.1 (Nat.le_of_ble_eq_true rfl) dL_law_776 ⟨by show 201 + 62 * k + 0 ≤ 600000; omega, by show 27000 + 248 * k + 0 ≤ 7302250; omega⟩ (fun z1 ν1 n1 H locs hz1 hp1 hH hS => ?_)
  obtain ⟨he1, hm1, hn1⟩ := hp1
  rw [hm1, hn1] at hH
  refine lv_aload_n hx hb dL_law_779 rfl (lv_at hl 1 rfl) ?_
  refine m_callVi (As := []) (rest := [.int (iv z1)]) ⟨hx, hb, hml, hown, hts⟩ hK hH hS (t_X9_leastPress l G ν n0 (x + 194) u en  hM (by omega) hO ) (cwV 0 hts gL_law_X9_leastPress rfl rfl rfl (by decide +kernel) ⟨(Nat.le_of_ble_eq_true rfl), (Nat.le_of_ble_eq_true rfl)⟩) hobj rfl rfl rfl rfl hl.1 (Nat.le_of_ble_eq_true rfl) dL_law_780 ⟨by show 201 + 62 * k + 0 + 0 ≤ 600000; omega, by show 27000 + 248 * k + 0 + 0 ≤ 7302250; omega⟩ (fun z2 ν2 n2 H locs hz2 hp2 hH hS => ?_)
  obtain ⟨he2, hm2, hn2⟩ := hp2
  rw [hm2, hn2] at hH
  refine j_icmp_eq (tgt := 854) hx hb dL_law_783 (by decide) (fun _ => ?_) (fun h9 => absurd (he1.trans he2.symm) h9) hz1 hz2
  refine W.widen (k := 201 + 62 * (k + 1)) (n := 27000 + 248 * (k + 1)) (by omega) (by omega) ?_
  exact K H locs ν n0 ls hH hS hl ⟨u, en, hD, hM, by omega, hB6.mono (by omega)⟩
set_option maxHeartbeats 4000000 in
set_option maxRecDepth 100000 in
theorem law_lasts (C : LwC p s m c b L xs G) (hL : L ≤ 1536) (hkL : 3 * k + 3 ≤ L) (hl : lv_has ls 8 (lvL x b k)) (hH : gP G ν n0 H) (hS : va_S (gA G) s.heap H locs) (hJ : LwJ G ν x k) (K : ∀ (H : Heap) (locs : List Loc) (ν : hM) (n0 : Nat) (ls : Array Slot), gP G ν n0 H → va_S (gA G) s.heap H locs → lv_has ls 8 (lvL x b k) → LwJ G ν x (k + 1) → W p l e room_1 s m #[Value.ref b] below meth c H locs (201 + 62 * (k + 1)) (27000 + 248 * (k + 1)) Q (F0 m 854 ls [])) : W p l e room_1 s m #[Value.ref b] below meth c H locs (201 + 62 * k) (27000 + 248 * k) Q (F0 m 788 ls []) := by
  obtain ⟨hx, hb, hml, hown, hts, hX, hbl, hK, hGb⟩ := C
  have hbA : ¬ gA G b := fun q => by have q1 : G.2.2.1 ≤ b := q; omega
  obtain ⟨u, en, hD, hM, hen, hB6⟩ := hJ
  have hO := hD.okD
  have hK3 := hD.okK.1.2.1
  have h5 : (aD u).1 5 + 6200 ≤ 2000000000 := by have := hB6.1; omega
  have h599 : (aD u).1 5 + 99 ≤ 2000000000 := by omega
  obtain ⟨fs9, hobj⟩ := hM.obj
  refine lv_aload_n hx hb dL_law_788 rfl (lv_at hl 2 rfl) ?_
  refine lv_aload_n hx hb dL_law_789 rfl (lv_at hl 3 rfl) ?_
  refine lv_iload_n hx hb dL_law_790 rfl (lv_at hl 0 rfl) ?_
  refine j_const hx hb dL_law_791 ?_
  refine j_iadd hx hb dL_law_792 ?_
  refine va_sld hx hb hX hbl hbA hS (iv_in ⟨by omega, by omega⟩ (by omega)) dL_law_793 ?_
  obtain ⟨w1, hw1⟩ : ∃ y : Int32, y = xs (iv (3 * (k : Int) + 1)).toNatClampNeg := ⟨_, rfl⟩
  obtain ⟨k1, hk1e, hr1⟩ : ∃ z : Int, w1 = iv z ∧ -2147483648 ≤ z ∧ z ≤ 2147483647 := ⟨_, (iv_of _).symm, iv_rng _⟩
  rw [← hw1]
  rw [hk1e]
  refine lv_aload_n hx hb dL_law_794 rfl (lv_at hl 3 rfl) ?_
  refine lv_iload_n hx hb dL_law_795 rfl (lv_at hl 0 rfl) ?_
  refine j_const hx hb dL_law_796 ?_
  refine j_iadd hx hb dL_law_797 ?_
  refine va_sld hx hb hX hbl hbA hS (iv_in ⟨by omega, by omega⟩ (by omega)) dL_law_798 ?_
  obtain ⟨w2, hw2⟩ : ∃ y : Int32, y = xs (iv (3 * (k : Int) + 2)).toNatClampNeg := ⟨_, rfl⟩
  obtain ⟨k2, hk2e, hr2⟩ : ∃ z : Int, w2 = iv z ∧ -2147483648 ≤ z ∧ z ≤ 2147483647 := ⟨_, (iv_of _).symm, iv_rng _⟩
  rw [← hw2]
  rw [hk2e]
  refine m_callVi (As := [.int (iv k1), .int (iv k2)]) (rest := []) ⟨hx, hb, hml, hown, hts⟩ hK hH hS (c_X8_lasts l G ν n0 x (x + 201) u k1 k2 hD hr1 hr2) (cwV 2 hts gL_law_X8_lasts rfl rfl rfl (by decide +kernel) ⟨(Nat.le_of_ble_eq_true rfl), (Nat.le_of_ble_eq_true rfl)⟩) hD.1 rfl rfl rfl rfl hl.1 (Nat.le_of_ble_eq_true rfl) dL_law_799 ⟨by show 201 + 62 * k + 0 ≤ 600000; omega, by show 27000 + 248 * k + 0 ≤ 7302250; omega⟩ (fun z1 ν1 n1 H locs hz1 hp1 hH hS => ?_)
  obtain ⟨he1, hD1, hf1⟩ := hp1
  have hM1 : IsM G ν1 (x + 194) u en := hM.mn (fun q e a b h => hf1 q e (by omega) h)
  obtain ⟨fs8, hobj1⟩ := hM1.obj
  refine lv_aload_n hx hb dL_law_802 rfl (lv_at hl 1 rfl) ?_
  refine lv_aload_n hx hb dL_law_803 rfl (lv_at hl 3 rfl) ?_
  refine lv_iload_n hx hb dL_law_804 rfl (lv_at hl 0 rfl) ?_
  refine j_const hx hb dL_law_805 ?_
  refine j_iadd hx hb dL_law_806 ?_
  refine va_sld hx hb hX hbl hbA hS (iv_in ⟨by omega, by omega⟩ (by omega)) dL_law_807 ?_
  rw [← hw1]
  rw [hk1e]
  refine lv_aload_n hx hb dL_law_808 rfl (lv_at hl 3 rfl) ?_
  refine lv_iload_n hx hb dL_law_809 rfl (lv_at hl 0 rfl) ?_
  refine j_const hx hb dL_law_810 ?_
  refine j_iadd hx hb dL_law_811 ?_
  refine va_sld hx hb hX hbl hbA hS (iv_in ⟨by omega, by omega⟩ (by omega)) dL_law_812 ?_
  rw [← hw2]
  rw [hk2e]
  refine m_callVi (As := [.int (iv k1), .int (iv k2)]) (rest := [.int (iv z1)]) ⟨hx, hb, hml, hown, hts⟩ hK hH hS (t_X9_lasts l G ν1 n1 (x + 194) u en k1 k2 hM1 (by omega) hO hr1 hr2) (cwV 2 hts gL_law_X9_lasts rfl rfl rfl (by decide +kernel) ⟨(Nat.le_of_ble_eq_true rfl), (Nat.le_of_ble_eq_true rfl)⟩) hobj1 rfl rfl rfl rfl hl.1 (Nat.le_of_ble_eq_true rfl) dL_law_813 ⟨by show 201 + 62 * k + 0 + 0 ≤ 600000; omega, by show 27000 + 248 * k + 0 + 0 ≤ 7302250; omega⟩ (fun z2 ν2 n2 H locs hz2 hp2 hH hS => ?_)
  obtain ⟨he2, hM2, hf2⟩ := hp2
  refine j_icmp_eq (tgt := 854) hx hb dL_law_816 (by decide) (fun _ => ?_) (fun h9 => absurd (he1.trans he2.symm) h9) hz1 hz2
  refine W.widen (k := 201 + 62 * (k + 1)) (n := 27000 + 248 * (k + 1)) (by omega) (by omega) ?_
  exact K H locs ν2 n2 ls hH hS hl ⟨u, en, hD1.bk hf2 hM2, hM2, by omega, hB6.mono (by omega)⟩
set_option maxHeartbeats 4000000 in
set_option maxRecDepth 100000 in
theorem law_bestExchange (C : LwC p s m c b L xs G) (hL : L ≤ 1536) (hkL : 3 * k + 3 ≤ L) (hl : lv_has ls 8 (lvL x b k)) (hH : gP G ν n0 H) (hS : va_S (gA G) s.heap H locs) (hJ : LwJ G ν x k) (K : ∀ (H : Heap) (locs : List Loc) (ν : hM) (n0 : Nat) (ls : Array Slot), gP G ν n0 H → va_S (gA G) s.heap H locs → lv_has ls 8 (lvL x b k) → LwJ G ν x (k + 1) → W p l e room_1 s m #[Value.ref b] below meth c H locs (201 + 62 * (k + 1)) (27000 + 248 * (k + 1)) Q (F0 m 854 ls [])) : W p l e room_1 s m #[Value.ref b] below meth c H locs (201 + 62 * k) (27000 + 248 * k) Q (F0 m 821 ls []) := by
  obtain ⟨hx, hb, hml, hown, hts, hX, hbl, hK, hGb⟩ := C
  have hbA : ¬ gA G b := fun q => by have q1 : G.2.2.1 ≤ b := q; omega
  obtain ⟨u, en, hD, hM, hen, hB6⟩ := hJ
  have hO := hD.okD
  have hK3 := hD.okK.1.2.1
  have h5 : (aD u).1 5 + 6200 ≤ 2000000000 := by have := hB6.1; omega
  have h599 : (aD u).1 5 + 99 ≤ 2000000000 := by omega
  obtain ⟨fs9, hobj⟩ := hM.obj
  refine lv_aload_n hx hb dL_law_821 rfl (lv_at hl 2 rfl) ?_
  refine lv_aload_n hx hb dL_law_822 rfl (lv_at hl 3 rfl) ?_
  refine lv_iload_n hx hb dL_law_823 rfl (lv_at hl 0 rfl) ?_
  refine j_const hx hb dL_law_824 ?_
  refine j_iadd hx hb dL_law_825 ?_
  refine va_sld hx hb hX hbl hbA hS (iv_in ⟨by omega, by omega⟩ (by omega)) dL_law_826 ?_
  obtain ⟨w1, hw1⟩ : ∃ y : Int32, y = xs (iv (3 * (k : Int) + 1)).toNatClampNeg := ⟨_, rfl⟩
  obtain ⟨k1, hk1e, hr1⟩ : ∃ z : Int, w1 = iv z ∧ -2147483648 ≤ z ∧ z ≤ 2147483647 := ⟨_, (iv_of _).symm, iv_rng _⟩
  rw [← hw1]
  rw [hk1e]
  refine lv_aload_n hx hb dL_law_827 rfl (lv_at hl 3 rfl) ?_
  refine lv_iload_n hx hb dL_law_828 rfl (lv_at hl 0 rfl) ?_
  refine j_const hx hb dL_law_829 ?_
  refine j_iadd hx hb dL_law_830 ?_
  refine va_sld hx hb hX hbl hbA hS (iv_in ⟨by omega, by omega⟩ (by omega)) dL_law_831 ?_
  obtain ⟨w2, hw2⟩ : ∃ y : Int32, y = xs (iv (3 * (k : Int) + 2)).toNatClampNeg := ⟨_, rfl⟩
  obtain ⟨k2, hk2e, hr2⟩ : ∃ z : Int, w2 = iv z ∧ -2147483648 ≤ z ∧ z ≤ 2147483647 := ⟨_, (iv_of _).symm, iv_rng _⟩
  rw [← hw2]
  rw [hk2e]
  refine m_callVi (As := [.int (iv k1), .int (iv k2)]) (rest := []) ⟨hx, hb, hml, hown, hts⟩ hK hH hS (c_X8_bestExchange l G ν n0 x (x + 201) u k1 k2 hD hr1 hr2) (cwV 2 hts gL_law_X8_bestExchange rfl rfl rfl (by decide +kernel) ⟨(Nat.le_of_ble_eq_true rfl), (Nat.le_of_ble_eq_true rfl)⟩) hD.1 rfl rfl rfl rfl hl.1 (Nat.le_of_ble_eq_true rfl) dL_law_832 ⟨by show 201 + 62 * k + 0 ≤ 600000; omega, by show 27000 + 248 * k + 0 ≤ 7302250; omega⟩ (fun z1 ν1 n1 H locs hz1 hp1 hH hS => ?_)
  obtain ⟨he1, hD1, hf1⟩ := hp1
  have hM1 : IsM G ν1 (x + 194) u en := hM.mn (fun q e a b h => hf1 q e (by omega) h)
  obtain ⟨fs8, hobj1⟩ := hM1.obj
  refine lv_aload_n hx hb dL_law_835 rfl (lv_at hl 1 rfl) ?_
  refine lv_aload_n hx hb dL_law_836 rfl (lv_at hl 3 rfl) ?_
  refine lv_iload_n hx hb dL_law_837 rfl (lv_at hl 0 rfl) ?_
  refine j_const hx hb dL_law_838 ?_
  refine j_iadd hx hb dL_law_839 ?_
  refine va_sld hx hb hX hbl hbA hS (iv_in ⟨by omega, by omega⟩ (by omega)) dL_law_840 ?_
  rw [← hw1]
  rw [hk1e]
  refine lv_aload_n hx hb dL_law_841 rfl (lv_at hl 3 rfl) ?_
  refine lv_iload_n hx hb dL_law_842 rfl (lv_at hl 0 rfl) ?_
  refine j_const hx hb dL_law_843 ?_
  refine j_iadd hx hb dL_law_844 ?_
  refine va_sld hx hb hX hbl hbA hS (iv_in ⟨by omega, by omega⟩ (by omega)) dL_law_845 ?_
  rw [← hw2]
  rw [hk2e]
  refine m_callVi (As := [.int (iv k1), .int (iv k2)]) (rest := [.int (iv z1)]) ⟨hx, hb, hml, hown, hts⟩ hK hH hS (t_X9_bestExchange l G ν1 n1 (x + 194) u en k1 k2 hM1 (by omega) hO hr1 hr2) (cwV 2 hts gL_law_X9_bestExchange rfl rfl rfl (by decide +kernel) ⟨(Nat.le_of_ble_eq_true rfl), (Nat.le_of_ble_eq_true rfl)⟩) hobj1 rfl rfl rfl rfl hl.1 (Nat.le_of_ble_eq_true rfl) dL_law_846 ⟨by show 201 + 62 * k + 0 + 0 ≤ 600000; omega, by show 27000 + 248 * k + 0 + 0 ≤ 7302250; omega⟩ (fun z2 ν2 n2 H locs hz2 hp2 hH hS => ?_)
  obtain ⟨he2, hM2, hf2⟩ := hp2
  refine j_icmp_eq (tgt := 854) hx hb dL_law_849 (by decide) (fun _ => ?_) (fun h9 => absurd (he1.trans he2.symm) h9) hz1 hz2
  refine W.widen (k := 201 + 62 * (k + 1)) (n := 27000 + 248 * (k + 1)) (by omega) (by omega) ?_
  exact K H locs ν2 n2 ls hH hS hl ⟨u, en, hD1.bk hf2 hM2, hM2, by omega, hB6.mono (by omega)⟩
end LAWC
