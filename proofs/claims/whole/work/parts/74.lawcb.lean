section LAWC
variable {p : Program} {l : Launch} {e : Env} {s : State} {m : MethodId} {below : List Frame} {meth : Method} {c : Code} {b L : Nat} {xs : Nat → Int32} {G : wG} {ν : hM} {n0 x k : Nat} {H : Heap} {locs : List Loc} {ls : Array Slot} {Q : State → Prop}
set_option maxHeartbeats 4000000 in
set_option maxRecDepth 100000 in
theorem law_clearText (C : LwC p s m c b L xs G) (hL : L ≤ 1536) (hkL : 3 * k + 3 ≤ L) (hl : lv_has ls 8 (lvL x b k)) (hH : gP G ν n0 H) (hS : va_S (gA G) s.heap H locs) (hJ : LwJ G ν x k) (K : ∀ (H : Heap) (locs : List Loc) (ν : hM) (n0 : Nat) (ls : Array Slot), gP G ν n0 H → va_S (gA G) s.heap H locs → lv_has ls 8 (lvL x b k) → LwJ G ν x (k + 1) → W p l e room_1 s m #[Value.ref b] below meth c H locs (201 + 62 * (k + 1)) (27000 + 248 * (k + 1)) Q (F0 m 854 ls [])) : W p l e room_1 s m #[Value.ref b] below meth c H locs (201 + 62 * k) (27000 + 248 * k) Q (F0 m 432 ls []) := by
  obtain ⟨hx, hb, hml, hown, hts, hX, hbl, hK, hGb⟩ := C
  have hbA : ¬ gA G b := fun q => by have q1 : G.2.2.1 ≤ b := q; omega
  obtain ⟨u, en, hD, hM, hen, hB6⟩ := hJ
  have hO := hD.okD
  have hK3 := hD.okK.1.2.1
  have h5 : (aD u).1 5 + 6200 ≤ 2000000000 := by have := hB6.1; omega
  have h599 : (aD u).1 5 + 99 ≤ 2000000000 := by omega
  obtain ⟨fs9, hobj⟩ := hM.obj
  refine lv_aload_n hx hb dL_law_432 rfl (lv_at hl 2 rfl) ?_
  refine m_callVi (As := []) (rest := []) ⟨hx, hb, hml, hown, hts⟩ hK hH hS (c_X8_clearText l G ν n0 x (x + 201) u  hD ) (cwV 0 hts gL_law_X8_clearText rfl rfl rfl (by decide +kernel) ⟨(Nat.le_of_ble_eq_true rfl), (Nat.le_of_ble_eq_true rfl)⟩) hD.1 rfl rfl rfl rfl hl.1 (Nat.le_of_ble_eq_true rfl) dL_law_433 ⟨by show 201 + 62 * k + 0 ≤ 600000; omega, by show 27000 + 248 * k + 0 ≤ 7302250; omega⟩ (fun z1 ν1 n1 H locs hz1 hp1 hH hS => ?_)
  obtain ⟨he1, hD1, hf1⟩ := hp1
  have hM1 : IsM G ν1 (x + 194) u en := hM.mn (fun q e a b h => hf1 q e (by omega) h)
  obtain ⟨fs8, hobj1⟩ := hM1.obj
  refine lv_aload_n hx hb dL_law_436 rfl (lv_at hl 1 rfl) ?_
  refine m_callVi (As := []) (rest := [.int (iv z1)]) ⟨hx, hb, hml, hown, hts⟩ hK hH hS (t_X9_clearText l G ν1 n1 (x + 194) u en  hM1 (by omega) hO ) (cwV 0 hts gL_law_X9_clearText rfl rfl rfl (by decide +kernel) ⟨(Nat.le_of_ble_eq_true rfl), (Nat.le_of_ble_eq_true rfl)⟩) hobj1 rfl rfl rfl rfl hl.1 (Nat.le_of_ble_eq_true rfl) dL_law_437 ⟨by show 201 + 62 * k + 0 + 0 ≤ 600000; omega, by show 27000 + 248 * k + 0 + 0 ≤ 7302250; omega⟩ (fun z2 ν2 n2 H locs hz2 hp2 hH hS => ?_)
  obtain ⟨he2, hM2, hf2⟩ := hp2
  have e62 : 6200 * ((k + 1 : Nat) : Int) = 6200 * (k : Int) + 6200 := by omega
  have hb9 : B6 (a_clear u).1 (6200 * ((k + 1 : Nat) : Int)) := by rw [e62]; exact b6_clear hB6
  refine j_icmp_eq (tgt := 854) hx hb dL_law_440 (by decide) (fun _ => ?_) (fun h9 => absurd (he1.trans he2.symm) h9) hz1 hz2
  refine W.widen (k := 201 + 62 * (k + 1)) (n := 27000 + 248 * (k + 1)) (by omega) (by omega) ?_
  exact K H locs ν2 n2 ls hH hS hl ⟨(a_clear u).1, en, hD1.bk hf2 hM2, hM2, by omega, hb9⟩
set_option maxHeartbeats 4000000 in
set_option maxRecDepth 100000 in
theorem law_fault (C : LwC p s m c b L xs G) (hL : L ≤ 1536) (hkL : 3 * k + 3 ≤ L) (hl : lv_has ls 8 (lvL x b k)) (hH : gP G ν n0 H) (hS : va_S (gA G) s.heap H locs) (hJ : LwJ G ν x k) (K : ∀ (H : Heap) (locs : List Loc) (ν : hM) (n0 : Nat) (ls : Array Slot), gP G ν n0 H → va_S (gA G) s.heap H locs → lv_has ls 8 (lvL x b k) → LwJ G ν x (k + 1) → W p l e room_1 s m #[Value.ref b] below meth c H locs (201 + 62 * (k + 1)) (27000 + 248 * (k + 1)) Q (F0 m 854 ls [])) : W p l e room_1 s m #[Value.ref b] below meth c H locs (201 + 62 * k) (27000 + 248 * k) Q (F0 m 445 ls []) := by
  obtain ⟨hx, hb, hml, hown, hts, hX, hbl, hK, hGb⟩ := C
  have hbA : ¬ gA G b := fun q => by have q1 : G.2.2.1 ≤ b := q; omega
  obtain ⟨u, en, hD, hM, hen, hB6⟩ := hJ
  have hO := hD.okD
  have hK3 := hD.okK.1.2.1
  have h5 : (aD u).1 5 + 6200 ≤ 2000000000 := by have := hB6.1; omega
  have h599 : (aD u).1 5 + 99 ≤ 2000000000 := by omega
  obtain ⟨fs9, hobj⟩ := hM.obj
  refine lv_aload_n hx hb dL_law_445 rfl (lv_at hl 2 rfl) ?_
  refine m_callVi (As := []) (rest := []) ⟨hx, hb, hml, hown, hts⟩ hK hH hS (c_X8_fault l G ν n0 x (x + 201) u  hD ) (cwV 0 hts gL_law_X8_fault rfl rfl rfl (by decide +kernel) ⟨(Nat.le_of_ble_eq_true rfl), (Nat.le_of_ble_eq_true rfl)⟩) hD.1 rfl rfl rfl rfl hl.1 (Nat.le_of_ble_eq_true rfl) dL_law_446 ⟨by show 201 + 62 * k + 0 ≤ 600000; omega, by show 27000 + 248 * k + 0 ≤ 7302250; omega⟩ (fun z1 ν1 n1 H locs hz1 hp1 hH hS => ?_)
  obtain ⟨he1, hD1, hf1⟩ := hp1
  have hM1 : IsM G ν1 (x + 194) u en := hM.mn (fun q e a b h => hf1 q e (by omega) h)
  obtain ⟨fs8, hobj1⟩ := hM1.obj
  refine lv_aload_n hx hb dL_law_449 rfl (lv_at hl 1 rfl) ?_
  refine m_callVi (As := []) (rest := [.int (iv z1)]) ⟨hx, hb, hml, hown, hts⟩ hK hH hS (t_X9_fault l G ν1 n1 (x + 194) u en  hM1 (by omega) hO ) (cwV 0 hts gL_law_X9_fault rfl rfl rfl (by decide +kernel) ⟨(Nat.le_of_ble_eq_true rfl), (Nat.le_of_ble_eq_true rfl)⟩) hobj1 rfl rfl rfl rfl hl.1 (Nat.le_of_ble_eq_true rfl) dL_law_450 ⟨by show 201 + 62 * k + 0 + 0 ≤ 600000; omega, by show 27000 + 248 * k + 0 + 0 ≤ 7302250; omega⟩ (fun z2 ν2 n2 H locs hz2 hp2 hH hS => ?_)
  obtain ⟨he2, hM2, hf2⟩ := hp2
  have e62 : 6200 * ((k + 1 : Nat) : Int) = 6200 * (k : Int) + 6200 := by omega
  have hb9 : B6 (a_fault u).1 (6200 * ((k + 1 : Nat) : Int)) := by rw [e62]; exact b6_fault hB6
  refine j_icmp_eq (tgt := 854) hx hb dL_law_453 (by decide) (fun _ => ?_) (fun h9 => absurd (he1.trans he2.symm) h9) hz1 hz2
  refine W.widen (k := 201 + 62 * (k + 1)) (n := 27000 + 248 * (k + 1)) (by omega) (by omega) ?_
  exact K H locs ν2 n2 ls hH hS hl ⟨(a_fault u).1, en, hD1.bk hf2 hM2, hM2, by omega, hb9⟩
set_option maxHeartbeats 4000000 in
set_option maxRecDepth 100000 in
theorem law_doAll (C : LwC p s m c b L xs G) (hL : L ≤ 1536) (hkL : 3 * k + 3 ≤ L) (hl : lv_has ls 8 (lvL x b k)) (hH : gP G ν n0 H) (hS : va_S (gA G) s.heap H locs) (hJ : LwJ G ν x k) (K : ∀ (H : Heap) (locs : List Loc) (ν : hM) (n0 : Nat) (ls : Array Slot), gP G ν n0 H → va_S (gA G) s.heap H locs → lv_has ls 8 (lvL x b k) → LwJ G ν x (k + 1) → W p l e room_1 s m #[Value.ref b] below meth c H locs (201 + 62 * (k + 1)) (27000 + 248 * (k + 1)) Q (F0 m 854 ls [])) : W p l e room_1 s m #[Value.ref b] below meth c H locs (201 + 62 * k) (27000 + 248 * k) Q (F0 m 458 ls []) := by
  obtain ⟨hx, hb, hml, hown, hts, hX, hbl, hK, hGb⟩ := C
  have hbA : ¬ gA G b := fun q => by have q1 : G.2.2.1 ≤ b := q; omega
  obtain ⟨u, en, hD, hM, hen, hB6⟩ := hJ
  have hO := hD.okD
  have hK3 := hD.okK.1.2.1
  have h5 : (aD u).1 5 + 6200 ≤ 2000000000 := by have := hB6.1; omega
  have h599 : (aD u).1 5 + 99 ≤ 2000000000 := by omega
  obtain ⟨fs9, hobj⟩ := hM.obj
  refine lv_aload_n hx hb dL_law_458 rfl (lv_at hl 2 rfl) ?_
  refine m_callVi (As := []) (rest := []) ⟨hx, hb, hml, hown, hts⟩ hK hH hS (c_X8_doAll l G ν n0 x (x + 201) u  hD  h5) (cwV 0 hts gL_law_X8_doAll rfl rfl rfl (by decide +kernel) ⟨(Nat.le_of_ble_eq_true rfl), (Nat.le_of_ble_eq_true rfl)⟩) hD.1 rfl rfl rfl rfl hl.1 (Nat.le_of_ble_eq_true rfl) dL_law_459 ⟨by show 201 + 62 * k + 62 ≤ 600000; omega, by show 27000 + 248 * k + 248 ≤ 7302250; omega⟩ (fun z1 ν1 n1 H locs hz1 hp1 hH hS => ?_)
  obtain ⟨he1, hD1, hf1⟩ := hp1
  have hM1 : IsM G ν1 (x + 194) u en := hM.mn (fun q e a b h => hf1 q e (by omega) h)
  obtain ⟨fs8, hobj1⟩ := hM1.obj
  refine lv_aload_n hx hb dL_law_462 rfl (lv_at hl 1 rfl) ?_
  refine m_callVi (As := []) (rest := [.int (iv z1)]) ⟨hx, hb, hml, hown, hts⟩ hK hH hS (t_X9_doAll l G ν1 n1 (x + 194) u en  hM1 (by omega) hO  h5) (cwV 0 hts gL_law_X9_doAll rfl rfl rfl (by decide +kernel) ⟨(Nat.le_of_ble_eq_true rfl), (Nat.le_of_ble_eq_true rfl)⟩) hobj1 rfl rfl rfl rfl hl.1 (Nat.le_of_ble_eq_true rfl) dL_law_463 ⟨by show 201 + 62 * k + 62 + 0 ≤ 600000; omega, by show 27000 + 248 * k + 248 + 0 ≤ 7302250; omega⟩ (fun z2 ν2 n2 H locs hz2 hp2 hH hS => ?_)
  obtain ⟨he2, ⟨h1, e1, hee, hM2⟩, hf2⟩ := hp2
  have e62 : 6200 * ((k + 1 : Nat) : Int) = 6200 * (k : Int) + 6200 := by omega
  have hb9 : B6 (hd11 (a_doAll u).1 h1) (6200 * ((k + 1 : Nat) : Int)) := by rw [e62]; exact (b6_doAll hB6 hD.2.2.2.2.2.2.2.2.1.1).h11 h1
  refine j_icmp_eq (tgt := 854) hx hb dL_law_466 (by decide) (fun _ => ?_) (fun h9 => absurd (he1.trans he2.symm) h9) hz1 hz2
  refine W.widen (k := 201 + 62 * (k + 1)) (n := 27000 + 248 * (k + 1)) (by omega) (by omega) ?_
  exact K H locs ν2 n2 ls hH hS hl ⟨hd11 (a_doAll u).1 h1, e1, (hD1.bk hf2 hM2).h11 h1, hM2, by omega, hb9⟩
set_option maxHeartbeats 4000000 in
set_option maxRecDepth 100000 in
theorem law_undo (C : LwC p s m c b L xs G) (hL : L ≤ 1536) (hkL : 3 * k + 3 ≤ L) (hl : lv_has ls 8 (lvL x b k)) (hH : gP G ν n0 H) (hS : va_S (gA G) s.heap H locs) (hJ : LwJ G ν x k) (K : ∀ (H : Heap) (locs : List Loc) (ν : hM) (n0 : Nat) (ls : Array Slot), gP G ν n0 H → va_S (gA G) s.heap H locs → lv_has ls 8 (lvL x b k) → LwJ G ν x (k + 1) → W p l e room_1 s m #[Value.ref b] below meth c H locs (201 + 62 * (k + 1)) (27000 + 248 * (k + 1)) Q (F0 m 854 ls [])) : W p l e room_1 s m #[Value.ref b] below meth c H locs (201 + 62 * k) (27000 + 248 * k) Q (F0 m 471 ls []) := by
  obtain ⟨hx, hb, hml, hown, hts, hX, hbl, hK, hGb⟩ := C
  have hbA : ¬ gA G b := fun q => by have q1 : G.2.2.1 ≤ b := q; omega
  obtain ⟨u, en, hD, hM, hen, hB6⟩ := hJ
  have hO := hD.okD
  have hK3 := hD.okK.1.2.1
  have h5 : (aD u).1 5 + 6200 ≤ 2000000000 := by have := hB6.1; omega
  have h599 : (aD u).1 5 + 99 ≤ 2000000000 := by omega
  obtain ⟨fs9, hobj⟩ := hM.obj
  refine lv_aload_n hx hb dL_law_471 rfl (lv_at hl 2 rfl) ?_
  refine m_callVi (As := []) (rest := []) ⟨hx, hb, hml, hown, hts⟩ hK hH hS (c_X8_undo l G ν n0 x (x + 201) u  hD ) (cwV 0 hts gL_law_X8_undo rfl rfl rfl (by decide +kernel) ⟨(Nat.le_of_ble_eq_true rfl), (Nat.le_of_ble_eq_true rfl)⟩) hD.1 rfl rfl rfl rfl hl.1 (Nat.le_of_ble_eq_true rfl) dL_law_472 ⟨by show 201 + 62 * k + 0 ≤ 600000; omega, by show 27000 + 248 * k + 0 ≤ 7302250; omega⟩ (fun z1 ν1 n1 H locs hz1 hp1 hH hS => ?_)
  obtain ⟨he1, hD1, hf1⟩ := hp1
  have hM1 : IsM G ν1 (x + 194) u en := hM.mn (fun q e a b h => hf1 q e (by omega) h)
  obtain ⟨fs8, hobj1⟩ := hM1.obj
  refine lv_aload_n hx hb dL_law_475 rfl (lv_at hl 1 rfl) ?_
  refine m_callVi (As := []) (rest := [.int (iv z1)]) ⟨hx, hb, hml, hown, hts⟩ hK hH hS (t_X9_undo l G ν1 n1 (x + 194) u en  hM1 (by omega) hO ) (cwV 0 hts gL_law_X9_undo rfl rfl rfl (by decide +kernel) ⟨(Nat.le_of_ble_eq_true rfl), (Nat.le_of_ble_eq_true rfl)⟩) hobj1 rfl rfl rfl rfl hl.1 (Nat.le_of_ble_eq_true rfl) dL_law_476 ⟨by show 201 + 62 * k + 0 + 0 ≤ 600000; omega, by show 27000 + 248 * k + 0 + 0 ≤ 7302250; omega⟩ (fun z2 ν2 n2 H locs hz2 hp2 hH hS => ?_)
  obtain ⟨he2, hM2, hf2⟩ := hp2
  have e62 : 6200 * ((k + 1 : Nat) : Int) = 6200 * (k : Int) + 6200 := by omega
  have hb9 : B6 (a_undo u).1 (6200 * ((k + 1 : Nat) : Int)) := by rw [e62]; exact b6_undo hB6 hD.2.2.2.2.2.2.1
  refine j_icmp_eq (tgt := 854) hx hb dL_law_479 (by decide) (fun _ => ?_) (fun h9 => absurd (he1.trans he2.symm) h9) hz1 hz2
  refine W.widen (k := 201 + 62 * (k + 1)) (n := 27000 + 248 * (k + 1)) (by omega) (by omega) ?_
  exact K H locs ν2 n2 ls hH hS hl ⟨(a_undo u).1, en, hD1.bk hf2 hM2, hM2, by omega, hb9⟩
set_option maxHeartbeats 4000000 in
set_option maxRecDepth 100000 in
theorem law_keep (C : LwC p s m c b L xs G) (hL : L ≤ 1536) (hkL : 3 * k + 3 ≤ L) (hl : lv_has ls 8 (lvL x b k)) (hH : gP G ν n0 H) (hS : va_S (gA G) s.heap H locs) (hJ : LwJ G ν x k) (K : ∀ (H : Heap) (locs : List Loc) (ν : hM) (n0 : Nat) (ls : Array Slot), gP G ν n0 H → va_S (gA G) s.heap H locs → lv_has ls 8 (lvL x b k) → LwJ G ν x (k + 1) → W p l e room_1 s m #[Value.ref b] below meth c H locs (201 + 62 * (k + 1)) (27000 + 248 * (k + 1)) Q (F0 m 854 ls [])) : W p l e room_1 s m #[Value.ref b] below meth c H locs (201 + 62 * k) (27000 + 248 * k) Q (F0 m 484 ls []) := by
  obtain ⟨hx, hb, hml, hown, hts, hX, hbl, hK, hGb⟩ := C
  have hbA : ¬ gA G b := fun q => by have q1 : G.2.2.1 ≤ b := q; omega
  obtain ⟨u, en, hD, hM, hen, hB6⟩ := hJ
  have hO := hD.okD
  have hK3 := hD.okK.1.2.1
  have h5 : (aD u).1 5 + 6200 ≤ 2000000000 := by have := hB6.1; omega
  have h599 : (aD u).1 5 + 99 ≤ 2000000000 := by omega
  obtain ⟨fs9, hobj⟩ := hM.obj
  refine lv_aload_n hx hb dL_law_484 rfl (lv_at hl 2 rfl) ?_
  refine m_callVi (As := []) (rest := []) ⟨hx, hb, hml, hown, hts⟩ hK hH hS (c_X8_keep l G ν n0 x (x + 201) u  hD ) (cwV 0 hts gL_law_X8_keep rfl rfl rfl (by decide +kernel) ⟨(Nat.le_of_ble_eq_true rfl), (Nat.le_of_ble_eq_true rfl)⟩) hD.1 rfl rfl rfl rfl hl.1 (Nat.le_of_ble_eq_true rfl) dL_law_485 ⟨by show 201 + 62 * k + 0 ≤ 600000; omega, by show 27000 + 248 * k + 0 ≤ 7302250; omega⟩ (fun z1 ν1 n1 H locs hz1 hp1 hH hS => ?_)
  obtain ⟨he1, hD1, hf1⟩ := hp1
  have hM1 : IsM G ν1 (x + 194) u en := hM.mn (fun q e a b h => hf1 q e (by omega) h)
  obtain ⟨fs8, hobj1⟩ := hM1.obj
  refine lv_aload_n hx hb dL_law_488 rfl (lv_at hl 1 rfl) ?_
  refine m_callVi (As := []) (rest := [.int (iv z1)]) ⟨hx, hb, hml, hown, hts⟩ hK hH hS (t_X9_keep l G ν1 n1 (x + 194) u en  hM1 (by omega) hO ) (cwV 0 hts gL_law_X9_keep rfl rfl rfl (by decide +kernel) ⟨(Nat.le_of_ble_eq_true rfl), (Nat.le_of_ble_eq_true rfl)⟩) hobj1 rfl rfl rfl rfl hl.1 (Nat.le_of_ble_eq_true rfl) dL_law_489 ⟨by show 201 + 62 * k + 0 + 0 ≤ 600000; omega, by show 27000 + 248 * k + 0 + 0 ≤ 7302250; omega⟩ (fun z2 ν2 n2 H locs hz2 hp2 hH hS => ?_)
  obtain ⟨he2, hM2, hf2⟩ := hp2
  have e62 : 6200 * ((k + 1 : Nat) : Int) = 6200 * (k : Int) + 6200 := by omega
  have hb9 : B6 (a_keep u).1 (6200 * ((k + 1 : Nat) : Int)) := by rw [e62]; exact b6_keep hB6
  refine j_icmp_eq (tgt := 854) hx hb dL_law_492 (by decide) (fun _ => ?_) (fun h9 => absurd (he1.trans he2.symm) h9) hz1 hz2
  refine W.widen (k := 201 + 62 * (k + 1)) (n := 27000 + 248 * (k + 1)) (by omega) (by omega) ?_
  exact K H locs ν2 n2 ls hH hS hl ⟨(a_keep u).1, en, hD1.bk hf2 hM2, hM2, by omega, hb9⟩
set_option maxHeartbeats 4000000 in
set_option maxRecDepth 100000 in
theorem law_restore (C : LwC p s m c b L xs G) (hL : L ≤ 1536) (hkL : 3 * k + 3 ≤ L) (hl : lv_has ls 8 (lvL x b k)) (hH : gP G ν n0 H) (hS : va_S (gA G) s.heap H locs) (hJ : LwJ G ν x k) (K : ∀ (H : Heap) (locs : List Loc) (ν : hM) (n0 : Nat) (ls : Array Slot), gP G ν n0 H → va_S (gA G) s.heap H locs → lv_has ls 8 (lvL x b k) → LwJ G ν x (k + 1) → W p l e room_1 s m #[Value.ref b] below meth c H locs (201 + 62 * (k + 1)) (27000 + 248 * (k + 1)) Q (F0 m 854 ls [])) : W p l e room_1 s m #[Value.ref b] below meth c H locs (201 + 62 * k) (27000 + 248 * k) Q (F0 m 497 ls []) := by
  obtain ⟨hx, hb, hml, hown, hts, hX, hbl, hK, hGb⟩ := C
  have hbA : ¬ gA G b := fun q => by have q1 : G.2.2.1 ≤ b := q; omega
  obtain ⟨u, en, hD, hM, hen, hB6⟩ := hJ
  have hO := hD.okD
  have hK3 := hD.okK.1.2.1
  have h5 : (aD u).1 5 + 6200 ≤ 2000000000 := by have := hB6.1; omega
  have h599 : (aD u).1 5 + 99 ≤ 2000000000 := by omega
  obtain ⟨fs9, hobj⟩ := hM.obj
  refine lv_aload_n hx hb dL_law_497 rfl (lv_at hl 2 rfl) ?_
  refine m_callVi (As := []) (rest := []) ⟨hx, hb, hml, hown, hts⟩ hK hH hS (c_X8_restore l G ν n0 x (x + 201) u  hD ) (cwV 0 hts gL_law_X8_restore rfl rfl rfl (by decide +kernel) ⟨(Nat.le_of_ble_eq_true rfl), (Nat.le_of_ble_eq_true rfl)⟩) hD.1 rfl rfl rfl rfl hl.1 (Nat.le_of_ble_eq_true rfl) dL_law_498 ⟨by show 201 + 62 * k + 0 ≤ 600000; omega, by show 27000 + 248 * k + 0 ≤ 7302250; omega⟩ (fun z1 ν1 n1 H locs hz1 hp1 hH hS => ?_)
  obtain ⟨he1, hD1, hf1⟩ := hp1
  have hM1 : IsM G ν1 (x + 194) u en := hM.mn (fun q e a b h => hf1 q e (by omega) h)
  obtain ⟨fs8, hobj1⟩ := hM1.obj
  refine lv_aload_n hx hb dL_law_501 rfl (lv_at hl 1 rfl) ?_
  refine m_callVi (As := []) (rest := [.int (iv z1)]) ⟨hx, hb, hml, hown, hts⟩ hK hH hS (t_X9_restore l G ν1 n1 (x + 194) u en  hM1 (by omega) hO  hK3) (cwV 0 hts gL_law_X9_restore rfl rfl rfl (by decide +kernel) ⟨(Nat.le_of_ble_eq_true rfl), (Nat.le_of_ble_eq_true rfl)⟩) hobj1 rfl rfl rfl rfl hl.1 (Nat.le_of_ble_eq_true rfl) dL_law_502 ⟨by show 201 + 62 * k + 0 + 0 ≤ 600000; omega, by show 27000 + 248 * k + 0 + 0 ≤ 7302250; omega⟩ (fun z2 ν2 n2 H locs hz2 hp2 hH hS => ?_)
  obtain ⟨he2, hM2, hf2⟩ := hp2
  have e62 : 6200 * ((k + 1 : Nat) : Int) = 6200 * (k : Int) + 6200 := by omega
  have hb9 : B6 (a_restore u).1 (6200 * ((k + 1 : Nat) : Int)) := by rw [e62]; exact b6_restore hB6
  refine j_icmp_eq (tgt := 854) hx hb dL_law_505 (by decide) (fun _ => ?_) (fun h9 => absurd (he1.trans he2.symm) h9) hz1 hz2
  refine W.widen (k := 201 + 62 * (k + 1)) (n := 27000 + 248 * (k + 1)) (by omega) (by omega) ?_
  exact K H locs ν2 n2 ls hH hS hl ⟨(a_restore u).1, en, hD1.bk hf2 hM2, hM2, by omega, hb9⟩
set_option maxHeartbeats 4000000 in
set_option maxRecDepth 100000 in
theorem law_date (C : LwC p s m c b L xs G) (hL : L ≤ 1536) (hkL : 3 * k + 3 ≤ L) (hl : lv_has ls 8 (lvL x b k)) (hH : gP G ν n0 H) (hS : va_S (gA G) s.heap H locs) (hJ : LwJ G ν x k) (K : ∀ (H : Heap) (locs : List Loc) (ν : hM) (n0 : Nat) (ls : Array Slot), gP G ν n0 H → va_S (gA G) s.heap H locs → lv_has ls 8 (lvL x b k) → LwJ G ν x (k + 1) → W p l e room_1 s m #[Value.ref b] below meth c H locs (201 + 62 * (k + 1)) (27000 + 248 * (k + 1)) Q (F0 m 854 ls [])) : W p l e room_1 s m #[Value.ref b] below meth c H locs (201 + 62 * k) (27000 + 248 * k) Q (F0 m 510 ls []) := by
  obtain ⟨hx, hb, hml, hown, hts, hX, hbl, hK, hGb⟩ := C
  have hbA : ¬ gA G b := fun q => by have q1 : G.2.2.1 ≤ b := q; omega
  obtain ⟨u, en, hD, hM, hen, hB6⟩ := hJ
  have hO := hD.okD
  have hK3 := hD.okK.1.2.1
  have h5 : (aD u).1 5 + 6200 ≤ 2000000000 := by have := hB6.1; omega
  have h599 : (aD u).1 5 + 99 ≤ 2000000000 := by omega
  obtain ⟨fs9, hobj⟩ := hM.obj
  refine lv_aload_n hx hb dL_law_510 rfl (lv_at hl 2 rfl) ?_
  refine lv_aload_n hx hb dL_law_511 rfl (lv_at hl 3 rfl) ?_
  refine lv_iload_n hx hb dL_law_512 rfl (lv_at hl 0 rfl) ?_
  refine j_const hx hb dL_law_513 ?_
  refine j_iadd hx hb dL_law_514 ?_
  refine va_sld hx hb hX hbl hbA hS (iv_in ⟨by omega, by omega⟩ (by omega)) dL_law_515 ?_
  obtain ⟨w1, hw1⟩ : ∃ y : Int32, y = xs (iv (3 * (k : Int) + 1)).toNatClampNeg := ⟨_, rfl⟩
  obtain ⟨k1, hk1e, hr1⟩ : ∃ z : Int, w1 = iv z ∧ -2147483648 ≤ z ∧ z ≤ 2147483647 := ⟨_, (iv_of _).symm, iv_rng _⟩
  rw [← hw1]
  rw [hk1e]
  refine lv_aload_n hx hb dL_law_516 rfl (lv_at hl 3 rfl) ?_
  refine lv_iload_n hx hb dL_law_517 rfl (lv_at hl 0 rfl) ?_
  refine j_const hx hb dL_law_518 ?_
  refine j_iadd hx hb dL_law_519 ?_
  refine va_sld hx hb hX hbl hbA hS (iv_in ⟨by omega, by omega⟩ (by omega)) dL_law_520 ?_
  obtain ⟨w2, hw2⟩ : ∃ y : Int32, y = xs (iv (3 * (k : Int) + 2)).toNatClampNeg := ⟨_, rfl⟩
  obtain ⟨k2, hk2e, hr2⟩ : ∃ z : Int, w2 = iv z ∧ -2147483648 ≤ z ∧ z ≤ 2147483647 := ⟨_, (iv_of _).symm, iv_rng _⟩
  rw [← hw2]
  rw [hk2e]
  refine m_callVi (As := [.int (iv k1), .int (iv k2)]) (rest := []) ⟨hx, hb, hml, hown, hts⟩ hK hH hS (c_X8_date l G ν n0 x (x + 201) u k1 k2 hD hr1 hr2) (cwV 2 hts gL_law_X8_date rfl rfl rfl (by decide +kernel) ⟨(Nat.le_of_ble_eq_true rfl), (Nat.le_of_ble_eq_true rfl)⟩) hD.1 rfl rfl rfl rfl hl.1 (Nat.le_of_ble_eq_true rfl) dL_law_521 ⟨by show 201 + 62 * k + 0 ≤ 600000; omega, by show 27000 + 248 * k + 0 ≤ 7302250; omega⟩ (fun z1 ν1 n1 H locs hz1 hp1 hH hS => ?_)
  obtain ⟨he1, hm1, hn1⟩ := hp1
  rw [hm1, hn1] at hH
  refine lv_aload_n hx hb dL_law_524 rfl (lv_at hl 1 rfl) ?_
  refine lv_aload_n hx hb dL_law_525 rfl (lv_at hl 3 rfl) ?_
  refine lv_iload_n hx hb dL_law_526 rfl (lv_at hl 0 rfl) ?_
  refine j_const hx hb dL_law_527 ?_
  refine j_iadd hx hb dL_law_528 ?_
  refine va_sld hx hb hX hbl hbA hS (iv_in ⟨by omega, by omega⟩ (by omega)) dL_law_529 ?_
  rw [← hw1]
  rw [hk1e]
  refine lv_aload_n hx hb dL_law_530 rfl (lv_at hl 3 rfl) ?_
  refine lv_iload_n hx hb dL_law_531 rfl (lv_at hl 0 rfl) ?_
  refine j_const hx hb dL_law_532 ?_
  refine j_iadd hx hb dL_law_533 ?_
  refine va_sld hx hb hX hbl hbA hS (iv_in ⟨by omega, by omega⟩ (by omega)) dL_law_534 ?_
  rw [← hw2]
  rw [hk2e]
  refine m_callVi (As := [.int (iv k1), .int (iv k2)]) (rest := [.int (iv z1)]) ⟨hx, hb, hml, hown, hts⟩ hK hH hS (t_X9_date_ l G ν n0 (x + 194) u en k1 k2 hM (by omega) hO hr1 hr2) (cwV 2 hts gL_law_X9_date_ rfl rfl rfl (by decide +kernel) ⟨(Nat.le_of_ble_eq_true rfl), (Nat.le_of_ble_eq_true rfl)⟩) hobj rfl rfl rfl rfl hl.1 (Nat.le_of_ble_eq_true rfl) dL_law_535 ⟨by show 201 + 62 * k + 0 + 0 ≤ 600000; omega, by show 27000 + 248 * k + 0 + 0 ≤ 7302250; omega⟩ (fun z2 ν2 n2 H locs hz2 hp2 hH hS => ?_)
  obtain ⟨he2, hm2, hn2⟩ := hp2
  rw [hm2, hn2] at hH
  refine j_icmp_eq (tgt := 854) hx hb dL_law_538 (by decide) (fun _ => ?_) (fun h9 => absurd (he1.trans he2.symm) h9) hz1 hz2
  refine W.widen (k := 201 + 62 * (k + 1)) (n := 27000 + 248 * (k + 1)) (by omega) (by omega) ?_
  exact K H locs ν n0 ls hH hS hl ⟨u, en, hD, hM, by omega, hB6.mono (by omega)⟩
set_option maxHeartbeats 4000000 in
set_option maxRecDepth 100000 in
theorem law_day (C : LwC p s m c b L xs G) (hL : L ≤ 1536) (hkL : 3 * k + 3 ≤ L) (hl : lv_has ls 8 (lvL x b k)) (hH : gP G ν n0 H) (hS : va_S (gA G) s.heap H locs) (hJ : LwJ G ν x k) (K : ∀ (H : Heap) (locs : List Loc) (ν : hM) (n0 : Nat) (ls : Array Slot), gP G ν n0 H → va_S (gA G) s.heap H locs → lv_has ls 8 (lvL x b k) → LwJ G ν x (k + 1) → W p l e room_1 s m #[Value.ref b] below meth c H locs (201 + 62 * (k + 1)) (27000 + 248 * (k + 1)) Q (F0 m 854 ls [])) : W p l e room_1 s m #[Value.ref b] below meth c H locs (201 + 62 * k) (27000 + 248 * k) Q (F0 m 543 ls []) := by
  obtain ⟨hx, hb, hml, hown, hts, hX, hbl, hK, hGb⟩ := C
  have hbA : ¬ gA G b := fun q => by have q1 : G.2.2.1 ≤ b := q; omega
  obtain ⟨u, en, hD, hM, hen, hB6⟩ := hJ
  have hO := hD.okD
  have hK3 := hD.okK.1.2.1
  have h5 : (aD u).1 5 + 6200 ≤ 2000000000 := by have := hB6.1; omega
  have h599 : (aD u).1 5 + 99 ≤ 2000000000 := by omega
  obtain ⟨fs9, hobj⟩ := hM.obj
  refine lv_aload_n hx hb dL_law_543 rfl (lv_at hl 2 rfl) ?_
  refine lv_aload_n hx hb dL_law_544 rfl (lv_at hl 3 rfl) ?_
  refine lv_iload_n hx hb dL_law_545 rfl (lv_at hl 0 rfl) ?_
  refine j_const hx hb dL_law_546 ?_
  refine j_iadd hx hb dL_law_547 ?_
  refine va_sld hx hb hX hbl hbA hS (iv_in ⟨by omega, by omega⟩ (by omega)) dL_law_548 ?_
  obtain ⟨w1, hw1⟩ : ∃ y : Int32, y = xs (iv (3 * (k : Int) + 1)).toNatClampNeg := ⟨_, rfl⟩
  obtain ⟨k1, hk1e, hr1⟩ : ∃ z : Int, w1 = iv z ∧ -2147483648 ≤ z ∧ z ≤ 2147483647 := ⟨_, (iv_of _).symm, iv_rng _⟩
  rw [← hw1]
  rw [hk1e]
  refine m_callVi (As := [.int (iv k1)]) (rest := []) ⟨hx, hb, hml, hown, hts⟩ hK hH hS (c_X8_day l G ν n0 x (x + 201) u k1 hD hr1) (cwV 1 hts gL_law_X8_day rfl rfl rfl (by decide +kernel) ⟨(Nat.le_of_ble_eq_true rfl), (Nat.le_of_ble_eq_true rfl)⟩) hD.1 rfl rfl rfl rfl hl.1 (Nat.le_of_ble_eq_true rfl) dL_law_549 ⟨by show 201 + 62 * k + 0 ≤ 600000; omega, by show 27000 + 248 * k + 0 ≤ 7302250; omega⟩ (fun z1 ν1 n1 H locs hz1 hp1 hH hS => ?_)
  obtain ⟨he1, hm1, hn1⟩ := hp1
  rw [hm1, hn1] at hH
  refine lv_aload_n hx hb dL_law_552 rfl (lv_at hl 1 rfl) ?_
  refine lv_aload_n hx hb dL_law_553 rfl (lv_at hl 3 rfl) ?_
  refine lv_iload_n hx hb dL_law_554 rfl (lv_at hl 0 rfl) ?_
  refine j_const hx hb dL_law_555 ?_
  refine j_iadd hx hb dL_law_556 ?_
  refine va_sld hx hb hX hbl hbA hS (iv_in ⟨by omega, by omega⟩ (by omega)) dL_law_557 ?_
  rw [← hw1]
  rw [hk1e]
  refine m_callVi (As := [.int (iv k1)]) (rest := [.int (iv z1)]) ⟨hx, hb, hml, hown, hts⟩ hK hH hS (t_X9_day l G ν n0 (x + 194) u en k1 hM (by omega) hO hr1) (cwV 1 hts gL_law_X9_day rfl rfl rfl (by decide +kernel) ⟨(Nat.le_of_ble_eq_true rfl), (Nat.le_of_ble_eq_true rfl)⟩) hobj rfl rfl rfl rfl hl.1 (Nat.le_of_ble_eq_true rfl) dL_law_558 ⟨by show 201 + 62 * k + 0 + 0 ≤ 600000; omega, by show 27000 + 248 * k + 0 + 0 ≤ 7302250; omega⟩ (fun z2 ν2 n2 H locs hz2 hp2 hH hS => ?_)
  obtain ⟨he2, hm2, hn2⟩ := hp2
  rw [hm2, hn2] at hH
  refine j_icmp_eq (tgt := 854) hx hb dL_law_561 (by decide) (fun _ => ?_) (fun h9 => absurd (he1.trans he2.symm) h9) hz1 hz2
  refine W.widen (k := 201 + 62 * (k + 1)) (n := 27000 + 248 * (k + 1)) (by omega) (by omega) ?_
  exact K H locs ν n0 ls hH hS hl ⟨u, en, hD, hM, by omega, hB6.mono (by omega)⟩
set_option maxHeartbeats 4000000 in
set_option maxRecDepth 100000 in
theorem law_band (C : LwC p s m c b L xs G) (hL : L ≤ 1536) (hkL : 3 * k + 3 ≤ L) (hl : lv_has ls 8 (lvL x b k)) (hH : gP G ν n0 H) (hS : va_S (gA G) s.heap H locs) (hJ : LwJ G ν x k) (K : ∀ (H : Heap) (locs : List Loc) (ν : hM) (n0 : Nat) (ls : Array Slot), gP G ν n0 H → va_S (gA G) s.heap H locs → lv_has ls 8 (lvL x b k) → LwJ G ν x (k + 1) → W p l e room_1 s m #[Value.ref b] below meth c H locs (201 + 62 * (k + 1)) (27000 + 248 * (k + 1)) Q (F0 m 854 ls [])) : W p l e room_1 s m #[Value.ref b] below meth c H locs (201 + 62 * k) (27000 + 248 * k) Q (F0 m 566 ls []) := by
  obtain ⟨hx, hb, hml, hown, hts, hX, hbl, hK, hGb⟩ := C
  have hbA : ¬ gA G b := fun q => by have q1 : G.2.2.1 ≤ b := q; omega
  obtain ⟨u, en, hD, hM, hen, hB6⟩ := hJ
  have hO := hD.okD
  have hK3 := hD.okK.1.2.1
  have h5 : (aD u).1 5 + 6200 ≤ 2000000000 := by have := hB6.1; omega
  have h599 : (aD u).1 5 + 99 ≤ 2000000000 := by omega
  obtain ⟨fs9, hobj⟩ := hM.obj
  refine lv_aload_n hx hb dL_law_566 rfl (lv_at hl 2 rfl) ?_
  refine lv_aload_n hx hb dL_law_567 rfl (lv_at hl 3 rfl) ?_
  refine lv_iload_n hx hb dL_law_568 rfl (lv_at hl 0 rfl) ?_
  refine j_const hx hb dL_law_569 ?_
  refine j_iadd hx hb dL_law_570 ?_
  refine va_sld hx hb hX hbl hbA hS (iv_in ⟨by omega, by omega⟩ (by omega)) dL_law_571 ?_
  obtain ⟨w1, hw1⟩ : ∃ y : Int32, y = xs (iv (3 * (k : Int) + 1)).toNatClampNeg := ⟨_, rfl⟩
  obtain ⟨k1, hk1e, hr1⟩ : ∃ z : Int, w1 = iv z ∧ -2147483648 ≤ z ∧ z ≤ 2147483647 := ⟨_, (iv_of _).symm, iv_rng _⟩
  rw [← hw1]
  rw [hk1e]
  refine lv_aload_n hx hb dL_law_572 rfl (lv_at hl 3 rfl) ?_
  refine lv_iload_n hx hb dL_law_573 rfl (lv_at hl 0 rfl) ?_
  refine j_const hx hb dL_law_574 ?_
  refine j_iadd hx hb dL_law_575 ?_
  refine va_sld hx hb hX hbl hbA hS (iv_in ⟨by omega, by omega⟩ (by omega)) dL_law_576 ?_
  obtain ⟨w2, hw2⟩ : ∃ y : Int32, y = xs (iv (3 * (k : Int) + 2)).toNatClampNeg := ⟨_, rfl⟩
  obtain ⟨k2, hk2e, hr2⟩ : ∃ z : Int, w2 = iv z ∧ -2147483648 ≤ z ∧ z ≤ 2147483647 := ⟨_, (iv_of _).symm, iv_rng _⟩
  rw [← hw2]
  rw [hk2e]
  refine m_callVi (As := [.int (iv k1), .int (iv k2)]) (rest := []) ⟨hx, hb, hml, hown, hts⟩ hK hH hS (c_X8_band l G ν n0 x (x + 201) u k1 k2 hD hr1 hr2) (cwV 2 hts gL_law_X8_band rfl rfl rfl (by decide +kernel) ⟨(Nat.le_of_ble_eq_true rfl), (Nat.le_of_ble_eq_true rfl)⟩) hD.1 rfl rfl rfl rfl hl.1 (Nat.le_of_ble_eq_true rfl) dL_law_577 ⟨by show 201 + 62 * k + 0 ≤ 600000; omega, by show 27000 + 248 * k + 0 ≤ 7302250; omega⟩ (fun z1 ν1 n1 H locs hz1 hp1 hH hS => ?_)
  obtain ⟨he1, hm1, hn1⟩ := hp1
  rw [hm1, hn1] at hH
  refine lv_aload_n hx hb dL_law_580 rfl (lv_at hl 1 rfl) ?_
  refine lv_aload_n hx hb dL_law_581 rfl (lv_at hl 3 rfl) ?_
  refine lv_iload_n hx hb dL_law_582 rfl (lv_at hl 0 rfl) ?_
  refine j_const hx hb dL_law_583 ?_
  refine j_iadd hx hb dL_law_584 ?_
  refine va_sld hx hb hX hbl hbA hS (iv_in ⟨by omega, by omega⟩ (by omega)) dL_law_585 ?_
  rw [← hw1]
  rw [hk1e]
  refine lv_aload_n hx hb dL_law_586 rfl (lv_at hl 3 rfl) ?_
  refine lv_iload_n hx hb dL_law_587 rfl (lv_at hl 0 rfl) ?_
  refine j_const hx hb dL_law_588 ?_
  refine j_iadd hx hb dL_law_589 ?_
  refine va_sld hx hb hX hbl hbA hS (iv_in ⟨by omega, by omega⟩ (by omega)) dL_law_590 ?_
  rw [← hw2]
  rw [hk2e]
  refine m_callVi (As := [.int (iv k1), .int (iv k2)]) (rest := [.int (iv z1)]) ⟨hx, hb, hml, hown, hts⟩ hK hH hS (t_X9_band l G ν n0 (x + 194) u en k1 k2 hM (by omega) hO hr1 hr2) (cwV 2 hts gL_law_X9_band rfl rfl rfl (by decide +kernel) ⟨(Nat.le_of_ble_eq_true rfl), (Nat.le_of_ble_eq_true rfl)⟩) hobj rfl rfl rfl rfl hl.1 (Nat.le_of_ble_eq_true rfl) dL_law_591 ⟨by show 201 + 62 * k + 0 + 0 ≤ 600000; omega, by show 27000 + 248 * k + 0 + 0 ≤ 7302250; omega⟩ (fun z2 ν2 n2 H locs hz2 hp2 hH hS => ?_)
  obtain ⟨he2, hm2, hn2⟩ := hp2
  rw [hm2, hn2] at hH
  refine j_icmp_eq (tgt := 854) hx hb dL_law_594 (by decide) (fun _ => ?_) (fun h9 => absurd (he1.trans he2.symm) h9) hz1 hz2
  refine W.widen (k := 201 + 62 * (k + 1)) (n := 27000 + 248 * (k + 1)) (by omega) (by omega) ?_
  exact K H locs ν n0 ls hH hS hl ⟨u, en, hD, hM, by omega, hB6.mono (by omega)⟩
end LAWC
