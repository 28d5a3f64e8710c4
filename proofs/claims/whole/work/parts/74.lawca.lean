section LAWC
variable {p : Program} {l : Launch} {e : Env} {s : State} {m : MethodId} {below : List Frame} {meth : Method} {c : Code} {b L : Nat} {xs : Nat → Int32} {G : wG} {ν : hM} {n0 x k : Nat} {H : Heap} {locs : List Loc} {ls : Array Slot} {Q : State → Prop}
set_option maxHeartbeats 4000000 in
set_option maxRecDepth 100000 in
theorem law_pass (C : LwC p s m c b L xs G) (hL : L ≤ 1536) (hkL : 3 * k + 3 ≤ L) (hl : lv_has ls 8 (lvL x b k)) (hH : gP G ν n0 H) (hS : va_S (gA G) s.heap H locs) (hJ : LwJ G ν x k) (K : ∀ (H : Heap) (locs : List Loc) (ν : hM) (n0 : Nat) (ls : Array Slot), gP G ν n0 H → va_S (gA G) s.heap H locs → lv_has ls 8 (lvL x b k) → LwJ G ν x (k + 1) → W p l e room_1 s m #[Value.ref b] below meth c H locs (201 + 62 * (k + 1)) (27000 + 248 * (k + 1)) Q (F0 m 854 ls [])) : W p l e room_1 s m #[Value.ref b] below meth c H locs (201 + 62 * k) (27000 + 248 * k) Q (F0 m 160 ls []) := by
  obtain ⟨hx, hb, hml, hown, hts, hX, hbl, hK, hGb⟩ := C
  have hbA : ¬ gA G b := fun q => by have q1 : G.2.2.1 ≤ b := q; omega
  obtain ⟨u, en, hD, hM, hen, hB6⟩ := hJ
  have hO := hD.okD
  have hK3 := hD.okK.1.2.1
  have h5 : (aD u).1 5 + 6200 ≤ 2000000000 := by have := hB6.1; omega
  have h599 : (aD u).1 5 + 99 ≤ 2000000000 := by omega
  obtain ⟨fs9, hobj⟩ := hM.obj
  refine lv_aload_n hx hb dL_law_160 rfl (lv_at hl 2 rfl) ?_
  refine lv_aload_n hx hb dL_law_161 rfl (lv_at hl 3 rfl) ?_
  refine lv_iload_n hx hb dL_law_162 rfl (lv_at hl 0 rfl) ?_
  refine j_const hx hb dL_law_163 ?_
  refine j_iadd hx hb dL_law_164 ?_
  refine va_sld hx hb hX hbl hbA hS (iv_in ⟨by omega, by omega⟩ (by omega)) dL_law_165 ?_
  obtain ⟨w1, hw1⟩ : ∃ y : Int32, y = xs (iv (3 * (k : Int) + 1)).toNatClampNeg := ⟨_, rfl⟩
  obtain ⟨k1, hk1e, hr1⟩ : ∃ z : Int, w1 = iv z ∧ -2147483648 ≤ z ∧ z ≤ 2147483647 := ⟨_, (iv_of _).symm, iv_rng _⟩
  rw [← hw1]
  rw [hk1e]
  refine m_callVi (As := [.int (iv k1)]) (rest := []) ⟨hx, hb, hml, hown, hts⟩ hK hH hS (c_X8_pass l G ν n0 x (x + 201) u k1 hD hr1) (cwV 1 hts gL_law_X8_pass rfl rfl rfl (by decide +kernel) ⟨(Nat.le_of_ble_eq_true rfl), (Nat.le_of_ble_eq_true rfl)⟩) hD.1 rfl rfl rfl rfl hl.1 (Nat.le_of_ble_eq_true rfl) dL_law_166 ⟨by show 201 + 62 * k + 0 ≤ 600000; omega, by show 27000 + 248 * k + 0 ≤ 7302250; omega⟩ (fun z1 ν1 n1 H locs hz1 hp1 hH hS => ?_)
  obtain ⟨he1, hD1, hf1⟩ := hp1
  have hM1 : IsM G ν1 (x + 194) u en := hM.mn (fun q e a b h => hf1 q e (by omega) h)
  obtain ⟨fs8, hobj1⟩ := hM1.obj
  refine lv_aload_n hx hb dL_law_169 rfl (lv_at hl 1 rfl) ?_
  refine lv_aload_n hx hb dL_law_170 rfl (lv_at hl 3 rfl) ?_
  refine lv_iload_n hx hb dL_law_171 rfl (lv_at hl 0 rfl) ?_
  refine j_const hx hb dL_law_172 ?_
  refine j_iadd hx hb dL_law_173 ?_
  refine va_sld hx hb hX hbl hbA hS (iv_in ⟨by omega, by omega⟩ (by omega)) dL_law_174 ?_
  rw [← hw1]
  rw [hk1e]
  refine m_callVi (As := [.int (iv k1)]) (rest := [.int (iv z1)]) ⟨hx, hb, hml, hown, hts⟩ hK hH hS (t_X9_pass l G ν1 n1 (x + 194) u en k1 hM1 (by omega) hO hr1) (cwV 1 hts gL_law_X9_pass rfl rfl rfl (by decide +kernel) ⟨(Nat.le_of_ble_eq_true rfl), (Nat.le_of_ble_eq_true rfl)⟩) hobj1 rfl rfl rfl rfl hl.1 (Nat.le_of_ble_eq_true rfl) dL_law_175 ⟨by show 201 + 62 * k + 0 + 0 ≤ 600000; omega, by show 27000 + 248 * k + 0 + 0 ≤ 7302250; omega⟩ (fun z2 ν2 n2 H locs hz2 hp2 hH hS => ?_)
  obtain ⟨he2, hM2, hf2⟩ := hp2
  have e62 : 6200 * ((k + 1 : Nat) : Int) = 6200 * (k : Int) + 6200 := by omega
  have hb9 : B6 (a_pass u k1).1 (6200 * ((k + 1 : Nat) : Int)) := by rw [e62]; exact b6_pass hB6
  refine j_icmp_eq (tgt := 854) hx hb dL_law_178 (by decide) (fun _ => ?_) (fun h9 => absurd (he1.trans he2.symm) h9) hz1 hz2
  refine W.widen (k := 201 + 62 * (k + 1)) (n := 27000 + 248 * (k + 1)) (by omega) (by omega) ?_
  exact K H locs ν2 n2 ls hH hS hl ⟨(a_pass u k1).1, en, hD1.bk hf2 hM2, hM2, by omega, hb9⟩
set_option maxHeartbeats 4000000 in
set_option maxRecDepth 100000 in
theorem law_adjust (C : LwC p s m c b L xs G) (hL : L ≤ 1536) (hkL : 3 * k + 3 ≤ L) (hl : lv_has ls 8 (lvL x b k)) (hH : gP G ν n0 H) (hS : va_S (gA G) s.heap H locs) (hJ : LwJ G ν x k) (K : ∀ (H : Heap) (locs : List Loc) (ν : hM) (n0 : Nat) (ls : Array Slot), gP G ν n0 H → va_S (gA G) s.heap H locs → lv_has ls 8 (lvL x b k) → LwJ G ν x (k + 1) → W p l e room_1 s m #[Value.ref b] below meth c H locs (201 + 62 * (k + 1)) (27000 + 248 * (k + 1)) Q (F0 m 854 ls [])) : W p l e room_1 s m #[Value.ref b] below meth c H locs (201 + 62 * k) (27000 + 248 * k) Q (F0 m 183 ls []) := by
  obtain ⟨hx, hb, hml, hown, hts, hX, hbl, hK, hGb⟩ := C
  have hbA : ¬ gA G b := fun q => by have q1 : G.2.2.1 ≤ b := q; omega
  obtain ⟨u, en, hD, hM, hen, hB6⟩ := hJ
  have hO := hD.okD
  have hK3 := hD.okK.1.2.1
  have h5 : (aD u).1 5 + 6200 ≤ 2000000000 := by have := hB6.1; omega
  have h599 : (aD u).1 5 + 99 ≤ 2000000000 := by omega
  obtain ⟨fs9, hobj⟩ := hM.obj
  refine lv_aload_n hx hb dL_law_183 rfl (lv_at hl 2 rfl) ?_
  refine lv_aload_n hx hb dL_law_184 rfl (lv_at hl 3 rfl) ?_
  refine lv_iload_n hx hb dL_law_185 rfl (lv_at hl 0 rfl) ?_
  refine j_const hx hb dL_law_186 ?_
  refine j_iadd hx hb dL_law_187 ?_
  refine va_sld hx hb hX hbl hbA hS (iv_in ⟨by omega, by omega⟩ (by omega)) dL_law_188 ?_
  obtain ⟨w1, hw1⟩ : ∃ y : Int32, y = xs (iv (3 * (k : Int) + 1)).toNatClampNeg := ⟨_, rfl⟩
  obtain ⟨k1, hk1e, hr1⟩ : ∃ z : Int, w1 = iv z ∧ -2147483648 ≤ z ∧ z ≤ 2147483647 := ⟨_, (iv_of _).symm, iv_rng _⟩
  rw [← hw1]
  rw [hk1e]
  refine m_callVi (As := [.int (iv k1)]) (rest := []) ⟨hx, hb, hml, hown, hts⟩ hK hH hS (c_X8_adjust l G ν n0 x (x + 201) u k1 hD hr1) (cwV 1 hts gL_law_X8_adjust rfl rfl rfl (by decide +kernel) ⟨(Nat.le_of_ble_eq_true rfl), (Nat.le_of_ble_eq_true rfl)⟩) hD.1 rfl rfl rfl rfl hl.1 (Nat.le_of_ble_eq_true rfl) dL_law_189 ⟨by show 201 + 62 * k + 0 ≤ 600000; omega, by show 27000 + 248 * k + 0 ≤ 7302250; omega⟩ (fun z1 ν1 n1 H locs hz1 hp1 hH hS => ?_)
  obtain ⟨he1, hD1, hf1⟩ := hp1
  have hM1 : IsM G ν1 (x + 194) u en := hM.mn (fun q e a b h => hf1 q e (by omega) h)
  obtain ⟨fs8, hobj1⟩ := hM1.obj
  refine lv_aload_n hx hb dL_law_192 rfl (lv_at hl 1 rfl) ?_
  refine lv_aload_n hx hb dL_law_193 rfl (lv_at hl 3 rfl) ?_
  refine lv_iload_n hx hb dL_law_194 rfl (lv_at hl 0 rfl) ?_
  refine j_const hx hb dL_law_195 ?_
  refine j_iadd hx hb dL_law_196 ?_
  refine va_sld hx hb hX hbl hbA hS (iv_in ⟨by omega, by omega⟩ (by omega)) dL_law_197 ?_
  rw [← hw1]
  rw [hk1e]
  refine m_callVi (As := [.int (iv k1)]) (rest := [.int (iv z1)]) ⟨hx, hb, hml, hown, hts⟩ hK hH hS (t_X9_adjust l G ν1 n1 (x + 194) u en k1 hM1 (by omega) hO hr1) (cwV 1 hts gL_law_X9_adjust rfl rfl rfl (by decide +kernel) ⟨(Nat.le_of_ble_eq_true rfl), (Nat.le_of_ble_eq_true rfl)⟩) hobj1 rfl rfl rfl rfl hl.1 (Nat.le_of_ble_eq_true rfl) dL_law_198 ⟨by show 201 + 62 * k + 0 + 0 ≤ 600000; omega, by show 27000 + 248 * k + 0 + 0 ≤ 7302250; omega⟩ (fun z2 ν2 n2 H locs hz2 hp2 hH hS => ?_)
  obtain ⟨he2, hM2, hf2⟩ := hp2
  have e62 : 6200 * ((k + 1 : Nat) : Int) = 6200 * (k : Int) + 6200 := by omega
  have hb9 : B6 (a_adjust u k1).1 (6200 * ((k + 1 : Nat) : Int)) := by rw [e62]; exact b6_adjust hB6
  refine j_icmp_eq (tgt := 854) hx hb dL_law_201 (by decide) (fun _ => ?_) (fun h9 => absurd (he1.trans he2.symm) h9) hz1 hz2
  refine W.widen (k := 201 + 62 * (k + 1)) (n := 27000 + 248 * (k + 1)) (by omega) (by omega) ?_
  exact K H locs ν2 n2 ls hH hS hl ⟨(a_adjust u k1).1, en, hD1.bk hf2 hM2, hM2, by omega, hb9⟩
set_option maxHeartbeats 4000000 in
set_option maxRecDepth 100000 in
theorem law_turn (C : LwC p s m c b L xs G) (hL : L ≤ 1536) (hkL : 3 * k + 3 ≤ L) (hl : lv_has ls 8 (lvL x b k)) (hH : gP G ν n0 H) (hS : va_S (gA G) s.heap H locs) (hJ : LwJ G ν x k) (K : ∀ (H : Heap) (locs : List Loc) (ν : hM) (n0 : Nat) (ls : Array Slot), gP G ν n0 H → va_S (gA G) s.heap H locs → lv_has ls 8 (lvL x b k) → LwJ G ν x (k + 1) → W p l e room_1 s m #[Value.ref b] below meth c H locs (201 + 62 * (k + 1)) (27000 + 248 * (k + 1)) Q (F0 m 854 ls [])) : W p l e room_1 s m #[Value.ref b] below meth c H locs (201 + 62 * k) (27000 + 248 * k) Q (F0 m 206 ls []) := by
  obtain ⟨hx, hb, hml, hown, hts, hX, hbl, hK, hGb⟩ := C
  have hbA : ¬ gA G b := fun q => by have q1 : G.2.2.1 ≤ b := q; omega
  obtain ⟨u, en, hD, hM, hen, hB6⟩ := hJ
  have hO := hD.okD
  have hK3 := hD.okK.1.2.1
  have h5 : (aD u).1 5 + 6200 ≤ 2000000000 := by have := hB6.1; omega
  have h599 : (aD u).1 5 + 99 ≤ 2000000000 := by omega
  obtain ⟨fs9, hobj⟩ := hM.obj
  refine lv_aload_n hx hb dL_law_206 rfl (lv_at hl 2 rfl) ?_
  refine lv_aload_n hx hb dL_law_207 rfl (lv_at hl 3 rfl) ?_
  refine lv_iload_n hx hb dL_law_208 rfl (lv_at hl 0 rfl) ?_
  refine j_const hx hb dL_law_209 ?_
  refine j_iadd hx hb dL_law_210 ?_
  refine va_sld hx hb hX hbl hbA hS (iv_in ⟨by omega, by omega⟩ (by omega)) dL_law_211 ?_
  obtain ⟨w1, hw1⟩ : ∃ y : Int32, y = xs (iv (3 * (k : Int) + 1)).toNatClampNeg := ⟨_, rfl⟩
  obtain ⟨k1, hk1e, hr1⟩ : ∃ z : Int, w1 = iv z ∧ -2147483648 ≤ z ∧ z ≤ 2147483647 := ⟨_, (iv_of _).symm, iv_rng _⟩
  rw [← hw1]
  rw [hk1e]
  refine lv_aload_n hx hb dL_law_212 rfl (lv_at hl 3 rfl) ?_
  refine lv_iload_n hx hb dL_law_213 rfl (lv_at hl 0 rfl) ?_
  refine j_const hx hb dL_law_214 ?_
  refine j_iadd hx hb dL_law_215 ?_
  refine va_sld hx hb hX hbl hbA hS (iv_in ⟨by omega, by omega⟩ (by omega)) dL_law_216 ?_
  obtain ⟨w2, hw2⟩ : ∃ y : Int32, y = xs (iv (3 * (k : Int) + 2)).toNatClampNeg := ⟨_, rfl⟩
  obtain ⟨k2, hk2e, hr2⟩ : ∃ z : Int, w2 = iv z ∧ -2147483648 ≤ z ∧ z ≤ 2147483647 := ⟨_, (iv_of _).symm, iv_rng _⟩
  rw [← hw2]
  rw [hk2e]
  refine m_callVi (As := [.int (iv k1), .int (iv k2)]) (rest := []) ⟨hx, hb, hml, hown, hts⟩ hK hH hS (c_X8_turn l G ν n0 x (x + 201) u k1 k2 hD hr1 hr2) (cwV 2 hts gL_law_X8_turn rfl rfl rfl (by decide +kernel) ⟨(Nat.le_of_ble_eq_true rfl), (Nat.le_of_ble_eq_true rfl)⟩) hD.1 rfl rfl rfl rfl hl.1 (Nat.le_of_ble_eq_true rfl) dL_law_217 ⟨by show 201 + 62 * k + 0 ≤ 600000; omega, by show 27000 + 248 * k + 0 ≤ 7302250; omega⟩ (fun z1 ν1 n1 H locs hz1 hp1 hH hS => ?_)
  obtain ⟨he1, hD1, hf1⟩ := hp1
  have hM1 : IsM G ν1 (x + 194) u en := hM.mn (fun q e a b h => hf1 q e (by omega) h)
  obtain ⟨fs8, hobj1⟩ := hM1.obj
  refine lv_aload_n hx hb dL_law_220 rfl (lv_at hl 1 rfl) ?_
  refine lv_aload_n hx hb dL_law_221 rfl (lv_at hl 3 rfl) ?_
  refine lv_iload_n hx hb dL_law_222 rfl (lv_at hl 0 rfl) ?_
  refine j_const hx hb dL_law_223 ?_
  refine j_iadd hx hb dL_law_224 ?_
  refine va_sld hx hb hX hbl hbA hS (iv_in ⟨by omega, by omega⟩ (by omega)) dL_law_225 ?_
  rw [← hw1]
  rw [hk1e]
  refine lv_aload_n hx hb dL_law_226 rfl (lv_at hl 3 rfl) ?_
  refine lv_iload_n hx hb dL_law_227 rfl (lv_at hl 0 rfl) ?_
  refine j_const hx hb dL_law_228 ?_
  refine j_iadd hx hb dL_law_229 ?_
  refine va_sld hx hb hX hbl hbA hS (iv_in ⟨by omega, by omega⟩ (by omega)) dL_law_230 ?_
  rw [← hw2]
  rw [hk2e]
  refine m_callVi (As := [.int (iv k1), .int (iv k2)]) (rest := [.int (iv z1)]) ⟨hx, hb, hml, hown, hts⟩ hK hH hS (t_X9_turn l G ν1 n1 (x + 194) u en k1 k2 hM1 (by omega) hO hr1 hr2) (cwV 2 hts gL_law_X9_turn rfl rfl rfl (by decide +kernel) ⟨(Nat.le_of_ble_eq_true rfl), (Nat.le_of_ble_eq_true rfl)⟩) hobj1 rfl rfl rfl rfl hl.1 (Nat.le_of_ble_eq_true rfl) dL_law_231 ⟨by show 201 + 62 * k + 0 + 0 ≤ 600000; omega, by show 27000 + 248 * k + 0 + 0 ≤ 7302250; omega⟩ (fun z2 ν2 n2 H locs hz2 hp2 hH hS => ?_)
  obtain ⟨he2, hM2, hf2⟩ := hp2
  have e62 : 6200 * ((k + 1 : Nat) : Int) = 6200 * (k : Int) + 6200 := by omega
  have hb9 : B6 (a_turn u k1 k2).1 (6200 * ((k + 1 : Nat) : Int)) := by rw [e62]; exact b6_turn hB6
  refine j_icmp_eq (tgt := 854) hx hb dL_law_234 (by decide) (fun _ => ?_) (fun h9 => absurd (he1.trans he2.symm) h9) hz1 hz2
  refine W.widen (k := 201 + 62 * (k + 1)) (n := 27000 + 248 * (k + 1)) (by omega) (by omega) ?_
  exact K H locs ν2 n2 ls hH hS hl ⟨(a_turn u k1 k2).1, en, hD1.bk hf2 hM2, hM2, by omega, hb9⟩
set_option maxHeartbeats 4000000 in
set_option maxRecDepth 100000 in
theorem law_press (C : LwC p s m c b L xs G) (hL : L ≤ 1536) (hkL : 3 * k + 3 ≤ L) (hl : lv_has ls 8 (lvL x b k)) (hH : gP G ν n0 H) (hS : va_S (gA G) s.heap H locs) (hJ : LwJ G ν x k) (K : ∀ (H : Heap) (locs : List Loc) (ν : hM) (n0 : Nat) (ls : Array Slot), gP G ν n0 H → va_S (gA G) s.heap H locs → lv_has ls 8 (lvL x b k) → LwJ G ν x (k + 1) → W p l e room_1 s m #[Value.ref b] below meth c H locs (201 + 62 * (k + 1)) (27000 + 248 * (k + 1)) Q (F0 m 854 ls [])) : W p l e room_1 s m #[Value.ref b] below meth c H locs (201 + 62 * k) (27000 + 248 * k) Q (F0 m 239 ls []) := by
  obtain ⟨hx, hb, hml, hown, hts, hX, hbl, hK, hGb⟩ := C
  have hbA : ¬ gA G b := fun q => by have q1 : G.2.2.1 ≤ b := q; omega
  obtain ⟨u, en, hD, hM, hen, hB6⟩ := hJ
  have hO := hD.okD
  have hK3 := hD.okK.1.2.1
  have h5 : (aD u).1 5 + 6200 ≤ 2000000000 := by have := hB6.1; omega
  have h599 : (aD u).1 5 + 99 ≤ 2000000000 := by omega
  obtain ⟨fs9, hobj⟩ := hM.obj
  refine lv_aload_n hx hb dL_law_239 rfl (lv_at hl 2 rfl) ?_
  refine lv_aload_n hx hb dL_law_240 rfl (lv_at hl 3 rfl) ?_
  refine lv_iload_n hx hb dL_law_241 rfl (lv_at hl 0 rfl) ?_
  refine j_const hx hb dL_law_242 ?_
  refine j_iadd hx hb dL_law_243 ?_
  refine va_sld hx hb hX hbl hbA hS (iv_in ⟨by omega, by omega⟩ (by omega)) dL_law_244 ?_
  obtain ⟨w1, hw1⟩ : ∃ y : Int32, y = xs (iv (3 * (k : Int) + 1)).toNatClampNeg := ⟨_, rfl⟩
  obtain ⟨k1, hk1e, hr1⟩ : ∃ z : Int, w1 = iv z ∧ -2147483648 ≤ z ∧ z ≤ 2147483647 := ⟨_, (iv_of _).symm, iv_rng _⟩
  rw [← hw1]
  rw [hk1e]
  refine lv_aload_n hx hb dL_law_245 rfl (lv_at hl 3 rfl) ?_
  refine lv_iload_n hx hb dL_law_246 rfl (lv_at hl 0 rfl) ?_
  refine j_const hx hb dL_law_247 ?_
  refine j_iadd hx hb dL_law_248 ?_
  refine va_sld hx hb hX hbl hbA hS (iv_in ⟨by omega, by omega⟩ (by omega)) dL_law_249 ?_
  obtain ⟨w2, hw2⟩ : ∃ y : Int32, y = xs (iv (3 * (k : Int) + 2)).toNatClampNeg := ⟨_, rfl⟩
  obtain ⟨k2, hk2e, hr2⟩ : ∃ z : Int, w2 = iv z ∧ -2147483648 ≤ z ∧ z ≤ 2147483647 := ⟨_, (iv_of _).symm, iv_rng _⟩
  rw [← hw2]
  rw [hk2e]
  refine m_callVi (As := [.int (iv k1), .int (iv k2)]) (rest := []) ⟨hx, hb, hml, hown, hts⟩ hK hH hS (c_X8_press l G ν n0 x (x + 201) u k1 k2 hD hr1 hr2 h599) (cwV 2 hts gL_law_X8_press rfl rfl rfl (by decide +kernel) ⟨(Nat.le_of_ble_eq_true rfl), (Nat.le_of_ble_eq_true rfl)⟩) hD.1 rfl rfl rfl rfl hl.1 (Nat.le_of_ble_eq_true rfl) dL_law_250 ⟨by show 201 + 62 * k + 1 ≤ 600000; omega, by show 27000 + 248 * k + 4 ≤ 7302250; omega⟩ (fun z1 ν1 n1 H locs hz1 hp1 hH hS => ?_)
  obtain ⟨he1, hD1, hf1⟩ := hp1
  have hM1 : IsM G ν1 (x + 194) u en := hM.mn (fun q e a b h => hf1 q e (by omega) h)
  obtain ⟨fs8, hobj1⟩ := hM1.obj
  refine lv_aload_n hx hb dL_law_253 rfl (lv_at hl 1 rfl) ?_
  refine lv_aload_n hx hb dL_law_254 rfl (lv_at hl 3 rfl) ?_
  refine lv_iload_n hx hb dL_law_255 rfl (lv_at hl 0 rfl) ?_
  refine j_const hx hb dL_law_256 ?_
  refine j_iadd hx hb dL_law_257 ?_
  refine va_sld hx hb hX hbl hbA hS (iv_in ⟨by omega, by omega⟩ (by omega)) dL_law_258 ?_
  rw [← hw1]
  rw [hk1e]
  refine lv_aload_n hx hb dL_law_259 rfl (lv_at hl 3 rfl) ?_
  refine lv_iload_n hx hb dL_law_260 rfl (lv_at hl 0 rfl) ?_
  refine j_const hx hb dL_law_261 ?_
  refine j_iadd hx hb dL_law_262 ?_
  refine va_sld hx hb hX hbl hbA hS (iv_in ⟨by omega, by omega⟩ (by omega)) dL_law_263 ?_
  rw [← hw2]
  rw [hk2e]
  refine m_callVi (As := [.int (iv k1), .int (iv k2)]) (rest := [.int (iv z1)]) ⟨hx, hb, hml, hown, hts⟩ hK hH hS (t_X9_press l G ν1 n1 (x + 194) u en k1 k2 hM1 (by omega) hO hr1 hr2 h599) (cwV 2 hts gL_law_X9_press rfl rfl rfl (by decide +kernel) ⟨(Nat.le_of_ble_eq_true rfl), (Nat.le_of_ble_eq_true rfl)⟩) hobj1 rfl rfl rfl rfl hl.1 (Nat.le_of_ble_eq_true rfl) dL_law_264 ⟨by show 201 + 62 * k + 1 + 0 ≤ 600000; omega, by show 27000 + 248 * k + 4 + 0 ≤ 7302250; omega⟩ (fun z2 ν2 n2 H locs hz2 hp2 hH hS => ?_)
  obtain ⟨he2, ⟨h1, e1, hee, hM2⟩, hf2⟩ := hp2
  have e62 : 6200 * ((k + 1 : Nat) : Int) = 6200 * (k : Int) + 6200 := by omega
  have hb9 : B6 (hd11 (a_press u k1 k2).1 h1) (6200 * ((k + 1 : Nat) : Int)) := by rw [e62]; exact (b6_press hB6).h11 h1
  refine j_icmp_eq (tgt := 854) hx hb dL_law_267 (by decide) (fun _ => ?_) (fun h9 => absurd (he1.trans he2.symm) h9) hz1 hz2
  refine W.widen (k := 201 + 62 * (k + 1)) (n := 27000 + 248 * (k + 1)) (by omega) (by omega) ?_
  exact K H locs ν2 n2 ls hH hS hl ⟨hd11 (a_press u k1 k2).1 h1, e1, (hD1.bk hf2 hM2).h11 h1, hM2, by omega, hb9⟩
set_option maxHeartbeats 4000000 in
set_option maxRecDepth 100000 in
theorem law_fill (C : LwC p s m c b L xs G) (hL : L ≤ 1536) (hkL : 3 * k + 3 ≤ L) (hl : lv_has ls 8 (lvL x b k)) (hH : gP G ν n0 H) (hS : va_S (gA G) s.heap H locs) (hJ : LwJ G ν x k) (K : ∀ (H : Heap) (locs : List Loc) (ν : hM) (n0 : Nat) (ls : Array Slot), gP G ν n0 H → va_S (gA G) s.heap H locs → lv_has ls 8 (lvL x b k) → LwJ G ν x (k + 1) → W p l e room_1 s m #[Value.ref b] below meth c H locs (201 + 62 * (k + 1)) (27000 + 248 * (k + 1)) Q (F0 m 854 ls [])) : W p l e room_1 s m #[Value.ref b] below meth c H locs (201 + 62 * k) (27000 + 248 * k) Q (F0 m 272 ls []) := by
  obtain ⟨hx, hb, hml, hown, hts, hX, hbl, hK, hGb⟩ := C
  have hbA : ¬ gA G b := fun q => by have q1 : G.2.2.1 ≤ b := q; omega
  obtain ⟨u, en, hD, hM, hen, hB6⟩ := hJ
  have hO := hD.okD
  have hK3 := hD.okK.1.2.1
  have h5 : (aD u).1 5 + 6200 ≤ 2000000000 := by have := hB6.1; omega
  have h599 : (aD u).1 5 + 99 ≤ 2000000000 := by omega
  obtain ⟨fs9, hobj⟩ := hM.obj
  refine lv_aload_n hx hb dL_law_272 rfl (lv_at hl 2 rfl) ?_
  refine lv_aload_n hx hb dL_law_273 rfl (lv_at hl 3 rfl) ?_
  refine lv_iload_n hx hb dL_law_274 rfl (lv_at hl 0 rfl) ?_
  refine j_const hx hb dL_law_275 ?_
  refine j_iadd hx hb dL_law_276 ?_
  refine va_sld hx hb hX hbl hbA hS (iv_in ⟨by omega, by omega⟩ (by omega)) dL_law_277 ?_
  obtain ⟨w1, hw1⟩ : ∃ y : Int32, y = xs (iv (3 * (k : Int) + 1)).toNatClampNeg := ⟨_, rfl⟩
  obtain ⟨k1, hk1e, hr1⟩ : ∃ z : Int, w1 = iv z ∧ -2147483648 ≤ z ∧ z ≤ 2147483647 := ⟨_, (iv_of _).symm, iv_rng _⟩
  rw [← hw1]
  rw [hk1e]
  refine m_callVi (As := [.int (iv k1)]) (rest := []) ⟨hx, hb, hml, hown, hts⟩ hK hH hS (c_X8_fill l G ν n0 x (x + 201) u k1 hD hr1) (cwV 1 hts gL_law_X8_fill rfl rfl rfl (by decide +kernel) ⟨(Nat.le_of_ble_eq_true rfl), (Nat.le_of_ble_eq_true rfl)⟩) hD.1 rfl rfl rfl rfl hl.1 (Nat.le_of_ble_eq_true rfl) dL_law_278 ⟨by show 201 + 62 * k + 0 ≤ 600000; omega, by show 27000 + 248 * k + 0 ≤ 7302250; omega⟩ (fun z1 ν1 n1 H locs hz1 hp1 hH hS => ?_)
  obtain ⟨he1, hD1, hf1⟩ := hp1
  have hM1 : IsM G ν1 (x + 194) u en := hM.mn (fun q e a b h => hf1 q e (by omega) h)
  obtain ⟨fs8, hobj1⟩ := hM1.obj
  refine lv_aload_n hx hb dL_law_281 rfl (lv_at hl 1 rfl) ?_
  refine lv_aload_n hx hb dL_law_282 rfl (lv_at hl 3 rfl) ?_
  refine lv_iload_n hx hb dL_law_283 rfl (lv_at hl 0 rfl) ?_
  refine j_const hx hb dL_law_284 ?_
  refine j_iadd hx hb dL_law_285 ?_
  refine va_sld hx hb hX hbl hbA hS (iv_in ⟨by omega, by omega⟩ (by omega)) dL_law_286 ?_
  rw [← hw1]
  rw [hk1e]
  refine m_callVi (As := [.int (iv k1)]) (rest := [.int (iv z1)]) ⟨hx, hb, hml, hown, hts⟩ hK hH hS (t_X9_fill l G ν1 n1 (x + 194) u en k1 hM1 (by omega) hO hr1) (cwV 1 hts gL_law_X9_fill rfl rfl rfl (by decide +kernel) ⟨(Nat.le_of_ble_eq_true rfl), (Nat.le_of_ble_eq_true rfl)⟩) hobj1 rfl rfl rfl rfl hl.1 (Nat.le_of_ble_eq_true rfl) dL_law_287 ⟨by show 201 + 62 * k + 0 + 0 ≤ 600000; omega, by show 27000 + 248 * k + 0 + 0 ≤ 7302250; omega⟩ (fun z2 ν2 n2 H locs hz2 hp2 hH hS => ?_)
  obtain ⟨he2, hM2, hf2⟩ := hp2
  have e62 : 6200 * ((k + 1 : Nat) : Int) = 6200 * (k : Int) + 6200 := by omega
  have hb9 : B6 (a_fill u k1).1 (6200 * ((k + 1 : Nat) : Int)) := by rw [e62]; exact b6_fill hB6
  refine j_icmp_eq (tgt := 854) hx hb dL_law_290 (by decide) (fun _ => ?_) (fun h9 => absurd (he1.trans he2.symm) h9) hz1 hz2
  refine W.widen (k := 201 + 62 * (k + 1)) (n := 27000 + 248 * (k + 1)) (by omega) (by omega) ?_
  exact K H locs ν2 n2 ls hH hS hl ⟨(a_fill u k1).1, en, hD1.bk hf2 hM2, hM2, by omega, hb9⟩
set_option maxHeartbeats 4000000 in
set_option maxRecDepth 100000 in
theorem law_exchange (C : LwC p s m c b L xs G) (hL : L ≤ 1536) (hkL : 3 * k + 3 ≤ L) (hl : lv_has ls 8 (lvL x b k)) (hH : gP G ν n0 H) (hS : va_S (gA G) s.heap H locs) (hJ : LwJ G ν x k) (K : ∀ (H : Heap) (locs : List Loc) (ν : hM) (n0 : Nat) (ls : Array Slot), gP G ν n0 H → va_S (gA G) s.heap H locs → lv_has ls 8 (lvL x b k) → LwJ G ν x (k + 1) → W p l e room_1 s m #[Value.ref b] below meth c H locs (201 + 62 * (k + 1)) (27000 + 248 * (k + 1)) Q (F0 m 854 ls [])) : W p l e room_1 s m #[Value.ref b] below meth c H locs (201 + 62 * k) (27000 + 248 * k) Q (F0 m 295 ls []) := by
  obtain ⟨hx, hb, hml, hown, hts, hX, hbl, hK, hGb⟩ := C
  have hbA : ¬ gA G b := fun q => by have q1 : G.2.2.1 ≤ b := q; omega
  obtain ⟨u, en, hD, hM, hen, hB6⟩ := hJ
  have hO := hD.okD
  have hK3 := hD.okK.1.2.1
  have h5 : (aD u).1 5 + 6200 ≤ 2000000000 := by have := hB6.1; omega
  have h599 : (aD u).1 5 + 99 ≤ 2000000000 := by omega
  obtain ⟨fs9, hobj⟩ := hM.obj
  refine lv_aload_n hx hb dL_law_295 rfl (lv_at hl 2 rfl) ?_
  refine lv_aload_n hx hb dL_law_296 rfl (lv_at hl 3 rfl) ?_
  refine lv_iload_n hx hb dL_law_297 rfl (lv_at hl 0 rfl) ?_
  refine j_const hx hb dL_law_298 ?_
  refine j_iadd hx hb dL_law_299 ?_
  refine va_sld hx hb hX hbl hbA hS (iv_in ⟨by omega, by omega⟩ (by omega)) dL_law_300 ?_
  obtain ⟨w1, hw1⟩ : ∃ y : Int32, y = xs (iv (3 * (k : Int) + 1)).toNatClampNeg := ⟨_, rfl⟩
  obtain ⟨k1, hk1e, hr1⟩ : ∃ z : Int, w1 = iv z ∧ -2147483648 ≤ z ∧ z ≤ 2147483647 := ⟨_, (iv_of _).symm, iv_rng _⟩
  rw [← hw1]
  rw [hk1e]
  refine lv_aload_n hx hb dL_law_301 rfl (lv_at hl 3 rfl) ?_
  refine lv_iload_n hx hb dL_law_302 rfl (lv_at hl 0 rfl) ?_
  refine j_const hx hb dL_law_303 ?_
  refine j_iadd hx hb dL_law_304 ?_
  refine va_sld hx hb hX hbl hbA hS (iv_in ⟨by omega, by omega⟩ (by omega)) dL_law_305 ?_
  obtain ⟨w2, hw2⟩ : ∃ y : Int32, y = xs (iv (3 * (k : Int) + 2)).toNatClampNeg := ⟨_, rfl⟩
  obtain ⟨k2, hk2e, hr2⟩ : ∃ z : Int, w2 = iv z ∧ -2147483648 ≤ z ∧ z ≤ 2147483647 := ⟨_, (iv_of _).symm, iv_rng _⟩
  rw [← hw2]
  rw [hk2e]
  refine m_callVi (As := [.int (iv k1), .int (iv k2)]) (rest := []) ⟨hx, hb, hml, hown, hts⟩ hK hH hS (c_X8_exchange l G ν n0 x (x + 201) u k1 k2 hD hr1 hr2) (cwV 2 hts gL_law_X8_exchange rfl rfl rfl (by decide +kernel) ⟨(Nat.le_of_ble_eq_true rfl), (Nat.le_of_ble_eq_true rfl)⟩) hD.1 rfl rfl rfl rfl hl.1 (Nat.le_of_ble_eq_true rfl) dL_law_306 ⟨by show 201 + 62 * k + 0 ≤ 600000; omega, by show 27000 + 248 * k + 0 ≤ 7302250; omega⟩ (fun z1 ν1 n1 H locs hz1 hp1 hH hS => ?_)
  obtain ⟨he1, hD1, hf1⟩ := hp1
  have hM1 : IsM G ν1 (x + 194) u en := hM.mn (fun q e a b h => hf1 q e (by omega) h)
  obtain ⟨fs8, hobj1⟩ := hM1.obj
  refine lv_aload_n hx hb dL_law_309 rfl (lv_at hl 1 rfl) ?_
  refine lv_aload_n hx hb dL_law_310 rfl (lv_at hl 3 rfl) ?_
  refine lv_iload_n hx hb dL_law_311 rfl (lv_at hl 0 rfl) ?_
  refine j_const hx hb dL_law_312 ?_
  refine j_iadd hx hb dL_law_313 ?_
  refine va_sld hx hb hX hbl hbA hS (iv_in ⟨by omega, by omega⟩ (by omega)) dL_law_314 ?_
  rw [← hw1]
  rw [hk1e]
  refine lv_aload_n hx hb dL_law_315 rfl (lv_at hl 3 rfl) ?_
  refine lv_iload_n hx hb dL_law_316 rfl (lv_at hl 0 rfl) ?_
  refine j_const hx hb dL_law_317 ?_
  refine j_iadd hx hb dL_law_318 ?_
  refine va_sld hx hb hX hbl hbA hS (iv_in ⟨by omega, by omega⟩ (by omega)) dL_law_319 ?_
  rw [← hw2]
  rw [hk2e]
  refine m_callVi (As := [.int (iv k1), .int (iv k2)]) (rest := [.int (iv z1)]) ⟨hx, hb, hml, hown, hts⟩ hK hH hS (t_X9_exchange l G ν1 n1 (x + 194) u en k1 k2 hM1 (by omega) hO hr1 hr2) (cwV 2 hts gL_law_X9_exchange rfl rfl rfl (by decide +kernel) ⟨(Nat.le_of_ble_eq_true rfl), (Nat.le_of_ble_eq_true rfl)⟩) hobj1 rfl rfl rfl rfl hl.1 (Nat.le_of_ble_eq_true rfl) dL_law_320 ⟨by show 201 + 62 * k + 0 + 0 ≤ 600000; omega, by show 27000 + 248 * k + 0 + 0 ≤ 7302250; omega⟩ (fun z2 ν2 n2 H locs hz2 hp2 hH hS => ?_)
  obtain ⟨he2, hM2, hf2⟩ := hp2
  have e62 : 6200 * ((k + 1 : Nat) : Int) = 6200 * (k : Int) + 6200 := by omega
  have hb9 : B6 (a_exchange u k1 k2).1 (6200 * ((k + 1 : Nat) : Int)) := by rw [e62]; exact b6_exchange hB6
  refine j_icmp_eq (tgt := 854) hx hb dL_law_323 (by decide) (fun _ => ?_) (fun h9 => absurd (he1.trans he2.symm) h9) hz1 hz2
  refine W.widen (k := 201 + 62 * (k + 1)) (n := 27000 + 248 * (k + 1)) (by omega) (by omega) ?_
  exact K H locs ν2 n2 ls hH hS hl ⟨(a_exchange u k1 k2).1, en, hD1.bk hf2 hM2, hM2, by omega, hb9⟩
set_option maxHeartbeats 4000000 in
set_option maxRecDepth 100000 in
theorem law_tighten (C : LwC p s m c b L xs G) (hL : L ≤ 1536) (hkL : 3 * k + 3 ≤ L) (hl : lv_has ls 8 (lvL x b k)) (hH : gP G ν n0 H) (hS : va_S (gA G) s.heap H locs) (hJ : LwJ G ν x k) (K : ∀ (H : Heap) (locs : List Loc) (ν : hM) (n0 : Nat) (ls : Array Slot), gP G ν n0 H → va_S (gA G) s.heap H locs → lv_has ls 8 (lvL x b k) → LwJ G ν x (k + 1) → W p l e room_1 s m #[Value.ref b] below meth c H locs (201 + 62 * (k + 1)) (27000 + 248 * (k + 1)) Q (F0 m 854 ls [])) : W p l e room_1 s m #[Value.ref b] below meth c H locs (201 + 62 * k) (27000 + 248 * k) Q (F0 m 328 ls []) := by
  obtain ⟨hx, hb, hml, hown, hts, hX, hbl, hK, hGb⟩ := C
  have hbA : ¬ gA G b := fun q => by have q1 : G.2.2.1 ≤ b := q; omega
  obtain ⟨u, en, hD, hM, hen, hB6⟩ := hJ
  have hO := hD.okD
  have hK3 := hD.okK.1.2.1
  have h5 : (aD u).1 5 + 6200 ≤ 2000000000 := by have := hB6.1; omega
  have h599 : (aD u).1 5 + 99 ≤ 2000000000 := by omega
  obtain ⟨fs9, hobj⟩ := hM.obj
  refine lv_aload_n hx hb dL_law_328 rfl (lv_at hl 2 rfl) ?_
  refine lv_aload_n hx hb dL_law_329 rfl (lv_at hl 3 rfl) ?_
  refine lv_iload_n hx hb dL_law_330 rfl (lv_at hl 0 rfl) ?_
  refine j_const hx hb dL_law_331 ?_
  refine j_iadd hx hb dL_law_332 ?_
  refine va_sld hx hb hX hbl hbA hS (iv_in ⟨by omega, by omega⟩ (by omega)) dL_law_333 ?_
  obtain ⟨w1, hw1⟩ : ∃ y : Int32, y = xs (iv (3 * (k : Int) + 1)).toNatClampNeg := ⟨_, rfl⟩
  obtain ⟨k1, hk1e, hr1⟩ : ∃ z : Int, w1 = iv z ∧ -2147483648 ≤ z ∧ z ≤ 2147483647 := ⟨_, (iv_of _).symm, iv_rng _⟩
  rw [← hw1]
  rw [hk1e]
  refine m_callVi (As := [.int (iv k1)]) (rest := []) ⟨hx, hb, hml, hown, hts⟩ hK hH hS (c_X8_tighten l G ν n0 x (x + 201) u k1 hD hr1) (cwV 1 hts gL_law_X8_tighten rfl rfl rfl (by decide +kernel) ⟨(Nat.le_of_ble_eq_true rfl), (Nat.le_of_ble_eq_true rfl)⟩) hD.1 rfl rfl rfl rfl hl.1 (Nat.le_of_ble_eq_true rfl) dL_law_334 ⟨by show 201 + 62 * k + 0 ≤ 600000; omega, by show 27000 + 248 * k + 0 ≤ 7302250; omega⟩ (fun z1 ν1 n1 H locs hz1 hp1 hH hS => ?_)
  obtain ⟨he1, hD1, hf1⟩ := hp1
  have hM1 : IsM G ν1 (x + 194) u en := hM.mn (fun q e a b h => hf1 q e (by omega) h)
  obtain ⟨fs8, hobj1⟩ := hM1.obj
  refine lv_aload_n hx hb dL_law_337 rfl (lv_at hl 1 rfl) ?_
  refine lv_aload_n hx hb dL_law_338 rfl (lv_at hl 3 rfl) ?_
  refine lv_iload_n hx hb dL_law_339 rfl (lv_at hl 0 rfl) ?_
  refine j_const hx hb dL_law_340 ?_
  refine j_iadd hx hb dL_law_341 ?_
  refine va_sld hx hb hX hbl hbA hS (iv_in ⟨by omega, by omega⟩ (by omega)) dL_law_342 ?_
  rw [← hw1]
  rw [hk1e]
  refine m_callVi (As := [.int (iv k1)]) (rest := [.int (iv z1)]) ⟨hx, hb, hml, hown, hts⟩ hK hH hS (t_X9_tighten l G ν1 n1 (x + 194) u en k1 hM1 (by omega) hO hr1) (cwV 1 hts gL_law_X9_tighten rfl rfl rfl (by decide +kernel) ⟨(Nat.le_of_ble_eq_true rfl), (Nat.le_of_ble_eq_true rfl)⟩) hobj1 rfl rfl rfl rfl hl.1 (Nat.le_of_ble_eq_true rfl) dL_law_343 ⟨by show 201 + 62 * k + 0 + 0 ≤ 600000; omega, by show 27000 + 248 * k + 0 + 0 ≤ 7302250; omega⟩ (fun z2 ν2 n2 H locs hz2 hp2 hH hS => ?_)
  obtain ⟨he2, hM2, hf2⟩ := hp2
  have e62 : 6200 * ((k + 1 : Nat) : Int) = 6200 * (k : Int) + 6200 := by omega
  have hb9 : B6 (a_tighten u k1).1 (6200 * ((k + 1 : Nat) : Int)) := by rw [e62]; exact b6_tighten hB6
  refine j_icmp_eq (tgt := 854) hx hb dL_law_346 (by decide) (fun _ => ?_) (fun h9 => absurd (he1.trans he2.symm) h9) hz1 hz2
  refine W.widen (k := 201 + 62 * (k + 1)) (n := 27000 + 248 * (k + 1)) (by omega) (by omega) ?_
  exact K H locs ν2 n2 ls hH hS hl ⟨(a_tighten u k1).1, en, hD1.bk hf2 hM2, hM2, by omega, hb9⟩
set_option maxHeartbeats 4000000 in
set_option maxRecDepth 100000 in
theorem law_replace (C : LwC p s m c b L xs G) (hL : L ≤ 1536) (hkL : 3 * k + 3 ≤ L) (hl : lv_has ls 8 (lvL x b k)) (hH : gP G ν n0 H) (hS : va_S (gA G) s.heap H locs) (hJ : LwJ G ν x k) (K : ∀ (H : Heap) (locs : List Loc) (ν : hM) (n0 : Nat) (ls : Array Slot), gP G ν n0 H → va_S (gA G) s.heap H locs → lv_has ls 8 (lvL x b k) → LwJ G ν x (k + 1) → W p l e room_1 s m #[Value.ref b] below meth c H locs (201 + 62 * (k + 1)) (27000 + 248 * (k + 1)) Q (F0 m 854 ls [])) : W p l e room_1 s m #[Value.ref b] below meth c H locs (201 + 62 * k) (27000 + 248 * k) Q (F0 m 351 ls []) := by
  obtain ⟨hx, hb, hml, hown, hts, hX, hbl, hK, hGb⟩ := C
  have hbA : ¬ gA G b := fun q => by have q1 : G.2.2.1 ≤ b := q; omega
  obtain ⟨u, en, hD, hM, hen, hB6⟩ := hJ
  have hO := hD.okD
  have hK3 := hD.okK.1.2.1
  have h5 : (aD u).1 5 + 6200 ≤ 2000000000 := by have := hB6.1; omega
  have h599 : (aD u).1 5 + 99 ≤ 2000000000 := by omega
  obtain ⟨fs9, hobj⟩ := hM.obj
  refine lv_aload_n hx hb dL_law_351 rfl (lv_at hl 2 rfl) ?_
  refine lv_aload_n hx hb dL_law_352 rfl (lv_at hl 3 rfl) ?_
  refine lv_iload_n hx hb dL_law_353 rfl (lv_at hl 0 rfl) ?_
  refine j_const hx hb dL_law_354 ?_
  refine j_iadd hx hb dL_law_355 ?_
  refine va_sld hx hb hX hbl hbA hS (iv_in ⟨by omega, by omega⟩ (by omega)) dL_law_356 ?_
  obtain ⟨w1, hw1⟩ : ∃ y : Int32, y = xs (iv (3 * (k : Int) + 1)).toNatClampNeg := ⟨_, rfl⟩
  obtain ⟨k1, hk1e, hr1⟩ : ∃ z : Int, w1 = iv z ∧ -2147483648 ≤ z ∧ z ≤ 2147483647 := ⟨_, (iv_of _).symm, iv_rng _⟩
  rw [← hw1]
  rw [hk1e]
  refine m_callVi (As := [.int (iv k1)]) (rest := []) ⟨hx, hb, hml, hown, hts⟩ hK hH hS (c_X8_replace l G ν n0 x (x + 201) u k1 hD hr1) (cwV 1 hts gL_law_X8_replace rfl rfl rfl (by decide +kernel) ⟨(Nat.le_of_ble_eq_true rfl), (Nat.le_of_ble_eq_true rfl)⟩) hD.1 rfl rfl rfl rfl hl.1 (Nat.le_of_ble_eq_true rfl) dL_law_357 ⟨by show 201 + 62 * k + 0 ≤ 600000; omega, by show 27000 + 248 * k + 0 ≤ 7302250; omega⟩ (fun z1 ν1 n1 H locs hz1 hp1 hH hS => ?_)
  obtain ⟨he1, hD1, hf1⟩ := hp1
  have hM1 : IsM G ν1 (x + 194) u en := hM.mn (fun q e a b h => hf1 q e (by omega) h)
  obtain ⟨fs8, hobj1⟩ := hM1.obj
  refine lv_aload_n hx hb dL_law_360 rfl (lv_at hl 1 rfl) ?_
  refine lv_aload_n hx hb dL_law_361 rfl (lv_at hl 3 rfl) ?_
  refine lv_iload_n hx hb dL_law_362 rfl (lv_at hl 0 rfl) ?_
  refine j_const hx hb dL_law_363 ?_
  refine j_iadd hx hb dL_law_364 ?_
  refine va_sld hx hb hX hbl hbA hS (iv_in ⟨by omega, by omega⟩ (by omega)) dL_law_365 ?_
  rw [← hw1]
  rw [hk1e]
  refine m_callVi (As := [.int (iv k1)]) (rest := [.int (iv z1)]) ⟨hx, hb, hml, hown, hts⟩ hK hH hS (t_X9_replace l G ν1 n1 (x + 194) u en k1 hM1 (by omega) hO hr1) (cwV 1 hts gL_law_X9_replace rfl rfl rfl (by decide +kernel) ⟨(Nat.le_of_ble_eq_true rfl), (Nat.le_of_ble_eq_true rfl)⟩) hobj1 rfl rfl rfl rfl hl.1 (Nat.le_of_ble_eq_true rfl) dL_law_366 ⟨by show 201 + 62 * k + 0 + 0 ≤ 600000; omega, by show 27000 + 248 * k + 0 + 0 ≤ 7302250; omega⟩ (fun z2 ν2 n2 H locs hz2 hp2 hH hS => ?_)
  obtain ⟨he2, hM2, hf2⟩ := hp2
  have e62 : 6200 * ((k + 1 : Nat) : Int) = 6200 * (k : Int) + 6200 := by omega
  have hb9 : B6 (a_replace u k1).1 (6200 * ((k + 1 : Nat) : Int)) := by rw [e62]; exact b6_replace hB6
  refine j_icmp_eq (tgt := 854) hx hb dL_law_369 (by decide) (fun _ => ?_) (fun h9 => absurd (he1.trans he2.symm) h9) hz1 hz2
  refine W.widen (k := 201 + 62 * (k + 1)) (n := 27000 + 248 * (k + 1)) (by omega) (by omega) ?_
  exact K H locs ν2 n2 ls hH hS hl ⟨(a_replace u k1).1, en, hD1.bk hf2 hM2, hM2, by omega, hb9⟩
set_option maxHeartbeats 4000000 in
set_option maxRecDepth 100000 in
theorem law_set (C : LwC p s m c b L xs G) (hL : L ≤ 1536) (hkL : 3 * k + 3 ≤ L) (hl : lv_has ls 8 (lvL x b k)) (hH : gP G ν n0 H) (hS : va_S (gA G) s.heap H locs) (hJ : LwJ G ν x k) (K : ∀ (H : Heap) (locs : List Loc) (ν : hM) (n0 : Nat) (ls : Array Slot), gP G ν n0 H → va_S (gA G) s.heap H locs → lv_has ls 8 (lvL x b k) → LwJ G ν x (k + 1) → W p l e room_1 s m #[Value.ref b] below meth c H locs (201 + 62 * (k + 1)) (27000 + 248 * (k + 1)) Q (F0 m 854 ls [])) : W p l e room_1 s m #[Value.ref b] below meth c H locs (201 + 62 * k) (27000 + 248 * k) Q (F0 m 374 ls []) := by
  obtain ⟨hx, hb, hml, hown, hts, hX, hbl, hK, hGb⟩ := C
  have hbA : ¬ gA G b := fun q => by have q1 : G.2.2.1 ≤ b := q; omega
  obtain ⟨u, en, hD, hM, hen, hB6⟩ := hJ
  have hO := hD.okD
  have hK3 := hD.okK.1.2.1
  have h5 : (aD u).1 5 + 6200 ≤ 2000000000 := by have := hB6.1; omega
  have h599 : (aD u).1 5 + 99 ≤ 2000000000 := by omega
  obtain ⟨fs9, hobj⟩ := hM.obj
  refine lv_aload_n hx hb dL_law_374 rfl (lv_at hl 2 rfl) ?_
  refine lv_aload_n hx hb dL_law_375 rfl (lv_at hl 3 rfl) ?_
  refine lv_iload_n hx hb dL_law_376 rfl (lv_at hl 0 rfl) ?_
  refine j_const hx hb dL_law_377 ?_
  refine j_iadd hx hb dL_law_378 ?_
  refine va_sld hx hb hX hbl hbA hS (iv_in ⟨by omega, by omega⟩ (by omega)) dL_law_379 ?_
  obtain ⟨w1, hw1⟩ : ∃ y : Int32, y = xs (iv (3 * (k : Int) + 1)).toNatClampNeg := ⟨_, rfl⟩
  obtain ⟨k1, hk1e, hr1⟩ : ∃ z : Int, w1 = iv z ∧ -2147483648 ≤ z ∧ z ≤ 2147483647 := ⟨_, (iv_of _).symm, iv_rng _⟩
  rw [← hw1]
  rw [hk1e]
  refine lv_aload_n hx hb dL_law_380 rfl (lv_at hl 3 rfl) ?_
  refine lv_iload_n hx hb dL_law_381 rfl (lv_at hl 0 rfl) ?_
  refine j_const hx hb dL_law_382 ?_
  refine j_iadd hx hb dL_law_383 ?_
  refine va_sld hx hb hX hbl hbA hS (iv_in ⟨by omega, by omega⟩ (by omega)) dL_law_384 ?_
  obtain ⟨w2, hw2⟩ : ∃ y : Int32, y = xs (iv (3 * (k : Int) + 2)).toNatClampNeg := ⟨_, rfl⟩
  obtain ⟨k2, hk2e, hr2⟩ : ∃ z : Int, w2 = iv z ∧ -2147483648 ≤ z ∧ z ≤ 2147483647 := ⟨_, (iv_of _).symm, iv_rng _⟩
  rw [← hw2]
  rw [hk2e]
  refine m_callVi (As := [.int (iv k1), .int (iv k2)]) (rest := []) ⟨hx, hb, hml, hown, hts⟩ hK hH hS (c_X8_set l G ν n0 x (x + 201) u k1 k2 hD hr1 hr2) (cwV 2 hts gL_law_X8_set rfl rfl rfl (by decide +kernel) ⟨(Nat.le_of_ble_eq_true rfl), (Nat.le_of_ble_eq_true rfl)⟩) hD.1 rfl rfl rfl rfl hl.1 (Nat.le_of_ble_eq_true rfl) dL_law_385 ⟨by show 201 + 62 * k + 0 ≤ 600000; omega, by show 27000 + 248 * k + 0 ≤ 7302250; omega⟩ (fun z1 ν1 n1 H locs hz1 hp1 hH hS => ?_)
  obtain ⟨he1, hD1, hf1⟩ := hp1
  have hM1 : IsM G ν1 (x + 194) u en := hM.mn (fun q e a b h => hf1 q e (by omega) h)
  obtain ⟨fs8, hobj1⟩ := hM1.obj
  refine lv_aload_n hx hb dL_law_388 rfl (lv_at hl 1 rfl) ?_
  refine lv_aload_n hx hb dL_law_389 rfl (lv_at hl 3 rfl) ?_
  refine lv_iload_n hx hb dL_law_390 rfl (lv_at hl 0 rfl) ?_
  refine j_const hx hb dL_law_391 ?_
  refine j_iadd hx hb dL_law_392 ?_
  refine va_sld hx hb hX hbl hbA hS (iv_in ⟨by omega, by omega⟩ (by omega)) dL_law_393 ?_
  rw [← hw1]
  rw [hk1e]
  refine lv_aload_n hx hb dL_law_394 rfl (lv_at hl 3 rfl) ?_
  refine lv_iload_n hx hb dL_law_395 rfl (lv_at hl 0 rfl) ?_
  refine j_const hx hb dL_law_396 ?_
  refine j_iadd hx hb dL_law_397 ?_
  refine va_sld hx hb hX hbl hbA hS (iv_in ⟨by omega, by omega⟩ (by omega)) dL_law_398 ?_
  rw [← hw2]
  rw [hk2e]
  refine m_callVi (As := [.int (iv k1), .int (iv k2)]) (rest := [.int (iv z1)]) ⟨hx, hb, hml, hown, hts⟩ hK hH hS (t_X9_set l G ν1 n1 (x + 194) u en k1 k2 hM1 (by omega) hO hr1 hr2) (cwV 2 hts gL_law_X9_set rfl rfl rfl (by decide +kernel) ⟨(Nat.le_of_ble_eq_true rfl), (Nat.le_of_ble_eq_true rfl)⟩) hobj1 rfl rfl rfl rfl hl.1 (Nat.le_of_ble_eq_true rfl) dL_law_399 ⟨by show 201 + 62 * k + 0 + 0 ≤ 600000; omega, by show 27000 + 248 * k + 0 + 0 ≤ 7302250; omega⟩ (fun z2 ν2 n2 H locs hz2 hp2 hH hS => ?_)
  obtain ⟨he2, hM2, hf2⟩ := hp2
  have e62 : 6200 * ((k + 1 : Nat) : Int) = 6200 * (k : Int) + 6200 := by omega
  have hb9 : B6 (a_set u k1 k2).1 (6200 * ((k + 1 : Nat) : Int)) := by rw [e62]; exact b6_set hB6
  refine j_icmp_eq (tgt := 854) hx hb dL_law_402 (by decide) (fun _ => ?_) (fun h9 => absurd (he1.trans he2.symm) h9) hz1 hz2
  refine W.widen (k := 201 + 62 * (k + 1)) (n := 27000 + 248 * (k + 1)) (by omega) (by omega) ?_
  exact K H locs ν2 n2 ls hH hS hl ⟨(a_set u k1 k2).1, en, hD1.bk hf2 hM2, hM2, by omega, hb9⟩
set_option maxHeartbeats 4000000 in
set_option maxRecDepth 100000 in
theorem law_type (C : LwC p s m c b L xs G) (hL : L ≤ 1536) (hkL : 3 * k + 3 ≤ L) (hl : lv_has ls 8 (lvL x b k)) (hH : gP G ν n0 H) (hS : va_S (gA G) s.heap H locs) (hJ : LwJ G ν x k) (K : ∀ (H : Heap) (locs : List Loc) (ν : hM) (n0 : Nat) (ls : Array Slot), gP G ν n0 H → va_S (gA G) s.heap H locs → lv_has ls 8 (lvL x b k) → LwJ G ν x (k + 1) → W p l e room_1 s m #[Value.ref b] below meth c H locs (201 + 62 * (k + 1)) (27000 + 248 * (k + 1)) Q (F0 m 854 ls [])) : W p l e room_1 s m #[Value.ref b] below meth c H locs (201 + 62 * k) (27000 + 248 * k) Q (F0 m 407 ls []) := by
  obtain ⟨hx, hb, hml, hown, hts, hX, hbl, hK, hGb⟩ := C
  have hbA : ¬ gA G b := fun q => by have q1 : G.2.2.1 ≤ b := q; omega
  obtain ⟨u, en, hD, hM, hen, hB6⟩ := hJ
  have hO := hD.okD
  have hK3 := hD.okK.1.2.1
  have h5 : (aD u).1 5 + 6200 ≤ 2000000000 := by have := hB6.1; omega
  have h599 : (aD u).1 5 + 99 ≤ 2000000000 := by omega
  obtain ⟨fs9, hobj⟩ := hM.obj
  refine lv_aload_n hx hb dL_law_407 rfl (lv_at hl 2 rfl) ?_
  refine lv_aload_n hx hb dL_law_408 rfl (lv_at hl 3 rfl) ?_
  refine lv_iload_n hx hb dL_law_409 rfl (lv_at hl 0 rfl) ?_
  refine j_const hx hb dL_law_410 ?_
  refine j_iadd hx hb dL_law_411 ?_
  refine va_sld hx hb hX hbl hbA hS (iv_in ⟨by omega, by omega⟩ (by omega)) dL_law_412 ?_
  obtain ⟨w1, hw1⟩ : ∃ y : Int32, y = xs (iv (3 * (k : Int) + 1)).toNatClampNeg := ⟨_, rfl⟩
  obtain ⟨k1, hk1e, hr1⟩ := chr_of w1
  rw [← hw1]
  refine lv_i2c hx hb dL_law_413 hk1e ?_
  refine m_callVi (As := [.int (iv k1)]) (rest := []) ⟨hx, hb, hml, hown, hts⟩ hK hH hS (c_X8_type l G ν n0 x (x + 201) u k1 hD hr1) (cwV 1 hts gL_law_X8_type rfl rfl rfl (by decide +kernel) ⟨(Nat.le_of_ble_eq_true rfl), (Nat.le_of_ble_eq_true rfl)⟩) hD.1 rfl rfl rfl rfl hl.1 (Nat.le_of_ble_eq_true rfl) dL_law_414 ⟨by show 201 + 62 * k + 0 ≤ 600000; omega, by show 27000 + 248 * k + 0 ≤ 7302250; omega⟩ (fun z1 ν1 n1 H locs hz1 hp1 hH hS => ?_)
  obtain ⟨he1, hD1, hf1⟩ := hp1
  have hM1 : IsM G ν1 (x + 194) u en := hM.mn (fun q e a b h => hf1 q e (by omega) h)
  obtain ⟨fs8, hobj1⟩ := hM1.obj
  refine lv_aload_n hx hb dL_law_417 rfl (lv_at hl 1 rfl) ?_
  refine lv_aload_n hx hb dL_law_418 rfl (lv_at hl 3 rfl) ?_
  refine lv_iload_n hx hb dL_law_419 rfl (lv_at hl 0 rfl) ?_
  refine j_const hx hb dL_law_420 ?_
  refine j_iadd hx hb dL_law_421 ?_
  refine va_sld hx hb hX hbl hbA hS (iv_in ⟨by omega, by omega⟩ (by omega)) dL_law_422 ?_
  rw [← hw1]
  refine lv_i2c hx hb dL_law_423 hk1e ?_
  refine m_callVi (As := [.int (iv k1)]) (rest := [.int (iv z1)]) ⟨hx, hb, hml, hown, hts⟩ hK hH hS (t_X9_type l G ν1 n1 (x + 194) u en k1 hM1 (by omega) hO hr1) (cwV 1 hts gL_law_X9_type rfl rfl rfl (by decide +kernel) ⟨(Nat.le_of_ble_eq_true rfl), (Nat.le_of_ble_eq_true rfl)⟩) hobj1 rfl rfl rfl rfl hl.1 (Nat.le_of_ble_eq_true rfl) dL_law_424 ⟨by show 201 + 62 * k + 0 + 0 ≤ 600000; omega, by show 27000 + 248 * k + 0 + 0 ≤ 7302250; omega⟩ (fun z2 ν2 n2 H locs hz2 hp2 hH hS => ?_)
  obtain ⟨he2, hM2, hf2⟩ := hp2
  have e62 : 6200 * ((k + 1 : Nat) : Int) = 6200 * (k : Int) + 6200 := by omega
  have hb9 : B6 (a_type u k1).1 (6200 * ((k + 1 : Nat) : Int)) := by rw [e62]; exact b6_type hB6
  refine j_icmp_eq (tgt := 854) hx hb dL_law_427 (by decide) (fun _ => ?_) (fun h9 => absurd (he1.trans he2.symm) h9) hz1 hz2
  refine W.widen (k := 201 + 62 * (k + 1)) (n := 27000 + 248 * (k + 1)) (by omega) (by omega) ?_
  exact K H locs ν2 n2 ls hH hS hl ⟨(a_type u k1).1, en, hD1.bk hf2 hM2, hM2, by omega, hb9⟩
end LAWC
