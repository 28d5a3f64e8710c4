/-! the law -/
def LwJ (G : wG) (ν : hM) (x ec : Nat) : Prop := ∃ u : aS, IsD G ν x (x + 194) u ∧ UI u (60000 * (ec : Int))
def LwC (p : Program) (s : State) (m : MethodId) (c : Code) (args : Array Value) (b L : Nat) (xs : Nat → Int32) (G : wG) : Prop := p.tables.exec = Jvm.exec ∧ c.code = cL_law ∧ c.maxLocals = 5 ∧ s.vm.findClass RL = some m.cls ∧ (∀ w ∈ wsL_law, w.before args s = true) ∧ va_X b L xs s s.heap ∧ b < s.heap.size ∧ gK G s ∧ G.2.2.1 = s.heap.size
set_option maxHeartbeats 4000000 in
set_option maxRecDepth 100000 in
theorem law_loop {p : Program} {l : Launch} {e : Env} {s : State} {m : MethodId} {args : Array Value} {below : List Frame} {meth : Method} {c : Code} {b L : Nat} {xs : Nat → Int32} {G : wG} {x : Nat} {Q : State → Prop} (C : LwC p s m c args b L xs G) (hL : L ≤ 260) (K : ∀ (H : Heap) (locs : List Loc) (ls : Array Slot), va_S (gA G) s.heap H locs → W p l e room_1 s m args below meth c H locs (194 + 20 * 48) (1332 + 86 * 48) Q (F0 m 185 ls [])) : ∀ (f ec : Nat), ec ≤ 48 → 49 ≤ f + ec → ∀ (H : Heap) (locs : List Loc) (ν : hM) (n0 : Nat) (ls : Array Slot), gP G ν n0 H → va_S (gA G) s.heap H locs → lv_has ls 5 [(2, .int (iv (ec : Int))), (1, .ref x), (0, .ref b)] → LwJ G ν x ec → W p l e room_1 s m args below meth c H locs (194 + 20 * ec) (1332 + 86 * ec) Q (F0 m 10 ls []) := by
  intro f
  induction f with
  | zero => intro ec h1 h2; omega
  | succ f ih =>
    intro ec hec hf H locs ν n0 ls hH hS hl hJ
    obtain ⟨hx, hb, hml, hown, hts, hX, hbl, hK, hGb⟩ := id C
    have hbA : ¬ gA G b := fun q => by have q1 : G.2.2.1 ≤ b := q; omega
    obtain ⟨u, hD, hU⟩ := hJ
    refine lv_iload_n hx hb dL_law_10 rfl (lv_at hl 0 rfl) ?_
    refine j_bipush hx hb dL_law_11 ?_ (by decide)
    refine j_icmp_ge (tgt := 185) hx hb dL_law_13 (by decide) (fun hend => ?_) (fun hgo => ?_) (by omega) (by omega)
    · refine W.widen (k := 194 + 20 * 48) (n := 1332 + 86 * 48) (by omega) (by omega) ?_
      exact K H locs ls hS
    · skip
      refine lv_aload_n hx hb dL_law_16 rfl (lv_at hl 2 rfl) ?_
      refine lv_iload_n hx hb dL_law_17 rfl (lv_at hl 0 rfl) ?_
      refine m_callSc (rest := []) ⟨hx, hb, hml, hown, hts⟩ hK hX hbl hbA hH hS (c_L_cell l G ν n0 b L xs (ec : Int) (by omega) hL hbA) (va_cwS 2 hts gL_law_L_cell rfl rfl rfl (by decide +kernel) ⟨(Nat.le_of_ble_eq_true rfl), (Nat.le_of_ble_eq_true rfl)⟩) rfl hl.1 (Nat.le_of_ble_eq_true rfl) dL_law_18 ⟨(by show _ ≤ 911287; omega), (by show _ ≤ 6368388; omega)⟩ (fun vc μ9 n9 H locs hvc hp9 hH hS => ?_)
      rw [hp9.1, hp9.2] at hH
      clear hp9
      refine lv_istore_n (lv' := [(3, .int (iv vc)), (2, .int (iv (ec : Int))), (1, .ref x), (0, .ref b)]) hx hb dL_law_21 rfl hl (by decide) rfl (fun ls hl => ?_)
      refine lv_aload_n hx hb dL_law_22 rfl (lv_at hl 2 rfl) ?_
      refine lv_iload_n hx hb dL_law_23 rfl (lv_at hl 0 rfl) ?_
      refine m_callSi (As := [.ref x, .int (iv vc)]) (rest := []) ⟨hx, hb, hml, hown, hts⟩ hK hH hS (c_L_does l G ν n0 x (x + 194) u (60000 * (ec : Int)) vc hD hU (by omega) (by omega)) (va_cwS 2 hts gL_law_L_does rfl rfl rfl (by decide +kernel) ⟨(Nat.le_of_ble_eq_true rfl), (Nat.le_of_ble_eq_true rfl)⟩) rfl rfl hl.1 (Nat.le_of_ble_eq_true rfl) dL_law_24 ⟨(by show _ ≤ 911287; omega), (by show _ ≤ 6368388; omega)⟩ (fun z4 μ1 n2 H locs hz4 hp3 hH hS => ?_)
      obtain ⟨hz2, u5, hD, hU⟩ := hp3
      refine lv_istore (lv' := [(4, .int (iv z4)), (3, .int (iv vc)), (2, .int (iv (ec : Int))), (1, .ref x), (0, .ref b)]) hx hb dL_law_27 hl (by decide) rfl (fun ls hl => ?_)
      refine lv_iload hx hb dL_law_29 (lv_at hl 0 rfl) ?_
      refine j_if_lt (tgt := 177) hx hb dL_law_31 (by decide) (fun c6 => absurd c6 (by omega)) (fun c6 => ?_) (by omega)
      refine lv_aload_n hx hb dL_law_34 rfl (lv_at hl 3 rfl) ?_
      refine m_callSi (As := [.ref x]) (rest := []) ⟨hx, hb, hml, hown, hts⟩ hK hH hS (c_L_areBandsSo l G μ1 n2 x (x + 194) u5 ((60000 * (ec : Int)) + 1000)  hD hU (by omega)) (va_cwS 1 hts gL_law_L_areBandsSo rfl rfl rfl (by decide +kernel) ⟨(Nat.le_of_ble_eq_true rfl), (Nat.le_of_ble_eq_true rfl)⟩) rfl rfl hl.1 (Nat.le_of_ble_eq_true rfl) dL_law_35 ⟨(by show _ ≤ 911287; omega), (by show _ ≤ 6368388; omega)⟩ (fun z10 μ7 n8 H locs hz10 hp9 hH hS => ?_)
      obtain ⟨hz2, hm2, hn2⟩ := hp9
      rw [hm2, hn2] at hH
      clear hm2 hn2
      rw [hz2]
      clear hz2
      refine j_if_eq (tgt := 177) hx hb dL_law_38 (by decide) (fun c11 => absurd c11 (by omega)) (fun c11 => ?_) (by omega)
      refine lv_aload_n hx hb dL_law_41 rfl (lv_at hl 3 rfl) ?_
      refine lv_iload_n hx hb dL_law_42 rfl (lv_at hl 1 rfl) ?_
      refine j_const hx hb dL_law_43 ?_
      refine lv_ishr hx hb dL_law_44 ?_
      obtain ⟨y12, hy12, hry12⟩ : ∃ z : Int, iv vc >>> (iv 2 &&& 31) = iv z ∧ -2147483648 ≤ z ∧ z ≤ 2147483647 := ⟨_, (iv_of _).symm, iv_rng _⟩
      rw [hy12]
      clear hy12
      refine j_ldc hx hb (36525) hown (hts (.constant RL 20 (36525)) (lawm_0 _ (List.mem_of_getElem? (i := 3) rfl))) dL_law_45 ?_ (by decide)
      refine m_callSi (As := [.int (iv y12), .int (iv 36525)]) (rest := [.ref x]) ⟨hx, hb, hml, hown, hts⟩ hK hH hS (c_L_low l G μ1 n2 y12 36525 (by omega) (by omega)) (va_cwS 2 hts gL_law_L_low rfl rfl rfl (by decide +kernel) ⟨(Nat.le_of_ble_eq_true rfl), (Nat.le_of_ble_eq_true rfl)⟩) rfl rfl hl.1 (Nat.le_of_ble_eq_true rfl) dL_law_47 ⟨(by show _ ≤ 911287; omega), (by show _ ≤ 6368388; omega)⟩ (fun z16 μ13 n14 H locs hz16 hp15 hH hS => ?_)
      obtain ⟨hqz16, hm2, hn2⟩ := hp15
      rw [hm2, hn2] at hH
      clear hm2 hn2
      refine m_callSi (As := [.ref x, .int (iv z16)]) (rest := []) ⟨hx, hb, hml, hown, hts⟩ hK hH hS (c_L_isDateSo l G μ1 n2 x (x + 194) u5 ((60000 * (ec : Int)) + 1000) z16 hD hU (by omega) (by omega)) (va_cwS 2 hts gL_law_L_isDateSo rfl rfl rfl (by decide +kernel) ⟨(Nat.le_of_ble_eq_true rfl), (Nat.le_of_ble_eq_true rfl)⟩) rfl rfl hl.1 (Nat.le_of_ble_eq_true rfl) dL_law_50 ⟨(by show _ ≤ 911287; omega), (by show _ ≤ 6368388; omega)⟩ (fun z20 μ17 n18 H locs hz20 hp19 hH hS => ?_)
      obtain ⟨hz2, hm2, hn2⟩ := hp19
      rw [hm2, hn2] at hH
      clear hm2 hn2
      rw [hz2]
      clear hz2
      refine j_if_eq (tgt := 177) hx hb dL_law_53 (by decide) (fun c21 => absurd c21 (by omega)) (fun c21 => ?_) (by omega)
      refine lv_aload_n hx hb dL_law_56 rfl (lv_at hl 3 rfl) ?_
      refine lv_iload_n hx hb dL_law_57 rfl (lv_at hl 1 rfl) ?_
      refine j_const hx hb dL_law_58 ?_
      refine lv_ishr hx hb dL_law_59 ?_
      obtain ⟨y22, hy22, hry22⟩ : ∃ z : Int, iv vc >>> (iv 1 &&& 31) = iv z ∧ -2147483648 ≤ z ∧ z ≤ 2147483647 := ⟨_, (iv_of _).symm, iv_rng _⟩
      rw [hy22]
      clear hy22
      refine j_ldc hx hb (36525) hown (hts (.constant RL 20 (36525)) (lawm_0 _ (List.mem_of_getElem? (i := 3) rfl))) dL_law_60 ?_ (by decide)
      refine m_callSi (As := [.int (iv y22), .int (iv 36525)]) (rest := [.ref x]) ⟨hx, hb, hml, hown, hts⟩ hK hH hS (c_L_low l G μ1 n2 y22 36525 (by omega) (by omega)) (va_cwS 2 hts gL_law_L_low rfl rfl rfl (by decide +kernel) ⟨(Nat.le_of_ble_eq_true rfl), (Nat.le_of_ble_eq_true rfl)⟩) rfl rfl hl.1 (Nat.le_of_ble_eq_true rfl) dL_law_62 ⟨(by show _ ≤ 911287; omega), (by show _ ≤ 6368388; omega)⟩ (fun z26 μ23 n24 H locs hz26 hp25 hH hS => ?_)
      obtain ⟨hqz26, hm2, hn2⟩ := hp25
      rw [hm2, hn2] at hH
      clear hm2 hn2
      refine m_callSi (As := [.ref x, .int (iv z26)]) (rest := []) ⟨hx, hb, hml, hown, hts⟩ hK hH hS (c_L_isAdjustSo l G μ1 n2 x (x + 194) u5 ((60000 * (ec : Int)) + 1000) z26 hD hU (by omega) (by omega)) (va_cwS 2 hts gL_law_L_isAdjustSo rfl rfl rfl (by decide +kernel) ⟨(Nat.le_of_ble_eq_true rfl), (Nat.le_of_ble_eq_true rfl)⟩) rfl rfl hl.1 (Nat.le_of_ble_eq_true rfl) dL_law_65 ⟨(by show _ ≤ 911287; omega), (by show _ ≤ 6368388; omega)⟩ (fun z30 μ27 n28 H locs hz30 hp29 hH hS => ?_)
      obtain ⟨hz2, u31, hD, hU⟩ := hp29
      rw [hz2]
      clear hz2
      refine j_if_eq (tgt := 177) hx hb dL_law_68 (by decide) (fun c32 => absurd c32 (by omega)) (fun c32 => ?_) (by omega)
      refine lv_aload_n hx hb dL_law_71 rfl (lv_at hl 3 rfl) ?_
      refine j_const hx hb dL_law_72 ?_
      refine lv_iload_n hx hb dL_law_73 rfl (lv_at hl 1 rfl) ?_
      refine j_const hx hb dL_law_74 ?_
      refine lv_ishr hx hb dL_law_75 ?_
      obtain ⟨y33, hy33, hry33⟩ : ∃ z : Int, iv vc >>> (iv 5 &&& 31) = iv z ∧ -2147483648 ≤ z ∧ z ≤ 2147483647 := ⟨_, (iv_of _).symm, iv_rng _⟩
      rw [hy33]
      clear hy33
      refine j_bipush hx hb dL_law_76 ?_ (by decide)
      refine m_callSi (As := [.int (iv y33), .int (iv 9)]) (rest := [.int (iv 1), .ref x]) ⟨hx, hb, hml, hown, hts⟩ hK hH hS (c_L_low l G μ27 n28 y33 9 (by omega) (by omega)) (va_cwS 2 hts gL_law_L_low rfl rfl rfl (by decide +kernel) ⟨(Nat.le_of_ble_eq_true rfl), (Nat.le_of_ble_eq_true rfl)⟩) rfl rfl hl.1 (Nat.le_of_ble_eq_true rfl) dL_law_78 ⟨(by show _ ≤ 911287; omega), (by show _ ≤ 6368388; omega)⟩ (fun z37 μ34 n35 H locs hz37 hp36 hH hS => ?_)
      obtain ⟨hqz37, hm2, hn2⟩ := hp36
      rw [hm2, hn2] at hH
      clear hm2 hn2
      refine j_iadd hx hb dL_law_81 ?_
      refine m_callSi (As := [.ref x, .int (iv (1 + z37))]) (rest := []) ⟨hx, hb, hml, hown, hts⟩ hK hH hS (c_L_isPrintSo l G μ27 n28 x (x + 194) u31 (((60000 * (ec : Int)) + 1000) + 1000) (1 + z37) hD hU (by omega) (by omega)) (va_cwS 2 hts gL_law_L_isPrintSo rfl rfl rfl (by decide +kernel) ⟨(Nat.le_of_ble_eq_true rfl), (Nat.le_of_ble_eq_true rfl)⟩) rfl rfl hl.1 (Nat.le_of_ble_eq_true rfl) dL_law_82 ⟨(by show _ ≤ 911287; omega), (by show _ ≤ 6368388; omega)⟩ (fun z41 μ38 n39 H locs hz41 hp40 hH hS => ?_)
      obtain ⟨hz2, u42, hD, hU⟩ := hp40
      rw [hz2]
      clear hz2
      refine j_if_eq (tgt := 177) hx hb dL_law_85 (by decide) (fun c43 => absurd c43 (by omega)) (fun c43 => ?_) (by omega)
      refine lv_iload_n hx hb dL_law_88 rfl (lv_at hl 2 rfl) ?_
      refine j_bipush hx hb dL_law_89 ?_ (by decide)
      refine j_irem hx hb dL_law_91 ?_ (by omega) (by omega)
      refine j_const hx hb dL_law_92 ?_
      refine j_icmp_ne (tgt := 103) hx hb dL_law_93 (by decide) (fun c44 => ?_) (fun c44 => ?_) (by omega) (by omega)
      · skip
        refine lv_iload_n hx hb dL_law_103 rfl (lv_at hl 2 rfl) ?_
        refine j_bipush hx hb dL_law_104 ?_ (by decide)
        refine j_irem hx hb dL_law_106 ?_ (by omega) (by omega)
        refine j_const hx hb dL_law_107 ?_
        refine j_icmp_ne (tgt := 138) hx hb dL_law_108 (by decide) (fun c45 => ?_) (fun c45 => ?_) (by omega) (by omega)
        · skip
          refine lv_iload_n hx hb dL_law_138 rfl (lv_at hl 2 rfl) ?_
          refine j_bipush hx hb dL_law_139 ?_ (by decide)
          refine j_irem hx hb dL_law_141 ?_ (by omega) (by omega)
          refine j_bipush hx hb dL_law_142 ?_ (by decide)
          refine j_icmp_ne (tgt := 179) hx hb dL_law_144 (by decide) (fun c46 => ?_) (fun c46 => ?_) (by omega) (by omega)
          · skip
            refine j_iinc (lv' := [(2, .int (iv ((ec : Int) + 1))), (4, .int (iv z4)), (3, .int (iv vc)), (1, .ref x), (0, .ref b)]) hx hb dL_law_179 hl (k := 2) rfl (by decide) rfl (fun ls hl => ?_)
            refine lv_goto (tgt := 10) hx hb dL_law_182 (by decide) ?_
            rw [show (ec : Int) + 1 = ((ec + 1 : Nat) : Int) by omega] at hl
            refine W.widen (k := 194 + 20 * (ec + 1)) (n := 1332 + 86 * (ec + 1)) (by omega) (by omega) ?_
            exact ih (ec + 1) (by omega) (by omega) H locs μ38 n39 ls hH hS (lv_sub hl [0, 3, 4] rfl) ⟨u42, hD, hU.mono (by omega)⟩
          · skip
            refine lv_aload_n hx hb dL_law_147 rfl (lv_at hl 3 rfl) ?_
            refine j_const hx hb dL_law_148 ?_
            refine lv_iload_n hx hb dL_law_149 rfl (lv_at hl 1 rfl) ?_
            refine j_bipush hx hb dL_law_150 ?_ (by decide)
            refine lv_ishr hx hb dL_law_152 ?_
            obtain ⟨y47, hy47, hry47⟩ : ∃ z : Int, iv vc >>> (iv 6 &&& 31) = iv z ∧ -2147483648 ≤ z ∧ z ≤ 2147483647 := ⟨_, (iv_of _).symm, iv_rng _⟩
            rw [hy47]
            clear hy47
            refine j_bipush hx hb dL_law_153 ?_ (by decide)
            refine m_callSi (As := [.int (iv y47), .int (iv 9)]) (rest := [.int (iv 1), .ref x]) ⟨hx, hb, hml, hown, hts⟩ hK hH hS (c_L_low l G μ38 n39 y47 9 (by omega) (by omega)) (va_cwS 2 hts gL_law_L_low rfl rfl rfl (by decide +kernel) ⟨(Nat.le_of_ble_eq_true rfl), (Nat.le_of_ble_eq_true rfl)⟩) rfl rfl hl.1 (Nat.le_of_ble_eq_true rfl) dL_law_155 ⟨(by show _ ≤ 911287; omega), (by show _ ≤ 6368388; omega)⟩ (fun z51 μ48 n49 H locs hz51 hp50 hH hS => ?_)
            obtain ⟨hqz51, hm2, hn2⟩ := hp50
            rw [hm2, hn2] at hH
            clear hm2 hn2
            refine j_iadd hx hb dL_law_158 ?_
            refine j_const hx hb dL_law_159 ?_
            refine lv_iload_n hx hb dL_law_160 rfl (lv_at hl 1 rfl) ?_
            refine j_const hx hb dL_law_161 ?_
            refine lv_ishr hx hb dL_law_162 ?_
            obtain ⟨y52, hy52, hry52⟩ : ∃ z : Int, iv vc >>> (iv 3 &&& 31) = iv z ∧ -2147483648 ≤ z ∧ z ≤ 2147483647 := ⟨_, (iv_of _).symm, iv_rng _⟩
            rw [hy52]
            clear hy52
            refine j_const hx hb dL_law_163 ?_
            refine m_callSi (As := [.int (iv y52), .int (iv 3)]) (rest := [.int (iv 1), .int (iv (1 + z51)), .ref x]) ⟨hx, hb, hml, hown, hts⟩ hK hH hS (c_L_low l G μ38 n39 y52 3 (by omega) (by omega)) (va_cwS 2 hts gL_law_L_low rfl rfl rfl (by decide +kernel) ⟨(Nat.le_of_ble_eq_true rfl), (Nat.le_of_ble_eq_true rfl)⟩) rfl rfl hl.1 (Nat.le_of_ble_eq_true rfl) dL_law_164 ⟨(by show _ ≤ 911287; omega), (by show _ ≤ 6368388; omega)⟩ (fun z56 μ53 n54 H locs hz56 hp55 hH hS => ?_)
            obtain ⟨hqz56, hm2, hn2⟩ := hp55
            rw [hm2, hn2] at hH
            clear hm2 hn2
            refine j_iadd hx hb dL_law_167 ?_
            refine lv_iload_n hx hb dL_law_168 rfl (lv_at hl 1 rfl) ?_
            refine j_const hx hb dL_law_169 ?_
            refine lv_ishr hx hb dL_law_170 ?_
            obtain ⟨y57, hy57, hry57⟩ : ∃ z : Int, iv vc >>> (iv 5 &&& 31) = iv z ∧ -2147483648 ≤ z ∧ z ≤ 2147483647 := ⟨_, (iv_of _).symm, iv_rng _⟩
            rw [hy57]
            clear hy57
            refine m_callSi (As := [.ref x, .int (iv (1 + z51)), .int (iv (1 + z56)), .int (iv y57)]) (rest := []) ⟨hx, hb, hml, hown, hts⟩ hK hH hS (c_L_isExchangeSo l G μ38 n39 x (x + 194) u42 ((((60000 * (ec : Int)) + 1000) + 1000) + 1000) (1 + z51) (1 + z56) y57 hD hU (by omega) (by omega) (by omega) (by omega)) (va_cwS 4 hts gL_law_L_isExchangeSo rfl rfl rfl (by decide +kernel) ⟨(Nat.le_of_ble_eq_true rfl), (Nat.le_of_ble_eq_true rfl)⟩) rfl rfl hl.1 (Nat.le_of_ble_eq_true rfl) dL_law_171 ⟨(by show _ ≤ 911287; omega), (by show _ ≤ 6368388; omega)⟩ (fun z61 μ58 n59 H locs hz61 hp60 hH hS => ?_)
            obtain ⟨hz2, u62, hD, hU⟩ := hp60
            rw [hz2]
            clear hz2
            refine j_if_ne (tgt := 179) hx hb dL_law_174 (by decide) (fun c63 => ?_) (fun c63 => absurd c63 (by omega)) (by omega)
            refine j_iinc (lv' := [(2, .int (iv ((ec : Int) + 1))), (4, .int (iv z4)), (3, .int (iv vc)), (1, .ref x), (0, .ref b)]) hx hb dL_law_179 hl (k := 2) rfl (by decide) rfl (fun ls hl => ?_)
            refine lv_goto (tgt := 10) hx hb dL_law_182 (by decide) ?_
            rw [show (ec : Int) + 1 = ((ec + 1 : Nat) : Int) by omega] at hl
            refine W.widen (k := 194 + 20 * (ec + 1)) (n := 1332 + 86 * (ec + 1)) (by omega) (by omega) ?_
            exact ih (ec + 1) (by omega) (by omega) H locs μ58 n59 ls hH hS (lv_sub hl [0, 3, 4] rfl) ⟨u62, hD, hU.mono (by omega)⟩
        · skip
          refine lv_aload_n hx hb dL_law_111 rfl (lv_at hl 3 rfl) ?_
          refine j_const hx hb dL_law_112 ?_
          refine lv_iload_n hx hb dL_law_113 rfl (lv_at hl 1 rfl) ?_
          refine j_const hx hb dL_law_114 ?_
          refine lv_ishr hx hb dL_law_115 ?_
          obtain ⟨y64, hy64, hry64⟩ : ∃ z : Int, iv vc >>> (iv 4 &&& 31) = iv z ∧ -2147483648 ≤ z ∧ z ≤ 2147483647 := ⟨_, (iv_of _).symm, iv_rng _⟩
          rw [hy64]
          clear hy64
          refine j_bipush hx hb dL_law_116 ?_ (by decide)
          refine m_callSi (As := [.int (iv y64), .int (iv 9)]) (rest := [.int (iv 1), .ref x]) ⟨hx, hb, hml, hown, hts⟩ hK hH hS (c_L_low l G μ38 n39 y64 9 (by omega) (by omega)) (va_cwS 2 hts gL_law_L_low rfl rfl rfl (by decide +kernel) ⟨(Nat.le_of_ble_eq_true rfl), (Nat.le_of_ble_eq_true rfl)⟩) rfl rfl hl.1 (Nat.le_of_ble_eq_true rfl) dL_law_118 ⟨(by show _ ≤ 911287; omega), (by show _ ≤ 6368388; omega)⟩ (fun z68 μ65 n66 H locs hz68 hp67 hH hS => ?_)
          obtain ⟨hqz68, hm2, hn2⟩ := hp67
          rw [hm2, hn2] at hH
          clear hm2 hn2
          refine j_iadd hx hb dL_law_121 ?_
          refine j_const hx hb dL_law_122 ?_
          refine lv_iload_n hx hb dL_law_123 rfl (lv_at hl 1 rfl) ?_
          refine j_bipush hx hb dL_law_124 ?_ (by decide)
          refine lv_ishr hx hb dL_law_126 ?_
          obtain ⟨y69, hy69, hry69⟩ : ∃ z : Int, iv vc >>> (iv 7 &&& 31) = iv z ∧ -2147483648 ≤ z ∧ z ≤ 2147483647 := ⟨_, (iv_of _).symm, iv_rng _⟩
          rw [hy69]
          clear hy69
          refine j_const hx hb dL_law_127 ?_
          refine m_callSi (As := [.int (iv y69), .int (iv 4)]) (rest := [.int (iv 1), .int (iv (1 + z68)), .ref x]) ⟨hx, hb, hml, hown, hts⟩ hK hH hS (c_L_low l G μ38 n39 y69 4 (by omega) (by omega)) (va_cwS 2 hts gL_law_L_low rfl rfl rfl (by decide +kernel) ⟨(Nat.le_of_ble_eq_true rfl), (Nat.le_of_ble_eq_true rfl)⟩) rfl rfl hl.1 (Nat.le_of_ble_eq_true rfl) dL_law_128 ⟨(by show _ ≤ 911287; omega), (by show _ ≤ 6368388; omega)⟩ (fun z73 μ70 n71 H locs hz73 hp72 hH hS => ?_)
          obtain ⟨hqz73, hm2, hn2⟩ := hp72
          rw [hm2, hn2] at hH
          clear hm2 hn2
          refine j_iadd hx hb dL_law_131 ?_
          refine m_callSi (As := [.ref x, .int (iv (1 + z68)), .int (iv (1 + z73))]) (rest := []) ⟨hx, hb, hml, hown, hts⟩ hK hH hS (c_L_lastsSo l G μ38 n39 x (x + 194) u42 ((((60000 * (ec : Int)) + 1000) + 1000) + 1000) (1 + z68) (1 + z73) hD hU (by omega) (by omega) (by omega)) (va_cwS 3 hts gL_law_L_lastsSo rfl rfl rfl (by decide +kernel) ⟨(Nat.le_of_ble_eq_true rfl), (Nat.le_of_ble_eq_true rfl)⟩) rfl rfl hl.1 (Nat.le_of_ble_eq_true rfl) dL_law_132 ⟨(by show _ ≤ 911287; omega), (by show _ ≤ 6368388; omega)⟩ (fun z77 μ74 n75 H locs hz77 hp76 hH hS => ?_)
          obtain ⟨hz2, u78, hD, hU⟩ := hp76
          rw [hz2]
          clear hz2
          refine j_if_eq (tgt := 177) hx hb dL_law_135 (by decide) (fun c79 => absurd c79 (by omega)) (fun c79 => ?_) (by omega)
          refine lv_iload_n hx hb dL_law_138 rfl (lv_at hl 2 rfl) ?_
          refine j_bipush hx hb dL_law_139 ?_ (by decide)
          refine j_irem hx hb dL_law_141 ?_ (by omega) (by omega)
          refine j_bipush hx hb dL_law_142 ?_ (by decide)
          refine j_icmp_ne (tgt := 179) hx hb dL_law_144 (by decide) (fun c80 => ?_) (fun c80 => ?_) (by omega) (by omega)
          · skip
            refine j_iinc (lv' := [(2, .int (iv ((ec : Int) + 1))), (4, .int (iv z4)), (3, .int (iv vc)), (1, .ref x), (0, .ref b)]) hx hb dL_law_179 hl (k := 2) rfl (by decide) rfl (fun ls hl => ?_)
            refine lv_goto (tgt := 10) hx hb dL_law_182 (by decide) ?_
            rw [show (ec : Int) + 1 = ((ec + 1 : Nat) : Int) by omega] at hl
            refine W.widen (k := 194 + 20 * (ec + 1)) (n := 1332 + 86 * (ec + 1)) (by omega) (by omega) ?_
            exact ih (ec + 1) (by omega) (by omega) H locs μ74 n75 ls hH hS (lv_sub hl [0, 3, 4] rfl) ⟨u78, hD, hU.mono (by omega)⟩
          · skip
            refine lv_aload_n hx hb dL_law_147 rfl (lv_at hl 3 rfl) ?_
            refine j_const hx hb dL_law_148 ?_
            refine lv_iload_n hx hb dL_law_149 rfl (lv_at hl 1 rfl) ?_
            refine j_bipush hx hb dL_law_150 ?_ (by decide)
            refine lv_ishr hx hb dL_law_152 ?_
            obtain ⟨y81, hy81, hry81⟩ : ∃ z : Int, iv vc >>> (iv 6 &&& 31) = iv z ∧ -2147483648 ≤ z ∧ z ≤ 2147483647 := ⟨_, (iv_of _).symm, iv_rng _⟩
            rw [hy81]
            clear hy81
            refine j_bipush hx hb dL_law_153 ?_ (by decide)
            refine m_callSi (As := [.int (iv y81), .int (iv 9)]) (rest := [.int (iv 1), .ref x]) ⟨hx, hb, hml, hown, hts⟩ hK hH hS (c_L_low l G μ74 n75 y81 9 (by omega) (by omega)) (va_cwS 2 hts gL_law_L_low rfl rfl rfl (by decide +kernel) ⟨(Nat.le_of_ble_eq_true rfl), (Nat.le_of_ble_eq_true rfl)⟩) rfl rfl hl.1 (Nat.le_of_ble_eq_true rfl) dL_law_155 ⟨(by show _ ≤ 911287; omega), (by show _ ≤ 6368388; omega)⟩ (fun z85 μ82 n83 H locs hz85 hp84 hH hS => ?_)
            obtain ⟨hqz85, hm2, hn2⟩ := hp84
            rw [hm2, hn2] at hH
            clear hm2 hn2
            refine j_iadd hx hb dL_law_158 ?_
            refine j_const hx hb dL_law_159 ?_
            refine lv_iload_n hx hb dL_law_160 rfl (lv_at hl 1 rfl) ?_
            refine j_const hx hb dL_law_161 ?_
            refine lv_ishr hx hb dL_law_162 ?_
            obtain ⟨y86, hy86, hry86⟩ : ∃ z : Int, iv vc >>> (iv 3 &&& 31) = iv z ∧ -2147483648 ≤ z ∧ z ≤ 2147483647 := ⟨_, (iv_of _).symm, iv_rng _⟩
            rw [hy86]
            clear hy86
            refine j_const hx hb dL_law_163 ?_
            refine m_callSi (As := [.int (iv y86), .int (iv 3)]) (rest := [.int (iv 1), .int (iv (1 + z85)), .ref x]) ⟨hx, hb, hml, hown, hts⟩ hK hH hS (c_L_low l G μ74 n75 y86 3 (by omega) (by omega)) (va_cwS 2 hts gL_law_L_low rfl rfl rfl (by decide +kernel) ⟨(Nat.le_of_ble_eq_true rfl), (Nat.le_of_ble_eq_true rfl)⟩) rfl rfl hl.1 (Nat.le_of_ble_eq_true rfl) dL_law_164 ⟨(by show _ ≤ 911287; omega), (by show _ ≤ 6368388; omega)⟩ (fun z90 μ87 n88 H locs hz90 hp89 hH hS => ?_)
            obtain ⟨hqz90, hm2, hn2⟩ := hp89
            rw [hm2, hn2] at hH
            clear hm2 hn2
            refine j_iadd hx hb dL_law_167 ?_
            refine lv_iload_n hx hb dL_law_168 rfl (lv_at hl 1 rfl) ?_
            refine j_const hx hb dL_law_169 ?_
            refine lv_ishr hx hb dL_law_170 ?_
            obtain ⟨y91, hy91, hry91⟩ : ∃ z : Int, iv vc >>> (iv 5 &&& 31) = iv z ∧ -2147483648 ≤ z ∧ z ≤ 2147483647 := ⟨_, (iv_of _).symm, iv_rng _⟩
            rw [hy91]
            clear hy91
            refine m_callSi (As := [.ref x, .int (iv (1 + z85)), .int (iv (1 + z90)), .int (iv y91)]) (rest := []) ⟨hx, hb, hml, hown, hts⟩ hK hH hS (c_L_isExchangeSo l G μ74 n75 x (x + 194) u78 (((((60000 * (ec : Int)) + 1000) + 1000) + 1000) + 40000) (1 + z85) (1 + z90) y91 hD hU (by omega) (by omega) (by omega) (by omega)) (va_cwS 4 hts gL_law_L_isExchangeSo rfl rfl rfl (by decide +kernel) ⟨(Nat.le_of_ble_eq_true rfl), (Nat.le_of_ble_eq_true rfl)⟩) rfl rfl hl.1 (Nat.le_of_ble_eq_true rfl) dL_law_171 ⟨(by show _ ≤ 911287; omega), (by show _ ≤ 6368388; omega)⟩ (fun z95 μ92 n93 H locs hz95 hp94 hH hS => ?_)
            obtain ⟨hz2, u96, hD, hU⟩ := hp94
            rw [hz2]
            clear hz2
            refine j_if_ne (tgt := 179) hx hb dL_law_174 (by decide) (fun c97 => ?_) (fun c97 => absurd c97 (by omega)) (by omega)
            refine j_iinc (lv' := [(2, .int (iv ((ec : Int) + 1))), (4, .int (iv z4)), (3, .int (iv vc)), (1, .ref x), (0, .ref b)]) hx hb dL_law_179 hl (k := 2) rfl (by decide) rfl (fun ls hl => ?_)
            refine lv_goto (tgt := 10) hx hb dL_law_182 (by decide) ?_
            rw [show (ec : Int) + 1 = ((ec + 1 : Nat) : Int) by omega] at hl
            refine W.widen (k := 194 + 20 * (ec + 1)) (n := 1332 + 86 * (ec + 1)) (by omega) (by omega) ?_
            exact ih (ec + 1) (by omega) (by omega) H locs μ92 n93 ls hH hS (lv_sub hl [0, 3, 4] rfl) ⟨u96, hD, hU.mono (by omega)⟩
      · skip
        refine lv_aload_n hx hb dL_law_96 rfl (lv_at hl 3 rfl) ?_
        refine m_callSi (As := [.ref x]) (rest := []) ⟨hx, hb, hml, hown, hts⟩ hK hH hS (c_L_isLeastSo l G μ38 n39 x (x + 194) u42 ((((60000 * (ec : Int)) + 1000) + 1000) + 1000)  hD hU (by omega)) (va_cwS 1 hts gL_law_L_isLeastSo rfl rfl rfl (by decide +kernel) ⟨(Nat.le_of_ble_eq_true rfl), (Nat.le_of_ble_eq_true rfl)⟩) rfl rfl hl.1 (Nat.le_of_ble_eq_true rfl) dL_law_97 ⟨(by show _ ≤ 911287; omega), (by show _ ≤ 6368388; omega)⟩ (fun z101 μ98 n99 H locs hz101 hp100 hH hS => ?_)
        obtain ⟨hz2, u102, hD, hU⟩ := hp100
        rw [hz2]
        clear hz2
        refine j_if_eq (tgt := 177) hx hb dL_law_100 (by decide) (fun c103 => absurd c103 (by omega)) (fun c103 => ?_) (by omega)
        refine lv_iload_n hx hb dL_law_103 rfl (lv_at hl 2 rfl) ?_
        refine j_bipush hx hb dL_law_104 ?_ (by decide)
        refine j_irem hx hb dL_law_106 ?_ (by omega) (by omega)
        refine j_const hx hb dL_law_107 ?_
        refine j_icmp_ne (tgt := 138) hx hb dL_law_108 (by decide) (fun c104 => ?_) (fun c104 => ?_) (by omega) (by omega)
        · skip
          refine lv_iload_n hx hb dL_law_138 rfl (lv_at hl 2 rfl) ?_
          refine j_bipush hx hb dL_law_139 ?_ (by decide)
          refine j_irem hx hb dL_law_141 ?_ (by omega) (by omega)
          refine j_bipush hx hb dL_law_142 ?_ (by decide)
          refine j_icmp_ne (tgt := 179) hx hb dL_law_144 (by decide) (fun c105 => ?_) (fun c105 => ?_) (by omega) (by omega)
          · skip
            refine j_iinc (lv' := [(2, .int (iv ((ec : Int) + 1))), (4, .int (iv z4)), (3, .int (iv vc)), (1, .ref x), (0, .ref b)]) hx hb dL_law_179 hl (k := 2) rfl (by decide) rfl (fun ls hl => ?_)
            refine lv_goto (tgt := 10) hx hb dL_law_182 (by decide) ?_
            rw [show (ec : Int) + 1 = ((ec + 1 : Nat) : Int) by omega] at hl
            refine W.widen (k := 194 + 20 * (ec + 1)) (n := 1332 + 86 * (ec + 1)) (by omega) (by omega) ?_
            exact ih (ec + 1) (by omega) (by omega) H locs μ98 n99 ls hH hS (lv_sub hl [0, 3, 4] rfl) ⟨u102, hD, hU.mono (by omega)⟩
          · skip
            refine lv_aload_n hx hb dL_law_147 rfl (lv_at hl 3 rfl) ?_
            refine j_const hx hb dL_law_148 ?_
            refine lv_iload_n hx hb dL_law_149 rfl (lv_at hl 1 rfl) ?_
            refine j_bipush hx hb dL_law_150 ?_ (by decide)
            refine lv_ishr hx hb dL_law_152 ?_
            obtain ⟨y106, hy106, hry106⟩ : ∃ z : Int, iv vc >>> (iv 6 &&& 31) = iv z ∧ -2147483648 ≤ z ∧ z ≤ 2147483647 := ⟨_, (iv_of _).symm, iv_rng _⟩
            rw [hy106]
            clear hy106
            refine j_bipush hx hb dL_law_153 ?_ (by decide)
            refine m_callSi (As := [.int (iv y106), .int (iv 9)]) (rest := [.int (iv 1), .ref x]) ⟨hx, hb, hml, hown, hts⟩ hK hH hS (c_L_low l G μ98 n99 y106 9 (by omega) (by omega)) (va_cwS 2 hts gL_law_L_low rfl rfl rfl (by decide +kernel) ⟨(Nat.le_of_ble_eq_true rfl), (Nat.le_of_ble_eq_true rfl)⟩) rfl rfl hl.1 (Nat.le_of_ble_eq_true rfl) dL_law_155 ⟨(by show _ ≤ 911287; omega), (by show _ ≤ 6368388; omega)⟩ (fun z110 μ107 n108 H locs hz110 hp109 hH hS => ?_)
            obtain ⟨hqz110, hm2, hn2⟩ := hp109
            rw [hm2, hn2] at hH
            clear hm2 hn2
            refine j_iadd hx hb dL_law_158 ?_
            refine j_const hx hb dL_law_159 ?_
            refine lv_iload_n hx hb dL_law_160 rfl (lv_at hl 1 rfl) ?_
            refine j_const hx hb dL_law_161 ?_
            refine lv_ishr hx hb dL_law_162 ?_
            obtain ⟨y111, hy111, hry111⟩ : ∃ z : Int, iv vc >>> (iv 3 &&& 31) = iv z ∧ -2147483648 ≤ z ∧ z ≤ 2147483647 := ⟨_, (iv_of _).symm, iv_rng _⟩
            rw [hy111]
            clear hy111
            refine j_const hx hb dL_law_163 ?_
            refine m_callSi (As := [.int (iv y111), .int (iv 3)]) (rest := [.int (iv 1), .int (iv (1 + z110)), .ref x]) ⟨hx, hb, hml, hown, hts⟩ hK hH hS (c_L_low l G μ98 n99 y111 3 (by omega) (by omega)) (va_cwS 2 hts gL_law_L_low rfl rfl rfl (by decide +kernel) ⟨(Nat.le_of_ble_eq_true rfl), (Nat.le_of_ble_eq_true rfl)⟩) rfl rfl hl.1 (Nat.le_of_ble_eq_true rfl) dL_law_164 ⟨(by show _ ≤ 911287; omega), (by show _ ≤ 6368388; omega)⟩ (fun z115 μ112 n113 H locs hz115 hp114 hH hS => ?_)
            obtain ⟨hqz115, hm2, hn2⟩ := hp114
            rw [hm2, hn2] at hH
            clear hm2 hn2
            refine j_iadd hx hb dL_law_167 ?_
            refine lv_iload_n hx hb dL_law_168 rfl (lv_at hl 1 rfl) ?_
            refine j_const hx hb dL_law_169 ?_
            refine lv_ishr hx hb dL_law_170 ?_
            obtain ⟨y116, hy116, hry116⟩ : ∃ z : Int, iv vc >>> (iv 5 &&& 31) = iv z ∧ -2147483648 ≤ z ∧ z ≤ 2147483647 := ⟨_, (iv_of _).symm, iv_rng _⟩
            rw [hy116]
            clear hy116
            refine m_callSi (As := [.ref x, .int (iv (1 + z110)), .int (iv (1 + z115)), .int (iv y116)]) (rest := []) ⟨hx, hb, hml, hown, hts⟩ hK hH hS (c_L_isExchangeSo l G μ98 n99 x (x + 194) u102 (((((60000 * (ec : Int)) + 1000) + 1000) + 1000) + 10000) (1 + z110) (1 + z115) y116 hD hU (by omega) (by omega) (by omega) (by omega)) (va_cwS 4 hts gL_law_L_isExchangeSo rfl rfl rfl (by decide +kernel) ⟨(Nat.le_of_ble_eq_true rfl), (Nat.le_of_ble_eq_true rfl)⟩) rfl rfl hl.1 (Nat.le_of_ble_eq_true rfl) dL_law_171 ⟨(by show _ ≤ 911287; omega), (by show _ ≤ 6368388; omega)⟩ (fun z120 μ117 n118 H locs hz120 hp119 hH hS => ?_)
            obtain ⟨hz2, u121, hD, hU⟩ := hp119
            rw [hz2]
            clear hz2
            refine j_if_ne (tgt := 179) hx hb dL_law_174 (by decide) (fun c122 => ?_) (fun c122 => absurd c122 (by omega)) (by omega)
            refine j_iinc (lv' := [(2, .int (iv ((ec : Int) + 1))), (4, .int (iv z4)), (3, .int (iv vc)), (1, .ref x), (0, .ref b)]) hx hb dL_law_179 hl (k := 2) rfl (by decide) rfl (fun ls hl => ?_)
            refine lv_goto (tgt := 10) hx hb dL_law_182 (by decide) ?_
            rw [show (ec : Int) + 1 = ((ec + 1 : Nat) : Int) by omega] at hl
            refine W.widen (k := 194 + 20 * (ec + 1)) (n := 1332 + 86 * (ec + 1)) (by omega) (by omega) ?_
            exact ih (ec + 1) (by omega) (by omega) H locs μ117 n118 ls hH hS (lv_sub hl [0, 3, 4] rfl) ⟨u121, hD, hU.mono (by omega)⟩
        · skip
          refine lv_aload_n hx hb dL_law_111 rfl (lv_at hl 3 rfl) ?_
          refine j_const hx hb dL_law_112 ?_
          refine lv_iload_n hx hb dL_law_113 rfl (lv_at hl 1 rfl) ?_
          refine j_const hx hb dL_law_114 ?_
          refine lv_ishr hx hb dL_law_115 ?_
          obtain ⟨y123, hy123, hry123⟩ : ∃ z : Int, iv vc >>> (iv 4 &&& 31) = iv z ∧ -2147483648 ≤ z ∧ z ≤ 2147483647 := ⟨_, (iv_of _).symm, iv_rng _⟩
          rw [hy123]
          clear hy123
          refine j_bipush hx hb dL_law_116 ?_ (by decide)
          refine m_callSi (As := [.int (iv y123), .int (iv 9)]) (rest := [.int (iv 1), .ref x]) ⟨hx, hb, hml, hown, hts⟩ hK hH hS (c_L_low l G μ98 n99 y123 9 (by omega) (by omega)) (va_cwS 2 hts gL_law_L_low rfl rfl rfl (by decide +kernel) ⟨(Nat.le_of_ble_eq_true rfl), (Nat.le_of_ble_eq_true rfl)⟩) rfl rfl hl.1 (Nat.le_of_ble_eq_true rfl) dL_law_118 ⟨(by show _ ≤ 911287; omega), (by show _ ≤ 6368388; omega)⟩ (fun z127 μ124 n125 H locs hz127 hp126 hH hS => ?_)
          obtain ⟨hqz127, hm2, hn2⟩ := hp126
          rw [hm2, hn2] at hH
          clear hm2 hn2
          refine j_iadd hx hb dL_law_121 ?_
          refine j_const hx hb dL_law_122 ?_
          refine lv_iload_n hx hb dL_law_123 rfl (lv_at hl 1 rfl) ?_
          refine j_bipush hx hb dL_law_124 ?_ (by decide)
          refine lv_ishr hx hb dL_law_126 ?_
          obtain ⟨y128, hy128, hry128⟩ : ∃ z : Int, iv vc >>> (iv 7 &&& 31) = iv z ∧ -2147483648 ≤ z ∧ z ≤ 2147483647 := ⟨_, (iv_of _).symm, iv_rng _⟩
          rw [hy128]
          clear hy128
          refine j_const hx hb dL_law_127 ?_
          refine m_callSi (As := [.int (iv y128), .int (iv 4)]) (rest := [.int (iv 1), .int (iv (1 + z127)), .ref x]) ⟨hx, hb, hml, hown, hts⟩ hK hH hS (c_L_low l G μ98 n99 y128 4 (by omega) (by omega)) (va_cwS 2 hts gL_law_L_low rfl rfl rfl (by decide +kernel) ⟨(Nat.le_of_ble_eq_true rfl), (Nat.le_of_ble_eq_true rfl)⟩) rfl rfl hl.1 (Nat.le_of_ble_eq_true rfl) dL_law_128 ⟨(by show _ ≤ 911287; omega), (by show _ ≤ 6368388; omega)⟩ (fun z132 μ129 n130 H locs hz132 hp131 hH hS => ?_)
          obtain ⟨hqz132, hm2, hn2⟩ := hp131
          rw [hm2, hn2] at hH
          clear hm2 hn2
          refine j_iadd hx hb dL_law_131 ?_
          refine m_callSi (As := [.ref x, .int (iv (1 + z127)), .int (iv (1 + z132))]) (rest := []) ⟨hx, hb, hml, hown, hts⟩ hK hH hS (c_L_lastsSo l G μ98 n99 x (x + 194) u102 (((((60000 * (ec : Int)) + 1000) + 1000) + 1000) + 10000) (1 + z127) (1 + z132) hD hU (by omega) (by omega) (by omega)) (va_cwS 3 hts gL_law_L_lastsSo rfl rfl rfl (by decide +kernel) ⟨(Nat.le_of_ble_eq_true rfl), (Nat.le_of_ble_eq_true rfl)⟩) rfl rfl hl.1 (Nat.le_of_ble_eq_true rfl) dL_law_132 ⟨(by show _ ≤ 911287; omega), (by show _ ≤ 6368388; omega)⟩ (fun z136 μ133 n134 H locs hz136 hp135 hH hS => ?_)
          obtain ⟨hz2, u137, hD, hU⟩ := hp135
          rw [hz2]
          clear hz2
          refine j_if_eq (tgt := 177) hx hb dL_law_135 (by decide) (fun c138 => absurd c138 (by omega)) (fun c138 => ?_) (by omega)
          refine lv_iload_n hx hb dL_law_138 rfl (lv_at hl 2 rfl) ?_
          refine j_bipush hx hb dL_law_139 ?_ (by decide)
          refine j_irem hx hb dL_law_141 ?_ (by omega) (by omega)
          refine j_bipush hx hb dL_law_142 ?_ (by decide)
          refine j_icmp_ne (tgt := 179) hx hb dL_law_144 (by decide) (fun c139 => ?_) (fun c139 => ?_) (by omega) (by omega)
          · skip
            refine j_iinc (lv' := [(2, .int (iv ((ec : Int) + 1))), (4, .int (iv z4)), (3, .int (iv vc)), (1, .ref x), (0, .ref b)]) hx hb dL_law_179 hl (k := 2) rfl (by decide) rfl (fun ls hl => ?_)
            refine lv_goto (tgt := 10) hx hb dL_law_182 (by decide) ?_
            rw [show (ec : Int) + 1 = ((ec + 1 : Nat) : Int) by omega] at hl
            refine W.widen (k := 194 + 20 * (ec + 1)) (n := 1332 + 86 * (ec + 1)) (by omega) (by omega) ?_
            exact ih (ec + 1) (by omega) (by omega) H locs μ133 n134 ls hH hS (lv_sub hl [0, 3, 4] rfl) ⟨u137, hD, hU.mono (by omega)⟩
          · skip
            refine lv_aload_n hx hb dL_law_147 rfl (lv_at hl 3 rfl) ?_
            refine j_const hx hb dL_law_148 ?_
            refine lv_iload_n hx hb dL_law_149 rfl (lv_at hl 1 rfl) ?_
            refine j_bipush hx hb dL_law_150 ?_ (by decide)
            refine lv_ishr hx hb dL_law_152 ?_
            obtain ⟨y140, hy140, hry140⟩ : ∃ z : Int, iv vc >>> (iv 6 &&& 31) = iv z ∧ -2147483648 ≤ z ∧ z ≤ 2147483647 := ⟨_, (iv_of _).symm, iv_rng _⟩
            rw [hy140]
            clear hy140
            refine j_bipush hx hb dL_law_153 ?_ (by decide)
            refine m_callSi (As := [.int (iv y140), .int (iv 9)]) (rest := [.int (iv 1), .ref x]) ⟨hx, hb, hml, hown, hts⟩ hK hH hS (c_L_low l G μ133 n134 y140 9 (by omega) (by omega)) (va_cwS 2 hts gL_law_L_low rfl rfl rfl (by decide +kernel) ⟨(Nat.le_of_ble_eq_true rfl), (Nat.le_of_ble_eq_true rfl)⟩) rfl rfl hl.1 (Nat.le_of_ble_eq_true rfl) dL_law_155 ⟨(by show _ ≤ 911287; omega), (by show _ ≤ 6368388; omega)⟩ (fun z144 μ141 n142 H locs hz144 hp143 hH hS => ?_)
            obtain ⟨hqz144, hm2, hn2⟩ := hp143
            rw [hm2, hn2] at hH
            clear hm2 hn2
            refine j_iadd hx hb dL_law_158 ?_
            refine j_const hx hb dL_law_159 ?_
            refine lv_iload_n hx hb dL_law_160 rfl (lv_at hl 1 rfl) ?_
            refine j_const hx hb dL_law_161 ?_
            refine lv_ishr hx hb dL_law_162 ?_
            obtain ⟨y145, hy145, hry145⟩ : ∃ z : Int, iv vc >>> (iv 3 &&& 31) = iv z ∧ -2147483648 ≤ z ∧ z ≤ 2147483647 := ⟨_, (iv_of _).symm, iv_rng _⟩
            rw [hy145]
            clear hy145
            refine j_const hx hb dL_law_163 ?_
            refine m_callSi (As := [.int (iv y145), .int (iv 3)]) (rest := [.int (iv 1), .int (iv (1 + z144)), .ref x]) ⟨hx, hb, hml, hown, hts⟩ hK hH hS (c_L_low l G μ133 n134 y145 3 (by omega) (by omega)) (va_cwS 2 hts gL_law_L_low rfl rfl rfl (by decide +kernel) ⟨(Nat.le_of_ble_eq_true rfl), (Nat.le_of_ble_eq_true rfl)⟩) rfl rfl hl.1 (Nat.le_of_ble_eq_true rfl) dL_law_164 ⟨(by show _ ≤ 911287; omega), (by show _ ≤ 6368388; omega)⟩ (fun z149 μ146 n147 H locs hz149 hp148 hH hS => ?_)
            obtain ⟨hqz149, hm2, hn2⟩ := hp148
            rw [hm2, hn2] at hH
            clear hm2 hn2
            refine j_iadd hx hb dL_law_167 ?_
            refine lv_iload_n hx hb dL_law_168 rfl (lv_at hl 1 rfl) ?_
            refine j_const hx hb dL_law_169 ?_
            refine lv_ishr hx hb dL_law_170 ?_
            obtain ⟨y150, hy150, hry150⟩ : ∃ z : Int, iv vc >>> (iv 5 &&& 31) = iv z ∧ -2147483648 ≤ z ∧ z ≤ 2147483647 := ⟨_, (iv_of _).symm, iv_rng _⟩
            rw [hy150]
            clear hy150
            refine m_callSi (As := [.ref x, .int (iv (1 + z144)), .int (iv (1 + z149)), .int (iv y150)]) (rest := []) ⟨hx, hb, hml, hown, hts⟩ hK hH hS (c_L_isExchangeSo l G μ133 n134 x (x + 194) u137 ((((((60000 * (ec : Int)) + 1000) + 1000) + 1000) + 10000) + 40000) (1 + z144) (1 + z149) y150 hD hU (by omega) (by omega) (by omega) (by omega)) (va_cwS 4 hts gL_law_L_isExchangeSo rfl rfl rfl (by decide +kernel) ⟨(Nat.le_of_ble_eq_true rfl), (Nat.le_of_ble_eq_true rfl)⟩) rfl rfl hl.1 (Nat.le_of_ble_eq_true rfl) dL_law_171 ⟨(by show _ ≤ 911287; omega), (by show _ ≤ 6368388; omega)⟩ (fun z154 μ151 n152 H locs hz154 hp153 hH hS => ?_)
            obtain ⟨hz2, u155, hD, hU⟩ := hp153
            rw [hz2]
            clear hz2
            refine j_if_ne (tgt := 179) hx hb dL_law_174 (by decide) (fun c156 => ?_) (fun c156 => absurd c156 (by omega)) (by omega)
            refine j_iinc (lv' := [(2, .int (iv ((ec : Int) + 1))), (4, .int (iv z4)), (3, .int (iv vc)), (1, .ref x), (0, .ref b)]) hx hb dL_law_179 hl (k := 2) rfl (by decide) rfl (fun ls hl => ?_)
            refine lv_goto (tgt := 10) hx hb dL_law_182 (by decide) ?_
            rw [show (ec : Int) + 1 = ((ec + 1 : Nat) : Int) by omega] at hl
            refine W.widen (k := 194 + 20 * (ec + 1)) (n := 1332 + 86 * (ec + 1)) (by omega) (by omega) ?_
            exact ih (ec + 1) (by omega) (by omega) H locs μ151 n152 ls hH hS (lv_sub hl [0, 3, 4] rfl) ⟨u155, hD, hU.mono (by omega)⟩
