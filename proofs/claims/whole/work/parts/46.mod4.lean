abbrev rm_c_X9_presses : Room := { frames := 5, cells := 0, slots := 0, locals := 111 }
set_option maxHeartbeats 4000000 in
set_option maxRecDepth 100000 in
theorem c_X9_presses (l : Launch) (G : wG) (μ : hM) (n : Nat) (yy : Nat) (σ α β κ χ ω : Nat → Int) (kn ik ln en fr pl wr : Int) (hY : IsMM G μ yy σ α β κ χ ω kn ik ln en fr pl wr) (k t : Int) (cl : List (Int × Int)) (hT : OkT σ) (hk : 1 ≤ k ∧ k ≤ 9) (ht : 0 ≤ t ∧ t ≤ 99) (h5 : σ 5 + t ≤ 2000000000) (hPC : PCh ω (σ 11) cl) (hle : σ 11 ≤ en) (hen : 0 ≤ en ∧ en ≤ 5990) (hfx : 1 ≤ fr ∧ fr ≤ en + 1) (hcl : ∀ x ∈ cl, 0 ≤ x.1 ∧ x.1 ≤ 40000) : Met l yX9_presses wsX9_presses rm_c_X9_presses (mPc G μ n [.ref yy, .int (iv k), .int (iv t)]) (mQi G (fun z μ1 n1 => z = nRt σ k t.toNat ∧ (∃ (ω1 : Nat → Int) (e1 h1 : Int), IsMM G μ1 yy (fu (nPr σ k t.toNat) 11 h1) α β κ χ ω1 kn ik ln e1 fr pl wr ∧ PrP ω ω1 en e1 (σ 11) h1 fr (σ 3) (nRt σ k t.toNat) cl) ∧ MFr yy μ μ1)) 0 0 (gA G) := by
  refine Met.ofW (cc := cX9_presses) (maxL := 10) (ret := (some .int)) (by decide) rfl ?_
  intro p e s m args below meth c s₁ B hml hv
  obtain ⟨hav, hK, hH⟩ := hv
  have hx := B.exec
  have hb := B.bytes
  have hr := B.returns
  have hts := atoms_spec (ws := wsX9_presses) B.pre
  have hown : s.vm.findClass RX9 = some m.cls := findClass_of_methodNamed B.named
  have hlocks := B.notSynchronized
  have hS : va_S (gA G) s.heap s.heap [] := va_S.rf
  have hl := lv_entry ([.ref yy, .int (iv k), .int (iv t)]) (n := 10) (Nat.le_of_ble_eq_true rfl)
  have hfr : entryFrame m args 10 = entryFrame m ([.ref yy, .int (iv k), .int (iv t)] : List Value).toArray 10 := by rw [hav]
  rw [hfr, lg_entry_eq]
  generalize (lg_sl ([.ref yy, .int (iv k), .int (iv t)]) ++ List.replicate (10 - (lg_sl ([.ref yy, .int (iv k), .int (iv t)])).length) Slot.unset).toArray = ls at hl ⊢
  have hl : lv_has ls 10 [(0, .ref yy), (1, .int (iv k)), (2, .int (iv t))] := hl
  generalize hQ : MQ below _ args s 0 0 (gA G) = Q
  show W p l e rm_c_X9_presses s m args below meth c s.heap [] 0 0 Q (F0 m 0 ls [])
  obtain ⟨H, hHe⟩ : ∃ H, H = s.heap := ⟨_, rfl⟩
  obtain ⟨locs, hlo⟩ : ∃ q : List Loc, q = [] := ⟨_, rfl⟩
  have hH : gP G μ n H := by rw [hHe]; exact hH
  have hS : va_S (gA G) s.heap H locs := by rw [hHe, hlo]; exact hS
  suffices hgo : W p l e rm_c_X9_presses s m args below meth c H locs 0 0 Q (F0 m 0 ls []) by rw [hHe, hlo] at hgo; exact hgo
  clear hHe hlo hfr hav
  have f_0 := hts (.fieldLink RX9 7 "StampDaterModel" "s" "[I") (List.mem_of_getElem? (i := 1) rfl)
  have i_X9 : ∀ w ∈ u_ws RX9 TX9 13, w ∈ wsX9_presses := by decide +kernel
  have f_2 := hts (.fieldLink RX9 37 "StampDaterModel" "entries" "I") (List.mem_of_getElem? (i := 4) rfl)
  have f_3 := hts (.fieldLink RX9 25 "StampDaterModel" "pool" "[I") (List.mem_of_getElem? (i := 2) rfl)
  have f_4 := hts (.fieldLink RX9 41 "StampDaterModel" "fresh" "I") (List.mem_of_getElem? (i := 3) rfl)
  have hfr : MFr yy μ μ := MFr.rf
  refine j_const hx hb dX9_presses_0 ?_
  refine lv_istore_n (lv' := [(3, .int (iv 0)), (0, .ref yy), (1, .int (iv k)), (2, .int (iv t))]) hx hb dX9_presses_1 rfl hl (by decide) rfl (fun ls hl => ?_)
  refine j_const hx hb dX9_presses_2 ?_
  refine lv_istore (lv' := [(4, .int (iv 0)), (3, .int (iv 0)), (0, .ref yy), (1, .int (iv k)), (2, .int (iv t))]) hx hb dX9_presses_3 hl (by decide) rfl (fun ls hl => ?_)
  have lp5 : ∀ (fuel : Nat) (kk : Nat) (a0 : Int) (τ : Nat → Int) (ν : hM) (ν0 : Nat) (hY : IsMM G ν yy τ α β κ χ ω kn ik ln en fr pl wr) (hfr : MFr yy μ ν) (hkk : (kk : Int) ≤ t) (hτ : τ = nPr σ k kk) (ha : a0 = nRt σ k kk) (_ : (t.toNat - kk) < fuel) (H : Heap) (locs : List Loc) (ls : Array Slot) (_ : gP G ν ν0 H) (_ : va_S (gA G) s.heap H locs) (_ : lv_has ls 10 [(0, .ref yy), (1, .int (iv k)), (2, .int (iv t)), (3, .int (iv a0)), (4, .int (iv (kk : Int)))]), W p l e rm_c_X9_presses s m args below meth c H locs 0 0 Q (F0 m 5 ls []) := by
    intro fuel
    induction fuel with
    | zero => intro _ _ _ _ _ _ _ _ _ _ hfuel; exact absurd hfuel (Nat.not_lt_zero _)
    | succ fuel ih =>
      intro kk a0 τ ν ν0 hY hfr hkk hτ ha hfuel H locs ls hH hS hl
      have hTt : OkT τ := by rw [hτ]; exact okT_n hT hk kk (by omega)
      have hO2 := hTt.1
      have h32 := hTt.2.1
      have h122 : 0 ≤ τ 12 ∧ τ 12 ≤ 12 := by have q1 := hTt.2.2.2.1; have q2 := hTt.2.2.1; omega
      have ih1 := ih; clear ih
      refine lv_iload hx hb dX9_presses_5 (lv_at hl 4 rfl) ?_
      refine lv_iload_n hx hb dX9_presses_7 rfl (lv_at hl 2 rfl) ?_
      refine j_icmp_ge (tgt := 25) hx hb dX9_presses_8 (by decide) (fun c2 => ?_) (fun c2 => ?_) (by omega) (by omega)
      · skip
        have hkt : kk = t.toNat := by omega
        have ha9 : a0 = nRt σ k t.toNat := by rw [ha, hkt]
        have har := nRt_rng σ k t.toNat
        have hq9 : τ = (nPr σ k t.toNat) := (by rw [hτ, hkt])
        rw [hq9] at hY
        clear hq9
        have h11 : (nPr σ k t.toNat) 11 = σ 11 := nPr_11 hT hk t.toNat (by omega)
        have h3q : (nPr σ k t.toNat) 3 = σ 3 := nPr_3 hT hk t.toNat (by omega)
        have h33 := hT.2.1
        refine lv_iload_n hx hb dX9_presses_25 rfl (lv_at hl 3 rfl) ?_
        refine j_if_le (tgt := 274) hx hb dX9_presses_26 (by decide) (fun c3 => ?_) (fun c3 => ?_) (by omega)
        · skip
          refine lv_iload_n hx hb dX9_presses_274 rfl (lv_at hl 3 rfl) ?_
          subst hQ
          refine m_iret hx hb hr hlocks hH hS dX9_presses_275 ?_ (by omega)
          refine ⟨ha9, ?_, hfr⟩
          have hid : fu (nPr σ k t.toNat) 11 (σ 11) = (nPr σ k t.toNat) := fu_i h11.symm
          refine ⟨ω, en, σ 11, ?_, PrP.no hPC hle (by omega)⟩
          rw [hid]; exact hY
        · skip
          have hp0 := hPC.pos
          refine lv_aload_n hx hb dX9_presses_29 rfl (lv_at hl 0 rfl) ?_
          refine m_get (C := RX9) (T := TX9) (N := 13) (ci := 8) hx hb hts i_X9 hown hK hH hY.1 rfl 0 (by decide) f_0 rfl dX9_presses_30 ?_
          refine j_bipush hx hb dX9_presses_33 ?_ (by decide)
          refine m_iald (nA := 163) (f := (nPr σ k t.toNat)) hx hb hK hH hY.2.1 dX9_presses_35 ?_ (by omega) (by omega)
          refine j_norm (y := ((nPr σ k t.toNat) 11)) rfl ?_
          refine j_norm (y := (σ 11)) h11 ?_
          refine lv_istore (lv' := [(4, .int (iv (σ 11))), (0, .ref yy), (1, .int (iv k)), (2, .int (iv t)), (3, .int (iv a0))]) hx hb dX9_presses_36 hl (by decide) rfl (fun ls hl => ?_)
          refine lv_iload hx hb dX9_presses_38 (lv_at hl 0 rfl) ?_
          refine j_if_le (tgt := 67) hx hb dX9_presses_40 (by decide) (fun c4 => ?_) (fun c4 => ?_) (by omega)
          · skip
            refine j_const hx hb dX9_presses_67 ?_
            refine lv_istore (lv' := [(5, .int (iv 0)), (4, .int (iv (σ 11))), (0, .ref yy), (1, .int (iv k)), (2, .int (iv t)), (3, .int (iv a0))]) hx hb dX9_presses_68 hl (by decide) rfl (fun ls hl => ?_)
            refine lv_iload hx hb dX9_presses_70 (lv_at hl 0 rfl) ?_
            refine j_if_eq (tgt := 89) hx hb dX9_presses_72 (by decide) (fun c5 => ?_) (fun c5 => absurd c5 (by omega)) (by omega)
            refine lv_aload_n hx hb dX9_presses_89 rfl (lv_at hl 2 rfl) ?_
            refine m_get (C := RX9) (T := TX9) (N := 13) (ci := 8) hx hb hts i_X9 hown hK hH hY.1 rfl 9 (by decide) f_2 rfl dX9_presses_90 ?_
            refine j_const hx hb dX9_presses_93 ?_
            refine j_iadd hx hb dX9_presses_94 ?_
            refine lv_istore (lv' := [(6, .int (iv (en + 1))), (5, .int (iv 0)), (4, .int (iv (σ 11))), (0, .ref yy), (1, .int (iv k)), (2, .int (iv t)), (3, .int (iv a0))]) hx hb dX9_presses_95 hl (by decide) rfl (fun ls hl => ?_)
            refine lv_aload_n hx hb dX9_presses_97 rfl (lv_at hl 3 rfl) ?_
            refine lv_iload hx hb dX9_presses_98 (lv_at hl 0 rfl) ?_
            refine lv_aload_n hx hb dX9_presses_100 rfl (lv_at hl 3 rfl) ?_
            refine m_get (C := RX9) (T := TX9) (N := 13) (ci := 8) hx hb hts i_X9 hown hK hH hY.1 rfl 9 (by decide) f_2 rfl dX9_presses_101 ?_
            refine j_icmp_le (tgt := 112) hx hb dX9_presses_104 (by decide) (fun c6 => absurd c6 (by omega)) (fun c6 => ?_) (by omega) (by omega)
            refine lv_iload hx hb dX9_presses_107 (lv_at hl 0 rfl) ?_
            refine lv_goto (tgt := 116) hx hb dX9_presses_109 (by decide) ?_
            refine m_put (C := RX9) (T := TX9) (N := 13) (ci := 8) hx hb hts i_X9 tyX9 tyX9_ok nmX9 hown hK hH hS hY.1 rfl 9 (by decide) f_2 rfl rfl rfl (Nat.le_of_ble_eq_true rfl) dX9_presses_116 (fun H locs hH hS => ?_)
            obtain ⟨ν7, hY, hfr, hH⟩ : ∃ ξ : hM, IsMM G ξ yy (nPr σ k t.toNat) α β κ χ ω kn ik ln (en + 1) fr pl wr ∧ MFr yy μ ξ ∧ gP G ξ ν0 H := hY.w0 hfr hH
            have hH : gP G ν7 ν0 H := hH
            refine lv_iload hx hb dX9_presses_119 (lv_at hl 1 rfl) ?_
            refine j_if_eq (tgt := 138) hx hb dX9_presses_121 (by decide) (fun c8 => ?_) (fun c8 => absurd c8 (by omega)) (by omega)
            refine j_const hx hb dX9_presses_138 ?_
            refine lv_istore (lv' := [(7, .int (iv 0)), (6, .int (iv (en + 1))), (5, .int (iv 0)), (4, .int (iv (σ 11))), (0, .ref yy), (1, .int (iv k)), (2, .int (iv t)), (3, .int (iv a0))]) hx hb dX9_presses_139 hl (by decide) rfl (fun ls hl => ?_)
            refine lv_iload hx hb dX9_presses_141 (lv_at hl 2 rfl) ?_
            refine j_if_eq (tgt := 160) hx hb dX9_presses_143 (by decide) (fun c9 => ?_) (fun c9 => absurd c9 (by omega)) (by omega)
            refine lv_iload hx hb dX9_presses_160 (lv_at hl 3 rfl) ?_
            refine lv_istore (lv' := [(8, .int (iv (σ 11))), (7, .int (iv 0)), (6, .int (iv (en + 1))), (5, .int (iv 0)), (4, .int (iv (σ 11))), (0, .ref yy), (1, .int (iv k)), (2, .int (iv t)), (3, .int (iv a0))]) hx hb dX9_presses_162 hl (by decide) rfl (fun ls hl => ?_)
            refine lv_iload hx hb dX9_presses_164 (lv_at hl 3 rfl) ?_
            refine j_if_eq (tgt := 183) hx hb dX9_presses_166 (by decide) (fun c10 => ?_) (fun c10 => absurd c10 (by omega)) (by omega)
            refine lv_iload hx hb dX9_presses_183 (lv_at hl 4 rfl) ?_
            refine j_if_le (tgt := 204) hx hb dX9_presses_185 (by decide) (fun c11 => ?_) (fun c11 => absurd c11 (by omega)) (by omega)
            refine j_const hx hb dX9_presses_204 ?_
            refine lv_istore (lv' := [(9, .int (iv 1)), (8, .int (iv (σ 11))), (7, .int (iv 0)), (6, .int (iv (en + 1))), (5, .int (iv 0)), (4, .int (iv (σ 11))), (0, .ref yy), (1, .int (iv k)), (2, .int (iv t)), (3, .int (iv a0))]) hx hb dX9_presses_205 hl (by decide) rfl (fun ls hl => ?_)
            refine lv_aload_n hx hb dX9_presses_207 rfl (lv_at hl 6 rfl) ?_
            refine m_get (C := RX9) (T := TX9) (N := 13) (ci := 8) hx hb hts i_X9 hown hK hH hY.1 rfl 8 (by decide) f_3 rfl dX9_presses_208 ?_
            refine j_const hx hb dX9_presses_211 ?_
            refine lv_iload hx hb dX9_presses_212 (lv_at hl 3 rfl) ?_
            refine j_imul hx hb dX9_presses_214 ?_
            refine j_const hx hb dX9_presses_215 ?_
            refine j_isub hx hb dX9_presses_216 ?_
            refine lv_aload_n hx hb dX9_presses_217 rfl (lv_at hl 6 rfl) ?_
            refine m_get (C := RX9) (T := TX9) (N := 13) (ci := 8) hx hb hts i_X9 hown hK hH hY.1 rfl 0 (by decide) f_0 rfl dX9_presses_218 ?_
            refine j_const hx hb dX9_presses_221 ?_
            refine m_iald (nA := 163) (f := (nPr σ k t.toNat)) hx hb hK hH hY.2.1 dX9_presses_222 ?_ (by omega) (by omega)
            refine j_norm (y := ((nPr σ k t.toNat) 3)) rfl ?_
            refine j_norm (y := (σ 3)) h3q ?_
            refine m_iast (nA := 24000) (f := ω) hx hb hK hH hS hY.2.2.2.2.2.2 dX9_presses_223 (fun H locs hH hS => ?_) (by omega) (by omega)
            obtain ⟨ν12, hY, hfr, hH⟩ : ∃ ξ : hM, IsMM G ξ yy (nPr σ k t.toNat) α β κ χ (fu ω (((4 * (en + 1)) - 4)).toNat (σ 3)) kn ik ln (en + 1) fr pl wr ∧ MFr yy μ ξ ∧ gP G ξ ν0 H := hY.w6 hfr hH
            have hH : gP G ν12 ν0 H := hH
            refine lv_aload_n hx hb dX9_presses_224 rfl (lv_at hl 6 rfl) ?_
            refine m_get (C := RX9) (T := TX9) (N := 13) (ci := 8) hx hb hts i_X9 hown hK hH hY.1 rfl 8 (by decide) f_3 rfl dX9_presses_225 ?_
            refine j_const hx hb dX9_presses_228 ?_
            refine lv_iload hx hb dX9_presses_229 (lv_at hl 3 rfl) ?_
            refine j_imul hx hb dX9_presses_231 ?_
            refine j_const hx hb dX9_presses_232 ?_
            refine j_isub hx hb dX9_presses_233 ?_
            refine lv_iload hx hb dX9_presses_234 (lv_at hl 2 rfl) ?_
            refine lv_iload_n hx hb dX9_presses_236 rfl (lv_at hl 9 rfl) ?_
            refine j_iadd hx hb dX9_presses_237 ?_
            refine m_iast (nA := 24000) (f := (fu ω (((4 * (en + 1)) - 4)).toNat (σ 3))) hx hb hK hH hS hY.2.2.2.2.2.2 dX9_presses_238 (fun H locs hH hS => ?_) (by omega) (by omega)
            obtain ⟨ν13, hY, hfr, hH⟩ : ∃ ξ : hM, IsMM G ξ yy (nPr σ k t.toNat) α β κ χ (fu (fu ω (((4 * (en + 1)) - 4)).toNat (σ 3)) (((4 * (en + 1)) - 3)).toNat (0 + a0)) kn ik ln (en + 1) fr pl wr ∧ MFr yy μ ξ ∧ gP G ξ ν0 H := hY.w6 hfr hH
            have hH : gP G ν13 ν0 H := hH
            refine lv_aload_n hx hb dX9_presses_239 rfl (lv_at hl 6 rfl) ?_
            refine m_get (C := RX9) (T := TX9) (N := 13) (ci := 8) hx hb hts i_X9 hown hK hH hY.1 rfl 8 (by decide) f_3 rfl dX9_presses_240 ?_
            refine j_const hx hb dX9_presses_243 ?_
            refine lv_iload hx hb dX9_presses_244 (lv_at hl 3 rfl) ?_
            refine j_imul hx hb dX9_presses_246 ?_
            refine j_const hx hb dX9_presses_247 ?_
            refine j_isub hx hb dX9_presses_248 ?_
            refine lv_iload hx hb dX9_presses_249 (lv_at hl 1 rfl) ?_
            refine m_iast (nA := 24000) (f := (fu (fu ω (((4 * (en + 1)) - 4)).toNat (σ 3)) (((4 * (en + 1)) - 3)).toNat (0 + a0))) hx hb hK hH hS hY.2.2.2.2.2.2 dX9_presses_251 (fun H locs hH hS => ?_) (by omega) (by omega)
            obtain ⟨ν14, hY, hfr, hH⟩ : ∃ ξ : hM, IsMM G ξ yy (nPr σ k t.toNat) α β κ χ (fu (fu (fu ω (((4 * (en + 1)) - 4)).toNat (σ 3)) (((4 * (en + 1)) - 3)).toNat (0 + a0)) (((4 * (en + 1)) - 2)).toNat (σ 11)) kn ik ln (en + 1) fr pl wr ∧ MFr yy μ ξ ∧ gP G ξ ν0 H := hY.w6 hfr hH
            have hH : gP G ν14 ν0 H := hH
            refine lv_aload_n hx hb dX9_presses_252 rfl (lv_at hl 6 rfl) ?_
            refine m_get (C := RX9) (T := TX9) (N := 13) (ci := 8) hx hb hts i_X9 hown hK hH hY.1 rfl 8 (by decide) f_3 rfl dX9_presses_253 ?_
            refine j_const hx hb dX9_presses_256 ?_
            refine lv_iload hx hb dX9_presses_257 (lv_at hl 3 rfl) ?_
            refine j_imul hx hb dX9_presses_259 ?_
            refine j_const hx hb dX9_presses_260 ?_
            refine j_isub hx hb dX9_presses_261 ?_
            refine lv_iload hx hb dX9_presses_262 (lv_at hl 0 rfl) ?_
            refine m_iast (nA := 24000) (f := (fu (fu (fu ω (((4 * (en + 1)) - 4)).toNat (σ 3)) (((4 * (en + 1)) - 3)).toNat (0 + a0)) (((4 * (en + 1)) - 2)).toNat (σ 11))) hx hb hK hH hS hY.2.2.2.2.2.2 dX9_presses_264 (fun H locs hH hS => ?_) (by omega) (by omega)
            obtain ⟨ν15, hY, hfr, hH⟩ : ∃ ξ : hM, IsMM G ξ yy (nPr σ k t.toNat) α β κ χ (fu (fu (fu (fu ω (((4 * (en + 1)) - 4)).toNat (σ 3)) (((4 * (en + 1)) - 3)).toNat (0 + a0)) (((4 * (en + 1)) - 2)).toNat (σ 11)) (((4 * (en + 1)) - 1)).toNat 1) kn ik ln (en + 1) fr pl wr ∧ MFr yy μ ξ ∧ gP G ξ ν0 H := hY.w6 hfr hH
            have hH : gP G ν15 ν0 H := hH
            refine lv_aload_n hx hb dX9_presses_265 rfl (lv_at hl 6 rfl) ?_
            refine m_get (C := RX9) (T := TX9) (N := 13) (ci := 8) hx hb hts i_X9 hown hK hH hY.1 rfl 0 (by decide) f_0 rfl dX9_presses_266 ?_
            refine j_bipush hx hb dX9_presses_269 ?_ (by decide)
            refine lv_iload hx hb dX9_presses_271 (lv_at hl 3 rfl) ?_
            refine m_iast (nA := 163) (f := (nPr σ k t.toNat)) hx hb hK hH hS hY.2.1 dX9_presses_273 (fun H locs hH hS => ?_) (by omega) (by omega)
            obtain ⟨ν16, hY, hfr, hH⟩ : ∃ ξ : hM, IsMM G ξ yy (fu (nPr σ k t.toNat) 11 (en + 1)) α β κ χ (fu (fu (fu (fu ω (((4 * (en + 1)) - 4)).toNat (σ 3)) (((4 * (en + 1)) - 3)).toNat (0 + a0)) (((4 * (en + 1)) - 2)).toNat (σ 11)) (((4 * (en + 1)) - 1)).toNat 1) kn ik ln (en + 1) fr pl wr ∧ MFr yy μ ξ ∧ gP G ξ ν0 H := hY.w1 hfr hH
            have hH : gP G ν16 ν0 H := hH
            refine lv_iload_n hx hb dX9_presses_274 rfl (lv_at hl 9 rfl) ?_
            subst hQ
            refine m_iret hx hb hr hlocks hH hS dX9_presses_275 ?_ (by omega)
            refine ⟨ha9, ?_, hfr⟩
            rw [← ha9]
            have hnl := hPC.nil_ (by omega)
            have hnn : ∀ d c t, cl = (d, c) :: t → d ≠ σ 3 := by intro d c t e; rw [hnl.1] at e; cases e
            have hdy : (1 : Int) = (cl.length : Int) + 1 := by rw [hnl.1]; rfl
            exact ⟨_, (en + 1), (en + 1), hY, PrP.mk hPC hle (by omega) (by omega) hfx hnn hdy⟩
          · skip
            obtain ⟨d0, c0, t0, hce, hω4, hω3, hω1, hω2, hω5⟩ := hPC.cons_ (by omega)
            have hd0 := hcl (d0, c0) (by rw [hce]; exact List.mem_cons_self)
            have hd1 : 0 ≤ d0 ∧ d0 ≤ 40000 := hd0
            refine lv_aload_n hx hb dX9_presses_43 rfl (lv_at hl 1 rfl) ?_
            refine m_get (C := RX9) (T := TX9) (N := 13) (ci := 8) hx hb hts i_X9 hown hK hH hY.1 rfl 8 (by decide) f_3 rfl dX9_presses_44 ?_
            refine j_const hx hb dX9_presses_47 ?_
            refine lv_iload hx hb dX9_presses_48 (lv_at hl 0 rfl) ?_
            refine j_imul hx hb dX9_presses_50 ?_
            refine j_const hx hb dX9_presses_51 ?_
            refine j_isub hx hb dX9_presses_52 ?_
            refine m_iald (nA := 24000) (f := ω) hx hb hK hH hY.2.2.2.2.2.2 dX9_presses_53 ?_ (by omega) (by omega)
            refine j_norm (y := (ω (((4 * (σ 11)) - 4)).toNat)) rfl ?_
            refine lv_aload_n hx hb dX9_presses_54 rfl (lv_at hl 1 rfl) ?_
            refine m_get (C := RX9) (T := TX9) (N := 13) (ci := 8) hx hb hts i_X9 hown hK hH hY.1 rfl 0 (by decide) f_0 rfl dX9_presses_55 ?_
            refine j_const hx hb dX9_presses_58 ?_
            refine m_iald (nA := 163) (f := (nPr σ k t.toNat)) hx hb hK hH hY.2.1 dX9_presses_59 ?_ (by omega) (by omega)
            refine j_norm (y := ((nPr σ k t.toNat) 3)) rfl ?_
            refine j_norm (y := (σ 3)) h3q ?_
            refine j_icmp_ne (tgt := 67) hx hb dX9_presses_60 (by decide) (fun c17 => ?_) (fun c17 => ?_) (by omega) (by omega)
            · skip
              refine j_const hx hb dX9_presses_67 ?_
              refine lv_istore (lv' := [(5, .int (iv 0)), (4, .int (iv (σ 11))), (0, .ref yy), (1, .int (iv k)), (2, .int (iv t)), (3, .int (iv a0))]) hx hb dX9_presses_68 hl (by decide) rfl (fun ls hl => ?_)
              refine lv_iload hx hb dX9_presses_70 (lv_at hl 0 rfl) ?_
              refine j_if_eq (tgt := 89) hx hb dX9_presses_72 (by decide) (fun c18 => ?_) (fun c18 => absurd c18 (by omega)) (by omega)
              refine lv_aload_n hx hb dX9_presses_89 rfl (lv_at hl 2 rfl) ?_
              refine m_get (C := RX9) (T := TX9) (N := 13) (ci := 8) hx hb hts i_X9 hown hK hH hY.1 rfl 9 (by decide) f_2 rfl dX9_presses_90 ?_
              refine j_const hx hb dX9_presses_93 ?_
              refine j_iadd hx hb dX9_presses_94 ?_
              refine lv_istore (lv' := [(6, .int (iv (en + 1))), (5, .int (iv 0)), (4, .int (iv (σ 11))), (0, .ref yy), (1, .int (iv k)), (2, .int (iv t)), (3, .int (iv a0))]) hx hb dX9_presses_95 hl (by decide) rfl (fun ls hl => ?_)
              refine lv_aload_n hx hb dX9_presses_97 rfl (lv_at hl 3 rfl) ?_
              refine lv_iload hx hb dX9_presses_98 (lv_at hl 0 rfl) ?_
              refine lv_aload_n hx hb dX9_presses_100 rfl (lv_at hl 3 rfl) ?_
              refine m_get (C := RX9) (T := TX9) (N := 13) (ci := 8) hx hb hts i_X9 hown hK hH hY.1 rfl 9 (by decide) f_2 rfl dX9_presses_101 ?_
              refine j_icmp_le (tgt := 112) hx hb dX9_presses_104 (by decide) (fun c19 => absurd c19 (by omega)) (fun c19 => ?_) (by omega) (by omega)
              refine lv_iload hx hb dX9_presses_107 (lv_at hl 0 rfl) ?_
              refine lv_goto (tgt := 116) hx hb dX9_presses_109 (by decide) ?_
              refine m_put (C := RX9) (T := TX9) (N := 13) (ci := 8) hx hb hts i_X9 tyX9 tyX9_ok nmX9 hown hK hH hS hY.1 rfl 9 (by decide) f_2 rfl rfl rfl (Nat.le_of_ble_eq_true rfl) dX9_presses_116 (fun H locs hH hS => ?_)
              obtain ⟨ν20, hY, hfr, hH⟩ : ∃ ξ : hM, IsMM G ξ yy (nPr σ k t.toNat) α β κ χ ω kn ik ln (en + 1) fr pl wr ∧ MFr yy μ ξ ∧ gP G ξ ν0 H := hY.w0 hfr hH
              have hH : gP G ν20 ν0 H := hH
              refine lv_iload hx hb dX9_presses_119 (lv_at hl 1 rfl) ?_
              refine j_if_eq (tgt := 138) hx hb dX9_presses_121 (by decide) (fun c21 => ?_) (fun c21 => absurd c21 (by omega)) (by omega)
              refine j_const hx hb dX9_presses_138 ?_
              refine lv_istore (lv' := [(7, .int (iv 0)), (6, .int (iv (en + 1))), (5, .int (iv 0)), (4, .int (iv (σ 11))), (0, .ref yy), (1, .int (iv k)), (2, .int (iv t)), (3, .int (iv a0))]) hx hb dX9_presses_139 hl (by decide) rfl (fun ls hl => ?_)
              refine lv_iload hx hb dX9_presses_141 (lv_at hl 2 rfl) ?_
              refine j_if_eq (tgt := 160) hx hb dX9_presses_143 (by decide) (fun c22 => ?_) (fun c22 => absurd c22 (by omega)) (by omega)
              refine lv_iload hx hb dX9_presses_160 (lv_at hl 3 rfl) ?_
              refine lv_istore (lv' := [(8, .int (iv (σ 11))), (7, .int (iv 0)), (6, .int (iv (en + 1))), (5, .int (iv 0)), (4, .int (iv (σ 11))), (0, .ref yy), (1, .int (iv k)), (2, .int (iv t)), (3, .int (iv a0))]) hx hb dX9_presses_162 hl (by decide) rfl (fun ls hl => ?_)
              refine lv_iload hx hb dX9_presses_164 (lv_at hl 3 rfl) ?_
              refine j_if_eq (tgt := 183) hx hb dX9_presses_166 (by decide) (fun c23 => ?_) (fun c23 => absurd c23 (by omega)) (by omega)
              refine lv_iload hx hb dX9_presses_183 (lv_at hl 4 rfl) ?_
              refine j_if_le (tgt := 204) hx hb dX9_presses_185 (by decide) (fun c24 => absurd c24 (by omega)) (fun c24 => ?_) (by omega)
              refine lv_aload_n hx hb dX9_presses_188 rfl (lv_at hl 5 rfl) ?_
              refine m_get (C := RX9) (T := TX9) (N := 13) (ci := 8) hx hb hts i_X9 hown hK hH hY.1 rfl 8 (by decide) f_3 rfl dX9_presses_189 ?_
              refine j_const hx hb dX9_presses_192 ?_
              refine lv_iload hx hb dX9_presses_193 (lv_at hl 4 rfl) ?_
              refine j_imul hx hb dX9_presses_195 ?_
              refine j_const hx hb dX9_presses_196 ?_
              refine j_isub hx hb dX9_presses_197 ?_
              refine m_iald (nA := 24000) (f := ω) hx hb hK hH hY.2.2.2.2.2.2 dX9_presses_198 ?_ (by omega) (by omega)
              refine j_norm (y := (ω (((4 * (σ 11)) - 1)).toNat)) rfl ?_
              refine j_const hx hb dX9_presses_199 ?_
              refine j_iadd hx hb dX9_presses_200 ?_
              refine lv_goto (tgt := 205) hx hb dX9_presses_201 (by decide) ?_
              refine lv_istore (lv' := [(9, .int (iv ((ω (((4 * (σ 11)) - 1)).toNat) + 1))), (8, .int (iv (σ 11))), (7, .int (iv 0)), (6, .int (iv (en + 1))), (5, .int (iv 0)), (4, .int (iv (σ 11))), (0, .ref yy), (1, .int (iv k)), (2, .int (iv t)), (3, .int (iv a0))]) hx hb dX9_presses_205 hl (by decide) rfl (fun ls hl => ?_)
              refine lv_aload_n hx hb dX9_presses_207 rfl (lv_at hl 6 rfl) ?_
              refine m_get (C := RX9) (T := TX9) (N := 13) (ci := 8) hx hb hts i_X9 hown hK hH hY.1 rfl 8 (by decide) f_3 rfl dX9_presses_208 ?_
              refine j_const hx hb dX9_presses_211 ?_
              refine lv_iload hx hb dX9_presses_212 (lv_at hl 3 rfl) ?_
              refine j_imul hx hb dX9_presses_214 ?_
              refine j_const hx hb dX9_presses_215 ?_
              refine j_isub hx hb dX9_presses_216 ?_
              refine lv_aload_n hx hb dX9_presses_217 rfl (lv_at hl 6 rfl) ?_
              refine m_get (C := RX9) (T := TX9) (N := 13) (ci := 8) hx hb hts i_X9 hown hK hH hY.1 rfl 0 (by decide) f_0 rfl dX9_presses_218 ?_
              refine j_const hx hb dX9_presses_221 ?_
              refine m_iald (nA := 163) (f := (nPr σ k t.toNat)) hx hb hK hH hY.2.1 dX9_presses_222 ?_ (by omega) (by omega)
              refine j_norm (y := ((nPr σ k t.toNat) 3)) rfl ?_
              refine j_norm (y := (σ 3)) h3q ?_
              refine m_iast (nA := 24000) (f := ω) hx hb hK hH hS hY.2.2.2.2.2.2 dX9_presses_223 (fun H locs hH hS => ?_) (by omega) (by omega)
              obtain ⟨ν25, hY, hfr, hH⟩ : ∃ ξ : hM, IsMM G ξ yy (nPr σ k t.toNat) α β κ χ (fu ω (((4 * (en + 1)) - 4)).toNat (σ 3)) kn ik ln (en + 1) fr pl wr ∧ MFr yy μ ξ ∧ gP G ξ ν0 H := hY.w6 hfr hH
              have hH : gP G ν25 ν0 H := hH
              refine lv_aload_n hx hb dX9_presses_224 rfl (lv_at hl 6 rfl) ?_
              refine m_get (C := RX9) (T := TX9) (N := 13) (ci := 8) hx hb hts i_X9 hown hK hH hY.1 rfl 8 (by decide) f_3 rfl dX9_presses_225 ?_
              refine j_const hx hb dX9_presses_228 ?_
              refine lv_iload hx hb dX9_presses_229 (lv_at hl 3 rfl) ?_
              refine j_imul hx hb dX9_presses_231 ?_
              refine j_const hx hb dX9_presses_232 ?_
              refine j_isub hx hb dX9_presses_233 ?_
              refine lv_iload hx hb dX9_presses_234 (lv_at hl 2 rfl) ?_
              refine lv_iload_n hx hb dX9_presses_236 rfl (lv_at hl 9 rfl) ?_
              refine j_iadd hx hb dX9_presses_237 ?_
              refine m_iast (nA := 24000) (f := (fu ω (((4 * (en + 1)) - 4)).toNat (σ 3))) hx hb hK hH hS hY.2.2.2.2.2.2 dX9_presses_238 (fun H locs hH hS => ?_) (by omega) (by omega)
              obtain ⟨ν26, hY, hfr, hH⟩ : ∃ ξ : hM, IsMM G ξ yy (nPr σ k t.toNat) α β κ χ (fu (fu ω (((4 * (en + 1)) - 4)).toNat (σ 3)) (((4 * (en + 1)) - 3)).toNat (0 + a0)) kn ik ln (en + 1) fr pl wr ∧ MFr yy μ ξ ∧ gP G ξ ν0 H := hY.w6 hfr hH
              have hH : gP G ν26 ν0 H := hH
              refine lv_aload_n hx hb dX9_presses_239 rfl (lv_at hl 6 rfl) ?_
              refine m_get (C := RX9) (T := TX9) (N := 13) (ci := 8) hx hb hts i_X9 hown hK hH hY.1 rfl 8 (by decide) f_3 rfl dX9_presses_240 ?_
              refine j_const hx hb dX9_presses_243 ?_
              refine lv_iload hx hb dX9_presses_244 (lv_at hl 3 rfl) ?_
              refine j_imul hx hb dX9_presses_246 ?_
              refine j_const hx hb dX9_presses_247 ?_
              refine j_isub hx hb dX9_presses_248 ?_
              refine lv_iload hx hb dX9_presses_249 (lv_at hl 1 rfl) ?_
              refine m_iast (nA := 24000) (f := (fu (fu ω (((4 * (en + 1)) - 4)).toNat (σ 3)) (((4 * (en + 1)) - 3)).toNat (0 + a0))) hx hb hK hH hS hY.2.2.2.2.2.2 dX9_presses_251 (fun H locs hH hS => ?_) (by omega) (by omega)
              obtain ⟨ν27, hY, hfr, hH⟩ : ∃ ξ : hM, IsMM G ξ yy (nPr σ k t.toNat) α β κ χ (fu (fu (fu ω (((4 * (en + 1)) - 4)).toNat (σ 3)) (((4 * (en + 1)) - 3)).toNat (0 + a0)) (((4 * (en + 1)) - 2)).toNat (σ 11)) kn ik ln (en + 1) fr pl wr ∧ MFr yy μ ξ ∧ gP G ξ ν0 H := hY.w6 hfr hH
              have hH : gP G ν27 ν0 H := hH
              refine lv_aload_n hx hb dX9_presses_252 rfl (lv_at hl 6 rfl) ?_
              refine m_get (C := RX9) (T := TX9) (N := 13) (ci := 8) hx hb hts i_X9 hown hK hH hY.1 rfl 8 (by decide) f_3 rfl dX9_presses_253 ?_
              refine j_const hx hb dX9_presses_256 ?_
              refine lv_iload hx hb dX9_presses_257 (lv_at hl 3 rfl) ?_
              refine j_imul hx hb dX9_presses_259 ?_
              refine j_const hx hb dX9_presses_260 ?_
              refine j_isub hx hb dX9_presses_261 ?_
              refine lv_iload hx hb dX9_presses_262 (lv_at hl 0 rfl) ?_
              refine m_iast (nA := 24000) (f := (fu (fu (fu ω (((4 * (en + 1)) - 4)).toNat (σ 3)) (((4 * (en + 1)) - 3)).toNat (0 + a0)) (((4 * (en + 1)) - 2)).toNat (σ 11))) hx hb hK hH hS hY.2.2.2.2.2.2 dX9_presses_264 (fun H locs hH hS => ?_) (by omega) (by omega)
              obtain ⟨ν28, hY, hfr, hH⟩ : ∃ ξ : hM, IsMM G ξ yy (nPr σ k t.toNat) α β κ χ (fu (fu (fu (fu ω (((4 * (en + 1)) - 4)).toNat (σ 3)) (((4 * (en + 1)) - 3)).toNat (0 + a0)) (((4 * (en + 1)) - 2)).toNat (σ 11)) (((4 * (en + 1)) - 1)).toNat ((ω (((4 * (σ 11)) - 1)).toNat) + 1)) kn ik ln (en + 1) fr pl wr ∧ MFr yy μ ξ ∧ gP G ξ ν0 H := hY.w6 hfr hH
              have hH : gP G ν28 ν0 H := hH
              refine lv_aload_n hx hb dX9_presses_265 rfl (lv_at hl 6 rfl) ?_
              refine m_get (C := RX9) (T := TX9) (N := 13) (ci := 8) hx hb hts i_X9 hown hK hH hY.1 rfl 0 (by decide) f_0 rfl dX9_presses_266 ?_
              refine j_bipush hx hb dX9_presses_269 ?_ (by decide)
              refine lv_iload hx hb dX9_presses_271 (lv_at hl 3 rfl) ?_
              refine m_iast (nA := 163) (f := (nPr σ k t.toNat)) hx hb hK hH hS hY.2.1 dX9_presses_273 (fun H locs hH hS => ?_) (by omega) (by omega)
              obtain ⟨ν29, hY, hfr, hH⟩ : ∃ ξ : hM, IsMM G ξ yy (fu (nPr σ k t.toNat) 11 (en + 1)) α β κ χ (fu (fu (fu (fu ω (((4 * (en + 1)) - 4)).toNat (σ 3)) (((4 * (en + 1)) - 3)).toNat (0 + a0)) (((4 * (en + 1)) - 2)).toNat (σ 11)) (((4 * (en + 1)) - 1)).toNat ((ω (((4 * (σ 11)) - 1)).toNat) + 1)) kn ik ln (en + 1) fr pl wr ∧ MFr yy μ ξ ∧ gP G ξ ν0 H := hY.w1 hfr hH
              have hH : gP G ν29 ν0 H := hH
              refine lv_iload_n hx hb dX9_presses_274 rfl (lv_at hl 9 rfl) ?_
              subst hQ
              refine m_iret hx hb hr hlocks hH hS dX9_presses_275 ?_ (by omega)
              refine ⟨ha9, ?_, hfr⟩
              rw [← ha9]
              have hnn : ∀ d c t, cl = (d, c) :: t → d ≠ σ 3 := by intro d c t e; rw [hce] at e; cases e; omega
              have hdy : ω (4 * σ 11 - 1).toNat + 1 = (cl.length : Int) + 1 := by rw [hce, hω1]; simp
              exact ⟨_, (en + 1), (en + 1), hY, PrP.mk hPC hle (by omega) (by omega) hfx hnn hdy⟩
            · skip
              refine j_const hx hb dX9_presses_63 ?_
              refine lv_goto (tgt := 68) hx hb dX9_presses_64 (by decide) ?_
              refine lv_istore (lv' := [(5, .int (iv 1)), (4, .int (iv (σ 11))), (0, .ref yy), (1, .int (iv k)), (2, .int (iv t)), (3, .int (iv a0))]) hx hb dX9_presses_68 hl (by decide) rfl (fun ls hl => ?_)
              refine lv_iload hx hb dX9_presses_70 (lv_at hl 0 rfl) ?_
              refine j_if_eq (tgt := 89) hx hb dX9_presses_72 (by decide) (fun c30 => absurd c30 (by omega)) (fun c30 => ?_) (by omega)
              refine lv_iload hx hb dX9_presses_75 (lv_at hl 1 rfl) ?_
              refine lv_aload_n hx hb dX9_presses_77 rfl (lv_at hl 2 rfl) ?_
              refine m_get (C := RX9) (T := TX9) (N := 13) (ci := 8) hx hb hts i_X9 hown hK hH hY.1 rfl 10 (by decide) f_4 rfl dX9_presses_78 ?_
              refine j_icmp_lt (tgt := 89) hx hb dX9_presses_81 (by decide) (fun c31 => ?_) (fun c31 => ?_) (by omega) (by omega)
              · skip
                refine lv_aload_n hx hb dX9_presses_89 rfl (lv_at hl 2 rfl) ?_
                refine m_get (C := RX9) (T := TX9) (N := 13) (ci := 8) hx hb hts i_X9 hown hK hH hY.1 rfl 9 (by decide) f_2 rfl dX9_presses_90 ?_
                refine j_const hx hb dX9_presses_93 ?_
                refine j_iadd hx hb dX9_presses_94 ?_
                refine lv_istore (lv' := [(6, .int (iv (en + 1))), (5, .int (iv 1)), (4, .int (iv (σ 11))), (0, .ref yy), (1, .int (iv k)), (2, .int (iv t)), (3, .int (iv a0))]) hx hb dX9_presses_95 hl (by decide) rfl (fun ls hl => ?_)
                refine lv_aload_n hx hb dX9_presses_97 rfl (lv_at hl 3 rfl) ?_
                refine lv_iload hx hb dX9_presses_98 (lv_at hl 0 rfl) ?_
                refine lv_aload_n hx hb dX9_presses_100 rfl (lv_at hl 3 rfl) ?_
                refine m_get (C := RX9) (T := TX9) (N := 13) (ci := 8) hx hb hts i_X9 hown hK hH hY.1 rfl 9 (by decide) f_2 rfl dX9_presses_101 ?_
                refine j_icmp_le (tgt := 112) hx hb dX9_presses_104 (by decide) (fun c32 => absurd c32 (by omega)) (fun c32 => ?_) (by omega) (by omega)
                refine lv_iload hx hb dX9_presses_107 (lv_at hl 0 rfl) ?_
                refine lv_goto (tgt := 116) hx hb dX9_presses_109 (by decide) ?_
                refine m_put (C := RX9) (T := TX9) (N := 13) (ci := 8) hx hb hts i_X9 tyX9 tyX9_ok nmX9 hown hK hH hS hY.1 rfl 9 (by decide) f_2 rfl rfl rfl (Nat.le_of_ble_eq_true rfl) dX9_presses_116 (fun H locs hH hS => ?_)
                obtain ⟨ν33, hY, hfr, hH⟩ : ∃ ξ : hM, IsMM G ξ yy (nPr σ k t.toNat) α β κ χ ω kn ik ln (en + 1) fr pl wr ∧ MFr yy μ ξ ∧ gP G ξ ν0 H := hY.w0 hfr hH
                have hH : gP G ν33 ν0 H := hH
                refine lv_iload hx hb dX9_presses_119 (lv_at hl 1 rfl) ?_
                refine j_if_eq (tgt := 138) hx hb dX9_presses_121 (by decide) (fun c34 => absurd c34 (by omega)) (fun c34 => ?_) (by omega)
                refine lv_aload_n hx hb dX9_presses_124 rfl (lv_at hl 3 rfl) ?_
                refine m_get (C := RX9) (T := TX9) (N := 13) (ci := 8) hx hb hts i_X9 hown hK hH hY.1 rfl 8 (by decide) f_3 rfl dX9_presses_125 ?_
                refine j_const hx hb dX9_presses_128 ?_
                refine lv_iload hx hb dX9_presses_129 (lv_at hl 2 rfl) ?_
                refine j_imul hx hb dX9_presses_131 ?_
                refine j_const hx hb dX9_presses_132 ?_
                refine j_isub hx hb dX9_presses_133 ?_
                refine m_iald (nA := 24000) (f := ω) hx hb hK hH hY.2.2.2.2.2.2 dX9_presses_134 ?_ (by omega) (by omega)
                refine j_norm (y := (ω (((4 * (σ 11)) - 3)).toNat)) rfl ?_
                refine lv_goto (tgt := 139) hx hb dX9_presses_135 (by decide) ?_
                refine lv_istore (lv' := [(7, .int (iv (ω (((4 * (σ 11)) - 3)).toNat))), (6, .int (iv (en + 1))), (5, .int (iv 1)), (4, .int (iv (σ 11))), (0, .ref yy), (1, .int (iv k)), (2, .int (iv t)), (3, .int (iv a0))]) hx hb dX9_presses_139 hl (by decide) rfl (fun ls hl => ?_)
                refine lv_iload hx hb dX9_presses_141 (lv_at hl 2 rfl) ?_
                refine j_if_eq (tgt := 160) hx hb dX9_presses_143 (by decide) (fun c35 => absurd c35 (by omega)) (fun c35 => ?_) (by omega)
                refine lv_aload_n hx hb dX9_presses_146 rfl (lv_at hl 4 rfl) ?_
                refine m_get (C := RX9) (T := TX9) (N := 13) (ci := 8) hx hb hts i_X9 hown hK hH hY.1 rfl 8 (by decide) f_3 rfl dX9_presses_147 ?_
                refine j_const hx hb dX9_presses_150 ?_
                refine lv_iload hx hb dX9_presses_151 (lv_at hl 3 rfl) ?_
                refine j_imul hx hb dX9_presses_153 ?_
                refine j_const hx hb dX9_presses_154 ?_
                refine j_isub hx hb dX9_presses_155 ?_
                refine m_iald (nA := 24000) (f := ω) hx hb hK hH hY.2.2.2.2.2.2 dX9_presses_156 ?_ (by omega) (by omega)
                refine j_norm (y := (ω (((4 * (σ 11)) - 2)).toNat)) rfl ?_
                refine lv_goto (tgt := 162) hx hb dX9_presses_157 (by decide) ?_
                refine lv_istore (lv' := [(8, .int (iv (ω (((4 * (σ 11)) - 2)).toNat))), (7, .int (iv (ω (((4 * (σ 11)) - 3)).toNat))), (6, .int (iv (en + 1))), (5, .int (iv 1)), (4, .int (iv (σ 11))), (0, .ref yy), (1, .int (iv k)), (2, .int (iv t)), (3, .int (iv a0))]) hx hb dX9_presses_162 hl (by decide) rfl (fun ls hl => ?_)
                refine lv_iload hx hb dX9_presses_164 (lv_at hl 3 rfl) ?_
                refine j_if_eq (tgt := 183) hx hb dX9_presses_166 (by decide) (fun c36 => absurd c36 (by omega)) (fun c36 => ?_) (by omega)
                refine lv_aload_n hx hb dX9_presses_169 rfl (lv_at hl 5 rfl) ?_
                refine m_get (C := RX9) (T := TX9) (N := 13) (ci := 8) hx hb hts i_X9 hown hK hH hY.1 rfl 8 (by decide) f_3 rfl dX9_presses_170 ?_
                refine j_const hx hb dX9_presses_173 ?_
                refine lv_iload hx hb dX9_presses_174 (lv_at hl 4 rfl) ?_
                refine j_imul hx hb dX9_presses_176 ?_
                refine j_const hx hb dX9_presses_177 ?_
                refine j_isub hx hb dX9_presses_178 ?_
                refine m_iald (nA := 24000) (f := ω) hx hb hK hH hY.2.2.2.2.2.2 dX9_presses_179 ?_ (by omega) (by omega)
                refine j_norm (y := (ω (((4 * (σ 11)) - 1)).toNat)) rfl ?_
                refine lv_goto (tgt := 205) hx hb dX9_presses_180 (by decide) ?_
                refine lv_istore (lv' := [(9, .int (iv (ω (((4 * (σ 11)) - 1)).toNat))), (8, .int (iv (ω (((4 * (σ 11)) - 2)).toNat))), (7, .int (iv (ω (((4 * (σ 11)) - 3)).toNat))), (6, .int (iv (en + 1))), (5, .int (iv 1)), (4, .int (iv (σ 11))), (0, .ref yy), (1, .int (iv k)), (2, .int (iv t)), (3, .int (iv a0))]) hx hb dX9_presses_205 hl (by decide) rfl (fun ls hl => ?_)
                refine lv_aload_n hx hb dX9_presses_207 rfl (lv_at hl 6 rfl) ?_
                refine m_get (C := RX9) (T := TX9) (N := 13) (ci := 8) hx hb hts i_X9 hown hK hH hY.1 rfl 8 (by decide) f_3 rfl dX9_presses_208 ?_
                refine j_const hx hb dX9_presses_211 ?_
                refine lv_iload hx hb dX9_presses_212 (lv_at hl 3 rfl) ?_
                refine j_imul hx hb dX9_presses_214 ?_
                refine j_const hx hb dX9_presses_215 ?_
                refine j_isub hx hb dX9_presses_216 ?_
                refine lv_aload_n hx hb dX9_presses_217 rfl (lv_at hl 6 rfl) ?_
                refine m_get (C := RX9) (T := TX9) (N := 13) (ci := 8) hx hb hts i_X9 hown hK hH hY.1 rfl 0 (by decide) f_0 rfl dX9_presses_218 ?_
                refine j_const hx hb dX9_presses_221 ?_
                refine m_iald (nA := 163) (f := (nPr σ k t.toNat)) hx hb hK hH hY.2.1 dX9_presses_222 ?_ (by omega) (by omega)
                refine j_norm (y := ((nPr σ k t.toNat) 3)) rfl ?_
                refine j_norm (y := (σ 3)) h3q ?_
                refine m_iast (nA := 24000) (f := ω) hx hb hK hH hS hY.2.2.2.2.2.2 dX9_presses_223 (fun H locs hH hS => ?_) (by omega) (by omega)
                obtain ⟨ν37, hY, hfr, hH⟩ : ∃ ξ : hM, IsMM G ξ yy (nPr σ k t.toNat) α β κ χ (fu ω (((4 * (en + 1)) - 4)).toNat (σ 3)) kn ik ln (en + 1) fr pl wr ∧ MFr yy μ ξ ∧ gP G ξ ν0 H := hY.w6 hfr hH
                have hH : gP G ν37 ν0 H := hH
                refine lv_aload_n hx hb dX9_presses_224 rfl (lv_at hl 6 rfl) ?_
                refine m_get (C := RX9) (T := TX9) (N := 13) (ci := 8) hx hb hts i_X9 hown hK hH hY.1 rfl 8 (by decide) f_3 rfl dX9_presses_225 ?_
                refine j_const hx hb dX9_presses_228 ?_
                refine lv_iload hx hb dX9_presses_229 (lv_at hl 3 rfl) ?_
                refine j_imul hx hb dX9_presses_231 ?_
                refine j_const hx hb dX9_presses_232 ?_
                refine j_isub hx hb dX9_presses_233 ?_
                refine lv_iload hx hb dX9_presses_234 (lv_at hl 2 rfl) ?_
                refine lv_iload_n hx hb dX9_presses_236 rfl (lv_at hl 9 rfl) ?_
                refine j_iadd hx hb dX9_presses_237 ?_
                refine m_iast (nA := 24000) (f := (fu ω (((4 * (en + 1)) - 4)).toNat (σ 3))) hx hb hK hH hS hY.2.2.2.2.2.2 dX9_presses_238 (fun H locs hH hS => ?_) (by omega) (by omega)
                obtain ⟨ν38, hY, hfr, hH⟩ : ∃ ξ : hM, IsMM G ξ yy (nPr σ k t.toNat) α β κ χ (fu (fu ω (((4 * (en + 1)) - 4)).toNat (σ 3)) (((4 * (en + 1)) - 3)).toNat ((ω (((4 * (σ 11)) - 3)).toNat) + a0)) kn ik ln (en + 1) fr pl wr ∧ MFr yy μ ξ ∧ gP G ξ ν0 H := hY.w6 hfr hH
                have hH : gP G ν38 ν0 H := hH
                refine lv_aload_n hx hb dX9_presses_239 rfl (lv_at hl 6 rfl) ?_
                refine m_get (C := RX9) (T := TX9) (N := 13) (ci := 8) hx hb hts i_X9 hown hK hH hY.1 rfl 8 (by decide) f_3 rfl dX9_presses_240 ?_
                refine j_const hx hb dX9_presses_243 ?_
                refine lv_iload hx hb dX9_presses_244 (lv_at hl 3 rfl) ?_
                refine j_imul hx hb dX9_presses_246 ?_
                refine j_const hx hb dX9_presses_247 ?_
                refine j_isub hx hb dX9_presses_248 ?_
                refine lv_iload hx hb dX9_presses_249 (lv_at hl 1 rfl) ?_
                refine m_iast (nA := 24000) (f := (fu (fu ω (((4 * (en + 1)) - 4)).toNat (σ 3)) (((4 * (en + 1)) - 3)).toNat ((ω (((4 * (σ 11)) - 3)).toNat) + a0))) hx hb hK hH hS hY.2.2.2.2.2.2 dX9_presses_251 (fun H locs hH hS => ?_) (by omega) (by omega)
                obtain ⟨ν39, hY, hfr, hH⟩ : ∃ ξ : hM, IsMM G ξ yy (nPr σ k t.toNat) α β κ χ (fu (fu (fu ω (((4 * (en + 1)) - 4)).toNat (σ 3)) (((4 * (en + 1)) - 3)).toNat ((ω (((4 * (σ 11)) - 3)).toNat) + a0)) (((4 * (en + 1)) - 2)).toNat (ω (((4 * (σ 11)) - 2)).toNat)) kn ik ln (en + 1) fr pl wr ∧ MFr yy μ ξ ∧ gP G ξ ν0 H := hY.w6 hfr hH
                have hH : gP G ν39 ν0 H := hH
                refine lv_aload_n hx hb dX9_presses_252 rfl (lv_at hl 6 rfl) ?_
                refine m_get (C := RX9) (T := TX9) (N := 13) (ci := 8) hx hb hts i_X9 hown hK hH hY.1 rfl 8 (by decide) f_3 rfl dX9_presses_253 ?_
                refine j_const hx hb dX9_presses_256 ?_
                refine lv_iload hx hb dX9_presses_257 (lv_at hl 3 rfl) ?_
                refine j_imul hx hb dX9_presses_259 ?_
                refine j_const hx hb dX9_presses_260 ?_
                refine j_isub hx hb dX9_presses_261 ?_
                refine lv_iload hx hb dX9_presses_262 (lv_at hl 0 rfl) ?_
                refine m_iast (nA := 24000) (f := (fu (fu (fu ω (((4 * (en + 1)) - 4)).toNat (σ 3)) (((4 * (en + 1)) - 3)).toNat ((ω (((4 * (σ 11)) - 3)).toNat) + a0)) (((4 * (en + 1)) - 2)).toNat (ω (((4 * (σ 11)) - 2)).toNat))) hx hb hK hH hS hY.2.2.2.2.2.2 dX9_presses_264 (fun H locs hH hS => ?_) (by omega) (by omega)
                obtain ⟨ν40, hY, hfr, hH⟩ : ∃ ξ : hM, IsMM G ξ yy (nPr σ k t.toNat) α β κ χ (fu (fu (fu (fu ω (((4 * (en + 1)) - 4)).toNat (σ 3)) (((4 * (en + 1)) - 3)).toNat ((ω (((4 * (σ 11)) - 3)).toNat) + a0)) (((4 * (en + 1)) - 2)).toNat (ω (((4 * (σ 11)) - 2)).toNat)) (((4 * (en + 1)) - 1)).toNat (ω (((4 * (σ 11)) - 1)).toNat)) kn ik ln (en + 1) fr pl wr ∧ MFr yy μ ξ ∧ gP G ξ ν0 H := hY.w6 hfr hH
                have hH : gP G ν40 ν0 H := hH
                refine lv_aload_n hx hb dX9_presses_265 rfl (lv_at hl 6 rfl) ?_
                refine m_get (C := RX9) (T := TX9) (N := 13) (ci := 8) hx hb hts i_X9 hown hK hH hY.1 rfl 0 (by decide) f_0 rfl dX9_presses_266 ?_
                refine j_bipush hx hb dX9_presses_269 ?_ (by decide)
                refine lv_iload hx hb dX9_presses_271 (lv_at hl 3 rfl) ?_
                refine m_iast (nA := 163) (f := (nPr σ k t.toNat)) hx hb hK hH hS hY.2.1 dX9_presses_273 (fun H locs hH hS => ?_) (by omega) (by omega)
                obtain ⟨ν41, hY, hfr, hH⟩ : ∃ ξ : hM, IsMM G ξ yy (fu (nPr σ k t.toNat) 11 (en + 1)) α β κ χ (fu (fu (fu (fu ω (((4 * (en + 1)) - 4)).toNat (σ 3)) (((4 * (en + 1)) - 3)).toNat ((ω (((4 * (σ 11)) - 3)).toNat) + a0)) (((4 * (en + 1)) - 2)).toNat (ω (((4 * (σ 11)) - 2)).toNat)) (((4 * (en + 1)) - 1)).toNat (ω (((4 * (σ 11)) - 1)).toNat)) kn ik ln (en + 1) fr pl wr ∧ MFr yy μ ξ ∧ gP G ξ ν0 H := hY.w1 hfr hH
                have hH : gP G ν41 ν0 H := hH
                refine lv_iload_n hx hb dX9_presses_274 rfl (lv_at hl 9 rfl) ?_
                subst hQ
                refine m_iret hx hb hr hlocks hH hS dX9_presses_275 ?_ (by omega)
                refine ⟨ha9, ?_, hfr⟩
                rw [← ha9]
                exact ⟨_, (en + 1), (en + 1), hY, PrP.up hce hPC (by omega) hle (by omega) hfx (by omega) rfl rfl (Or.inr ⟨by omega, rfl, rfl⟩)⟩
              · skip
                refine lv_iload hx hb dX9_presses_84 (lv_at hl 1 rfl) ?_
                refine lv_goto (tgt := 95) hx hb dX9_presses_86 (by decide) ?_
                refine lv_istore (lv' := [(6, .int (iv (σ 11))), (5, .int (iv 1)), (4, .int (iv (σ 11))), (0, .ref yy), (1, .int (iv k)), (2, .int (iv t)), (3, .int (iv a0))]) hx hb dX9_presses_95 hl (by decide) rfl (fun ls hl => ?_)
                refine lv_aload_n hx hb dX9_presses_97 rfl (lv_at hl 3 rfl) ?_
                refine lv_iload hx hb dX9_presses_98 (lv_at hl 0 rfl) ?_
                refine lv_aload_n hx hb dX9_presses_100 rfl (lv_at hl 3 rfl) ?_
                refine m_get (C := RX9) (T := TX9) (N := 13) (ci := 8) hx hb hts i_X9 hown hK hH hY.1 rfl 9 (by decide) f_2 rfl dX9_presses_101 ?_
                refine j_icmp_le (tgt := 112) hx hb dX9_presses_104 (by decide) (fun c42 => ?_) (fun c42 => absurd c42 (by omega)) (by omega) (by omega)
                refine lv_aload_n hx hb dX9_presses_112 rfl (lv_at hl 3 rfl) ?_
                refine m_get (C := RX9) (T := TX9) (N := 13) (ci := 8) hx hb hts i_X9 hown hK hH hY.1 rfl 9 (by decide) f_2 rfl dX9_presses_113 ?_
                refine m_put (C := RX9) (T := TX9) (N := 13) (ci := 8) hx hb hts i_X9 tyX9 tyX9_ok nmX9 hown hK hH hS hY.1 rfl 9 (by decide) f_2 rfl rfl rfl (Nat.le_of_ble_eq_true rfl) dX9_presses_116 (fun H locs hH hS => ?_)
                obtain ⟨ν43, hY, hfr, hH⟩ : ∃ ξ : hM, IsMM G ξ yy (nPr σ k t.toNat) α β κ χ ω kn ik ln en fr pl wr ∧ MFr yy μ ξ ∧ gP G ξ ν0 H := hY.w0 hfr hH
                have hH : gP G ν43 ν0 H := hH
                refine lv_iload hx hb dX9_presses_119 (lv_at hl 1 rfl) ?_
                refine j_if_eq (tgt := 138) hx hb dX9_presses_121 (by decide) (fun c44 => absurd c44 (by omega)) (fun c44 => ?_) (by omega)
                refine lv_aload_n hx hb dX9_presses_124 rfl (lv_at hl 3 rfl) ?_
                refine m_get (C := RX9) (T := TX9) (N := 13) (ci := 8) hx hb hts i_X9 hown hK hH hY.1 rfl 8 (by decide) f_3 rfl dX9_presses_125 ?_
                refine j_const hx hb dX9_presses_128 ?_
                refine lv_iload hx hb dX9_presses_129 (lv_at hl 2 rfl) ?_
                refine j_imul hx hb dX9_presses_131 ?_
                refine j_const hx hb dX9_presses_132 ?_
                refine j_isub hx hb dX9_presses_133 ?_
                refine m_iald (nA := 24000) (f := ω) hx hb hK hH hY.2.2.2.2.2.2 dX9_presses_134 ?_ (by omega) (by omega)
                refine j_norm (y := (ω (((4 * (σ 11)) - 3)).toNat)) rfl ?_
                refine lv_goto (tgt := 139) hx hb dX9_presses_135 (by decide) ?_
                refine lv_istore (lv' := [(7, .int (iv (ω (((4 * (σ 11)) - 3)).toNat))), (6, .int (iv (σ 11))), (5, .int (iv 1)), (4, .int (iv (σ 11))), (0, .ref yy), (1, .int (iv k)), (2, .int (iv t)), (3, .int (iv a0))]) hx hb dX9_presses_139 hl (by decide) rfl (fun ls hl => ?_)
                refine lv_iload hx hb dX9_presses_141 (lv_at hl 2 rfl) ?_
                refine j_if_eq (tgt := 160) hx hb dX9_presses_143 (by decide) (fun c45 => absurd c45 (by omega)) (fun c45 => ?_) (by omega)
                refine lv_aload_n hx hb dX9_presses_146 rfl (lv_at hl 4 rfl) ?_
                refine m_get (C := RX9) (T := TX9) (N := 13) (ci := 8) hx hb hts i_X9 hown hK hH hY.1 rfl 8 (by decide) f_3 rfl dX9_presses_147 ?_
                refine j_const hx hb dX9_presses_150 ?_
                refine lv_iload hx hb dX9_presses_151 (lv_at hl 3 rfl) ?_
                refine j_imul hx hb dX9_presses_153 ?_
                refine j_const hx hb dX9_presses_154 ?_
                refine j_isub hx hb dX9_presses_155 ?_
                refine m_iald (nA := 24000) (f := ω) hx hb hK hH hY.2.2.2.2.2.2 dX9_presses_156 ?_ (by omega) (by omega)
                refine j_norm (y := (ω (((4 * (σ 11)) - 2)).toNat)) rfl ?_
                refine lv_goto (tgt := 162) hx hb dX9_presses_157 (by decide) ?_
                refine lv_istore (lv' := [(8, .int (iv (ω (((4 * (σ 11)) - 2)).toNat))), (7, .int (iv (ω (((4 * (σ 11)) - 3)).toNat))), (6, .int (iv (σ 11))), (5, .int (iv 1)), (4, .int (iv (σ 11))), (0, .ref yy), (1, .int (iv k)), (2, .int (iv t)), (3, .int (iv a0))]) hx hb dX9_presses_162 hl (by decide) rfl (fun ls hl => ?_)
                refine lv_iload hx hb dX9_presses_164 (lv_at hl 3 rfl) ?_
                refine j_if_eq (tgt := 183) hx hb dX9_presses_166 (by decide) (fun c46 => absurd c46 (by omega)) (fun c46 => ?_) (by omega)
                refine lv_aload_n hx hb dX9_presses_169 rfl (lv_at hl 5 rfl) ?_
                refine m_get (C := RX9) (T := TX9) (N := 13) (ci := 8) hx hb hts i_X9 hown hK hH hY.1 rfl 8 (by decide) f_3 rfl dX9_presses_170 ?_
                refine j_const hx hb dX9_presses_173 ?_
                refine lv_iload hx hb dX9_presses_174 (lv_at hl 4 rfl) ?_
                refine j_imul hx hb dX9_presses_176 ?_
                refine j_const hx hb dX9_presses_177 ?_
                refine j_isub hx hb dX9_presses_178 ?_
                refine m_iald (nA := 24000) (f := ω) hx hb hK hH hY.2.2.2.2.2.2 dX9_presses_179 ?_ (by omega) (by omega)
                refine j_norm (y := (ω (((4 * (σ 11)) - 1)).toNat)) rfl ?_
                refine lv_goto (tgt := 205) hx hb dX9_presses_180 (by decide) ?_
                refine lv_istore (lv' := [(9, .int (iv (ω (((4 * (σ 11)) - 1)).toNat))), (8, .int (iv (ω (((4 * (σ 11)) - 2)).toNat))), (7, .int (iv (ω (((4 * (σ 11)) - 3)).toNat))), (6, .int (iv (σ 11))), (5, .int (iv 1)), (4, .int (iv (σ 11))), (0, .ref yy), (1, .int (iv k)), (2, .int (iv t)), (3, .int (iv a0))]) hx hb dX9_presses_205 hl (by decide) rfl (fun ls hl => ?_)
                refine lv_aload_n hx hb dX9_presses_207 rfl (lv_at hl 6 rfl) ?_
                refine m_get (C := RX9) (T := TX9) (N := 13) (ci := 8) hx hb hts i_X9 hown hK hH hY.1 rfl 8 (by decide) f_3 rfl dX9_presses_208 ?_
                refine j_const hx hb dX9_presses_211 ?_
                refine lv_iload hx hb dX9_presses_212 (lv_at hl 3 rfl) ?_
                refine j_imul hx hb dX9_presses_214 ?_
                refine j_const hx hb dX9_presses_215 ?_
                refine j_isub hx hb dX9_presses_216 ?_
                refine lv_aload_n hx hb dX9_presses_217 rfl (lv_at hl 6 rfl) ?_
                refine m_get (C := RX9) (T := TX9) (N := 13) (ci := 8) hx hb hts i_X9 hown hK hH hY.1 rfl 0 (by decide) f_0 rfl dX9_presses_218 ?_
                refine j_const hx hb dX9_presses_221 ?_
                refine m_iald (nA := 163) (f := (nPr σ k t.toNat)) hx hb hK hH hY.2.1 dX9_presses_222 ?_ (by omega) (by omega)
                refine j_norm (y := ((nPr σ k t.toNat) 3)) rfl ?_
                refine j_norm (y := (σ 3)) h3q ?_
                refine m_iast (nA := 24000) (f := ω) hx hb hK hH hS hY.2.2.2.2.2.2 dX9_presses_223 (fun H locs hH hS => ?_) (by omega) (by omega)
                obtain ⟨ν47, hY, hfr, hH⟩ : ∃ ξ : hM, IsMM G ξ yy (nPr σ k t.toNat) α β κ χ (fu ω (((4 * (σ 11)) - 4)).toNat (σ 3)) kn ik ln en fr pl wr ∧ MFr yy μ ξ ∧ gP G ξ ν0 H := hY.w6 hfr hH
                have hH : gP G ν47 ν0 H := hH
                refine lv_aload_n hx hb dX9_presses_224 rfl (lv_at hl 6 rfl) ?_
                refine m_get (C := RX9) (T := TX9) (N := 13) (ci := 8) hx hb hts i_X9 hown hK hH hY.1 rfl 8 (by decide) f_3 rfl dX9_presses_225 ?_
                refine j_const hx hb dX9_presses_228 ?_
                refine lv_iload hx hb dX9_presses_229 (lv_at hl 3 rfl) ?_
                refine j_imul hx hb dX9_presses_231 ?_
                refine j_const hx hb dX9_presses_232 ?_
                refine j_isub hx hb dX9_presses_233 ?_
                refine lv_iload hx hb dX9_presses_234 (lv_at hl 2 rfl) ?_
                refine lv_iload_n hx hb dX9_presses_236 rfl (lv_at hl 9 rfl) ?_
                refine j_iadd hx hb dX9_presses_237 ?_
                refine m_iast (nA := 24000) (f := (fu ω (((4 * (σ 11)) - 4)).toNat (σ 3))) hx hb hK hH hS hY.2.2.2.2.2.2 dX9_presses_238 (fun H locs hH hS => ?_) (by omega) (by omega)
                obtain ⟨ν48, hY, hfr, hH⟩ : ∃ ξ : hM, IsMM G ξ yy (nPr σ k t.toNat) α β κ χ (fu (fu ω (((4 * (σ 11)) - 4)).toNat (σ 3)) (((4 * (σ 11)) - 3)).toNat ((ω (((4 * (σ 11)) - 3)).toNat) + a0)) kn ik ln en fr pl wr ∧ MFr yy μ ξ ∧ gP G ξ ν0 H := hY.w6 hfr hH
                have hH : gP G ν48 ν0 H := hH
                refine lv_aload_n hx hb dX9_presses_239 rfl (lv_at hl 6 rfl) ?_
                refine m_get (C := RX9) (T := TX9) (N := 13) (ci := 8) hx hb hts i_X9 hown hK hH hY.1 rfl 8 (by decide) f_3 rfl dX9_presses_240 ?_
                refine j_const hx hb dX9_presses_243 ?_
                refine lv_iload hx hb dX9_presses_244 (lv_at hl 3 rfl) ?_
                refine j_imul hx hb dX9_presses_246 ?_
                refine j_const hx hb dX9_presses_247 ?_
                refine j_isub hx hb dX9_presses_248 ?_
                refine lv_iload hx hb dX9_presses_249 (lv_at hl 1 rfl) ?_
                refine m_iast (nA := 24000) (f := (fu (fu ω (((4 * (σ 11)) - 4)).toNat (σ 3)) (((4 * (σ 11)) - 3)).toNat ((ω (((4 * (σ 11)) - 3)).toNat) + a0))) hx hb hK hH hS hY.2.2.2.2.2.2 dX9_presses_251 (fun H locs hH hS => ?_) (by omega) (by omega)
                obtain ⟨ν49, hY, hfr, hH⟩ : ∃ ξ : hM, IsMM G ξ yy (nPr σ k t.toNat) α β κ χ (fu (fu (fu ω (((4 * (σ 11)) - 4)).toNat (σ 3)) (((4 * (σ 11)) - 3)).toNat ((ω (((4 * (σ 11)) - 3)).toNat) + a0)) (((4 * (σ 11)) - 2)).toNat (ω (((4 * (σ 11)) - 2)).toNat)) kn ik ln en fr pl wr ∧ MFr yy μ ξ ∧ gP G ξ ν0 H := hY.w6 hfr hH
                have hH : gP G ν49 ν0 H := hH
                refine lv_aload_n hx hb dX9_presses_252 rfl (lv_at hl 6 rfl) ?_
                refine m_get (C := RX9) (T := TX9) (N := 13) (ci := 8) hx hb hts i_X9 hown hK hH hY.1 rfl 8 (by decide) f_3 rfl dX9_presses_253 ?_
                refine j_const hx hb dX9_presses_256 ?_
                refine lv_iload hx hb dX9_presses_257 (lv_at hl 3 rfl) ?_
                refine j_imul hx hb dX9_presses_259 ?_
                refine j_const hx hb dX9_presses_260 ?_
                refine j_isub hx hb dX9_presses_261 ?_
                refine lv_iload hx hb dX9_presses_262 (lv_at hl 0 rfl) ?_
                refine m_iast (nA := 24000) (f := (fu (fu (fu ω (((4 * (σ 11)) - 4)).toNat (σ 3)) (((4 * (σ 11)) - 3)).toNat ((ω (((4 * (σ 11)) - 3)).toNat) + a0)) (((4 * (σ 11)) - 2)).toNat (ω (((4 * (σ 11)) - 2)).toNat))) hx hb hK hH hS hY.2.2.2.2.2.2 dX9_presses_264 (fun H locs hH hS => ?_) (by omega) (by omega)
                obtain ⟨ν50, hY, hfr, hH⟩ : ∃ ξ : hM, IsMM G ξ yy (nPr σ k t.toNat) α β κ χ (fu (fu (fu (fu ω (((4 * (σ 11)) - 4)).toNat (σ 3)) (((4 * (σ 11)) - 3)).toNat ((ω (((4 * (σ 11)) - 3)).toNat) + a0)) (((4 * (σ 11)) - 2)).toNat (ω (((4 * (σ 11)) - 2)).toNat)) (((4 * (σ 11)) - 1)).toNat (ω (((4 * (σ 11)) - 1)).toNat)) kn ik ln en fr pl wr ∧ MFr yy μ ξ ∧ gP G ξ ν0 H := hY.w6 hfr hH
                have hH : gP G ν50 ν0 H := hH
                refine lv_aload_n hx hb dX9_presses_265 rfl (lv_at hl 6 rfl) ?_
                refine m_get (C := RX9) (T := TX9) (N := 13) (ci := 8) hx hb hts i_X9 hown hK hH hY.1 rfl 0 (by decide) f_0 rfl dX9_presses_266 ?_
                refine j_bipush hx hb dX9_presses_269 ?_ (by decide)
                refine lv_iload hx hb dX9_presses_271 (lv_at hl 3 rfl) ?_
                refine m_iast (nA := 163) (f := (nPr σ k t.toNat)) hx hb hK hH hS hY.2.1 dX9_presses_273 (fun H locs hH hS => ?_) (by omega) (by omega)
                obtain ⟨ν51, hY, hfr, hH⟩ : ∃ ξ : hM, IsMM G ξ yy (fu (nPr σ k t.toNat) 11 (σ 11)) α β κ χ (fu (fu (fu (fu ω (((4 * (σ 11)) - 4)).toNat (σ 3)) (((4 * (σ 11)) - 3)).toNat ((ω (((4 * (σ 11)) - 3)).toNat) + a0)) (((4 * (σ 11)) - 2)).toNat (ω (((4 * (σ 11)) - 2)).toNat)) (((4 * (σ 11)) - 1)).toNat (ω (((4 * (σ 11)) - 1)).toNat)) kn ik ln en fr pl wr ∧ MFr yy μ ξ ∧ gP G ξ ν0 H := hY.w1 hfr hH
                have hH : gP G ν51 ν0 H := hH
                refine lv_iload_n hx hb dX9_presses_274 rfl (lv_at hl 9 rfl) ?_
                subst hQ
                refine m_iret hx hb hr hlocks hH hS dX9_presses_275 ?_ (by omega)
                refine ⟨ha9, ?_, hfr⟩
                rw [← ha9]
                exact ⟨_, en, (σ 11), hY, PrP.up hce hPC (by omega) hle (by omega) hfx (by omega) rfl rfl (Or.inl ⟨by omega, rfl, rfl⟩)⟩
      · skip
        refine lv_iload_n hx hb dX9_presses_11 rfl (lv_at hl 3 rfl) ?_
        refine lv_aload_n hx hb dX9_presses_12 rfl (lv_at hl 0 rfl) ?_
        refine lv_iload_n hx hb dX9_presses_13 rfl (lv_at hl 1 rfl) ?_
        refine m_callVi (As := [.int (iv k)]) (rest := [.int (iv a0)]) ⟨hx, hb, hml, hown, hts⟩ hK hH hS (c_X9_prints l G ν ν0 yy τ α β κ χ ω kn ik ln en fr pl wr hY k hO2 h32 h122 (by omega)) (cwV 1 hts gX9_presses_X9_prints rfl rfl rfl (by decide +kernel) ⟨(Nat.le_of_ble_eq_true rfl), (Nat.le_of_ble_eq_true rfl)⟩) hY.1 rfl rfl rfl rfl hl.1 (Nat.le_of_ble_eq_true rfl) dX9_presses_14 ⟨Nat.zero_le _, Nat.zero_le _⟩ (fun z55 μ52 n53 H locs hz55 hp54 hH hS => ?_)
        obtain ⟨hz9, hY, hfr1⟩ := hp54
        have hfr := hfr.tr hfr1
        clear hfr1
        rw [hz9]
        clear hz9
        refine j_iadd hx hb dX9_presses_17 ?_
        refine lv_istore_n (lv' := [(3, .int (iv (a0 + (rtF τ (dig (τ 3)) k)))), (0, .ref yy), (1, .int (iv k)), (2, .int (iv t)), (4, .int (iv (kk : Int)))]) hx hb dX9_presses_18 rfl hl (by decide) rfl (fun ls hl => ?_)
        refine j_iinc (lv' := [(4, .int (iv ((kk : Int) + 1))), (3, .int (iv (a0 + (rtF τ (dig (τ 3)) k)))), (0, .ref yy), (1, .int (iv k)), (2, .int (iv t))]) hx hb dX9_presses_19 hl (k := 4) rfl (by decide) rfl (fun ls hl => ?_)
        refine lv_goto (tgt := 5) hx hb dX9_presses_22 (by decide) ?_
        exact ih1 (kk + 1) (a0 + (rtF τ (dig (τ 3)) k)) (prF τ k) μ52 n53 hY hfr (by omega) (by rw [hτ]; rfl) (by rw [ha, hτ]; rfl) (by omega) H locs ls hH hS (lv_sub hl [2, 3, 4, 1, 0] rfl)
  exact lp5 (t.toNat + 1) 0 0 σ μ n hY hfr (by omega) rfl rfl (by omega) H locs ls hH hS (lv_sub hl [2, 3, 4, 1, 0] rfl)

abbrev rm_t_X9_pass : Room := { frames := 2, cells := 0, slots := 0, locals := 43 }
set_option maxHeartbeats 4000000 in
set_option maxRecDepth 100000 in
theorem t_X9_pass (l : Launch) (G : wG) (μ : hM) (n : Nat) (yy : Nat) (u0 : aS) (en : Int) (k : Int) (hM0 : IsM G μ yy u0 en) (hen : en ≤ 5900) (hO : OkD (aD u0)) (hBk : -2147483648 ≤ k ∧ k ≤ 2147483647) : Met l yX9_pass wsX9_pass rm_t_X9_pass (mPc G μ n [.ref yy, .int (iv k)]) (mQi G (fun z μ1 n1 => z = (a_pass u0 k).2 ∧ IsM G μ1 yy (a_pass u0 k).1 en ∧ MFr yy μ μ1)) 0 0 (gA G) := by
  refine Met.ofW (cc := cX9_pass) (maxL := 2) (ret := (some .int)) (by decide) rfl ?_
  intro p e s m args below meth c s₁ B hml hv
  obtain ⟨hav, hK, hH⟩ := hv
  have hx := B.exec
  have hb := B.bytes
  have hr := B.returns
  have hts := atoms_spec (ws := wsX9_pass) B.pre
  have hown : s.vm.findClass RX9 = some m.cls := findClass_of_methodNamed B.named
  have hlocks := B.notSynchronized
  have hS : va_S (gA G) s.heap s.heap [] := va_S.rf
  have hl := lv_entry ([.ref yy, .int (iv k)]) (n := 2) (Nat.le_of_ble_eq_true rfl)
  have hfr : entryFrame m args 2 = entryFrame m ([.ref yy, .int (iv k)] : List Value).toArray 2 := by rw [hav]
  rw [hfr, lg_entry_eq]
  generalize (lg_sl ([.ref yy, .int (iv k)]) ++ List.replicate (2 - (lg_sl ([.ref yy, .int (iv k)])).length) Slot.unset).toArray = ls at hl ⊢
  have hl : lv_has ls 2 [(0, .ref yy), (1, .int (iv k))] := hl
  generalize hQ : MQ below _ args s 0 0 (gA G) = Q
  show W p l e rm_t_X9_pass s m args below meth c s.heap [] 0 0 Q (F0 m 0 ls [])
  obtain ⟨H, hHe⟩ : ∃ H, H = s.heap := ⟨_, rfl⟩
  obtain ⟨locs, hlo⟩ : ∃ q : List Loc, q = [] := ⟨_, rfl⟩
  have hH : gP G μ n H := by rw [hHe]; exact hH
  have hS : va_S (gA G) s.heap H locs := by rw [hHe, hlo]; exact hS
  suffices hgo : W p l e rm_t_X9_pass s m args below meth c H locs 0 0 Q (F0 m 0 ls []) by rw [hHe, hlo] at hgo; exact hgo
  clear hHe hlo hfr hav
  have f_0 := hts (.fieldLink RX9 7 "StampDaterModel" "s" "[I") (List.mem_of_getElem? (i := 1) rfl)
  have i_X9 : ∀ w ∈ u_ws RX9 TX9 13, w ∈ wsX9_pass := by decide +kernel
  have f_2 := hts (.constant RX9 36 (36524)) (List.mem_of_getElem? (i := 2) rfl)
  have hfr : MFr yy μ μ := MFr.rf
  obtain ⟨α, β, κ, ω, fr, pl, wr, hY, hR⟩ := hM0
  have hT := hO.1
  have hOk := hT.1
  have h3 := hT.2.1
  have h5 := hT.2.2.1
  have h4 := hOk.2.2.2.1
  have hPD := hR.1
  have hen0 := hR.2.2.2.1
  have hkn := hR.2.2.2.2.1
  have hik := hR.2.2.2.2.2.1
  have hOC := hR.2.2.2.2.2.2
  have hl0 := hOC.1
  refine lv_iload_n hx hb dX9_pass_0 rfl (lv_at hl 1 rfl) ?_
  refine j_const hx hb dX9_pass_1 ?_
  refine j_sipush hx hb dX9_pass_2 ?_ (by decide)
  refine m_callSi (As := [.int (iv k), .int (iv 1), .int (iv 999)]) (rest := []) ⟨hx, hb, hml, hown, hts⟩ hK hH hS (c_X9_in l G μ n k 1 999 (by omega) (by omega) (by omega)) (va_cwS 3 hts gX9_pass_X9_in rfl rfl rfl (by decide +kernel) ⟨(Nat.le_of_ble_eq_true rfl), (Nat.le_of_ble_eq_true rfl)⟩) rfl rfl hl.1 (Nat.le_of_ble_eq_true rfl) dX9_pass_5 ⟨Nat.zero_le _, Nat.zero_le _⟩ (fun z4 μ1 n2 H locs hz4 hp3 hH hS => ?_)
  obtain ⟨hz9, hm9, hn9⟩ := hp3
  rw [hm9, hn9] at hH
  have hz4c : (z4 = 1 ∧ (1 ≤ k ∧ k ≤ 999)) ∨ (z4 = 0 ∧ ¬ (1 ≤ k ∧ k ≤ 999)) := by
    by_cases q9 : 1 ≤ k ∧ k ≤ 999
    · rw [if_pos q9] at hz9; exact Or.inl ⟨hz9, q9⟩
    · rw [if_neg q9] at hz9; exact Or.inr ⟨hz9, q9⟩
  clear hz9 hm9 hn9
  refine j_if_ne (tgt := 14) hx hb dX9_pass_8 (by decide) (fun c5 => ?_) (fun c5 => ?_) (by omega)
  · skip
    refine lv_aload_n hx hb dX9_pass_14 rfl (lv_at hl 0 rfl) ?_
    refine m_get (C := RX9) (T := TX9) (N := 13) (ci := 8) hx hb hts i_X9 hown hK hH hY.1 rfl 0 (by decide) f_0 rfl dX9_pass_15 ?_
    refine j_const hx hb dX9_pass_18 ?_
    refine m_iald (nA := 163) (f := ((aD u0).1)) hx hb hK hH hY.2.1 dX9_pass_19 ?_ (by omega) (by omega)
    refine j_norm (y := (((aD u0).1) 3)) rfl ?_
    refine lv_iload_n hx hb dX9_pass_20 rfl (lv_at hl 1 rfl) ?_
    refine j_iadd hx hb dX9_pass_21 ?_
    refine j_ldc hx hb (36524) hown f_2 dX9_pass_22 ?_ (by decide)
    refine j_icmp_le (tgt := 30) hx hb dX9_pass_24 (by decide) (fun c6 => ?_) (fun c6 => ?_) (by omega) (by omega)
    · skip
      refine lv_aload_n hx hb dX9_pass_30 rfl (lv_at hl 0 rfl) ?_
      refine m_callVv (As := []) (rest := []) ⟨hx, hb, hml, hown, hts⟩ hK hH hS (c_X9_putAside l G μ n yy ((aD u0).1) α β κ (aC u0) ω (aN u0) (aT u0) (aL u0) en fr pl wr hY ) (cwV 0 hts gX9_pass_X9_putAside rfl rfl rfl (by decide +kernel) ⟨(Nat.le_of_ble_eq_true rfl), (Nat.le_of_ble_eq_true rfl)⟩) hY.1 rfl rfl rfl rfl hl.1 (Nat.le_of_ble_eq_true rfl) dX9_pass_31 ⟨Nat.zero_le _, Nat.zero_le _⟩ (fun μ7 n8 H locs hp9 hH hS => ?_)
      obtain ⟨hY, hfr1⟩ := hp9
      have hfr := hfr.tr hfr1
      clear hfr1
      refine lv_aload_n hx hb dX9_pass_34 rfl (lv_at hl 0 rfl) ?_
      refine m_get (C := RX9) (T := TX9) (N := 13) (ci := 8) hx hb hts i_X9 hown hK hH hY.1 rfl 0 (by decide) f_0 rfl dX9_pass_35 ?_
      refine j_const hx hb dX9_pass_38 ?_
      refine lv_dup2_11 hx hb dX9_pass_39 rfl rfl ?_
      refine m_iald (nA := 163) (f := ((aD u0).1)) hx hb hK hH hY.2.1 dX9_pass_40 ?_ (by omega) (by omega)
      refine j_norm (y := (((aD u0).1) 3)) rfl ?_
      refine lv_iload_n hx hb dX9_pass_41 rfl (lv_at hl 1 rfl) ?_
      refine j_iadd hx hb dX9_pass_42 ?_
      refine m_iast (nA := 163) (f := ((aD u0).1)) hx hb hK hH hS hY.2.1 dX9_pass_43 (fun H locs hH hS => ?_) (by omega) (by omega)
      obtain ⟨ν10, hY, hfr, hH⟩ : ∃ ξ : hM, IsMM G ξ yy (fu ((aD u0).1) 3 ((((aD u0).1) 3) + k)) ((aD u0).1) β κ (aC u0) ω (aN u0) (aT u0) (aL u0) en (en + 1) pl wr ∧ MFr yy μ ξ ∧ gP G ξ n8 H := hY.w1 hfr hH
      have hH : gP G ν10 n8 H := hH
      refine lv_aload_n hx hb dX9_pass_44 rfl (lv_at hl 0 rfl) ?_
      refine lv_aload_n hx hb dX9_pass_45 rfl (lv_at hl 0 rfl) ?_
      refine m_get (C := RX9) (T := TX9) (N := 13) (ci := 8) hx hb hts i_X9 hown hK hH hY.1 rfl 0 (by decide) f_0 rfl dX9_pass_46 ?_
      refine j_const hx hb dX9_pass_49 ?_
      refine m_iald (nA := 163) (f := (fu ((aD u0).1) 3 ((((aD u0).1) 3) + k))) hx hb hK hH hY.2.1 dX9_pass_50 ?_ (by omega) (by omega)
      refine j_norm (y := ((fu ((aD u0).1) 3 ((((aD u0).1) 3) + k)) 3)) rfl ?_
      refine j_norm (y := ((aD u0).1 3 + k)) fu_s ?_
      refine m_callVi (As := [.int (iv ((aD u0).1 3 + k))]) (rest := []) ⟨hx, hb, hml, hown, hts⟩ hK hH hS (c_X9_act l G ν10 n8 yy (fu ((aD u0).1) 3 ((((aD u0).1) 3) + k)) ((aD u0).1) β κ (aC u0) ω (aN u0) (aT u0) (aL u0) en (en + 1) pl wr hY ((aD u0).1 3 + k) (by omega) (by omega)) (cwV 1 hts gX9_pass_X9_act rfl rfl rfl (by decide +kernel) ⟨(Nat.le_of_ble_eq_true rfl), (Nat.le_of_ble_eq_true rfl)⟩) hY.1 rfl rfl rfl rfl hl.1 (Nat.le_of_ble_eq_true rfl) dX9_pass_51 ⟨Nat.zero_le _, Nat.zero_le _⟩ (fun z14 μ11 n12 H locs hz14 hp13 hH hS => ?_)
      obtain ⟨hz9, hfr1, hn9, hp9⟩ := hp13
      have hfr := hfr.tr hfr1
      clear hfr1
      obtain ⟨β1, hY, hrel⟩ := hp9 (by omega)
      rw [hz9]
      clear hz9 hn9 hp9
      subst hQ
      refine m_iret hx hb hr hlocks hH hS dX9_pass_54 ?_ (by omega)
      unfold a_pass
      rw [if_pos (by omega), if_pos (by omega)]
      refine ⟨rfl, ⟨_, _, _, _, _, _, _, hY, hR.act (d := (fu (aD u0).1 3 ((aD u0).1 3 + k), (aD u0).2)) hrel (Int.le_refl _) (fun _ _ => rfl) (hPD.st (fu_n (by omega)) (by rw [fu_s]; omega))⟩, hfr⟩
    · skip
      refine j_bipush hx hb dX9_pass_27 ?_ (by decide)
      subst hQ
      refine m_iret hx hb hr hlocks hH hS dX9_pass_29 ?_ (by omega)
      unfold a_pass
      rw [if_pos (by omega), if_neg (by omega)]
      exact ⟨rfl, ⟨_, _, _, _, _, _, _, hY, hR⟩, hfr⟩
  · skip
    refine j_bipush hx hb dX9_pass_11 ?_ (by decide)
    subst hQ
    refine m_iret hx hb hr hlocks hH hS dX9_pass_13 ?_ (by omega)
    unfold a_pass
    rw [if_neg (by omega)]
    exact ⟨rfl, ⟨_, _, _, _, _, _, _, hY, hR⟩, hfr⟩

abbrev rm_t_X9_adjust : Room := { frames := 5, cells := 0, slots := 0, locals := 113 }
set_option maxHeartbeats 4000000 in
set_option maxRecDepth 100000 in
theorem t_X9_adjust (l : Launch) (G : wG) (μ : hM) (n : Nat) (yy : Nat) (u0 : aS) (en : Int) (k : Int) (hM0 : IsM G μ yy u0 en) (hen : en ≤ 5900) (hO : OkD (aD u0)) (hBk : -2147483648 ≤ k ∧ k ≤ 2147483647) : Met l yX9_adjust wsX9_adjust rm_t_X9_adjust (mPc G μ n [.ref yy, .int (iv k)]) (mQi G (fun z μ1 n1 => z = (a_adjust u0 k).2 ∧ IsM G μ1 yy (a_adjust u0 k).1 en ∧ MFr yy μ μ1)) 0 0 (gA G) := by
  refine Met.ofW (cc := cX9_adjust) (maxL := 2) (ret := (some .int)) (by decide) rfl ?_
  intro p e s m args below meth c s₁ B hml hv
  obtain ⟨hav, hK, hH⟩ := hv
  have hx := B.exec
  have hb := B.bytes
  have hr := B.returns
  have hts := atoms_spec (ws := wsX9_adjust) B.pre
  have hown : s.vm.findClass RX9 = some m.cls := findClass_of_methodNamed B.named
  have hlocks := B.notSynchronized
  have hS : va_S (gA G) s.heap s.heap [] := va_S.rf
  have hl := lv_entry ([.ref yy, .int (iv k)]) (n := 2) (Nat.le_of_ble_eq_true rfl)
  have hfr : entryFrame m args 2 = entryFrame m ([.ref yy, .int (iv k)] : List Value).toArray 2 := by rw [hav]
  rw [hfr, lg_entry_eq]
  generalize (lg_sl ([.ref yy, .int (iv k)]) ++ List.replicate (2 - (lg_sl ([.ref yy, .int (iv k)])).length) Slot.unset).toArray = ls at hl ⊢
  have hl : lv_has ls 2 [(0, .ref yy), (1, .int (iv k))] := hl
  generalize hQ : MQ below _ args s 0 0 (gA G) = Q
  show W p l e rm_t_X9_adjust s m args below meth c s.heap [] 0 0 Q (F0 m 0 ls [])
  obtain ⟨H, hHe⟩ : ∃ H, H = s.heap := ⟨_, rfl⟩
  obtain ⟨locs, hlo⟩ : ∃ q : List Loc, q = [] := ⟨_, rfl⟩
  have hH : gP G μ n H := by rw [hHe]; exact hH
  have hS : va_S (gA G) s.heap H locs := by rw [hHe, hlo]; exact hS
  suffices hgo : W p l e rm_t_X9_adjust s m args below meth c H locs 0 0 Q (F0 m 0 ls []) by rw [hHe, hlo] at hgo; exact hgo
  clear hHe hlo hfr hav
  have hfr : MFr yy μ μ := MFr.rf
  obtain ⟨α, β, κ, ω, fr, pl, wr, hY, hR⟩ := hM0
  have hT := hO.1
  have hOk := hT.1
  have h3 := hT.2.1
  have h5 := hT.2.2.1
  have h4 := hOk.2.2.2.1
  have hPD := hR.1
  have hen0 := hR.2.2.2.1
  have hkn := hR.2.2.2.2.1
  have hik := hR.2.2.2.2.2.1
  have hOC := hR.2.2.2.2.2.2
  have hl0 := hOC.1
  refine lv_iload_n hx hb dX9_adjust_0 rfl (lv_at hl 1 rfl) ?_
  refine m_callSi (As := [.int (iv k)]) (rest := []) ⟨hx, hb, hml, hown, hts⟩ hK hH hS (c_X9_isDay l G μ n k (by omega)) (va_cwS 1 hts gX9_adjust_X9_isDay rfl rfl rfl (by decide +kernel) ⟨(Nat.le_of_ble_eq_true rfl), (Nat.le_of_ble_eq_true rfl)⟩) rfl rfl hl.1 (Nat.le_of_ble_eq_true rfl) dX9_adjust_1 ⟨Nat.zero_le _, Nat.zero_le _⟩ (fun z4 μ1 n2 H locs hz4 hp3 hH hS => ?_)
  obtain ⟨hz9, hm9, hn9⟩ := hp3
  rw [hm9, hn9] at hH
  have hz4c : (z4 = 1 ∧ (0 ≤ k ∧ k ≤ 36524)) ∨ (z4 = 0 ∧ ¬ (0 ≤ k ∧ k ≤ 36524)) := by
    by_cases q9 : 0 ≤ k ∧ k ≤ 36524
    · rw [if_pos q9] at hz9; exact Or.inl ⟨hz9, q9⟩
    · rw [if_neg q9] at hz9; exact Or.inr ⟨hz9, q9⟩
  clear hz9 hm9 hn9
  refine j_if_ne (tgt := 9) hx hb dX9_adjust_4 (by decide) (fun c5 => ?_) (fun c5 => ?_) (by omega)
  · skip
    refine lv_aload_n hx hb dX9_adjust_9 rfl (lv_at hl 0 rfl) ?_
    refine m_callVv (As := []) (rest := []) ⟨hx, hb, hml, hown, hts⟩ hK hH hS (c_X9_putAside l G μ n yy ((aD u0).1) α β κ (aC u0) ω (aN u0) (aT u0) (aL u0) en fr pl wr hY ) (cwV 0 hts gX9_adjust_X9_putAside rfl rfl rfl (by decide +kernel) ⟨(Nat.le_of_ble_eq_true rfl), (Nat.le_of_ble_eq_true rfl)⟩) hY.1 rfl rfl rfl rfl hl.1 (Nat.le_of_ble_eq_true rfl) dX9_adjust_10 ⟨Nat.zero_le _, Nat.zero_le _⟩ (fun μ6 n7 H locs hp8 hH hS => ?_)
    obtain ⟨hY, hfr1⟩ := hp8
    have hfr := hfr.tr hfr1
    clear hfr1
    refine lv_aload_n hx hb dX9_adjust_13 rfl (lv_at hl 0 rfl) ?_
    refine lv_aload_n hx hb dX9_adjust_14 rfl (lv_at hl 0 rfl) ?_
    refine lv_iload_n hx hb dX9_adjust_15 rfl (lv_at hl 1 rfl) ?_
    refine m_callVi (As := [.int (iv k)]) (rest := [.ref yy]) ⟨hx, hb, hml, hown, hts⟩ hK hH hS (c_X9_adjusts l G μ6 n7 yy ((aD u0).1) ((aD u0).1) β κ (aC u0) ω (aN u0) (aT u0) (aL u0) en (en + 1) pl wr hY k hOk (by omega)) (cwV 1 hts gX9_adjust_X9_adjusts rfl rfl rfl (by decide +kernel) ⟨(Nat.le_of_ble_eq_true rfl), (Nat.le_of_ble_eq_true rfl)⟩) hY.1 rfl rfl rfl rfl hl.1 (Nat.le_of_ble_eq_true rfl) dX9_adjust_16 ⟨Nat.zero_le _, Nat.zero_le _⟩ (fun z12 μ9 n10 H locs hz12 hp11 hH hS => ?_)
    obtain ⟨hz9, hY, hfr1⟩ := hp11
    have hfr := hfr.tr hfr1
    clear hfr1
    rw [hz9]
    clear hz9
    have hwr := wsm_rng (aD u0).1 (dig k) 0 6
    refine m_callVi (As := [.int (iv (wsm ((aD u0).1) (dig k) 0 6))]) (rest := []) ⟨hx, hb, hml, hown, hts⟩ hK hH hS (c_X9_act l G μ9 n10 yy (adj ((aD u0).1) (dig k)) ((aD u0).1) β κ (aC u0) ω (aN u0) (aT u0) (aL u0) en (en + 1) pl wr hY (wsm ((aD u0).1) (dig k) 0 6) (by omega) (by omega)) (cwV 1 hts gX9_adjust_X9_act rfl rfl rfl (by decide +kernel) ⟨(Nat.le_of_ble_eq_true rfl), (Nat.le_of_ble_eq_true rfl)⟩) hY.1 rfl rfl rfl rfl hl.1 (Nat.le_of_ble_eq_true rfl) dX9_adjust_19 ⟨Nat.zero_le _, Nat.zero_le _⟩ (fun z16 μ13 n14 H locs hz16 hp15 hH hS => ?_)
    obtain ⟨hz9, hfr1, hn9, hp9⟩ := hp15
    have hfr := hfr.tr hfr1
    clear hfr1
    obtain ⟨β1, hY, hrel⟩ := hp9 (by omega)
    rw [hz9]
    clear hz9 hn9 hp9
    subst hQ
    refine m_iret hx hb hr hlocks hH hS dX9_adjust_22 ?_ (by omega)
    unfold a_adjust
    rw [if_pos (by omega)]
    refine ⟨rfl, ⟨_, _, _, _, _, _, _, hY, hR.act (d := (adj (aD u0).1 (dig k), (aD u0).2)) hrel (Int.le_refl _) (fun _ _ => rfl) (hPD.st (adj_ot (by omega) (by omega)) (by unfold adj; rw [adj_ot (by omega) (by omega)]; exact Int.le_refl _))⟩, hfr⟩
  · skip
    refine j_const hx hb dX9_adjust_7 ?_
    subst hQ
    refine m_iret hx hb hr hlocks hH hS dX9_adjust_8 ?_ (by omega)
    unfold a_adjust
    rw [if_neg (by omega)]
    exact ⟨rfl, ⟨_, _, _, _, _, _, _, hY, hR⟩, hfr⟩

abbrev rm_t_X9_turn : Room := { frames := 2, cells := 0, slots := 0, locals := 44 }
set_option maxHeartbeats 4000000 in
set_option maxRecDepth 100000 in
theorem t_X9_turn (l : Launch) (G : wG) (μ : hM) (n : Nat) (yy : Nat) (u0 : aS) (en : Int) (pa k : Int) (hM0 : IsM G μ yy u0 en) (hen : en ≤ 5900) (hO : OkD (aD u0)) (hBpa : -2147483648 ≤ pa ∧ pa ≤ 2147483647) (hBk : -2147483648 ≤ k ∧ k ≤ 2147483647) : Met l yX9_turn wsX9_turn rm_t_X9_turn (mPc G μ n [.ref yy, .int (iv pa), .int (iv k)]) (mQi G (fun z μ1 n1 => z = (a_turn u0 pa k).2 ∧ IsM G μ1 yy (a_turn u0 pa k).1 en ∧ MFr yy μ μ1)) 0 0 (gA G) := by
  refine Met.ofW (cc := cX9_turn) (maxL := 3) (ret := (some .int)) (by decide) rfl ?_
  intro p e s m args below meth c s₁ B hml hv
  obtain ⟨hav, hK, hH⟩ := hv
  have hx := B.exec
  have hb := B.bytes
  have hr := B.returns
  have hts := atoms_spec (ws := wsX9_turn) B.pre
  have hown : s.vm.findClass RX9 = some m.cls := findClass_of_methodNamed B.named
  have hlocks := B.notSynchronized
  have hS : va_S (gA G) s.heap s.heap [] := va_S.rf
  have hl := lv_entry ([.ref yy, .int (iv pa), .int (iv k)]) (n := 3) (Nat.le_of_ble_eq_true rfl)
  have hfr : entryFrame m args 3 = entryFrame m ([.ref yy, .int (iv pa), .int (iv k)] : List Value).toArray 3 := by rw [hav]
  rw [hfr, lg_entry_eq]
  generalize (lg_sl ([.ref yy, .int (iv pa), .int (iv k)]) ++ List.replicate (3 - (lg_sl ([.ref yy, .int (iv pa), .int (iv k)])).length) Slot.unset).toArray = ls at hl ⊢
  have hl : lv_has ls 3 [(0, .ref yy), (1, .int (iv pa)), (2, .int (iv k))] := hl
  generalize hQ : MQ below _ args s 0 0 (gA G) = Q
  show W p l e rm_t_X9_turn s m args below meth c s.heap [] 0 0 Q (F0 m 0 ls [])
  obtain ⟨H, hHe⟩ : ∃ H, H = s.heap := ⟨_, rfl⟩
  obtain ⟨locs, hlo⟩ : ∃ q : List Loc, q = [] := ⟨_, rfl⟩
  have hH : gP G μ n H := by rw [hHe]; exact hH
  have hS : va_S (gA G) s.heap H locs := by rw [hHe, hlo]; exact hS
  suffices hgo : W p l e rm_t_X9_turn s m args below meth c H locs 0 0 Q (F0 m 0 ls []) by rw [hHe, hlo] at hgo; exact hgo
  clear hHe hlo hfr hav
  have f_0 := hts (.fieldLink RX9 7 "StampDaterModel" "s" "[I") (List.mem_of_getElem? (i := 1) rfl)
  have i_X9 : ∀ w ∈ u_ws RX9 TX9 13, w ∈ wsX9_turn := by decide +kernel
  have hfr : MFr yy μ μ := MFr.rf
  obtain ⟨α, β, κ, ω, fr, pl, wr, hY, hR⟩ := hM0
  have hT := hO.1
  have hOk := hT.1
  have h3 := hT.2.1
  have h5 := hT.2.2.1
  have h4 := hOk.2.2.2.1
  have hPD := hR.1
  have hen0 := hR.2.2.2.1
  have hkn := hR.2.2.2.2.1
  have hik := hR.2.2.2.2.2.1
  have hOC := hR.2.2.2.2.2.2
  have hl0 := hOC.1
  refine lv_iload_n hx hb dX9_turn_0 rfl (lv_at hl 1 rfl) ?_
  refine m_callSi (As := [.int (iv pa)]) (rest := []) ⟨hx, hb, hml, hown, hts⟩ hK hH hS (c_X9_isPlace l G μ n pa (by omega)) (va_cwS 1 hts gX9_turn_X9_isPlace rfl rfl rfl (by decide +kernel) ⟨(Nat.le_of_ble_eq_true rfl), (Nat.le_of_ble_eq_true rfl)⟩) rfl rfl hl.1 (Nat.le_of_ble_eq_true rfl) dX9_turn_1 ⟨Nat.zero_le _, Nat.zero_le _⟩ (fun z4 μ1 n2 H locs hz4 hp3 hH hS => ?_)
  obtain ⟨hz9, hm9, hn9⟩ := hp3
  rw [hm9, hn9] at hH
  have hz4c : (z4 = 1 ∧ (0 ≤ pa ∧ pa ≤ 5)) ∨ (z4 = 0 ∧ ¬ (0 ≤ pa ∧ pa ≤ 5)) := by
    by_cases q9 : 0 ≤ pa ∧ pa ≤ 5
    · rw [if_pos q9] at hz9; exact Or.inl ⟨hz9, q9⟩
    · rw [if_neg q9] at hz9; exact Or.inr ⟨hz9, q9⟩
  clear hz9 hm9 hn9
  refine j_if_ne (tgt := 9) hx hb dX9_turn_4 (by decide) (fun c5 => ?_) (fun c5 => ?_) (by omega)
  · skip
    refine lv_iload_n hx hb dX9_turn_9 rfl (lv_at hl 2 rfl) ?_
    refine j_bipush hx hb dX9_turn_10 ?_ (by decide)
    refine j_bipush hx hb dX9_turn_12 ?_ (by decide)
    refine m_callSi (As := [.int (iv k), .int (iv (-9)), .int (iv 9)]) (rest := []) ⟨hx, hb, hml, hown, hts⟩ hK hH hS (c_X9_in l G μ n k (-9) 9 (by omega) (by omega) (by omega)) (va_cwS 3 hts gX9_turn_X9_in rfl rfl rfl (by decide +kernel) ⟨(Nat.le_of_ble_eq_true rfl), (Nat.le_of_ble_eq_true rfl)⟩) rfl rfl hl.1 (Nat.le_of_ble_eq_true rfl) dX9_turn_14 ⟨Nat.zero_le _, Nat.zero_le _⟩ (fun z9 μ6 n7 H locs hz9 hp8 hH hS => ?_)
    obtain ⟨hz9, hm9, hn9⟩ := hp8
    rw [hm9, hn9] at hH
    have hz9c : (z9 = 1 ∧ ((-9) ≤ k ∧ k ≤ 9)) ∨ (z9 = 0 ∧ ¬ ((-9) ≤ k ∧ k ≤ 9)) := by
      by_cases q9 : (-9) ≤ k ∧ k ≤ 9
      · rw [if_pos q9] at hz9; exact Or.inl ⟨hz9, q9⟩
      · rw [if_neg q9] at hz9; exact Or.inr ⟨hz9, q9⟩
    clear hz9 hm9 hn9
    refine j_if_eq (tgt := 24) hx hb dX9_turn_17 (by decide) (fun c10 => ?_) (fun c10 => ?_) (by omega)
    · skip
      refine j_bipush hx hb dX9_turn_24 ?_ (by decide)
      subst hQ
      refine m_iret hx hb hr hlocks hH hS dX9_turn_26 ?_ (by omega)
      unfold a_turn
      rw [if_pos (by omega), if_neg (by omega)]
      exact ⟨rfl, ⟨_, _, _, _, _, _, _, hY, hR⟩, hfr⟩
    · skip
      refine lv_iload_n hx hb dX9_turn_20 rfl (lv_at hl 2 rfl) ?_
      refine j_if_ne (tgt := 27) hx hb dX9_turn_21 (by decide) (fun c11 => ?_) (fun c11 => ?_) (by omega)
      · skip
        obtain ⟨pn, hpne⟩ : ∃ q : Nat, (q : Int) = pa := ⟨pa.toNat, by omega⟩
        subst hpne
        have hpn : pn < 6 := by omega
        refine lv_aload_n hx hb dX9_turn_27 rfl (lv_at hl 0 rfl) ?_
        refine m_callVv (As := []) (rest := []) ⟨hx, hb, hml, hown, hts⟩ hK hH hS (c_X9_putAside l G μ n yy ((aD u0).1) α β κ (aC u0) ω (aN u0) (aT u0) (aL u0) en fr pl wr hY ) (cwV 0 hts gX9_turn_X9_putAside rfl rfl rfl (by decide +kernel) ⟨(Nat.le_of_ble_eq_true rfl), (Nat.le_of_ble_eq_true rfl)⟩) hY.1 rfl rfl rfl rfl hl.1 (Nat.le_of_ble_eq_true rfl) dX9_turn_28 ⟨Nat.zero_le _, Nat.zero_le _⟩ (fun μ12 n13 H locs hp14 hH hS => ?_)
        obtain ⟨hY, hfr1⟩ := hp14
        have hfr := hfr.tr hfr1
        clear hfr1
        refine lv_aload_n hx hb dX9_turn_31 rfl (lv_at hl 0 rfl) ?_
        refine lv_iload_n hx hb dX9_turn_32 rfl (lv_at hl 1 rfl) ?_
        refine lv_iload_n hx hb dX9_turn_33 rfl (lv_at hl 2 rfl) ?_
        refine j_if_ge (tgt := 42) hx hb dX9_turn_34 (by decide) (fun c15 => ?_) (fun c15 => ?_) (by omega)
        · skip
          refine lv_iload_n hx hb dX9_turn_42 rfl (lv_at hl 2 rfl) ?_
          refine lv_iload_n hx hb dX9_turn_43 rfl (lv_at hl 2 rfl) ?_
          refine j_if_le (tgt := 51) hx hb dX9_turn_44 (by decide) (fun c16 => ?_) (fun c16 => ?_) (by omega)
          · skip
            refine j_const hx hb dX9_turn_51 ?_
            refine m_callVv (As := [.int (iv (pn : Int)), .int (iv k), .int (iv 0)]) (rest := []) ⟨hx, hb, hml, hown, hts⟩ hK hH hS (c_X9_steps l G μ12 n13 yy ((aD u0).1) ((aD u0).1) β κ (aC u0) ω (aN u0) (aT u0) (aL u0) en (en + 1) pl wr hY pn k 0 hOk (by omega) (by omega) (by omega)) (cwV 3 hts gX9_turn_X9_steps rfl rfl rfl (by decide +kernel) ⟨(Nat.le_of_ble_eq_true rfl), (Nat.le_of_ble_eq_true rfl)⟩) hY.1 rfl rfl rfl rfl hl.1 (Nat.le_of_ble_eq_true rfl) dX9_turn_52 ⟨Nat.zero_le _, Nat.zero_le _⟩ (fun μ17 n18 H locs hp19 hH hS => ?_)
            obtain ⟨hY, hfr1⟩ := hp19
            have hfr := hfr.tr hfr1
            clear hfr1
            have hq9 : (trn ((aD u0).1) pn (if (0 : Int) = 1 then k else -k)) = (trn (aD u0).1 pn k) := (by first | rfl | (congr 1; split <;> omega))
            rw [hq9] at hY
            clear hq9
            refine lv_aload_n hx hb dX9_turn_55 rfl (lv_at hl 0 rfl) ?_
            refine lv_aload_n hx hb dX9_turn_56 rfl (lv_at hl 0 rfl) ?_
            refine m_get (C := RX9) (T := TX9) (N := 13) (ci := 8) hx hb hts i_X9 hown hK hH hY.1 rfl 0 (by decide) f_0 rfl dX9_turn_57 ?_
            refine lv_iload_n hx hb dX9_turn_60 rfl (lv_at hl 1 rfl) ?_
            refine j_const hx hb dX9_turn_61 ?_
            refine m_callSi (As := [.int (iv (pn : Int)), .int (iv 1)]) (rest := [.ref (yy + 1), .ref yy]) ⟨hx, hb, hml, hown, hts⟩ hK hH hS (c_X9_of l G μ17 n18 (pn : Int) 1 (by omega) (by omega)) (va_cwS 2 hts gX9_turn_X9_of rfl rfl rfl (by decide +kernel) ⟨(Nat.le_of_ble_eq_true rfl), (Nat.le_of_ble_eq_true rfl)⟩) rfl rfl hl.1 (Nat.le_of_ble_eq_true rfl) dX9_turn_62 ⟨Nat.zero_le _, Nat.zero_le _⟩ (fun z23 μ20 n21 H locs hz23 hp22 hH hS => ?_)
            obtain ⟨hz9, hm9, hn9⟩ := hp22
            rw [hm9, hn9] at hH
            rw [hz9]
            clear hz9 hm9 hn9
            refine j_norm (y := ((86 + 13 * pn : Nat) : Int)) (by omega) ?_
            refine m_iald (nA := 163) (f := (trn (aD u0).1 pn k)) hx hb hK hH hY.2.1 dX9_turn_65 ?_ (by omega) (by omega)
            refine j_norm (y := ((trn (aD u0).1 pn k) (86 + 13 * pn))) rfl ?_
            refine j_norm (y := (((aD u0).1 (86 + 13 * pn) + k) % 10)) (trn_at.trans (if_pos rfl)) ?_
            refine m_callVi (As := [.int (iv (((aD u0).1 (86 + 13 * pn) + k) % 10))]) (rest := []) ⟨hx, hb, hml, hown, hts⟩ hK hH hS (c_X9_act l G μ17 n18 yy (trn (aD u0).1 pn k) ((aD u0).1) β κ (aC u0) ω (aN u0) (aT u0) (aL u0) en (en + 1) pl wr hY (((aD u0).1 (86 + 13 * pn) + k) % 10) (by omega) (by omega)) (cwV 1 hts gX9_turn_X9_act rfl rfl rfl (by decide +kernel) ⟨(Nat.le_of_ble_eq_true rfl), (Nat.le_of_ble_eq_true rfl)⟩) hY.1 rfl rfl rfl rfl hl.1 (Nat.le_of_ble_eq_true rfl) dX9_turn_66 ⟨Nat.zero_le _, Nat.zero_le _⟩ (fun z27 μ24 n25 H locs hz27 hp26 hH hS => ?_)
            obtain ⟨hz9, hfr1, hn9, hp9⟩ := hp26
            have hfr := hfr.tr hfr1
            clear hfr1
            obtain ⟨β1, hY, hrel⟩ := hp9 (by omega)
            rw [hz9]
            clear hz9 hn9 hp9
            subst hQ
            refine m_iret hx hb hr hlocks hH hS dX9_turn_69 ?_ (by omega)
            unfold a_turn
            rw [if_pos (by omega), if_pos (by omega)]
            refine ⟨rfl, ⟨_, _, _, _, _, _, _, hY, hR.act (d := (trn (aD u0).1 pn k, (aD u0).2)) hrel (Int.le_refl _) (fun _ _ => rfl) (hPD.st (trn_ot hpn (by omega) (by omega)) (by rw [trn_ot hpn (by omega) (by omega)]; exact Int.le_refl _))⟩, hfr⟩
          · skip
            refine j_const hx hb dX9_turn_47 ?_
            refine lv_goto (tgt := 52) hx hb dX9_turn_48 (by decide) ?_
            refine m_callVv (As := [.int (iv (pn : Int)), .int (iv k), .int (iv 1)]) (rest := []) ⟨hx, hb, hml, hown, hts⟩ hK hH hS (c_X9_steps l G μ12 n13 yy ((aD u0).1) ((aD u0).1) β κ (aC u0) ω (aN u0) (aT u0) (aL u0) en (en + 1) pl wr hY pn k 1 hOk (by omega) (by omega) (by omega)) (cwV 3 hts gX9_turn_X9_steps rfl rfl rfl (by decide +kernel) ⟨(Nat.le_of_ble_eq_true rfl), (Nat.le_of_ble_eq_true rfl)⟩) hY.1 rfl rfl rfl rfl hl.1 (Nat.le_of_ble_eq_true rfl) dX9_turn_52 ⟨Nat.zero_le _, Nat.zero_le _⟩ (fun μ28 n29 H locs hp30 hH hS => ?_)
            obtain ⟨hY, hfr1⟩ := hp30
            have hfr := hfr.tr hfr1
            clear hfr1
            have hq9 : (trn ((aD u0).1) pn (if (1 : Int) = 1 then k else -k)) = (trn (aD u0).1 pn k) := (by first | rfl | (congr 1; split <;> omega))
            rw [hq9] at hY
            clear hq9
            refine lv_aload_n hx hb dX9_turn_55 rfl (lv_at hl 0 rfl) ?_
            refine lv_aload_n hx hb dX9_turn_56 rfl (lv_at hl 0 rfl) ?_
            refine m_get (C := RX9) (T := TX9) (N := 13) (ci := 8) hx hb hts i_X9 hown hK hH hY.1 rfl 0 (by decide) f_0 rfl dX9_turn_57 ?_
            refine lv_iload_n hx hb dX9_turn_60 rfl (lv_at hl 1 rfl) ?_
            refine j_const hx hb dX9_turn_61 ?_
            refine m_callSi (As := [.int (iv (pn : Int)), .int (iv 1)]) (rest := [.ref (yy + 1), .ref yy]) ⟨hx, hb, hml, hown, hts⟩ hK hH hS (c_X9_of l G μ28 n29 (pn : Int) 1 (by omega) (by omega)) (va_cwS 2 hts gX9_turn_X9_of rfl rfl rfl (by decide +kernel) ⟨(Nat.le_of_ble_eq_true rfl), (Nat.le_of_ble_eq_true rfl)⟩) rfl rfl hl.1 (Nat.le_of_ble_eq_true rfl) dX9_turn_62 ⟨Nat.zero_le _, Nat.zero_le _⟩ (fun z34 μ31 n32 H locs hz34 hp33 hH hS => ?_)
            obtain ⟨hz9, hm9, hn9⟩ := hp33
            rw [hm9, hn9] at hH
            rw [hz9]
            clear hz9 hm9 hn9
            refine j_norm (y := ((86 + 13 * pn : Nat) : Int)) (by omega) ?_
            refine m_iald (nA := 163) (f := (trn (aD u0).1 pn k)) hx hb hK hH hY.2.1 dX9_turn_65 ?_ (by omega) (by omega)
            refine j_norm (y := ((trn (aD u0).1 pn k) (86 + 13 * pn))) rfl ?_
            refine j_norm (y := (((aD u0).1 (86 + 13 * pn) + k) % 10)) (trn_at.trans (if_pos rfl)) ?_
            refine m_callVi (As := [.int (iv (((aD u0).1 (86 + 13 * pn) + k) % 10))]) (rest := []) ⟨hx, hb, hml, hown, hts⟩ hK hH hS (c_X9_act l G μ28 n29 yy (trn (aD u0).1 pn k) ((aD u0).1) β κ (aC u0) ω (aN u0) (aT u0) (aL u0) en (en + 1) pl wr hY (((aD u0).1 (86 + 13 * pn) + k) % 10) (by omega) (by omega)) (cwV 1 hts gX9_turn_X9_act rfl rfl rfl (by decide +kernel) ⟨(Nat.le_of_ble_eq_true rfl), (Nat.le_of_ble_eq_true rfl)⟩) hY.1 rfl rfl rfl rfl hl.1 (Nat.le_of_ble_eq_true rfl) dX9_turn_66 ⟨Nat.zero_le _, Nat.zero_le _⟩ (fun z38 μ35 n36 H locs hz38 hp37 hH hS => ?_)
            obtain ⟨hz9, hfr1, hn9, hp9⟩ := hp37
            have hfr := hfr.tr hfr1
            clear hfr1
            obtain ⟨β1, hY, hrel⟩ := hp9 (by omega)
            rw [hz9]
            clear hz9 hn9 hp9
            subst hQ
            refine m_iret hx hb hr hlocks hH hS dX9_turn_69 ?_ (by omega)
            unfold a_turn
            rw [if_pos (by omega), if_pos (by omega)]
            refine ⟨rfl, ⟨_, _, _, _, _, _, _, hY, hR.act (d := (trn (aD u0).1 pn k, (aD u0).2)) hrel (Int.le_refl _) (fun _ _ => rfl) (hPD.st (trn_ot hpn (by omega) (by omega)) (by rw [trn_ot hpn (by omega) (by omega)]; exact Int.le_refl _))⟩, hfr⟩
        · skip
          refine lv_iload_n hx hb dX9_turn_37 rfl (lv_at hl 2 rfl) ?_
          refine j_ineg hx hb dX9_turn_38 ?_
          refine lv_goto (tgt := 43) hx hb dX9_turn_39 (by decide) ?_
          refine lv_iload_n hx hb dX9_turn_43 rfl (lv_at hl 2 rfl) ?_
          refine j_if_le (tgt := 51) hx hb dX9_turn_44 (by decide) (fun c39 => ?_) (fun c39 => ?_) (by omega)
          · skip
            refine j_const hx hb dX9_turn_51 ?_
            refine m_callVv (As := [.int (iv (pn : Int)), .int (iv (-k)), .int (iv 0)]) (rest := []) ⟨hx, hb, hml, hown, hts⟩ hK hH hS (c_X9_steps l G μ12 n13 yy ((aD u0).1) ((aD u0).1) β κ (aC u0) ω (aN u0) (aT u0) (aL u0) en (en + 1) pl wr hY pn (-k) 0 hOk (by omega) (by omega) (by omega)) (cwV 3 hts gX9_turn_X9_steps rfl rfl rfl (by decide +kernel) ⟨(Nat.le_of_ble_eq_true rfl), (Nat.le_of_ble_eq_true rfl)⟩) hY.1 rfl rfl rfl rfl hl.1 (Nat.le_of_ble_eq_true rfl) dX9_turn_52 ⟨Nat.zero_le _, Nat.zero_le _⟩ (fun μ40 n41 H locs hp42 hH hS => ?_)
            obtain ⟨hY, hfr1⟩ := hp42
            have hfr := hfr.tr hfr1
            clear hfr1
            have hq9 : (trn ((aD u0).1) pn (if (0 : Int) = 1 then (-k) else -(-k))) = (trn (aD u0).1 pn k) := (by first | rfl | (congr 1; split <;> omega))
            rw [hq9] at hY
            clear hq9
            refine lv_aload_n hx hb dX9_turn_55 rfl (lv_at hl 0 rfl) ?_
            refine lv_aload_n hx hb dX9_turn_56 rfl (lv_at hl 0 rfl) ?_
            refine m_get (C := RX9) (T := TX9) (N := 13) (ci := 8) hx hb hts i_X9 hown hK hH hY.1 rfl 0 (by decide) f_0 rfl dX9_turn_57 ?_
            refine lv_iload_n hx hb dX9_turn_60 rfl (lv_at hl 1 rfl) ?_
            refine j_const hx hb dX9_turn_61 ?_
            refine m_callSi (As := [.int (iv (pn : Int)), .int (iv 1)]) (rest := [.ref (yy + 1), .ref yy]) ⟨hx, hb, hml, hown, hts⟩ hK hH hS (c_X9_of l G μ40 n41 (pn : Int) 1 (by omega) (by omega)) (va_cwS 2 hts gX9_turn_X9_of rfl rfl rfl (by decide +kernel) ⟨(Nat.le_of_ble_eq_true rfl), (Nat.le_of_ble_eq_true rfl)⟩) rfl rfl hl.1 (Nat.le_of_ble_eq_true rfl) dX9_turn_62 ⟨Nat.zero_le _, Nat.zero_le _⟩ (fun z46 μ43 n44 H locs hz46 hp45 hH hS => ?_)
            obtain ⟨hz9, hm9, hn9⟩ := hp45
            rw [hm9, hn9] at hH
            rw [hz9]
            clear hz9 hm9 hn9
            refine j_norm (y := ((86 + 13 * pn : Nat) : Int)) (by omega) ?_
            refine m_iald (nA := 163) (f := (trn (aD u0).1 pn k)) hx hb hK hH hY.2.1 dX9_turn_65 ?_ (by omega) (by omega)
            refine j_norm (y := ((trn (aD u0).1 pn k) (86 + 13 * pn))) rfl ?_
            refine j_norm (y := (((aD u0).1 (86 + 13 * pn) + k) % 10)) (trn_at.trans (if_pos rfl)) ?_
            refine m_callVi (As := [.int (iv (((aD u0).1 (86 + 13 * pn) + k) % 10))]) (rest := []) ⟨hx, hb, hml, hown, hts⟩ hK hH hS (c_X9_act l G μ40 n41 yy (trn (aD u0).1 pn k) ((aD u0).1) β κ (aC u0) ω (aN u0) (aT u0) (aL u0) en (en + 1) pl wr hY (((aD u0).1 (86 + 13 * pn) + k) % 10) (by omega) (by omega)) (cwV 1 hts gX9_turn_X9_act rfl rfl rfl (by decide +kernel) ⟨(Nat.le_of_ble_eq_true rfl), (Nat.le_of_ble_eq_true rfl)⟩) hY.1 rfl rfl rfl rfl hl.1 (Nat.le_of_ble_eq_true rfl) dX9_turn_66 ⟨Nat.zero_le _, Nat.zero_le _⟩ (fun z50 μ47 n48 H locs hz50 hp49 hH hS => ?_)
            obtain ⟨hz9, hfr1, hn9, hp9⟩ := hp49
            have hfr := hfr.tr hfr1
            clear hfr1
            obtain ⟨β1, hY, hrel⟩ := hp9 (by omega)
            rw [hz9]
            clear hz9 hn9 hp9
            subst hQ
            refine m_iret hx hb hr hlocks hH hS dX9_turn_69 ?_ (by omega)
            unfold a_turn
            rw [if_pos (by omega), if_pos (by omega)]
            refine ⟨rfl, ⟨_, _, _, _, _, _, _, hY, hR.act (d := (trn (aD u0).1 pn k, (aD u0).2)) hrel (Int.le_refl _) (fun _ _ => rfl) (hPD.st (trn_ot hpn (by omega) (by omega)) (by rw [trn_ot hpn (by omega) (by omega)]; exact Int.le_refl _))⟩, hfr⟩
          · skip
            refine j_const hx hb dX9_turn_47 ?_
            refine lv_goto (tgt := 52) hx hb dX9_turn_48 (by decide) ?_
            refine m_callVv (As := [.int (iv (pn : Int)), .int (iv (-k)), .int (iv 1)]) (rest := []) ⟨hx, hb, hml, hown, hts⟩ hK hH hS (c_X9_steps l G μ12 n13 yy ((aD u0).1) ((aD u0).1) β κ (aC u0) ω (aN u0) (aT u0) (aL u0) en (en + 1) pl wr hY pn (-k) 1 hOk (by omega) (by omega) (by omega)) (cwV 3 hts gX9_turn_X9_steps rfl rfl rfl (by decide +kernel) ⟨(Nat.le_of_ble_eq_true rfl), (Nat.le_of_ble_eq_true rfl)⟩) hY.1 rfl rfl rfl rfl hl.1 (Nat.le_of_ble_eq_true rfl) dX9_turn_52 ⟨Nat.zero_le _, Nat.zero_le _⟩ (fun μ51 n52 H locs hp53 hH hS => ?_)
            obtain ⟨hY, hfr1⟩ := hp53
            have hfr := hfr.tr hfr1
            clear hfr1
            have hq9 : (trn ((aD u0).1) pn (if (1 : Int) = 1 then (-k) else -(-k))) = (trn (aD u0).1 pn k) := (by first | rfl | (congr 1; split <;> omega))
            rw [hq9] at hY
            clear hq9
            refine lv_aload_n hx hb dX9_turn_55 rfl (lv_at hl 0 rfl) ?_
            refine lv_aload_n hx hb dX9_turn_56 rfl (lv_at hl 0 rfl) ?_
            refine m_get (C := RX9) (T := TX9) (N := 13) (ci := 8) hx hb hts i_X9 hown hK hH hY.1 rfl 0 (by decide) f_0 rfl dX9_turn_57 ?_
            refine lv_iload_n hx hb dX9_turn_60 rfl (lv_at hl 1 rfl) ?_
            refine j_const hx hb dX9_turn_61 ?_
            refine m_callSi (As := [.int (iv (pn : Int)), .int (iv 1)]) (rest := [.ref (yy + 1), .ref yy]) ⟨hx, hb, hml, hown, hts⟩ hK hH hS (c_X9_of l G μ51 n52 (pn : Int) 1 (by omega) (by omega)) (va_cwS 2 hts gX9_turn_X9_of rfl rfl rfl (by decide +kernel) ⟨(Nat.le_of_ble_eq_true rfl), (Nat.le_of_ble_eq_true rfl)⟩) rfl rfl hl.1 (Nat.le_of_ble_eq_true rfl) dX9_turn_62 ⟨Nat.zero_le _, Nat.zero_le _⟩ (fun z57 μ54 n55 H locs hz57 hp56 hH hS => ?_)
            obtain ⟨hz9, hm9, hn9⟩ := hp56
            rw [hm9, hn9] at hH
            rw [hz9]
            clear hz9 hm9 hn9
            refine j_norm (y := ((86 + 13 * pn : Nat) : Int)) (by omega) ?_
            refine m_iald (nA := 163) (f := (trn (aD u0).1 pn k)) hx hb hK hH hY.2.1 dX9_turn_65 ?_ (by omega) (by omega)
            refine j_norm (y := ((trn (aD u0).1 pn k) (86 + 13 * pn))) rfl ?_
            refine j_norm (y := (((aD u0).1 (86 + 13 * pn) + k) % 10)) (trn_at.trans (if_pos rfl)) ?_
            refine m_callVi (As := [.int (iv (((aD u0).1 (86 + 13 * pn) + k) % 10))]) (rest := []) ⟨hx, hb, hml, hown, hts⟩ hK hH hS (c_X9_act l G μ51 n52 yy (trn (aD u0).1 pn k) ((aD u0).1) β κ (aC u0) ω (aN u0) (aT u0) (aL u0) en (en + 1) pl wr hY (((aD u0).1 (86 + 13 * pn) + k) % 10) (by omega) (by omega)) (cwV 1 hts gX9_turn_X9_act rfl rfl rfl (by decide +kernel) ⟨(Nat.le_of_ble_eq_true rfl), (Nat.le_of_ble_eq_true rfl)⟩) hY.1 rfl rfl rfl rfl hl.1 (Nat.le_of_ble_eq_true rfl) dX9_turn_66 ⟨Nat.zero_le _, Nat.zero_le _⟩ (fun z61 μ58 n59 H locs hz61 hp60 hH hS => ?_)
            obtain ⟨hz9, hfr1, hn9, hp9⟩ := hp60
            have hfr := hfr.tr hfr1
            clear hfr1
            obtain ⟨β1, hY, hrel⟩ := hp9 (by omega)
            rw [hz9]
            clear hz9 hn9 hp9
            subst hQ
            refine m_iret hx hb hr hlocks hH hS dX9_turn_69 ?_ (by omega)
            unfold a_turn
            rw [if_pos (by omega), if_pos (by omega)]
            refine ⟨rfl, ⟨_, _, _, _, _, _, _, hY, hR.act (d := (trn (aD u0).1 pn k, (aD u0).2)) hrel (Int.le_refl _) (fun _ _ => rfl) (hPD.st (trn_ot hpn (by omega) (by omega)) (by rw [trn_ot hpn (by omega) (by omega)]; exact Int.le_refl _))⟩, hfr⟩
      · skip
        refine j_bipush hx hb dX9_turn_24 ?_ (by decide)
        subst hQ
        refine m_iret hx hb hr hlocks hH hS dX9_turn_26 ?_ (by omega)
        unfold a_turn
        rw [if_pos (by omega), if_neg (by omega)]
        exact ⟨rfl, ⟨_, _, _, _, _, _, _, hY, hR⟩, hfr⟩
  · skip
    refine j_const hx hb dX9_turn_7 ?_
    subst hQ
    refine m_iret hx hb hr hlocks hH hS dX9_turn_8 ?_ (by omega)
    unfold a_turn
    rw [if_neg (by omega)]
    exact ⟨rfl, ⟨_, _, _, _, _, _, _, hY, hR⟩, hfr⟩

theorem hid11 {ω κ β : Nat → Int} {en : Int} {u : aS} (h : IsMR ω κ β en u) : IsMR ω κ β en (hd11 u ((aD u).1 11)) := by
  have e : hd11 u ((aD u).1 11) = u := by unfold hd11; rw [fu_i rfl]
  rw [e]; exact h
abbrev rm_t_X9_press : Room := { frames := 6, cells := 0, slots := 0, locals := 140 }
set_option maxHeartbeats 4000000 in
set_option maxRecDepth 100000 in
theorem t_X9_press (l : Launch) (G : wG) (μ : hM) (n : Nat) (yy : Nat) (u0 : aS) (en : Int) (k t : Int) (hM0 : IsM G μ yy u0 en) (hen : en ≤ 5900) (hO : OkD (aD u0)) (hBk : -2147483648 ≤ k ∧ k ≤ 2147483647) (hBt : -2147483648 ≤ t ∧ t ≤ 2147483647) (hB5 : (aD u0).1 5 + 99 ≤ 2000000000) : Met l yX9_press wsX9_press rm_t_X9_press (mPc G μ n [.ref yy, .int (iv k), .int (iv t)]) (mQi G (fun z μ1 n1 => z = (a_press u0 k t).2 ∧ (∃ h1 e1 : Int, (en ≤ e1 ∧ e1 ≤ en + 10) ∧ IsM G μ1 yy (hd11 (a_press u0 k t).1 h1) e1) ∧ MFr yy μ μ1)) 0 0 (gA G) := by
  refine Met.ofW (cc := cX9_press) (maxL := 3) (ret := (some .int)) (by decide) rfl ?_
  intro p e s m args below meth c s₁ B hml hv
  obtain ⟨hav, hK, hH⟩ := hv
  have hx := B.exec
  have hb := B.bytes
  have hr := B.returns
  have hts := atoms_spec (ws := wsX9_press) B.pre
  have hown : s.vm.findClass RX9 = some m.cls := findClass_of_methodNamed B.named
  have hlocks := B.notSynchronized
  have hS : va_S (gA G) s.heap s.heap [] := va_S.rf
  have hl := lv_entry ([.ref yy, .int (iv k), .int (iv t)]) (n := 3) (Nat.le_of_ble_eq_true rfl)
  have hfr : entryFrame m args 3 = entryFrame m ([.ref yy, .int (iv k), .int (iv t)] : List Value).toArray 3 := by rw [hav]
  rw [hfr, lg_entry_eq]
  generalize (lg_sl ([.ref yy, .int (iv k), .int (iv t)]) ++ List.replicate (3 - (lg_sl ([.ref yy, .int (iv k), .int (iv t)])).length) Slot.unset).toArray = ls at hl ⊢
  have hl : lv_has ls 3 [(0, .ref yy), (1, .int (iv k)), (2, .int (iv t))] := hl
  generalize hQ : MQ below _ args s 0 0 (gA G) = Q
  show W p l e rm_t_X9_press s m args below meth c s.heap [] 0 0 Q (F0 m 0 ls [])
  obtain ⟨H, hHe⟩ : ∃ H, H = s.heap := ⟨_, rfl⟩
  obtain ⟨locs, hlo⟩ : ∃ q : List Loc, q = [] := ⟨_, rfl⟩
  have hH : gP G μ n H := by rw [hHe]; exact hH
  have hS : va_S (gA G) s.heap H locs := by rw [hHe, hlo]; exact hS
  suffices hgo : W p l e rm_t_X9_press s m args below meth c H locs 0 0 Q (F0 m 0 ls []) by rw [hHe, hlo] at hgo; exact hgo
  clear hHe hlo hfr hav
  have hfr : MFr yy μ μ := MFr.rf
  obtain ⟨α, β, κ, ω, fr, pl, wr, hY, hR⟩ := hM0
  have hT := hO.1
  have hOk := hT.1
  have h3 := hT.2.1
  have h5 := hT.2.2.1
  have h4 := hOk.2.2.2.1
  have hPD := hR.1
  have hen0 := hR.2.2.2.1
  have hkn := hR.2.2.2.2.1
  have hik := hR.2.2.2.2.2.1
  have hOC := hR.2.2.2.2.2.2
  have hl0 := hOC.1
  refine lv_iload_n hx hb dX9_press_0 rfl (lv_at hl 1 rfl) ?_
  refine j_const hx hb dX9_press_1 ?_
  refine j_bipush hx hb dX9_press_2 ?_ (by decide)
  refine m_callSi (As := [.int (iv k), .int (iv 1), .int (iv 9)]) (rest := []) ⟨hx, hb, hml, hown, hts⟩ hK hH hS (c_X9_in l G μ n k 1 9 (by omega) (by omega) (by omega)) (va_cwS 3 hts gX9_press_X9_in rfl rfl rfl (by decide +kernel) ⟨(Nat.le_of_ble_eq_true rfl), (Nat.le_of_ble_eq_true rfl)⟩) rfl rfl hl.1 (Nat.le_of_ble_eq_true rfl) dX9_press_4 ⟨Nat.zero_le _, Nat.zero_le _⟩ (fun z4 μ1 n2 H locs hz4 hp3 hH hS => ?_)
  obtain ⟨hz9, hm9, hn9⟩ := hp3
  rw [hm9, hn9] at hH
  have hz4c : (z4 = 1 ∧ (1 ≤ k ∧ k ≤ 9)) ∨ (z4 = 0 ∧ ¬ (1 ≤ k ∧ k ≤ 9)) := by
    by_cases q9 : 1 ≤ k ∧ k ≤ 9
    · rw [if_pos q9] at hz9; exact Or.inl ⟨hz9, q9⟩
    · rw [if_neg q9] at hz9; exact Or.inr ⟨hz9, q9⟩
  clear hz9 hm9 hn9
  refine j_if_eq (tgt := 20) hx hb dX9_press_7 (by decide) (fun c5 => ?_) (fun c5 => ?_) (by omega)
  · skip
    refine j_bipush hx hb dX9_press_20 ?_ (by decide)
    subst hQ
    refine m_iret hx hb hr hlocks hH hS dX9_press_22 ?_ (by omega)
    unfold a_press
    rw [if_neg (by omega)]
    exact ⟨rfl, ⟨(aD u0).1 11, en, by omega, _, _, _, _, _, _, _, (by show IsMM G _ yy (fu (aD u0).1 11 ((aD u0).1 11)) _ _ _ _ _ _ _ _ _ _ _ _; rw [fu_i rfl]; exact hY), hid11 hR⟩, hfr⟩
  · skip
    refine lv_iload_n hx hb dX9_press_10 rfl (lv_at hl 2 rfl) ?_
    refine j_const hx hb dX9_press_11 ?_
    refine j_bipush hx hb dX9_press_12 ?_ (by decide)
    refine m_callSi (As := [.int (iv t), .int (iv 1), .int (iv 99)]) (rest := []) ⟨hx, hb, hml, hown, hts⟩ hK hH hS (c_X9_in l G μ n t 1 99 (by omega) (by omega) (by omega)) (va_cwS 3 hts gX9_press_X9_in rfl rfl rfl (by decide +kernel) ⟨(Nat.le_of_ble_eq_true rfl), (Nat.le_of_ble_eq_true rfl)⟩) rfl rfl hl.1 (Nat.le_of_ble_eq_true rfl) dX9_press_14 ⟨Nat.zero_le _, Nat.zero_le _⟩ (fun z9 μ6 n7 H locs hz9 hp8 hH hS => ?_)
    obtain ⟨hz9, hm9, hn9⟩ := hp8
    rw [hm9, hn9] at hH
    have hz9c : (z9 = 1 ∧ (1 ≤ t ∧ t ≤ 99)) ∨ (z9 = 0 ∧ ¬ (1 ≤ t ∧ t ≤ 99)) := by
      by_cases q9 : 1 ≤ t ∧ t ≤ 99
      · rw [if_pos q9] at hz9; exact Or.inl ⟨hz9, q9⟩
      · rw [if_neg q9] at hz9; exact Or.inr ⟨hz9, q9⟩
    clear hz9 hm9 hn9
    refine j_if_ne (tgt := 23) hx hb dX9_press_17 (by decide) (fun c10 => ?_) (fun c10 => ?_) (by omega)
    · skip
      refine lv_aload_n hx hb dX9_press_23 rfl (lv_at hl 0 rfl) ?_
      refine m_callVv (As := []) (rest := []) ⟨hx, hb, hml, hown, hts⟩ hK hH hS (c_X9_putAside l G μ n yy ((aD u0).1) α β κ (aC u0) ω (aN u0) (aT u0) (aL u0) en fr pl wr hY ) (cwV 0 hts gX9_press_X9_putAside rfl rfl rfl (by decide +kernel) ⟨(Nat.le_of_ble_eq_true rfl), (Nat.le_of_ble_eq_true rfl)⟩) hY.1 rfl rfl rfl rfl hl.1 (Nat.le_of_ble_eq_true rfl) dX9_press_24 ⟨Nat.zero_le _, Nat.zero_le _⟩ (fun μ11 n12 H locs hp13 hH hS => ?_)
      obtain ⟨hY, hfr1⟩ := hp13
      have hfr := hfr.tr hfr1
      clear hfr1
      refine lv_aload_n hx hb dX9_press_27 rfl (lv_at hl 0 rfl) ?_
      refine lv_aload_n hx hb dX9_press_28 rfl (lv_at hl 0 rfl) ?_
      refine lv_iload_n hx hb dX9_press_29 rfl (lv_at hl 1 rfl) ?_
      refine lv_iload_n hx hb dX9_press_30 rfl (lv_at hl 2 rfl) ?_
      refine m_callVi (As := [.int (iv k), .int (iv t)]) (rest := [.ref yy]) ⟨hx, hb, hml, hown, hts⟩ hK hH hS (c_X9_presses l G μ11 n12 yy ((aD u0).1) ((aD u0).1) β κ (aC u0) ω (aN u0) (aT u0) (aL u0) en (en + 1) pl wr hY k t (aD u0).2 hT (by omega) (by omega) (by omega) hPD.1 hPD.2.1 (by omega) (by omega) hO.2) (cwV 2 hts gX9_press_X9_presses rfl rfl rfl (by decide +kernel) ⟨(Nat.le_of_ble_eq_true rfl), (Nat.le_of_ble_eq_true rfl)⟩) hY.1 rfl rfl rfl rfl hl.1 (Nat.le_of_ble_eq_true rfl) dX9_press_31 ⟨Nat.zero_le _, Nat.zero_le _⟩ (fun z17 μ14 n15 H locs hz17 hp16 hH hS => ?_)
      obtain ⟨hz9, ⟨ω1, e1, h1, hY, hPP⟩, hfr1⟩ := hp16
      have hfr := hfr.tr hfr1
      clear hfr1
      rw [hz9]
      clear hz9
      have hnr := nRt_rng ((aD u0).1) k t.toNat
      refine m_callVi (As := [.int (iv (nRt ((aD u0).1) k t.toNat))]) (rest := []) ⟨hx, hb, hml, hown, hts⟩ hK hH hS (c_X9_act l G μ14 n15 yy (fu (nPr ((aD u0).1) k t.toNat) 11 h1) ((aD u0).1) β κ (aC u0) ω1 (aN u0) (aT u0) (aL u0) e1 (en + 1) pl wr hY (nRt ((aD u0).1) k t.toNat) (by omega) (by omega)) (cwV 1 hts gX9_press_X9_act rfl rfl rfl (by decide +kernel) ⟨(Nat.le_of_ble_eq_true rfl), (Nat.le_of_ble_eq_true rfl)⟩) hY.1 rfl rfl rfl rfl hl.1 (Nat.le_of_ble_eq_true rfl) dX9_press_34 ⟨Nat.zero_le _, Nat.zero_le _⟩ (fun z21 μ18 n19 H locs hz21 hp20 hH hS => ?_)
      obtain ⟨hz9, hfr1, hn9, hp9⟩ := hp20
      have hfr := hfr.tr hfr1
      clear hfr1
      obtain ⟨β1, hY, hrel⟩ := hp9 (by omega)
      rw [hz9]
      clear hz9 hn9 hp9
      subst hQ
      refine m_iret hx hb hr hlocks hH hS dX9_press_37 ?_ (by omega)
      unfold a_press
      rw [if_pos (by omega)]
      obtain ⟨q1, q2, q3, q4, q5⟩ := hPP
      refine ⟨rfl, ⟨h1, e1, by omega, _, _, _, _, _, _, _, hY, hR.act (d := (fu (nPr (aD u0).1 k t.toNat) 11 h1, chAdd (aD u0).2 ((aD u0).1 3) (nRt (aD u0).1 k t.toNat))) hrel (by omega) (fun j hj => q4 j (by omega)) ⟨?_, ?_, ?_⟩⟩, hfr⟩
      · show PCh ω1 (fu (nPr (aD u0).1 k t.toNat) 11 h1 11) _; rw [fu_s]; exact q1
      · show fu (nPr (aD u0).1 k t.toNat) 11 h1 11 ≤ e1; rw [fu_s]; exact q2
      · show SrtL (fu (nPr (aD u0).1 k t.toNat) 11 h1 3) _; rw [fu_n (by omega), nPr_3 hT (k := k) (by omega) t.toNat (by omega)]; exact srt_add hPD.2.2
    · skip
      refine j_bipush hx hb dX9_press_20 ?_ (by decide)
      subst hQ
      refine m_iret hx hb hr hlocks hH hS dX9_press_22 ?_ (by omega)
      unfold a_press
      rw [if_neg (by omega)]
      exact ⟨rfl, ⟨(aD u0).1 11, en, by omega, _, _, _, _, _, _, _, (by show IsMM G _ yy (fu (aD u0).1 11 ((aD u0).1 11)) _ _ _ _ _ _ _ _ _ _ _ _; rw [fu_i rfl]; exact hY), hid11 hR⟩, hfr⟩

abbrev rm_t_X9_fill : Room := { frames := 2, cells := 0, slots := 0, locals := 43 }
set_option maxHeartbeats 4000000 in
set_option maxRecDepth 100000 in
theorem t_X9_fill (l : Launch) (G : wG) (μ : hM) (n : Nat) (yy : Nat) (u0 : aS) (en : Int) (k : Int) (hM0 : IsM G μ yy u0 en) (hen : en ≤ 5900) (hO : OkD (aD u0)) (hBk : -2147483648 ≤ k ∧ k ≤ 2147483647) : Met l yX9_fill wsX9_fill rm_t_X9_fill (mPc G μ n [.ref yy, .int (iv k)]) (mQi G (fun z μ1 n1 => z = (a_fill u0 k).2 ∧ IsM G μ1 yy (a_fill u0 k).1 en ∧ MFr yy μ μ1)) 0 0 (gA G) := by
  refine Met.ofW (cc := cX9_fill) (maxL := 2) (ret := (some .int)) (by decide) rfl ?_
  intro p e s m args below meth c s₁ B hml hv
  obtain ⟨hav, hK, hH⟩ := hv
  have hx := B.exec
  have hb := B.bytes
  have hr := B.returns
  have hts := atoms_spec (ws := wsX9_fill) B.pre
  have hown : s.vm.findClass RX9 = some m.cls := findClass_of_methodNamed B.named
  have hlocks := B.notSynchronized
  have hS : va_S (gA G) s.heap s.heap [] := va_S.rf
  have hl := lv_entry ([.ref yy, .int (iv k)]) (n := 2) (Nat.le_of_ble_eq_true rfl)
  have hfr : entryFrame m args 2 = entryFrame m ([.ref yy, .int (iv k)] : List Value).toArray 2 := by rw [hav]
  rw [hfr, lg_entry_eq]
  generalize (lg_sl ([.ref yy, .int (iv k)]) ++ List.replicate (2 - (lg_sl ([.ref yy, .int (iv k)])).length) Slot.unset).toArray = ls at hl ⊢
  have hl : lv_has ls 2 [(0, .ref yy), (1, .int (iv k))] := hl
  generalize hQ : MQ below _ args s 0 0 (gA G) = Q
  show W p l e rm_t_X9_fill s m args below meth c s.heap [] 0 0 Q (F0 m 0 ls [])
  obtain ⟨H, hHe⟩ : ∃ H, H = s.heap := ⟨_, rfl⟩
  obtain ⟨locs, hlo⟩ : ∃ q : List Loc, q = [] := ⟨_, rfl⟩
  have hH : gP G μ n H := by rw [hHe]; exact hH
  have hS : va_S (gA G) s.heap H locs := by rw [hHe, hlo]; exact hS
  suffices hgo : W p l e rm_t_X9_fill s m args below meth c H locs 0 0 Q (F0 m 0 ls []) by rw [hHe, hlo] at hgo; exact hgo
  clear hHe hlo hfr hav
  have f_0 := hts (.fieldLink RX9 7 "StampDaterModel" "s" "[I") (List.mem_of_getElem? (i := 1) rfl)
  have i_X9 : ∀ w ∈ u_ws RX9 TX9 13, w ∈ wsX9_fill := by decide +kernel
  have hfr : MFr yy μ μ := MFr.rf
  obtain ⟨α, β, κ, ω, fr, pl, wr, hY, hR⟩ := hM0
  have hT := hO.1
  have hOk := hT.1
  have h3 := hT.2.1
  have h5 := hT.2.2.1
  have h4 := hOk.2.2.2.1
  have hPD := hR.1
  have hen0 := hR.2.2.2.1
  have hkn := hR.2.2.2.2.1
  have hik := hR.2.2.2.2.2.1
  have hOC := hR.2.2.2.2.2.2
  have hl0 := hOC.1
  refine lv_iload_n hx hb dX9_fill_0 rfl (lv_at hl 1 rfl) ?_
  refine j_const hx hb dX9_fill_1 ?_
  refine j_sipush hx hb dX9_fill_2 ?_ (by decide)
  refine m_callSi (As := [.int (iv k), .int (iv 1), .int (iv 200)]) (rest := []) ⟨hx, hb, hml, hown, hts⟩ hK hH hS (c_X9_in l G μ n k 1 200 (by omega) (by omega) (by omega)) (va_cwS 3 hts gX9_fill_X9_in rfl rfl rfl (by decide +kernel) ⟨(Nat.le_of_ble_eq_true rfl), (Nat.le_of_ble_eq_true rfl)⟩) rfl rfl hl.1 (Nat.le_of_ble_eq_true rfl) dX9_fill_5 ⟨Nat.zero_le _, Nat.zero_le _⟩ (fun z4 μ1 n2 H locs hz4 hp3 hH hS => ?_)
  obtain ⟨hz9, hm9, hn9⟩ := hp3
  rw [hm9, hn9] at hH
  have hz4c : (z4 = 1 ∧ (1 ≤ k ∧ k ≤ 200)) ∨ (z4 = 0 ∧ ¬ (1 ≤ k ∧ k ≤ 200)) := by
    by_cases q9 : 1 ≤ k ∧ k ≤ 200
    · rw [if_pos q9] at hz9; exact Or.inl ⟨hz9, q9⟩
    · rw [if_neg q9] at hz9; exact Or.inr ⟨hz9, q9⟩
  clear hz9 hm9 hn9
  refine j_if_ne (tgt := 14) hx hb dX9_fill_8 (by decide) (fun c5 => ?_) (fun c5 => ?_) (by omega)
  · skip
    refine lv_aload_n hx hb dX9_fill_14 rfl (lv_at hl 0 rfl) ?_
    refine m_get (C := RX9) (T := TX9) (N := 13) (ci := 8) hx hb hts i_X9 hown hK hH hY.1 rfl 0 (by decide) f_0 rfl dX9_fill_15 ?_
    refine j_const hx hb dX9_fill_18 ?_
    refine m_iald (nA := 163) (f := ((aD u0).1)) hx hb hK hH hY.2.1 dX9_fill_19 ?_ (by omega) (by omega)
    refine j_norm (y := (((aD u0).1) 4)) rfl ?_
    refine j_sipush hx hb dX9_fill_20 ?_ (by decide)
    refine j_icmp_ne (tgt := 29) hx hb dX9_fill_23 (by decide) (fun c6 => ?_) (fun c6 => ?_) (by omega) (by omega)
    · skip
      refine lv_aload_n hx hb dX9_fill_29 rfl (lv_at hl 0 rfl) ?_
      refine m_callVv (As := []) (rest := []) ⟨hx, hb, hml, hown, hts⟩ hK hH hS (c_X9_putAside l G μ n yy ((aD u0).1) α β κ (aC u0) ω (aN u0) (aT u0) (aL u0) en fr pl wr hY ) (cwV 0 hts gX9_fill_X9_putAside rfl rfl rfl (by decide +kernel) ⟨(Nat.le_of_ble_eq_true rfl), (Nat.le_of_ble_eq_true rfl)⟩) hY.1 rfl rfl rfl rfl hl.1 (Nat.le_of_ble_eq_true rfl) dX9_fill_30 ⟨Nat.zero_le _, Nat.zero_le _⟩ (fun μ7 n8 H locs hp9 hH hS => ?_)
      obtain ⟨hY, hfr1⟩ := hp9
      have hfr := hfr.tr hfr1
      clear hfr1
      refine lv_aload_n hx hb dX9_fill_33 rfl (lv_at hl 0 rfl) ?_
      refine m_get (C := RX9) (T := TX9) (N := 13) (ci := 8) hx hb hts i_X9 hown hK hH hY.1 rfl 0 (by decide) f_0 rfl dX9_fill_34 ?_
      refine j_const hx hb dX9_fill_37 ?_
      refine lv_aload_n hx hb dX9_fill_38 rfl (lv_at hl 0 rfl) ?_
      refine m_get (C := RX9) (T := TX9) (N := 13) (ci := 8) hx hb hts i_X9 hown hK hH hY.1 rfl 0 (by decide) f_0 rfl dX9_fill_39 ?_
      refine j_const hx hb dX9_fill_42 ?_
      refine m_iald (nA := 163) (f := ((aD u0).1)) hx hb hK hH hY.2.1 dX9_fill_43 ?_ (by omega) (by omega)
      refine j_norm (y := (((aD u0).1) 4)) rfl ?_
      refine lv_iload_n hx hb dX9_fill_44 rfl (lv_at hl 1 rfl) ?_
      refine j_iadd hx hb dX9_fill_45 ?_
      refine j_sipush hx hb dX9_fill_46 ?_ (by decide)
      refine m_callSi (As := [.int (iv ((((aD u0).1) 4) + k)), .int (iv 200)]) (rest := [.int (iv 4), .ref (yy + 1)]) ⟨hx, hb, hml, hown, hts⟩ hK hH hS (c_X9_least l G μ7 n8 ((((aD u0).1) 4) + k) 200 (by omega) (by omega)) (va_cwS 2 hts gX9_fill_X9_least rfl rfl rfl (by decide +kernel) ⟨(Nat.le_of_ble_eq_true rfl), (Nat.le_of_ble_eq_true rfl)⟩) rfl rfl hl.1 (Nat.le_of_ble_eq_true rfl) dX9_fill_49 ⟨Nat.zero_le _, Nat.zero_le _⟩ (fun z13 μ10 n11 H locs hz13 hp12 hH hS => ?_)
      obtain ⟨hz2, hm2, hn2⟩ := hp12; rw [hz2]; rw [hm2, hn2] at hH; clear hz2 hm2 hn2
      refine m_iast (nA := 163) (f := ((aD u0).1)) hx hb hK hH hS hY.2.1 dX9_fill_52 (fun H locs hH hS => ?_) (by omega) (by omega)
      obtain ⟨ν14, hY, hfr, hH⟩ : ∃ ξ : hM, IsMM G ξ yy (fu ((aD u0).1) 4 (min ((((aD u0).1) 4) + k) 200)) ((aD u0).1) β κ (aC u0) ω (aN u0) (aT u0) (aL u0) en (en + 1) pl wr ∧ MFr yy μ ξ ∧ gP G ξ n8 H := hY.w1 hfr hH
      have hH : gP G ν14 n8 H := hH
      refine lv_aload_n hx hb dX9_fill_53 rfl (lv_at hl 0 rfl) ?_
      refine lv_aload_n hx hb dX9_fill_54 rfl (lv_at hl 0 rfl) ?_
      refine m_get (C := RX9) (T := TX9) (N := 13) (ci := 8) hx hb hts i_X9 hown hK hH hY.1 rfl 0 (by decide) f_0 rfl dX9_fill_55 ?_
      refine j_const hx hb dX9_fill_58 ?_
      refine m_iald (nA := 163) (f := (fu ((aD u0).1) 4 (min ((((aD u0).1) 4) + k) 200))) hx hb hK hH hY.2.1 dX9_fill_59 ?_ (by omega) (by omega)
      refine j_norm (y := ((fu ((aD u0).1) 4 (min ((((aD u0).1) 4) + k) 200)) 4)) rfl ?_
      refine j_norm (y := (min ((aD u0).1 4 + k) 200)) fu_s ?_
      refine m_callVi (As := [.int (iv (min ((aD u0).1 4 + k) 200))]) (rest := []) ⟨hx, hb, hml, hown, hts⟩ hK hH hS (c_X9_act l G ν14 n8 yy (fu ((aD u0).1) 4 (min ((((aD u0).1) 4) + k) 200)) ((aD u0).1) β κ (aC u0) ω (aN u0) (aT u0) (aL u0) en (en + 1) pl wr hY (min ((aD u0).1 4 + k) 200) (by omega) (by omega)) (cwV 1 hts gX9_fill_X9_act rfl rfl rfl (by decide +kernel) ⟨(Nat.le_of_ble_eq_true rfl), (Nat.le_of_ble_eq_true rfl)⟩) hY.1 rfl rfl rfl rfl hl.1 (Nat.le_of_ble_eq_true rfl) dX9_fill_60 ⟨Nat.zero_le _, Nat.zero_le _⟩ (fun z18 μ15 n16 H locs hz18 hp17 hH hS => ?_)
      obtain ⟨hz9, hfr1, hn9, hp9⟩ := hp17
      have hfr := hfr.tr hfr1
      clear hfr1
      obtain ⟨β1, hY, hrel⟩ := hp9 (by omega)
      rw [hz9]
      clear hz9 hn9 hp9
      subst hQ
      refine m_iret hx hb hr hlocks hH hS dX9_fill_63 ?_ (by omega)
      unfold a_fill
      rw [if_pos (by omega), if_neg (by omega)]
      rw [Int.min_comm 200]
      refine ⟨rfl, ⟨_, _, _, _, _, _, _, hY, hR.act (d := (fu (aD u0).1 4 (min ((aD u0).1 4 + k) 200), (aD u0).2)) hrel (Int.le_refl _) (fun _ _ => rfl) (hPD.st (fu_n (by omega)) (by rw [fu_n (by omega)]; exact Int.le_refl _))⟩, hfr⟩
    · skip
      refine j_bipush hx hb dX9_fill_26 ?_ (by decide)
      subst hQ
      refine m_iret hx hb hr hlocks hH hS dX9_fill_28 ?_ (by omega)
      unfold a_fill
      rw [if_pos (by omega), if_pos (by omega)]
      exact ⟨rfl, ⟨_, _, _, _, _, _, _, hY, hR⟩, hfr⟩
  · skip
    refine j_bipush hx hb dX9_fill_11 ?_ (by decide)
    subst hQ
    refine m_iret hx hb hr hlocks hH hS dX9_fill_13 ?_ (by omega)
    unfold a_fill
    rw [if_neg (by omega)]
    exact ⟨rfl, ⟨_, _, _, _, _, _, _, hY, hR⟩, hfr⟩

abbrev rm_t_X9_exchange : Room := { frames := 2, cells := 0, slots := 0, locals := 45 }
set_option maxHeartbeats 4000000 in
set_option maxRecDepth 100000 in
theorem t_X9_exchange (l : Launch) (G : wG) (μ : hM) (n : Nat) (yy : Nat) (u0 : aS) (en : Int) (pa qa : Int) (hM0 : IsM G μ yy u0 en) (hen : en ≤ 5900) (hO : OkD (aD u0)) (hBpa : -2147483648 ≤ pa ∧ pa ≤ 2147483647) (hBqa : -2147483648 ≤ qa ∧ qa ≤ 2147483647) : Met l yX9_exchange wsX9_exchange rm_t_X9_exchange (mPc G μ n [.ref yy, .int (iv pa), .int (iv qa)]) (mQi G (fun z μ1 n1 => z = (a_exchange u0 pa qa).2 ∧ IsM G μ1 yy (a_exchange u0 pa qa).1 en ∧ MFr yy μ μ1)) 0 0 (gA G) := by
  refine Met.ofW (cc := cX9_exchange) (maxL := 3) (ret := (some .int)) (by decide) rfl ?_
  intro p e s m args below meth c s₁ B hml hv
  obtain ⟨hav, hK, hH⟩ := hv
  have hx := B.exec
  have hb := B.bytes
  have hr := B.returns
  have hts := atoms_spec (ws := wsX9_exchange) B.pre
  have hown : s.vm.findClass RX9 = some m.cls := findClass_of_methodNamed B.named
  have hlocks := B.notSynchronized
  have hS : va_S (gA G) s.heap s.heap [] := va_S.rf
  have hl := lv_entry ([.ref yy, .int (iv pa), .int (iv qa)]) (n := 3) (Nat.le_of_ble_eq_true rfl)
  have hfr : entryFrame m args 3 = entryFrame m ([.ref yy, .int (iv pa), .int (iv qa)] : List Value).toArray 3 := by rw [hav]
  rw [hfr, lg_entry_eq]
  generalize (lg_sl ([.ref yy, .int (iv pa), .int (iv qa)]) ++ List.replicate (3 - (lg_sl ([.ref yy, .int (iv pa), .int (iv qa)])).length) Slot.unset).toArray = ls at hl ⊢
  have hl : lv_has ls 3 [(0, .ref yy), (1, .int (iv pa)), (2, .int (iv qa))] := hl
  generalize hQ : MQ below _ args s 0 0 (gA G) = Q
  show W p l e rm_t_X9_exchange s m args below meth c s.heap [] 0 0 Q (F0 m 0 ls [])
  obtain ⟨H, hHe⟩ : ∃ H, H = s.heap := ⟨_, rfl⟩
  obtain ⟨locs, hlo⟩ : ∃ q : List Loc, q = [] := ⟨_, rfl⟩
  have hH : gP G μ n H := by rw [hHe]; exact hH
  have hS : va_S (gA G) s.heap H locs := by rw [hHe, hlo]; exact hS
  suffices hgo : W p l e rm_t_X9_exchange s m args below meth c H locs 0 0 Q (F0 m 0 ls []) by rw [hHe, hlo] at hgo; exact hgo
  clear hHe hlo hfr hav
  have f_0 := hts (.fieldLink RX9 7 "StampDaterModel" "s" "[I") (List.mem_of_getElem? (i := 1) rfl)
  have i_X9 : ∀ w ∈ u_ws RX9 TX9 13, w ∈ wsX9_exchange := by decide +kernel
  have hfr : MFr yy μ μ := MFr.rf
  obtain ⟨α, β, κ, ω, fr, pl, wr, hY, hR⟩ := hM0
  have hT := hO.1
  have hOk := hT.1
  have h3 := hT.2.1
  have h5 := hT.2.2.1
  have h4 := hOk.2.2.2.1
  have hPD := hR.1
  have hen0 := hR.2.2.2.1
  have hkn := hR.2.2.2.2.1
  have hik := hR.2.2.2.2.2.1
  have hOC := hR.2.2.2.2.2.2
  have hl0 := hOC.1
  refine lv_iload_n hx hb dX9_exchange_0 rfl (lv_at hl 1 rfl) ?_
  refine m_callSi (As := [.int (iv pa)]) (rest := []) ⟨hx, hb, hml, hown, hts⟩ hK hH hS (c_X9_isPlace l G μ n pa (by omega)) (va_cwS 1 hts gX9_exchange_X9_isPlace rfl rfl rfl (by decide +kernel) ⟨(Nat.le_of_ble_eq_true rfl), (Nat.le_of_ble_eq_true rfl)⟩) rfl rfl hl.1 (Nat.le_of_ble_eq_true rfl) dX9_exchange_1 ⟨Nat.zero_le _, Nat.zero_le _⟩ (fun z4 μ1 n2 H locs hz4 hp3 hH hS => ?_)
  obtain ⟨hz9, hm9, hn9⟩ := hp3
  rw [hm9, hn9] at hH
  have hz4c : (z4 = 1 ∧ (0 ≤ pa ∧ pa ≤ 5)) ∨ (z4 = 0 ∧ ¬ (0 ≤ pa ∧ pa ≤ 5)) := by
    by_cases q9 : 0 ≤ pa ∧ pa ≤ 5
    · rw [if_pos q9] at hz9; exact Or.inl ⟨hz9, q9⟩
    · rw [if_neg q9] at hz9; exact Or.inr ⟨hz9, q9⟩
  clear hz9 hm9 hn9
  refine j_if_eq (tgt := 14) hx hb dX9_exchange_4 (by decide) (fun c5 => ?_) (fun c5 => ?_) (by omega)
  · skip
    refine j_const hx hb dX9_exchange_14 ?_
    subst hQ
    refine m_iret hx hb hr hlocks hH hS dX9_exchange_15 ?_ (by omega)
    unfold a_exchange
    rw [if_neg (by omega)]
    exact ⟨rfl, ⟨_, _, _, _, _, _, _, hY, hR⟩, hfr⟩
  · skip
    refine lv_iload_n hx hb dX9_exchange_7 rfl (lv_at hl 2 rfl) ?_
    refine m_callSi (As := [.int (iv qa)]) (rest := []) ⟨hx, hb, hml, hown, hts⟩ hK hH hS (c_X9_isPlace l G μ n qa (by omega)) (va_cwS 1 hts gX9_exchange_X9_isPlace rfl rfl rfl (by decide +kernel) ⟨(Nat.le_of_ble_eq_true rfl), (Nat.le_of_ble_eq_true rfl)⟩) rfl rfl hl.1 (Nat.le_of_ble_eq_true rfl) dX9_exchange_8 ⟨Nat.zero_le _, Nat.zero_le _⟩ (fun z9 μ6 n7 H locs hz9 hp8 hH hS => ?_)
    obtain ⟨hz9, hm9, hn9⟩ := hp8
    rw [hm9, hn9] at hH
    have hz9c : (z9 = 1 ∧ (0 ≤ qa ∧ qa ≤ 5)) ∨ (z9 = 0 ∧ ¬ (0 ≤ qa ∧ qa ≤ 5)) := by
      by_cases q9 : 0 ≤ qa ∧ qa ≤ 5
      · rw [if_pos q9] at hz9; exact Or.inl ⟨hz9, q9⟩
      · rw [if_neg q9] at hz9; exact Or.inr ⟨hz9, q9⟩
    clear hz9 hm9 hn9
    refine j_if_ne (tgt := 16) hx hb dX9_exchange_11 (by decide) (fun c10 => ?_) (fun c10 => ?_) (by omega)
    · skip
      refine lv_iload_n hx hb dX9_exchange_16 rfl (lv_at hl 1 rfl) ?_
      refine lv_iload_n hx hb dX9_exchange_17 rfl (lv_at hl 2 rfl) ?_
      refine j_icmp_ne (tgt := 24) hx hb dX9_exchange_18 (by decide) (fun c11 => ?_) (fun c11 => ?_) (by omega) (by omega)
      · skip
        obtain ⟨pn, hpne⟩ : ∃ q : Nat, (q : Int) = pa := ⟨pa.toNat, by omega⟩
        subst hpne
        have hpn : pn < 6 := by omega
        obtain ⟨qn, hqne⟩ : ∃ q : Nat, (q : Int) = qa := ⟨qa.toNat, by omega⟩
        subst hqne
        have hqn : qn < 6 := by omega
        refine lv_aload_n hx hb dX9_exchange_24 rfl (lv_at hl 0 rfl) ?_
        refine m_callVv (As := []) (rest := []) ⟨hx, hb, hml, hown, hts⟩ hK hH hS (c_X9_putAside l G μ n yy ((aD u0).1) α β κ (aC u0) ω (aN u0) (aT u0) (aL u0) en fr pl wr hY ) (cwV 0 hts gX9_exchange_X9_putAside rfl rfl rfl (by decide +kernel) ⟨(Nat.le_of_ble_eq_true rfl), (Nat.le_of_ble_eq_true rfl)⟩) hY.1 rfl rfl rfl rfl hl.1 (Nat.le_of_ble_eq_true rfl) dX9_exchange_25 ⟨Nat.zero_le _, Nat.zero_le _⟩ (fun μ12 n13 H locs hp14 hH hS => ?_)
        obtain ⟨hY, hfr1⟩ := hp14
        have hfr := hfr.tr hfr1
        clear hfr1
        refine lv_aload_n hx hb dX9_exchange_28 rfl (lv_at hl 0 rfl) ?_
        refine lv_iload_n hx hb dX9_exchange_29 rfl (lv_at hl 1 rfl) ?_
        refine lv_iload_n hx hb dX9_exchange_30 rfl (lv_at hl 2 rfl) ?_
        refine m_callVv (As := [.int (iv (pn : Int)), .int (iv (qn : Int))]) (rest := []) ⟨hx, hb, hml, hown, hts⟩ hK hH hS (c_X9_exchanges l G μ12 n13 yy ((aD u0).1) ((aD u0).1) β κ (aC u0) ω (aN u0) (aT u0) (aL u0) en (en + 1) pl wr hY pn qn (by omega) (by omega) (by omega)) (cwV 2 hts gX9_exchange_X9_exchanges rfl rfl rfl (by decide +kernel) ⟨(Nat.le_of_ble_eq_true rfl), (Nat.le_of_ble_eq_true rfl)⟩) hY.1 rfl rfl rfl rfl hl.1 (Nat.le_of_ble_eq_true rfl) dX9_exchange_31 ⟨Nat.zero_le _, Nat.zero_le _⟩ (fun μ15 n16 H locs hp17 hH hS => ?_)
        obtain ⟨hY, hfr1⟩ := hp17
        have hfr := hfr.tr hfr1
        clear hfr1
        refine lv_aload_n hx hb dX9_exchange_34 rfl (lv_at hl 0 rfl) ?_
        refine lv_aload_n hx hb dX9_exchange_35 rfl (lv_at hl 0 rfl) ?_
        refine m_get (C := RX9) (T := TX9) (N := 13) (ci := 8) hx hb hts i_X9 hown hK hH hY.1 rfl 0 (by decide) f_0 rfl dX9_exchange_36 ?_
        refine lv_iload_n hx hb dX9_exchange_39 rfl (lv_at hl 1 rfl) ?_
        refine j_const hx hb dX9_exchange_40 ?_
        refine m_callSi (As := [.int (iv (pn : Int)), .int (iv 0)]) (rest := [.ref (yy + 1), .ref yy]) ⟨hx, hb, hml, hown, hts⟩ hK hH hS (c_X9_of l G μ15 n16 (pn : Int) 0 (by omega) (by omega)) (va_cwS 2 hts gX9_exchange_X9_of rfl rfl rfl (by decide +kernel) ⟨(Nat.le_of_ble_eq_true rfl), (Nat.le_of_ble_eq_true rfl)⟩) rfl rfl hl.1 (Nat.le_of_ble_eq_true rfl) dX9_exchange_41 ⟨Nat.zero_le _, Nat.zero_le _⟩ (fun z21 μ18 n19 H locs hz21 hp20 hH hS => ?_)
        obtain ⟨hz9, hm9, hn9⟩ := hp20
        rw [hm9, hn9] at hH
        rw [hz9]
        clear hz9 hm9 hn9
        refine j_norm (y := ((85 + 13 * pn : Nat) : Int)) (by omega) ?_
        refine m_iald (nA := 163) (f := (swpS ((aD u0).1) pn qn)) hx hb hK hH hY.2.1 dX9_exchange_44 ?_ (by omega) (by omega)
        refine j_norm (y := ((swpS ((aD u0).1) pn qn) (85 + 13 * pn))) rfl ?_
        have hsw : swpS (aD u0).1 pn qn (85 + 13 * pn) = (aD u0).1 (85 + 13 * qn) := by
          have h9 := swpS_at (σ := (aD u0).1) (a := pn) (b := qn) (r := 0) hpn (by omega)
          have h8 : tpl pn qn pn = qn := by unfold tpl; split; (first | omega | assumption); rw [if_pos rfl]
          rw [h8] at h9
          exact h9
        have hsr := (hOk.2.2.2.2 qn hqn).1
        refine j_norm (y := ((aD u0).1 (85 + 13 * qn))) hsw ?_
        refine m_callVi (As := [.int (iv ((aD u0).1 (85 + 13 * qn)))]) (rest := []) ⟨hx, hb, hml, hown, hts⟩ hK hH hS (c_X9_act l G μ15 n16 yy (swpS ((aD u0).1) pn qn) ((aD u0).1) β κ (aC u0) ω (aN u0) (aT u0) (aL u0) en (en + 1) pl wr hY ((aD u0).1 (85 + 13 * qn)) (by omega) (by omega)) (cwV 1 hts gX9_exchange_X9_act rfl rfl rfl (by decide +kernel) ⟨(Nat.le_of_ble_eq_true rfl), (Nat.le_of_ble_eq_true rfl)⟩) hY.1 rfl rfl rfl rfl hl.1 (Nat.le_of_ble_eq_true rfl) dX9_exchange_45 ⟨Nat.zero_le _, Nat.zero_le _⟩ (fun z25 μ22 n23 H locs hz25 hp24 hH hS => ?_)
        obtain ⟨hz9, hfr1, hn9, hp9⟩ := hp24
        have hfr := hfr.tr hfr1
        clear hfr1
        obtain ⟨β1, hY, hrel⟩ := hp9 (by omega)
        rw [hz9]
        clear hz9 hn9 hp9
        subst hQ
        refine m_iret hx hb hr hlocks hH hS dX9_exchange_48 ?_ (by omega)
        unfold a_exchange
        rw [if_pos (by omega), if_neg (by omega)]
        refine ⟨rfl, ⟨_, _, _, _, _, _, _, hY, hR.act (d := (swpS (aD u0).1 pn qn, (aD u0).2)) hrel (Int.le_refl _) (fun _ _ => rfl) (hPD.st (swpS_ot (by omega)) (by rw [swpS_ot (by omega)]; exact Int.le_refl _))⟩, hfr⟩
      · skip
        refine j_bipush hx hb dX9_exchange_21 ?_ (by decide)
        subst hQ
        refine m_iret hx hb hr hlocks hH hS dX9_exchange_23 ?_ (by omega)
        unfold a_exchange
        rw [if_pos (by omega), if_pos (by omega)]
        exact ⟨rfl, ⟨_, _, _, _, _, _, _, hY, hR⟩, hfr⟩
    · skip
      refine j_const hx hb dX9_exchange_14 ?_
      subst hQ
      refine m_iret hx hb hr hlocks hH hS dX9_exchange_15 ?_ (by omega)
      unfold a_exchange
      rw [if_neg (by omega)]
      exact ⟨rfl, ⟨_, _, _, _, _, _, _, hY, hR⟩, hfr⟩

abbrev rm_t_X9_tighten : Room := { frames := 2, cells := 0, slots := 0, locals := 43 }
set_option maxHeartbeats 4000000 in
set_option maxRecDepth 100000 in
theorem t_X9_tighten (l : Launch) (G : wG) (μ : hM) (n : Nat) (yy : Nat) (u0 : aS) (en : Int) (pa : Int) (hM0 : IsM G μ yy u0 en) (hen : en ≤ 5900) (hO : OkD (aD u0)) (hBpa : -2147483648 ≤ pa ∧ pa ≤ 2147483647) : Met l yX9_tighten wsX9_tighten rm_t_X9_tighten (mPc G μ n [.ref yy, .int (iv pa)]) (mQi G (fun z μ1 n1 => z = (a_tighten u0 pa).2 ∧ IsM G μ1 yy (a_tighten u0 pa).1 en ∧ MFr yy μ μ1)) 0 0 (gA G) := by
  refine Met.ofW (cc := cX9_tighten) (maxL := 3) (ret := (some .int)) (by decide) rfl ?_
  intro p e s m args below meth c s₁ B hml hv
  obtain ⟨hav, hK, hH⟩ := hv
  have hx := B.exec
  have hb := B.bytes
  have hr := B.returns
  have hts := atoms_spec (ws := wsX9_tighten) B.pre
  have hown : s.vm.findClass RX9 = some m.cls := findClass_of_methodNamed B.named
  have hlocks := B.notSynchronized
  have hS : va_S (gA G) s.heap s.heap [] := va_S.rf
  have hl := lv_entry ([.ref yy, .int (iv pa)]) (n := 3) (Nat.le_of_ble_eq_true rfl)
  have hfr : entryFrame m args 3 = entryFrame m ([.ref yy, .int (iv pa)] : List Value).toArray 3 := by rw [hav]
  rw [hfr, lg_entry_eq]
  generalize (lg_sl ([.ref yy, .int (iv pa)]) ++ List.replicate (3 - (lg_sl ([.ref yy, .int (iv pa)])).length) Slot.unset).toArray = ls at hl ⊢
  have hl : lv_has ls 3 [(0, .ref yy), (1, .int (iv pa))] := hl
  generalize hQ : MQ below _ args s 0 0 (gA G) = Q
  show W p l e rm_t_X9_tighten s m args below meth c s.heap [] 0 0 Q (F0 m 0 ls [])
  obtain ⟨H, hHe⟩ : ∃ H, H = s.heap := ⟨_, rfl⟩
  obtain ⟨locs, hlo⟩ : ∃ q : List Loc, q = [] := ⟨_, rfl⟩
  have hH : gP G μ n H := by rw [hHe]; exact hH
  have hS : va_S (gA G) s.heap H locs := by rw [hHe, hlo]; exact hS
  suffices hgo : W p l e rm_t_X9_tighten s m args below meth c H locs 0 0 Q (F0 m 0 ls []) by rw [hHe, hlo] at hgo; exact hgo
  clear hHe hlo hfr hav
  have f_0 := hts (.fieldLink RX9 7 "StampDaterModel" "s" "[I") (List.mem_of_getElem? (i := 1) rfl)
  have i_X9 : ∀ w ∈ u_ws RX9 TX9 13, w ∈ wsX9_tighten := by decide +kernel
  have hfr : MFr yy μ μ := MFr.rf
  obtain ⟨α, β, κ, ω, fr, pl, wr, hY, hR⟩ := hM0
  have hT := hO.1
  have hOk := hT.1
  have h3 := hT.2.1
  have h5 := hT.2.2.1
  have h4 := hOk.2.2.2.1
  have hPD := hR.1
  have hen0 := hR.2.2.2.1
  have hkn := hR.2.2.2.2.1
  have hik := hR.2.2.2.2.2.1
  have hOC := hR.2.2.2.2.2.2
  have hl0 := hOC.1
  refine lv_iload_n hx hb dX9_tighten_0 rfl (lv_at hl 1 rfl) ?_
  refine m_callSi (As := [.int (iv pa)]) (rest := []) ⟨hx, hb, hml, hown, hts⟩ hK hH hS (c_X9_isPlace l G μ n pa (by omega)) (va_cwS 1 hts gX9_tighten_X9_isPlace rfl rfl rfl (by decide +kernel) ⟨(Nat.le_of_ble_eq_true rfl), (Nat.le_of_ble_eq_true rfl)⟩) rfl rfl hl.1 (Nat.le_of_ble_eq_true rfl) dX9_tighten_1 ⟨Nat.zero_le _, Nat.zero_le _⟩ (fun z4 μ1 n2 H locs hz4 hp3 hH hS => ?_)
  obtain ⟨hz9, hm9, hn9⟩ := hp3
  rw [hm9, hn9] at hH
  have hz4c : (z4 = 1 ∧ (0 ≤ pa ∧ pa ≤ 5)) ∨ (z4 = 0 ∧ ¬ (0 ≤ pa ∧ pa ≤ 5)) := by
    by_cases q9 : 0 ≤ pa ∧ pa ≤ 5
    · rw [if_pos q9] at hz9; exact Or.inl ⟨hz9, q9⟩
    · rw [if_neg q9] at hz9; exact Or.inr ⟨hz9, q9⟩
  clear hz9 hm9 hn9
  refine j_if_ne (tgt := 9) hx hb dX9_tighten_4 (by decide) (fun c5 => ?_) (fun c5 => ?_) (by omega)
  · skip
    obtain ⟨pn, hpne⟩ : ∃ q : Nat, (q : Int) = pa := ⟨pa.toNat, by omega⟩
    subst hpne
    have hpn : pn < 6 := by omega
    have hsr := (hOk.2.2.2.2 pn hpn).2.2.1
    refine lv_aload_n hx hb dX9_tighten_9 rfl (lv_at hl 0 rfl) ?_
    refine m_get (C := RX9) (T := TX9) (N := 13) (ci := 8) hx hb hts i_X9 hown hK hH hY.1 rfl 0 (by decide) f_0 rfl dX9_tighten_10 ?_
    refine lv_iload_n hx hb dX9_tighten_13 rfl (lv_at hl 1 rfl) ?_
    refine j_const hx hb dX9_tighten_14 ?_
    refine m_callSi (As := [.int (iv (pn : Int)), .int (iv 2)]) (rest := [.ref (yy + 1)]) ⟨hx, hb, hml, hown, hts⟩ hK hH hS (c_X9_of l G μ n (pn : Int) 2 (by omega) (by omega)) (va_cwS 2 hts gX9_tighten_X9_of rfl rfl rfl (by decide +kernel) ⟨(Nat.le_of_ble_eq_true rfl), (Nat.le_of_ble_eq_true rfl)⟩) rfl rfl hl.1 (Nat.le_of_ble_eq_true rfl) dX9_tighten_15 ⟨Nat.zero_le _, Nat.zero_le _⟩ (fun z9 μ6 n7 H locs hz9 hp8 hH hS => ?_)
    obtain ⟨hz9, hm9, hn9⟩ := hp8
    rw [hm9, hn9] at hH
    rw [hz9]
    clear hz9 hm9 hn9
    refine j_norm (y := ((87 + 13 * pn : Nat) : Int)) (by omega) ?_
    refine m_iald (nA := 163) (f := ((aD u0).1)) hx hb hK hH hY.2.1 dX9_tighten_18 ?_ (by omega) (by omega)
    refine j_norm (y := (((aD u0).1) (87 + 13 * pn))) rfl ?_
    refine lv_istore_n (lv' := [(2, .int (iv (((aD u0).1) (87 + 13 * pn)))), (0, .ref yy), (1, .int (iv (pn : Int)))]) hx hb dX9_tighten_19 rfl hl (by decide) rfl (fun ls hl => ?_)
    refine lv_iload_n hx hb dX9_tighten_20 rfl (lv_at hl 0 rfl) ?_
    refine j_if_ne (tgt := 27) hx hb dX9_tighten_21 (by decide) (fun c10 => ?_) (fun c10 => ?_) (by omega)
    · skip
      refine lv_aload_n hx hb dX9_tighten_27 rfl (lv_at hl 1 rfl) ?_
      refine m_callVv (As := []) (rest := []) ⟨hx, hb, hml, hown, hts⟩ hK hH hS (c_X9_putAside l G μ n yy ((aD u0).1) α β κ (aC u0) ω (aN u0) (aT u0) (aL u0) en fr pl wr hY ) (cwV 0 hts gX9_tighten_X9_putAside rfl rfl rfl (by decide +kernel) ⟨(Nat.le_of_ble_eq_true rfl), (Nat.le_of_ble_eq_true rfl)⟩) hY.1 rfl rfl rfl rfl hl.1 (Nat.le_of_ble_eq_true rfl) dX9_tighten_28 ⟨Nat.zero_le _, Nat.zero_le _⟩ (fun μ11 n12 H locs hp13 hH hS => ?_)
      obtain ⟨hY, hfr1⟩ := hp13
      have hfr := hfr.tr hfr1
      clear hfr1
      refine lv_aload_n hx hb dX9_tighten_31 rfl (lv_at hl 1 rfl) ?_
      refine m_get (C := RX9) (T := TX9) (N := 13) (ci := 8) hx hb hts i_X9 hown hK hH hY.1 rfl 0 (by decide) f_0 rfl dX9_tighten_32 ?_
      refine lv_iload_n hx hb dX9_tighten_35 rfl (lv_at hl 2 rfl) ?_
      refine j_const hx hb dX9_tighten_36 ?_
      refine m_callSi (As := [.int (iv (pn : Int)), .int (iv 2)]) (rest := [.ref (yy + 1)]) ⟨hx, hb, hml, hown, hts⟩ hK hH hS (c_X9_of l G μ11 n12 (pn : Int) 2 (by omega) (by omega)) (va_cwS 2 hts gX9_tighten_X9_of rfl rfl rfl (by decide +kernel) ⟨(Nat.le_of_ble_eq_true rfl), (Nat.le_of_ble_eq_true rfl)⟩) rfl rfl hl.1 (Nat.le_of_ble_eq_true rfl) dX9_tighten_37 ⟨Nat.zero_le _, Nat.zero_le _⟩ (fun z17 μ14 n15 H locs hz17 hp16 hH hS => ?_)
      obtain ⟨hz9, hm9, hn9⟩ := hp16
      rw [hm9, hn9] at hH
      rw [hz9]
      clear hz9 hm9 hn9
      refine j_norm (y := ((87 + 13 * pn : Nat) : Int)) (by omega) ?_
      refine j_const hx hb dX9_tighten_40 ?_
      refine m_iast (nA := 163) (f := ((aD u0).1)) hx hb hK hH hS hY.2.1 dX9_tighten_41 (fun H locs hH hS => ?_) (by omega) (by omega)
      obtain ⟨ν18, hY, hfr, hH⟩ : ∃ ξ : hM, IsMM G ξ yy (fu ((aD u0).1) (87 + 13 * pn) 0) ((aD u0).1) β κ (aC u0) ω (aN u0) (aT u0) (aL u0) en (en + 1) pl wr ∧ MFr yy μ ξ ∧ gP G ξ n12 H := hY.w1 hfr hH
      have hH : gP G ν18 n12 H := hH
      refine lv_aload_n hx hb dX9_tighten_42 rfl (lv_at hl 1 rfl) ?_
      refine lv_iload_n hx hb dX9_tighten_43 rfl (lv_at hl 0 rfl) ?_
      refine m_callVi (As := [.int (iv (((aD u0).1) (87 + 13 * pn)))]) (rest := []) ⟨hx, hb, hml, hown, hts⟩ hK hH hS (c_X9_act l G ν18 n12 yy (fu ((aD u0).1) (87 + 13 * pn) 0) ((aD u0).1) β κ (aC u0) ω (aN u0) (aT u0) (aL u0) en (en + 1) pl wr hY (((aD u0).1) (87 + 13 * pn)) (by omega) (by omega)) (cwV 1 hts gX9_tighten_X9_act rfl rfl rfl (by decide +kernel) ⟨(Nat.le_of_ble_eq_true rfl), (Nat.le_of_ble_eq_true rfl)⟩) hY.1 rfl rfl rfl rfl hl.1 (Nat.le_of_ble_eq_true rfl) dX9_tighten_44 ⟨Nat.zero_le _, Nat.zero_le _⟩ (fun z22 μ19 n20 H locs hz22 hp21 hH hS => ?_)
      obtain ⟨hz9, hfr1, hn9, hp9⟩ := hp21
      have hfr := hfr.tr hfr1
      clear hfr1
      obtain ⟨β1, hY, hrel⟩ := hp9 (by omega)
      rw [hz9]
      clear hz9 hn9 hp9
      subst hQ
      refine m_iret hx hb hr hlocks hH hS dX9_tighten_47 ?_ (by omega)
      have hq0 : ¬ (aD u0).1 (87 + 13 * pn) = 0 := by omega
      unfold a_tighten
      rw [if_pos (by omega), show ((pn : Nat) : Int).toNat = pn from rfl, if_neg hq0]
      refine ⟨rfl, ⟨_, _, _, _, _, _, _, hY, hR.act (d := (fu (aD u0).1 (87 + 13 * pn) 0, (aD u0).2)) hrel (Int.le_refl _) (fun _ _ => rfl) (hPD.st (fu_n (by omega)) (by rw [fu_n (by omega)]; exact Int.le_refl _))⟩, hfr⟩
    · skip
      refine j_bipush hx hb dX9_tighten_24 ?_ (by decide)
      subst hQ
      refine m_iret hx hb hr hlocks hH hS dX9_tighten_26 ?_ (by omega)
      have hq0 : (aD u0).1 (87 + 13 * pn) = 0 := by omega
      unfold a_tighten
      rw [if_pos (by omega), show ((pn : Nat) : Int).toNat = pn from rfl, if_pos hq0]
      exact ⟨rfl, ⟨_, _, _, _, _, _, _, hY, hR⟩, hfr⟩
  · skip
    refine j_const hx hb dX9_tighten_7 ?_
    subst hQ
    refine m_iret hx hb hr hlocks hH hS dX9_tighten_8 ?_ (by omega)
    unfold a_tighten
    rw [if_neg (by omega)]
    exact ⟨rfl, ⟨_, _, _, _, _, _, _, hY, hR⟩, hfr⟩

theorem zer_s {σ : Nat → Int} {p kk : Nat} : fu (fun j => if 88 + 13 * p ≤ j ∧ j < 88 + 13 * p + kk then 0 else σ j) (88 + 13 * p + kk) 0 = fun j => if 88 + 13 * p ≤ j ∧ j < 88 + 13 * p + (kk + 1) then 0 else σ j := by
  funext j
  unfold fu
  by_cases e : j = 88 + 13 * p + kk
  · rw [if_pos e, if_pos (by omega)]
  · rw [if_neg e]
    dsimp only
    by_cases h : 88 + 13 * p ≤ j ∧ j < 88 + 13 * p + kk
    · rw [if_pos h, if_pos (by omega)]
    · rw [if_neg h, if_neg (by omega)]
theorem zer_e {σ : Nat → Int} {p : Nat} : fu (fu (fun j => if 88 + 13 * p ≤ j ∧ j < 88 + 13 * p + 10 then 0 else σ j) (86 + 13 * p) 0) (87 + 13 * p) 0 = rnw σ p := by
  funext j
  unfold fu rnw
  by_cases e : j = 87 + 13 * p
  · rw [if_pos e, if_pos (by omega)]
  · rw [if_neg e]
    by_cases e1 : j = 86 + 13 * p
    · rw [if_pos e1, if_pos (by omega)]
    · rw [if_neg e1]
      dsimp only
      by_cases h : 88 + 13 * p ≤ j ∧ j < 88 + 13 * p + 10
      · rw [if_pos h, if_pos (by omega)]
      · rw [if_neg h, if_neg (by omega)]
abbrev rm_t_X9_replace : Room := { frames := 2, cells := 0, slots := 0, locals := 43 }
set_option maxHeartbeats 4000000 in
set_option maxRecDepth 100000 in
theorem t_X9_replace (l : Launch) (G : wG) (μ : hM) (n : Nat) (yy : Nat) (u0 : aS) (en : Int) (pa : Int) (hM0 : IsM G μ yy u0 en) (hen : en ≤ 5900) (hO : OkD (aD u0)) (hBpa : -2147483648 ≤ pa ∧ pa ≤ 2147483647) : Met l yX9_replace wsX9_replace rm_t_X9_replace (mPc G μ n [.ref yy, .int (iv pa)]) (mQi G (fun z μ1 n1 => z = (a_replace u0 pa).2 ∧ IsM G μ1 yy (a_replace u0 pa).1 en ∧ MFr yy μ μ1)) 0 0 (gA G) := by
  refine Met.ofW (cc := cX9_replace) (maxL := 4) (ret := (some .int)) (by decide) rfl ?_
  intro p e s m args below meth c s₁ B hml hv
  obtain ⟨hav, hK, hH⟩ := hv
  have hx := B.exec
  have hb := B.bytes
  have hr := B.returns
  have hts := atoms_spec (ws := wsX9_replace) B.pre
  have hown : s.vm.findClass RX9 = some m.cls := findClass_of_methodNamed B.named
  have hlocks := B.notSynchronized
  have hS : va_S (gA G) s.heap s.heap [] := va_S.rf
  have hl := lv_entry ([.ref yy, .int (iv pa)]) (n := 4) (Nat.le_of_ble_eq_true rfl)
  have hfr : entryFrame m args 4 = entryFrame m ([.ref yy, .int (iv pa)] : List Value).toArray 4 := by rw [hav]
  rw [hfr, lg_entry_eq]
  generalize (lg_sl ([.ref yy, .int (iv pa)]) ++ List.replicate (4 - (lg_sl ([.ref yy, .int (iv pa)])).length) Slot.unset).toArray = ls at hl ⊢
  have hl : lv_has ls 4 [(0, .ref yy), (1, .int (iv pa))] := hl
  generalize hQ : MQ below _ args s 0 0 (gA G) = Q
  show W p l e rm_t_X9_replace s m args below meth c s.heap [] 0 0 Q (F0 m 0 ls [])
  obtain ⟨H, hHe⟩ : ∃ H, H = s.heap := ⟨_, rfl⟩
  obtain ⟨locs, hlo⟩ : ∃ q : List Loc, q = [] := ⟨_, rfl⟩
  have hH : gP G μ n H := by rw [hHe]; exact hH
  have hS : va_S (gA G) s.heap H locs := by rw [hHe, hlo]; exact hS
  suffices hgo : W p l e rm_t_X9_replace s m args below meth c H locs 0 0 Q (F0 m 0 ls []) by rw [hHe, hlo] at hgo; exact hgo
  clear hHe hlo hfr hav
  have f_0 := hts (.fieldLink RX9 7 "StampDaterModel" "s" "[I") (List.mem_of_getElem? (i := 1) rfl)
  have i_X9 : ∀ w ∈ u_ws RX9 TX9 13, w ∈ wsX9_replace := by decide +kernel
  have hfr : MFr yy μ μ := MFr.rf
  obtain ⟨α, β, κ, ω, fr, pl, wr, hY, hR⟩ := hM0
  have hT := hO.1
  have hOk := hT.1
  have h3 := hT.2.1
  have h5 := hT.2.2.1
  have h4 := hOk.2.2.2.1
  have hPD := hR.1
  have hen0 := hR.2.2.2.1
  have hkn := hR.2.2.2.2.1
  have hik := hR.2.2.2.2.2.1
  have hOC := hR.2.2.2.2.2.2
  have hl0 := hOC.1
  refine lv_iload_n hx hb dX9_replace_0 rfl (lv_at hl 1 rfl) ?_
  refine m_callSi (As := [.int (iv pa)]) (rest := []) ⟨hx, hb, hml, hown, hts⟩ hK hH hS (c_X9_isPlace l G μ n pa (by omega)) (va_cwS 1 hts gX9_replace_X9_isPlace rfl rfl rfl (by decide +kernel) ⟨(Nat.le_of_ble_eq_true rfl), (Nat.le_of_ble_eq_true rfl)⟩) rfl rfl hl.1 (Nat.le_of_ble_eq_true rfl) dX9_replace_1 ⟨Nat.zero_le _, Nat.zero_le _⟩ (fun z4 μ1 n2 H locs hz4 hp3 hH hS => ?_)
  obtain ⟨hz9, hm9, hn9⟩ := hp3
  rw [hm9, hn9] at hH
  have hz4c : (z4 = 1 ∧ (0 ≤ pa ∧ pa ≤ 5)) ∨ (z4 = 0 ∧ ¬ (0 ≤ pa ∧ pa ≤ 5)) := by
    by_cases q9 : 0 ≤ pa ∧ pa ≤ 5
    · rw [if_pos q9] at hz9; exact Or.inl ⟨hz9, q9⟩
    · rw [if_neg q9] at hz9; exact Or.inr ⟨hz9, q9⟩
  clear hz9 hm9 hn9
  refine j_if_ne (tgt := 9) hx hb dX9_replace_4 (by decide) (fun c5 => ?_) (fun c5 => ?_) (by omega)
  · skip
    obtain ⟨pn, hpne⟩ : ∃ q : Nat, (q : Int) = pa := ⟨pa.toNat, by omega⟩
    subst hpne
    have hpn : pn < 6 := by omega
    have hbr := bsum_rng (f := roww (aD u0).1 pn) 10 (OkS.w hOk hpn)
    refine lv_aload_n hx hb dX9_replace_9 rfl (lv_at hl 0 rfl) ?_
    refine m_callVv (As := []) (rest := []) ⟨hx, hb, hml, hown, hts⟩ hK hH hS (c_X9_putAside l G μ n yy ((aD u0).1) α β κ (aC u0) ω (aN u0) (aT u0) (aL u0) en fr pl wr hY ) (cwV 0 hts gX9_replace_X9_putAside rfl rfl rfl (by decide +kernel) ⟨(Nat.le_of_ble_eq_true rfl), (Nat.le_of_ble_eq_true rfl)⟩) hY.1 rfl rfl rfl rfl hl.1 (Nat.le_of_ble_eq_true rfl) dX9_replace_10 ⟨Nat.zero_le _, Nat.zero_le _⟩ (fun μ6 n7 H locs hp8 hH hS => ?_)
    obtain ⟨hY, hfr1⟩ := hp8
    have hfr := hfr.tr hfr1
    clear hfr1
    refine j_const hx hb dX9_replace_13 ?_
    refine lv_istore_n (lv' := [(2, .int (iv 0)), (0, .ref yy), (1, .int (iv (pn : Int)))]) hx hb dX9_replace_14 rfl hl (by decide) rfl (fun ls hl => ?_)
    refine j_const hx hb dX9_replace_15 ?_
    refine lv_istore_n (lv' := [(3, .int (iv 0)), (2, .int (iv 0)), (0, .ref yy), (1, .int (iv (pn : Int)))]) hx hb dX9_replace_16 rfl hl (by decide) rfl (fun ls hl => ?_)
    have lp17 : ∀ (fuel : Nat) (kk : Nat) (a0 : Int) (τ : Nat → Int) (ν : hM) (ν0 : Nat) (hY : IsMM G ν yy τ ((aD u0).1) β κ (aC u0) ω (aN u0) (aT u0) (aL u0) en (en + 1) pl wr) (hfr : MFr yy μ ν) (hkk : kk ≤ 10) (ha : a0 = bsum (roww (aD u0).1 pn) kk) (hτ : τ = fun j => if 88 + 13 * pn ≤ j ∧ j < 88 + 13 * pn + kk then 0 else (aD u0).1 j) (_ : 10 - kk < fuel) (H : Heap) (locs : List Loc) (ls : Array Slot) (_ : gP G ν ν0 H) (_ : va_S (gA G) s.heap H locs) (_ : lv_has ls 4 [(0, .ref yy), (1, .int (iv (pn : Int))), (2, .int (iv a0)), (3, .int (iv (kk : Int)))]), W p l e rm_t_X9_replace s m args below meth c H locs 0 0 Q (F0 m 17 ls []) := by
      intro fuel
      induction fuel with
      | zero => intro _ _ _ _ _ _ _ _ _ _ hfuel; exact absurd hfuel (Nat.not_lt_zero _)
      | succ fuel ih =>
        intro kk a0 τ ν ν0 hY hfr hkk ha hτ hfuel H locs ls hH hS hl
        have ih9 := ih; clear ih
        refine lv_iload_n hx hb dX9_replace_17 rfl (lv_at hl 3 rfl) ?_
        refine j_bipush hx hb dX9_replace_18 ?_ (by decide)
        refine j_icmp_ge (tgt := 57) hx hb dX9_replace_20 (by decide) (fun c10 => ?_) (fun c10 => ?_) (by omega) (by omega)
        · skip
          refine lv_aload_n hx hb dX9_replace_57 rfl (lv_at hl 0 rfl) ?_
          refine m_get (C := RX9) (T := TX9) (N := 13) (ci := 8) hx hb hts i_X9 hown hK hH hY.1 rfl 0 (by decide) f_0 rfl dX9_replace_58 ?_
          refine lv_iload_n hx hb dX9_replace_61 rfl (lv_at hl 1 rfl) ?_
          refine j_const hx hb dX9_replace_62 ?_
          refine m_callSi (As := [.int (iv (pn : Int)), .int (iv 1)]) (rest := [.ref (yy + 1)]) ⟨hx, hb, hml, hown, hts⟩ hK hH hS (c_X9_of l G ν ν0 (pn : Int) 1 (by omega) (by omega)) (va_cwS 2 hts gX9_replace_X9_of rfl rfl rfl (by decide +kernel) ⟨(Nat.le_of_ble_eq_true rfl), (Nat.le_of_ble_eq_true rfl)⟩) rfl rfl hl.1 (Nat.le_of_ble_eq_true rfl) dX9_replace_63 ⟨Nat.zero_le _, Nat.zero_le _⟩ (fun z14 μ11 n12 H locs hz14 hp13 hH hS => ?_)
          obtain ⟨hz9, hm9, hn9⟩ := hp13
          rw [hm9, hn9] at hH
          rw [hz9]
          clear hz9 hm9 hn9
          refine j_norm (y := ((86 + 13 * pn : Nat) : Int)) (by omega) ?_
          refine j_const hx hb dX9_replace_66 ?_
          refine m_iast (nA := 163) (f := τ) hx hb hK hH hS hY.2.1 dX9_replace_67 (fun H locs hH hS => ?_) (by omega) (by omega)
          obtain ⟨ν15, hY, hfr, hH⟩ : ∃ ξ : hM, IsMM G ξ yy (fu τ (86 + 13 * pn) 0) ((aD u0).1) β κ (aC u0) ω (aN u0) (aT u0) (aL u0) en (en + 1) pl wr ∧ MFr yy μ ξ ∧ gP G ξ ν0 H := hY.w1 hfr hH
          have hH : gP G ν15 ν0 H := hH
          refine lv_aload_n hx hb dX9_replace_68 rfl (lv_at hl 0 rfl) ?_
          refine m_get (C := RX9) (T := TX9) (N := 13) (ci := 8) hx hb hts i_X9 hown hK hH hY.1 rfl 0 (by decide) f_0 rfl dX9_replace_69 ?_
          refine lv_iload_n hx hb dX9_replace_72 rfl (lv_at hl 1 rfl) ?_
          refine j_const hx hb dX9_replace_73 ?_
          refine m_callSi (As := [.int (iv (pn : Int)), .int (iv 2)]) (rest := [.ref (yy + 1)]) ⟨hx, hb, hml, hown, hts⟩ hK hH hS (c_X9_of l G ν15 ν0 (pn : Int) 2 (by omega) (by omega)) (va_cwS 2 hts gX9_replace_X9_of rfl rfl rfl (by decide +kernel) ⟨(Nat.le_of_ble_eq_true rfl), (Nat.le_of_ble_eq_true rfl)⟩) rfl rfl hl.1 (Nat.le_of_ble_eq_true rfl) dX9_replace_74 ⟨Nat.zero_le _, Nat.zero_le _⟩ (fun z19 μ16 n17 H locs hz19 hp18 hH hS => ?_)
          obtain ⟨hz9, hm9, hn9⟩ := hp18
          rw [hm9, hn9] at hH
          rw [hz9]
          clear hz9 hm9 hn9
          refine j_norm (y := ((87 + 13 * pn : Nat) : Int)) (by omega) ?_
          refine j_const hx hb dX9_replace_77 ?_
          refine m_iast (nA := 163) (f := (fu τ (86 + 13 * pn) 0)) hx hb hK hH hS hY.2.1 dX9_replace_78 (fun H locs hH hS => ?_) (by omega) (by omega)
          obtain ⟨ν20, hY, hfr, hH⟩ : ∃ ξ : hM, IsMM G ξ yy (fu (fu τ (86 + 13 * pn) 0) (87 + 13 * pn) 0) ((aD u0).1) β κ (aC u0) ω (aN u0) (aT u0) (aL u0) en (en + 1) pl wr ∧ MFr yy μ ξ ∧ gP G ξ ν0 H := hY.w1 hfr hH
          have hH : gP G ν20 ν0 H := hH
          have hq9 : fu (fu τ (86 + 13 * pn) 0) (87 + 13 * pn) 0 = (rnw (aD u0).1 pn) := (by rw [hτ, show kk = 10 by omega]; exact zer_e)
          rw [hq9] at hY
          clear hq9
          have ha9 : a0 = bsum (roww (aD u0).1 pn) 10 := by rw [ha, show kk = 10 by omega]
          refine lv_aload_n hx hb dX9_replace_79 rfl (lv_at hl 0 rfl) ?_
          refine lv_iload_n hx hb dX9_replace_80 rfl (lv_at hl 2 rfl) ?_
          refine m_callVi (As := [.int (iv a0)]) (rest := []) ⟨hx, hb, hml, hown, hts⟩ hK hH hS (c_X9_act l G ν20 ν0 yy (rnw (aD u0).1 pn) ((aD u0).1) β κ (aC u0) ω (aN u0) (aT u0) (aL u0) en (en + 1) pl wr hY a0 (by omega) (by omega)) (cwV 1 hts gX9_replace_X9_act rfl rfl rfl (by decide +kernel) ⟨(Nat.le_of_ble_eq_true rfl), (Nat.le_of_ble_eq_true rfl)⟩) hY.1 rfl rfl rfl rfl hl.1 (Nat.le_of_ble_eq_true rfl) dX9_replace_81 ⟨Nat.zero_le _, Nat.zero_le _⟩ (fun z24 μ21 n22 H locs hz24 hp23 hH hS => ?_)
          obtain ⟨hz9, hfr1, hn9, hp9⟩ := hp23
          have hfr := hfr.tr hfr1
          clear hfr1
          obtain ⟨β1, hY, hrel⟩ := hp9 (by omega)
          rw [hz9]
          clear hz9 hn9 hp9
          subst hQ
          refine m_iret hx hb hr hlocks hH hS dX9_replace_84 ?_ (by omega)
          unfold a_replace
          rw [if_pos (by omega), show ((pn : Nat) : Int).toNat = pn from rfl]
          refine ⟨ha9, ⟨_, _, _, _, _, _, _, hY, hR.act (d := (rnw (aD u0).1 pn, (aD u0).2)) hrel (Int.le_refl _) (fun _ _ => rfl) (hPD.st (if_neg (by omega)) (by show _ ≤ rnw _ _ 3; rw [show rnw (aD u0).1 pn 3 = (aD u0).1 3 from if_neg (by omega)]; exact Int.le_refl _))⟩, hfr⟩
        · skip
          refine lv_iload_n hx hb dX9_replace_23 rfl (lv_at hl 2 rfl) ?_
          refine lv_aload_n hx hb dX9_replace_24 rfl (lv_at hl 0 rfl) ?_
          refine m_get (C := RX9) (T := TX9) (N := 13) (ci := 8) hx hb hts i_X9 hown hK hH hY.1 rfl 0 (by decide) f_0 rfl dX9_replace_25 ?_
          refine lv_iload_n hx hb dX9_replace_28 rfl (lv_at hl 1 rfl) ?_
          refine j_const hx hb dX9_replace_29 ?_
          refine lv_iload_n hx hb dX9_replace_30 rfl (lv_at hl 3 rfl) ?_
          refine j_iadd hx hb dX9_replace_31 ?_
          refine m_callSi (As := [.int (iv (pn : Int)), .int (iv (3 + (kk : Int)))]) (rest := [.ref (yy + 1), .int (iv a0)]) ⟨hx, hb, hml, hown, hts⟩ hK hH hS (c_X9_of l G ν ν0 (pn : Int) (3 + (kk : Int)) (by omega) (by omega)) (va_cwS 2 hts gX9_replace_X9_of rfl rfl rfl (by decide +kernel) ⟨(Nat.le_of_ble_eq_true rfl), (Nat.le_of_ble_eq_true rfl)⟩) rfl rfl hl.1 (Nat.le_of_ble_eq_true rfl) dX9_replace_32 ⟨Nat.zero_le _, Nat.zero_le _⟩ (fun z28 μ25 n26 H locs hz28 hp27 hH hS => ?_)
          obtain ⟨hz9, hm9, hn9⟩ := hp27
          rw [hm9, hn9] at hH
          rw [hz9]
          clear hz9 hm9 hn9
          refine j_norm (y := ((88 + 13 * pn + kk : Nat) : Int)) (by omega) ?_
          refine m_iald (nA := 163) (f := τ) hx hb hK hH hY.2.1 dX9_replace_35 ?_ (by omega) (by omega)
          refine j_norm (y := (τ (88 + 13 * pn + kk))) rfl ?_
          have hτk : τ (88 + 13 * pn + kk) = roww (aD u0).1 pn kk := by rw [roww_at (by omega), hτ]; exact if_neg (by omega)
          refine j_norm (y := (roww (aD u0).1 pn kk)) hτk ?_
          refine j_iadd hx hb dX9_replace_36 ?_
          refine lv_istore_n (lv' := [(2, .int (iv (a0 + (roww (aD u0).1 pn kk)))), (0, .ref yy), (1, .int (iv (pn : Int))), (3, .int (iv (kk : Int)))]) hx hb dX9_replace_37 rfl hl (by decide) rfl (fun ls hl => ?_)
          refine lv_aload_n hx hb dX9_replace_38 rfl (lv_at hl 1 rfl) ?_
          refine m_get (C := RX9) (T := TX9) (N := 13) (ci := 8) hx hb hts i_X9 hown hK hH hY.1 rfl 0 (by decide) f_0 rfl dX9_replace_39 ?_
          refine lv_iload_n hx hb dX9_replace_42 rfl (lv_at hl 2 rfl) ?_
          refine j_const hx hb dX9_replace_43 ?_
          refine lv_iload_n hx hb dX9_replace_44 rfl (lv_at hl 3 rfl) ?_
          refine j_iadd hx hb dX9_replace_45 ?_
          refine m_callSi (As := [.int (iv (pn : Int)), .int (iv (3 + (kk : Int)))]) (rest := [.ref (yy + 1)]) ⟨hx, hb, hml, hown, hts⟩ hK hH hS (c_X9_of l G ν ν0 (pn : Int) (3 + (kk : Int)) (by omega) (by omega)) (va_cwS 2 hts gX9_replace_X9_of rfl rfl rfl (by decide +kernel) ⟨(Nat.le_of_ble_eq_true rfl), (Nat.le_of_ble_eq_true rfl)⟩) rfl rfl hl.1 (Nat.le_of_ble_eq_true rfl) dX9_replace_46 ⟨Nat.zero_le _, Nat.zero_le _⟩ (fun z32 μ29 n30 H locs hz32 hp31 hH hS => ?_)
          obtain ⟨hz9, hm9, hn9⟩ := hp31
          rw [hm9, hn9] at hH
          rw [hz9]
          clear hz9 hm9 hn9
          refine j_norm (y := ((88 + 13 * pn + kk : Nat) : Int)) (by omega) ?_
          refine j_const hx hb dX9_replace_49 ?_
          refine m_iast (nA := 163) (f := τ) hx hb hK hH hS hY.2.1 dX9_replace_50 (fun H locs hH hS => ?_) (by omega) (by omega)
          obtain ⟨ν33, hY, hfr, hH⟩ : ∃ ξ : hM, IsMM G ξ yy (fu τ (88 + 13 * pn + kk) 0) ((aD u0).1) β κ (aC u0) ω (aN u0) (aT u0) (aL u0) en (en + 1) pl wr ∧ MFr yy μ ξ ∧ gP G ξ ν0 H := hY.w1 hfr hH
          have hH : gP G ν33 ν0 H := hH
          refine j_iinc (lv' := [(3, .int (iv ((kk : Int) + 1))), (2, .int (iv (a0 + (roww (aD u0).1 pn kk)))), (0, .ref yy), (1, .int (iv (pn : Int)))]) hx hb dX9_replace_51 hl (k := 3) rfl (by decide) rfl (fun ls hl => ?_)
          refine lv_goto (tgt := 17) hx hb dX9_replace_54 (by decide) ?_
          exact ih9 (kk + 1) (a0 + (roww (aD u0).1 pn kk)) (fu τ (88 + 13 * pn + kk) 0) ν33 ν0 hY hfr (by omega) (by rw [ha]; rfl) (by rw [hτ]; exact zer_s) (by omega) H locs ls hH hS (lv_sub hl [2, 3, 1, 0] rfl)
    exact lp17 (11) 0 0 ((aD u0).1) μ6 n7 hY hfr (by omega) rfl (by funext j; rw [if_neg (by omega)]) (by omega) H locs ls hH hS (lv_sub hl [2, 3, 1, 0] rfl)
  · skip
    refine j_const hx hb dX9_replace_7 ?_
    subst hQ
    refine m_iret hx hb hr hlocks hH hS dX9_replace_8 ?_ (by omega)
    unfold a_replace
    rw [if_neg (by omega)]
    exact ⟨rfl, ⟨_, _, _, _, _, _, _, hY, hR⟩, hfr⟩

abbrev rm_t_X9_set : Room := { frames := 2, cells := 0, slots := 0, locals := 43 }
set_option maxHeartbeats 4000000 in
set_option maxRecDepth 100000 in
theorem t_X9_set (l : Launch) (G : wG) (μ : hM) (n : Nat) (yy : Nat) (u0 : aS) (en : Int) (wa v : Int) (hM0 : IsM G μ yy u0 en) (hen : en ≤ 5900) (hO : OkD (aD u0)) (hBwa : -2147483648 ≤ wa ∧ wa ≤ 2147483647) (hBv : -2147483648 ≤ v ∧ v ≤ 2147483647) : Met l yX9_set wsX9_set rm_t_X9_set (mPc G μ n [.ref yy, .int (iv wa), .int (iv v)]) (mQi G (fun z μ1 n1 => z = (a_set u0 wa v).2 ∧ IsM G μ1 yy (a_set u0 wa v).1 en ∧ MFr yy μ μ1)) 0 0 (gA G) := by
  refine Met.ofW (cc := cX9_set) (maxL := 4) (ret := (some .int)) (by decide) rfl ?_
  intro p e s m args below meth c s₁ B hml hv
  obtain ⟨hav, hK, hH⟩ := hv
  have hx := B.exec
  have hb := B.bytes
  have hr := B.returns
  have hts := atoms_spec (ws := wsX9_set) B.pre
  have hown : s.vm.findClass RX9 = some m.cls := findClass_of_methodNamed B.named
  have hlocks := B.notSynchronized
  have hS : va_S (gA G) s.heap s.heap [] := va_S.rf
  have hl := lv_entry ([.ref yy, .int (iv wa), .int (iv v)]) (n := 4) (Nat.le_of_ble_eq_true rfl)
  have hfr : entryFrame m args 4 = entryFrame m ([.ref yy, .int (iv wa), .int (iv v)] : List Value).toArray 4 := by rw [hav]
  rw [hfr, lg_entry_eq]
  generalize (lg_sl ([.ref yy, .int (iv wa), .int (iv v)]) ++ List.replicate (4 - (lg_sl ([.ref yy, .int (iv wa), .int (iv v)])).length) Slot.unset).toArray = ls at hl ⊢
  have hl : lv_has ls 4 [(0, .ref yy), (1, .int (iv wa)), (2, .int (iv v))] := hl
  generalize hQ : MQ below _ args s 0 0 (gA G) = Q
  show W p l e rm_t_X9_set s m args below meth c s.heap [] 0 0 Q (F0 m 0 ls [])
  obtain ⟨H, hHe⟩ : ∃ H, H = s.heap := ⟨_, rfl⟩
  obtain ⟨locs, hlo⟩ : ∃ q : List Loc, q = [] := ⟨_, rfl⟩
  have hH : gP G μ n H := by rw [hHe]; exact hH
  have hS : va_S (gA G) s.heap H locs := by rw [hHe, hlo]; exact hS
  suffices hgo : W p l e rm_t_X9_set s m args below meth c H locs 0 0 Q (F0 m 0 ls []) by rw [hHe, hlo] at hgo; exact hgo
  clear hHe hlo hfr hav
  have f_0 := hts (.fieldLink RX9 7 "StampDaterModel" "s" "[I") (List.mem_of_getElem? (i := 1) rfl)
  have i_X9 : ∀ w ∈ u_ws RX9 TX9 13, w ∈ wsX9_set := by decide +kernel
  have hfr : MFr yy μ μ := MFr.rf
  obtain ⟨α, β, κ, ω, fr, pl, wr, hY, hR⟩ := hM0
  have hT := hO.1
  have hOk := hT.1
  have h3 := hT.2.1
  have h5 := hT.2.2.1
  have h4 := hOk.2.2.2.1
  have hPD := hR.1
  have hen0 := hR.2.2.2.1
  have hkn := hR.2.2.2.2.1
  have hik := hR.2.2.2.2.2.1
  have hOC := hR.2.2.2.2.2.2
  have hl0 := hOC.1
  have hls := loSet_rng wa
  refine lv_iload_n hx hb dX9_set_0 rfl (lv_at hl 1 rfl) ?_
  refine j_const hx hb dX9_set_1 ?_
  refine j_const hx hb dX9_set_2 ?_
  refine m_callSi (As := [.int (iv wa), .int (iv 0), .int (iv 2)]) (rest := []) ⟨hx, hb, hml, hown, hts⟩ hK hH hS (c_X9_in l G μ n wa 0 2 (by omega) (by omega) (by omega)) (va_cwS 3 hts gX9_set_X9_in rfl rfl rfl (by decide +kernel) ⟨(Nat.le_of_ble_eq_true rfl), (Nat.le_of_ble_eq_true rfl)⟩) rfl rfl hl.1 (Nat.le_of_ble_eq_true rfl) dX9_set_3 ⟨Nat.zero_le _, Nat.zero_le _⟩ (fun z4 μ1 n2 H locs hz4 hp3 hH hS => ?_)
  obtain ⟨hz9, hm9, hn9⟩ := hp3
  rw [hm9, hn9] at hH
  have hz4c : (z4 = 1 ∧ (0 ≤ wa ∧ wa ≤ 2)) ∨ (z4 = 0 ∧ ¬ (0 ≤ wa ∧ wa ≤ 2)) := by
    by_cases q9 : 0 ≤ wa ∧ wa ≤ 2
    · rw [if_pos q9] at hz9; exact Or.inl ⟨hz9, q9⟩
    · rw [if_neg q9] at hz9; exact Or.inr ⟨hz9, q9⟩
  clear hz9 hm9 hn9
  refine j_if_eq (tgt := 58) hx hb dX9_set_6 (by decide) (fun c5 => ?_) (fun c5 => ?_) (by omega)
  · skip
    refine j_bipush hx hb dX9_set_58 ?_ (by decide)
    subst hQ
    refine m_iret hx hb hr hlocks hH hS dX9_set_60 ?_ (by omega)
    unfold a_set
    rw [if_neg (by unfold loSet hiSet; intro q9; (repeat' split at q9) <;> omega)]
    exact ⟨rfl, ⟨_, _, _, _, _, _, _, hY, hR⟩, hfr⟩
  · skip
    refine lv_iload_n hx hb dX9_set_9 rfl (lv_at hl 2 rfl) ?_
    refine lv_iload_n hx hb dX9_set_10 rfl (lv_at hl 1 rfl) ?_
    refine j_if_ne (tgt := 19) hx hb dX9_set_11 (by decide) (fun c6 => ?_) (fun c6 => ?_) (by omega)
    · skip
      refine lv_iload_n hx hb dX9_set_19 rfl (lv_at hl 1 rfl) ?_
      refine j_const hx hb dX9_set_20 ?_
      refine j_icmp_ne (tgt := 29) hx hb dX9_set_21 (by decide) (fun c7 => ?_) (fun c7 => ?_) (by omega) (by omega)
      · skip
        refine j_const hx hb dX9_set_29 ?_
        refine lv_iload_n hx hb dX9_set_30 rfl (lv_at hl 1 rfl) ?_
        refine j_if_ne (tgt := 39) hx hb dX9_set_31 (by decide) (fun c8 => ?_) (fun c8 => ?_) (by omega)
        · skip
          refine lv_iload_n hx hb dX9_set_39 rfl (lv_at hl 1 rfl) ?_
          refine j_const hx hb dX9_set_40 ?_
          refine j_icmp_ne (tgt := 50) hx hb dX9_set_41 (by decide) (fun c9 => ?_) (fun c9 => ?_) (by omega) (by omega)
          · skip
            refine j_bipush hx hb dX9_set_50 ?_ (by decide)
            refine m_callSi (As := [.int (iv v), .int (iv 1), .int (iv 99)]) (rest := []) ⟨hx, hb, hml, hown, hts⟩ hK hH hS (c_X9_in l G μ n v 1 99 (by omega) (by omega) (by omega)) (va_cwS 3 hts gX9_set_X9_in rfl rfl rfl (by decide +kernel) ⟨(Nat.le_of_ble_eq_true rfl), (Nat.le_of_ble_eq_true rfl)⟩) rfl rfl hl.1 (Nat.le_of_ble_eq_true rfl) dX9_set_52 ⟨Nat.zero_le _, Nat.zero_le _⟩ (fun z13 μ10 n11 H locs hz13 hp12 hH hS => ?_)
            obtain ⟨hz9, hm9, hn9⟩ := hp12
            rw [hm9, hn9] at hH
            have hz13c : (z13 = 1 ∧ (1 ≤ v ∧ v ≤ 99)) ∨ (z13 = 0 ∧ ¬ (1 ≤ v ∧ v ≤ 99)) := by
              by_cases q9 : 1 ≤ v ∧ v ≤ 99
              · rw [if_pos q9] at hz9; exact Or.inl ⟨hz9, q9⟩
              · rw [if_neg q9] at hz9; exact Or.inr ⟨hz9, q9⟩
            clear hz9 hm9 hn9
            refine j_if_ne (tgt := 61) hx hb dX9_set_55 (by decide) (fun c14 => ?_) (fun c14 => ?_) (by omega)
            · skip
              have hls2 : loSet wa ≤ v ∧ v ≤ hiSet wa := by unfold loSet hiSet; constructor; (repeat' split) <;> omega; (repeat' split) <;> omega
              obtain ⟨wn, hwne⟩ : ∃ q : Nat, (q : Int) = wa := ⟨wa.toNat, by omega⟩
              subst hwne
              have hw3 : wn < 3 := by omega
              have hsr : 0 ≤ (aD u0).1 wn ∧ (aD u0).1 wn ≤ 150 := by
                have hc : wn = 0 ∨ wn = 1 ∨ wn = 2 := by omega
                obtain ⟨b0, b1, b2, -⟩ := hOk
                rcases hc with rfl | rfl | rfl <;> omega
              refine lv_aload_n hx hb dX9_set_61 rfl (lv_at hl 0 rfl) ?_
              refine m_get (C := RX9) (T := TX9) (N := 13) (ci := 8) hx hb hts i_X9 hown hK hH hY.1 rfl 0 (by decide) f_0 rfl dX9_set_62 ?_
              refine lv_iload_n hx hb dX9_set_65 rfl (lv_at hl 1 rfl) ?_
              refine m_iald (nA := 163) (f := ((aD u0).1)) hx hb hK hH hY.2.1 dX9_set_66 ?_ (by omega) (by omega)
              refine j_norm (y := (((aD u0).1) wn)) rfl ?_
              refine lv_istore_n (lv' := [(3, .int (iv (((aD u0).1) wn))), (0, .ref yy), (1, .int (iv (wn : Int))), (2, .int (iv v))]) hx hb dX9_set_67 rfl hl (by decide) rfl (fun ls hl => ?_)
              refine lv_iload_n hx hb dX9_set_68 rfl (lv_at hl 0 rfl) ?_
              refine lv_iload_n hx hb dX9_set_69 rfl (lv_at hl 3 rfl) ?_
              refine j_icmp_ne (tgt := 76) hx hb dX9_set_70 (by decide) (fun c15 => ?_) (fun c15 => ?_) (by omega) (by omega)
              · skip
                refine lv_aload_n hx hb dX9_set_76 rfl (lv_at hl 1 rfl) ?_
                refine m_callVv (As := []) (rest := []) ⟨hx, hb, hml, hown, hts⟩ hK hH hS (c_X9_putAside l G μ n yy ((aD u0).1) α β κ (aC u0) ω (aN u0) (aT u0) (aL u0) en fr pl wr hY ) (cwV 0 hts gX9_set_X9_putAside rfl rfl rfl (by decide +kernel) ⟨(Nat.le_of_ble_eq_true rfl), (Nat.le_of_ble_eq_true rfl)⟩) hY.1 rfl rfl rfl rfl hl.1 (Nat.le_of_ble_eq_true rfl) dX9_set_77 ⟨Nat.zero_le _, Nat.zero_le _⟩ (fun μ16 n17 H locs hp18 hH hS => ?_)
                obtain ⟨hY, hfr1⟩ := hp18
                have hfr := hfr.tr hfr1
                clear hfr1
                refine lv_aload_n hx hb dX9_set_80 rfl (lv_at hl 1 rfl) ?_
                refine m_get (C := RX9) (T := TX9) (N := 13) (ci := 8) hx hb hts i_X9 hown hK hH hY.1 rfl 0 (by decide) f_0 rfl dX9_set_81 ?_
                refine lv_iload_n hx hb dX9_set_84 rfl (lv_at hl 2 rfl) ?_
                refine lv_iload_n hx hb dX9_set_85 rfl (lv_at hl 3 rfl) ?_
                refine m_iast (nA := 163) (f := ((aD u0).1)) hx hb hK hH hS hY.2.1 dX9_set_86 (fun H locs hH hS => ?_) (by omega) (by omega)
                obtain ⟨ν19, hY, hfr, hH⟩ : ∃ ξ : hM, IsMM G ξ yy (fu ((aD u0).1) wn v) ((aD u0).1) β κ (aC u0) ω (aN u0) (aT u0) (aL u0) en (en + 1) pl wr ∧ MFr yy μ ξ ∧ gP G ξ n17 H := hY.w1 hfr hH
                have hH : gP G ν19 n17 H := hH
                refine lv_aload_n hx hb dX9_set_87 rfl (lv_at hl 1 rfl) ?_
                refine lv_iload_n hx hb dX9_set_88 rfl (lv_at hl 0 rfl) ?_
                refine m_callVi (As := [.int (iv (((aD u0).1) wn))]) (rest := []) ⟨hx, hb, hml, hown, hts⟩ hK hH hS (c_X9_act l G ν19 n17 yy (fu ((aD u0).1) wn v) ((aD u0).1) β κ (aC u0) ω (aN u0) (aT u0) (aL u0) en (en + 1) pl wr hY (((aD u0).1) wn) (by omega) (by omega)) (cwV 1 hts gX9_set_X9_act rfl rfl rfl (by decide +kernel) ⟨(Nat.le_of_ble_eq_true rfl), (Nat.le_of_ble_eq_true rfl)⟩) hY.1 rfl rfl rfl rfl hl.1 (Nat.le_of_ble_eq_true rfl) dX9_set_89 ⟨Nat.zero_le _, Nat.zero_le _⟩ (fun z23 μ20 n21 H locs hz23 hp22 hH hS => ?_)
                obtain ⟨hz9, hfr1, hn9, hp9⟩ := hp22
                have hfr := hfr.tr hfr1
                clear hfr1
                obtain ⟨β1, hY, hrel⟩ := hp9 (by omega)
                rw [hz9]
                clear hz9 hn9 hp9
                subst hQ
                refine m_iret hx hb hr hlocks hH hS dX9_set_92 ?_ (by omega)
                unfold a_set
                rw [if_pos ⟨by omega, hls2⟩, show ((wn : Nat) : Int).toNat = wn from rfl, if_neg (by omega)]
                refine ⟨rfl, ⟨_, _, _, _, _, _, _, hY, hR.act (d := (fu (aD u0).1 wn v, (aD u0).2)) hrel (Int.le_refl _) (fun _ _ => rfl) (hPD.st (fu_n (by omega)) (by rw [fu_n (by omega)]; exact Int.le_refl _))⟩, hfr⟩
              · skip
                refine j_bipush hx hb dX9_set_73 ?_ (by decide)
                subst hQ
                refine m_iret hx hb hr hlocks hH hS dX9_set_75 ?_ (by omega)
                unfold a_set
                rw [if_pos ⟨by omega, hls2⟩, show ((wn : Nat) : Int).toNat = wn from rfl, if_pos (by omega)]
                exact ⟨rfl, ⟨_, _, _, _, _, _, _, hY, hR⟩, hfr⟩
            · skip
              refine j_bipush hx hb dX9_set_58 ?_ (by decide)
              subst hQ
              refine m_iret hx hb hr hlocks hH hS dX9_set_60 ?_ (by omega)
              unfold a_set
              rw [if_neg (by unfold loSet hiSet; intro q9; (repeat' split at q9) <;> omega)]
              exact ⟨rfl, ⟨_, _, _, _, _, _, _, hY, hR⟩, hfr⟩
          · skip
            refine j_sipush hx hb dX9_set_44 ?_ (by decide)
            refine lv_goto (tgt := 52) hx hb dX9_set_47 (by decide) ?_
            refine m_callSi (As := [.int (iv v), .int (iv 1), .int (iv 150)]) (rest := []) ⟨hx, hb, hml, hown, hts⟩ hK hH hS (c_X9_in l G μ n v 1 150 (by omega) (by omega) (by omega)) (va_cwS 3 hts gX9_set_X9_in rfl rfl rfl (by decide +kernel) ⟨(Nat.le_of_ble_eq_true rfl), (Nat.le_of_ble_eq_true rfl)⟩) rfl rfl hl.1 (Nat.le_of_ble_eq_true rfl) dX9_set_52 ⟨Nat.zero_le _, Nat.zero_le _⟩ (fun z27 μ24 n25 H locs hz27 hp26 hH hS => ?_)
            obtain ⟨hz9, hm9, hn9⟩ := hp26
            rw [hm9, hn9] at hH
            have hz27c : (z27 = 1 ∧ (1 ≤ v ∧ v ≤ 150)) ∨ (z27 = 0 ∧ ¬ (1 ≤ v ∧ v ≤ 150)) := by
              by_cases q9 : 1 ≤ v ∧ v ≤ 150
              · rw [if_pos q9] at hz9; exact Or.inl ⟨hz9, q9⟩
              · rw [if_neg q9] at hz9; exact Or.inr ⟨hz9, q9⟩
            clear hz9 hm9 hn9
            refine j_if_ne (tgt := 61) hx hb dX9_set_55 (by decide) (fun c28 => ?_) (fun c28 => ?_) (by omega)
            · skip
              have hls2 : loSet wa ≤ v ∧ v ≤ hiSet wa := by unfold loSet hiSet; constructor; (repeat' split) <;> omega; (repeat' split) <;> omega
              obtain ⟨wn, hwne⟩ : ∃ q : Nat, (q : Int) = wa := ⟨wa.toNat, by omega⟩
              subst hwne
              have hw3 : wn < 3 := by omega
              have hsr : 0 ≤ (aD u0).1 wn ∧ (aD u0).1 wn ≤ 150 := by
                have hc : wn = 0 ∨ wn = 1 ∨ wn = 2 := by omega
                obtain ⟨b0, b1, b2, -⟩ := hOk
                rcases hc with rfl | rfl | rfl <;> omega
              refine lv_aload_n hx hb dX9_set_61 rfl (lv_at hl 0 rfl) ?_
              refine m_get (C := RX9) (T := TX9) (N := 13) (ci := 8) hx hb hts i_X9 hown hK hH hY.1 rfl 0 (by decide) f_0 rfl dX9_set_62 ?_
              refine lv_iload_n hx hb dX9_set_65 rfl (lv_at hl 1 rfl) ?_
              refine m_iald (nA := 163) (f := ((aD u0).1)) hx hb hK hH hY.2.1 dX9_set_66 ?_ (by omega) (by omega)
              refine j_norm (y := (((aD u0).1) wn)) rfl ?_
              refine lv_istore_n (lv' := [(3, .int (iv (((aD u0).1) wn))), (0, .ref yy), (1, .int (iv (wn : Int))), (2, .int (iv v))]) hx hb dX9_set_67 rfl hl (by decide) rfl (fun ls hl => ?_)
              refine lv_iload_n hx hb dX9_set_68 rfl (lv_at hl 0 rfl) ?_
              refine lv_iload_n hx hb dX9_set_69 rfl (lv_at hl 3 rfl) ?_
              refine j_icmp_ne (tgt := 76) hx hb dX9_set_70 (by decide) (fun c29 => ?_) (fun c29 => ?_) (by omega) (by omega)
              · skip
                refine lv_aload_n hx hb dX9_set_76 rfl (lv_at hl 1 rfl) ?_
                refine m_callVv (As := []) (rest := []) ⟨hx, hb, hml, hown, hts⟩ hK hH hS (c_X9_putAside l G μ n yy ((aD u0).1) α β κ (aC u0) ω (aN u0) (aT u0) (aL u0) en fr pl wr hY ) (cwV 0 hts gX9_set_X9_putAside rfl rfl rfl (by decide +kernel) ⟨(Nat.le_of_ble_eq_true rfl), (Nat.le_of_ble_eq_true rfl)⟩) hY.1 rfl rfl rfl rfl hl.1 (Nat.le_of_ble_eq_true rfl) dX9_set_77 ⟨Nat.zero_le _, Nat.zero_le _⟩ (fun μ30 n31 H locs hp32 hH hS => ?_)
                obtain ⟨hY, hfr1⟩ := hp32
                have hfr := hfr.tr hfr1
                clear hfr1
                refine lv_aload_n hx hb dX9_set_80 rfl (lv_at hl 1 rfl) ?_
                refine m_get (C := RX9) (T := TX9) (N := 13) (ci := 8) hx hb hts i_X9 hown hK hH hY.1 rfl 0 (by decide) f_0 rfl dX9_set_81 ?_
                refine lv_iload_n hx hb dX9_set_84 rfl (lv_at hl 2 rfl) ?_
                refine lv_iload_n hx hb dX9_set_85 rfl (lv_at hl 3 rfl) ?_
                refine m_iast (nA := 163) (f := ((aD u0).1)) hx hb hK hH hS hY.2.1 dX9_set_86 (fun H locs hH hS => ?_) (by omega) (by omega)
                obtain ⟨ν33, hY, hfr, hH⟩ : ∃ ξ : hM, IsMM G ξ yy (fu ((aD u0).1) wn v) ((aD u0).1) β κ (aC u0) ω (aN u0) (aT u0) (aL u0) en (en + 1) pl wr ∧ MFr yy μ ξ ∧ gP G ξ n31 H := hY.w1 hfr hH
                have hH : gP G ν33 n31 H := hH
                refine lv_aload_n hx hb dX9_set_87 rfl (lv_at hl 1 rfl) ?_
                refine lv_iload_n hx hb dX9_set_88 rfl (lv_at hl 0 rfl) ?_
                refine m_callVi (As := [.int (iv (((aD u0).1) wn))]) (rest := []) ⟨hx, hb, hml, hown, hts⟩ hK hH hS (c_X9_act l G ν33 n31 yy (fu ((aD u0).1) wn v) ((aD u0).1) β κ (aC u0) ω (aN u0) (aT u0) (aL u0) en (en + 1) pl wr hY (((aD u0).1) wn) (by omega) (by omega)) (cwV 1 hts gX9_set_X9_act rfl rfl rfl (by decide +kernel) ⟨(Nat.le_of_ble_eq_true rfl), (Nat.le_of_ble_eq_true rfl)⟩) hY.1 rfl rfl rfl rfl hl.1 (Nat.le_of_ble_eq_true rfl) dX9_set_89 ⟨Nat.zero_le _, Nat.zero_le _⟩ (fun z37 μ34 n35 H locs hz37 hp36 hH hS => ?_)
                obtain ⟨hz9, hfr1, hn9, hp9⟩ := hp36
                have hfr := hfr.tr hfr1
                clear hfr1
                obtain ⟨β1, hY, hrel⟩ := hp9 (by omega)
                rw [hz9]
                clear hz9 hn9 hp9
                subst hQ
                refine m_iret hx hb hr hlocks hH hS dX9_set_92 ?_ (by omega)
                unfold a_set
                rw [if_pos ⟨by omega, hls2⟩, show ((wn : Nat) : Int).toNat = wn from rfl, if_neg (by omega)]
                refine ⟨rfl, ⟨_, _, _, _, _, _, _, hY, hR.act (d := (fu (aD u0).1 wn v, (aD u0).2)) hrel (Int.le_refl _) (fun _ _ => rfl) (hPD.st (fu_n (by omega)) (by rw [fu_n (by omega)]; exact Int.le_refl _))⟩, hfr⟩
              · skip
                refine j_bipush hx hb dX9_set_73 ?_ (by decide)
                subst hQ
                refine m_iret hx hb hr hlocks hH hS dX9_set_75 ?_ (by omega)
                unfold a_set
                rw [if_pos ⟨by omega, hls2⟩, show ((wn : Nat) : Int).toNat = wn from rfl, if_pos (by omega)]
                exact ⟨rfl, ⟨_, _, _, _, _, _, _, hY, hR⟩, hfr⟩
            · skip
              refine j_bipush hx hb dX9_set_58 ?_ (by decide)
              subst hQ
              refine m_iret hx hb hr hlocks hH hS dX9_set_60 ?_ (by omega)
              unfold a_set
              rw [if_neg (by unfold loSet hiSet; intro q9; (repeat' split at q9) <;> omega)]
              exact ⟨rfl, ⟨_, _, _, _, _, _, _, hY, hR⟩, hfr⟩
        · skip
          refine j_bipush hx hb dX9_set_34 ?_ (by decide)
          refine lv_goto (tgt := 52) hx hb dX9_set_36 (by decide) ?_
          refine m_callSi (As := [.int (iv v), .int (iv 1), .int (iv 60)]) (rest := []) ⟨hx, hb, hml, hown, hts⟩ hK hH hS (c_X9_in l G μ n v 1 60 (by omega) (by omega) (by omega)) (va_cwS 3 hts gX9_set_X9_in rfl rfl rfl (by decide +kernel) ⟨(Nat.le_of_ble_eq_true rfl), (Nat.le_of_ble_eq_true rfl)⟩) rfl rfl hl.1 (Nat.le_of_ble_eq_true rfl) dX9_set_52 ⟨Nat.zero_le _, Nat.zero_le _⟩ (fun z41 μ38 n39 H locs hz41 hp40 hH hS => ?_)
          obtain ⟨hz9, hm9, hn9⟩ := hp40
          rw [hm9, hn9] at hH
          have hz41c : (z41 = 1 ∧ (1 ≤ v ∧ v ≤ 60)) ∨ (z41 = 0 ∧ ¬ (1 ≤ v ∧ v ≤ 60)) := by
            by_cases q9 : 1 ≤ v ∧ v ≤ 60
            · rw [if_pos q9] at hz9; exact Or.inl ⟨hz9, q9⟩
            · rw [if_neg q9] at hz9; exact Or.inr ⟨hz9, q9⟩
          clear hz9 hm9 hn9
          refine j_if_ne (tgt := 61) hx hb dX9_set_55 (by decide) (fun c42 => ?_) (fun c42 => ?_) (by omega)
          · skip
            have hls2 : loSet wa ≤ v ∧ v ≤ hiSet wa := by unfold loSet hiSet; constructor; (repeat' split) <;> omega; (repeat' split) <;> omega
            obtain ⟨wn, hwne⟩ : ∃ q : Nat, (q : Int) = wa := ⟨wa.toNat, by omega⟩
            subst hwne
            have hw3 : wn < 3 := by omega
            have hsr : 0 ≤ (aD u0).1 wn ∧ (aD u0).1 wn ≤ 150 := by
              have hc : wn = 0 ∨ wn = 1 ∨ wn = 2 := by omega
              obtain ⟨b0, b1, b2, -⟩ := hOk
              rcases hc with rfl | rfl | rfl <;> omega
            refine lv_aload_n hx hb dX9_set_61 rfl (lv_at hl 0 rfl) ?_
            refine m_get (C := RX9) (T := TX9) (N := 13) (ci := 8) hx hb hts i_X9 hown hK hH hY.1 rfl 0 (by decide) f_0 rfl dX9_set_62 ?_
            refine lv_iload_n hx hb dX9_set_65 rfl (lv_at hl 1 rfl) ?_
            refine m_iald (nA := 163) (f := ((aD u0).1)) hx hb hK hH hY.2.1 dX9_set_66 ?_ (by omega) (by omega)
            refine j_norm (y := (((aD u0).1) wn)) rfl ?_
            refine lv_istore_n (lv' := [(3, .int (iv (((aD u0).1) wn))), (0, .ref yy), (1, .int (iv (wn : Int))), (2, .int (iv v))]) hx hb dX9_set_67 rfl hl (by decide) rfl (fun ls hl => ?_)
            refine lv_iload_n hx hb dX9_set_68 rfl (lv_at hl 0 rfl) ?_
            refine lv_iload_n hx hb dX9_set_69 rfl (lv_at hl 3 rfl) ?_
            refine j_icmp_ne (tgt := 76) hx hb dX9_set_70 (by decide) (fun c43 => ?_) (fun c43 => ?_) (by omega) (by omega)
            · skip
              refine lv_aload_n hx hb dX9_set_76 rfl (lv_at hl 1 rfl) ?_
              refine m_callVv (As := []) (rest := []) ⟨hx, hb, hml, hown, hts⟩ hK hH hS (c_X9_putAside l G μ n yy ((aD u0).1) α β κ (aC u0) ω (aN u0) (aT u0) (aL u0) en fr pl wr hY ) (cwV 0 hts gX9_set_X9_putAside rfl rfl rfl (by decide +kernel) ⟨(Nat.le_of_ble_eq_true rfl), (Nat.le_of_ble_eq_true rfl)⟩) hY.1 rfl rfl rfl rfl hl.1 (Nat.le_of_ble_eq_true rfl) dX9_set_77 ⟨Nat.zero_le _, Nat.zero_le _⟩ (fun μ44 n45 H locs hp46 hH hS => ?_)
              obtain ⟨hY, hfr1⟩ := hp46
              have hfr := hfr.tr hfr1
              clear hfr1
              refine lv_aload_n hx hb dX9_set_80 rfl (lv_at hl 1 rfl) ?_
              refine m_get (C := RX9) (T := TX9) (N := 13) (ci := 8) hx hb hts i_X9 hown hK hH hY.1 rfl 0 (by decide) f_0 rfl dX9_set_81 ?_
              refine lv_iload_n hx hb dX9_set_84 rfl (lv_at hl 2 rfl) ?_
              refine lv_iload_n hx hb dX9_set_85 rfl (lv_at hl 3 rfl) ?_
              refine m_iast (nA := 163) (f := ((aD u0).1)) hx hb hK hH hS hY.2.1 dX9_set_86 (fun H locs hH hS => ?_) (by omega) (by omega)
              obtain ⟨ν47, hY, hfr, hH⟩ : ∃ ξ : hM, IsMM G ξ yy (fu ((aD u0).1) wn v) ((aD u0).1) β κ (aC u0) ω (aN u0) (aT u0) (aL u0) en (en + 1) pl wr ∧ MFr yy μ ξ ∧ gP G ξ n45 H := hY.w1 hfr hH
              have hH : gP G ν47 n45 H := hH
              refine lv_aload_n hx hb dX9_set_87 rfl (lv_at hl 1 rfl) ?_
              refine lv_iload_n hx hb dX9_set_88 rfl (lv_at hl 0 rfl) ?_
              refine m_callVi (As := [.int (iv (((aD u0).1) wn))]) (rest := []) ⟨hx, hb, hml, hown, hts⟩ hK hH hS (c_X9_act l G ν47 n45 yy (fu ((aD u0).1) wn v) ((aD u0).1) β κ (aC u0) ω (aN u0) (aT u0) (aL u0) en (en + 1) pl wr hY (((aD u0).1) wn) (by omega) (by omega)) (cwV 1 hts gX9_set_X9_act rfl rfl rfl (by decide +kernel) ⟨(Nat.le_of_ble_eq_true rfl), (Nat.le_of_ble_eq_true rfl)⟩) hY.1 rfl rfl rfl rfl hl.1 (Nat.le_of_ble_eq_true rfl) dX9_set_89 ⟨Nat.zero_le _, Nat.zero_le _⟩ (fun z51 μ48 n49 H locs hz51 hp50 hH hS => ?_)
              obtain ⟨hz9, hfr1, hn9, hp9⟩ := hp50
              have hfr := hfr.tr hfr1
              clear hfr1
              obtain ⟨β1, hY, hrel⟩ := hp9 (by omega)
              rw [hz9]
              clear hz9 hn9 hp9
              subst hQ
              refine m_iret hx hb hr hlocks hH hS dX9_set_92 ?_ (by omega)
              unfold a_set
              rw [if_pos ⟨by omega, hls2⟩, show ((wn : Nat) : Int).toNat = wn from rfl, if_neg (by omega)]
              refine ⟨rfl, ⟨_, _, _, _, _, _, _, hY, hR.act (d := (fu (aD u0).1 wn v, (aD u0).2)) hrel (Int.le_refl _) (fun _ _ => rfl) (hPD.st (fu_n (by omega)) (by rw [fu_n (by omega)]; exact Int.le_refl _))⟩, hfr⟩
            · skip
              refine j_bipush hx hb dX9_set_73 ?_ (by decide)
              subst hQ
              refine m_iret hx hb hr hlocks hH hS dX9_set_75 ?_ (by omega)
              unfold a_set
              rw [if_pos ⟨by omega, hls2⟩, show ((wn : Nat) : Int).toNat = wn from rfl, if_pos (by omega)]
              exact ⟨rfl, ⟨_, _, _, _, _, _, _, hY, hR⟩, hfr⟩
          · skip
            refine j_bipush hx hb dX9_set_58 ?_ (by decide)
            subst hQ
            refine m_iret hx hb hr hlocks hH hS dX9_set_60 ?_ (by omega)
            unfold a_set
            rw [if_neg (by unfold loSet hiSet; intro q9; (repeat' split at q9) <;> omega)]
            exact ⟨rfl, ⟨_, _, _, _, _, _, _, hY, hR⟩, hfr⟩
      · skip
        refine j_bipush hx hb dX9_set_24 ?_ (by decide)
        refine lv_goto (tgt := 30) hx hb dX9_set_26 (by decide) ?_
        refine lv_iload_n hx hb dX9_set_30 rfl (lv_at hl 1 rfl) ?_
        refine j_if_ne (tgt := 39) hx hb dX9_set_31 (by decide) (fun c52 => ?_) (fun c52 => ?_) (by omega)
        · skip
          refine lv_iload_n hx hb dX9_set_39 rfl (lv_at hl 1 rfl) ?_
          refine j_const hx hb dX9_set_40 ?_
          refine j_icmp_ne (tgt := 50) hx hb dX9_set_41 (by decide) (fun c53 => ?_) (fun c53 => ?_) (by omega) (by omega)
          · skip
            refine j_bipush hx hb dX9_set_50 ?_ (by decide)
            refine m_callSi (As := [.int (iv v), .int (iv 60), .int (iv 99)]) (rest := []) ⟨hx, hb, hml, hown, hts⟩ hK hH hS (c_X9_in l G μ n v 60 99 (by omega) (by omega) (by omega)) (va_cwS 3 hts gX9_set_X9_in rfl rfl rfl (by decide +kernel) ⟨(Nat.le_of_ble_eq_true rfl), (Nat.le_of_ble_eq_true rfl)⟩) rfl rfl hl.1 (Nat.le_of_ble_eq_true rfl) dX9_set_52 ⟨Nat.zero_le _, Nat.zero_le _⟩ (fun z57 μ54 n55 H locs hz57 hp56 hH hS => ?_)
            obtain ⟨hz9, hm9, hn9⟩ := hp56
            rw [hm9, hn9] at hH
            have hz57c : (z57 = 1 ∧ (60 ≤ v ∧ v ≤ 99)) ∨ (z57 = 0 ∧ ¬ (60 ≤ v ∧ v ≤ 99)) := by
              by_cases q9 : 60 ≤ v ∧ v ≤ 99
              · rw [if_pos q9] at hz9; exact Or.inl ⟨hz9, q9⟩
              · rw [if_neg q9] at hz9; exact Or.inr ⟨hz9, q9⟩
            clear hz9 hm9 hn9
            refine j_if_ne (tgt := 61) hx hb dX9_set_55 (by decide) (fun c58 => ?_) (fun c58 => ?_) (by omega)
            · skip
              have hls2 : loSet wa ≤ v ∧ v ≤ hiSet wa := by unfold loSet hiSet; constructor; (repeat' split) <;> omega; (repeat' split) <;> omega
              obtain ⟨wn, hwne⟩ : ∃ q : Nat, (q : Int) = wa := ⟨wa.toNat, by omega⟩
              subst hwne
              have hw3 : wn < 3 := by omega
              have hsr : 0 ≤ (aD u0).1 wn ∧ (aD u0).1 wn ≤ 150 := by
                have hc : wn = 0 ∨ wn = 1 ∨ wn = 2 := by omega
                obtain ⟨b0, b1, b2, -⟩ := hOk
                rcases hc with rfl | rfl | rfl <;> omega
              refine lv_aload_n hx hb dX9_set_61 rfl (lv_at hl 0 rfl) ?_
              refine m_get (C := RX9) (T := TX9) (N := 13) (ci := 8) hx hb hts i_X9 hown hK hH hY.1 rfl 0 (by decide) f_0 rfl dX9_set_62 ?_
              refine lv_iload_n hx hb dX9_set_65 rfl (lv_at hl 1 rfl) ?_
              refine m_iald (nA := 163) (f := ((aD u0).1)) hx hb hK hH hY.2.1 dX9_set_66 ?_ (by omega) (by omega)
              refine j_norm (y := (((aD u0).1) wn)) rfl ?_
              refine lv_istore_n (lv' := [(3, .int (iv (((aD u0).1) wn))), (0, .ref yy), (1, .int (iv (wn : Int))), (2, .int (iv v))]) hx hb dX9_set_67 rfl hl (by decide) rfl (fun ls hl => ?_)
              refine lv_iload_n hx hb dX9_set_68 rfl (lv_at hl 0 rfl) ?_
              refine lv_iload_n hx hb dX9_set_69 rfl (lv_at hl 3 rfl) ?_
              refine j_icmp_ne (tgt := 76) hx hb dX9_set_70 (by decide) (fun c59 => ?_) (fun c59 => ?_) (by omega) (by omega)
              · skip
                refine lv_aload_n hx hb dX9_set_76 rfl (lv_at hl 1 rfl) ?_
                refine m_callVv (As := []) (rest := []) ⟨hx, hb, hml, hown, hts⟩ hK hH hS (c_X9_putAside l G μ n yy ((aD u0).1) α β κ (aC u0) ω (aN u0) (aT u0) (aL u0) en fr pl wr hY ) (cwV 0 hts gX9_set_X9_putAside rfl rfl rfl (by decide +kernel) ⟨(Nat.le_of_ble_eq_true rfl), (Nat.le_of_ble_eq_true rfl)⟩) hY.1 rfl rfl rfl rfl hl.1 (Nat.le_of_ble_eq_true rfl) dX9_set_77 ⟨Nat.zero_le _, Nat.zero_le _⟩ (fun μ60 n61 H locs hp62 hH hS => ?_)
                obtain ⟨hY, hfr1⟩ := hp62
                have hfr := hfr.tr hfr1
                clear hfr1
                refine lv_aload_n hx hb dX9_set_80 rfl (lv_at hl 1 rfl) ?_
                refine m_get (C := RX9) (T := TX9) (N := 13) (ci := 8) hx hb hts i_X9 hown hK hH hY.1 rfl 0 (by decide) f_0 rfl dX9_set_81 ?_
                refine lv_iload_n hx hb dX9_set_84 rfl (lv_at hl 2 rfl) ?_
                refine lv_iload_n hx hb dX9_set_85 rfl (lv_at hl 3 rfl) ?_
                refine m_iast (nA := 163) (f := ((aD u0).1)) hx hb hK hH hS hY.2.1 dX9_set_86 (fun H locs hH hS => ?_) (by omega) (by omega)
                obtain ⟨ν63, hY, hfr, hH⟩ : ∃ ξ : hM, IsMM G ξ yy (fu ((aD u0).1) wn v) ((aD u0).1) β κ (aC u0) ω (aN u0) (aT u0) (aL u0) en (en + 1) pl wr ∧ MFr yy μ ξ ∧ gP G ξ n61 H := hY.w1 hfr hH
                have hH : gP G ν63 n61 H := hH
                refine lv_aload_n hx hb dX9_set_87 rfl (lv_at hl 1 rfl) ?_
                refine lv_iload_n hx hb dX9_set_88 rfl (lv_at hl 0 rfl) ?_
                refine m_callVi (As := [.int (iv (((aD u0).1) wn))]) (rest := []) ⟨hx, hb, hml, hown, hts⟩ hK hH hS (c_X9_act l G ν63 n61 yy (fu ((aD u0).1) wn v) ((aD u0).1) β κ (aC u0) ω (aN u0) (aT u0) (aL u0) en (en + 1) pl wr hY (((aD u0).1) wn) (by omega) (by omega)) (cwV 1 hts gX9_set_X9_act rfl rfl rfl (by decide +kernel) ⟨(Nat.le_of_ble_eq_true rfl), (Nat.le_of_ble_eq_true rfl)⟩) hY.1 rfl rfl rfl rfl hl.1 (Nat.le_of_ble_eq_true rfl) dX9_set_89 ⟨Nat.zero_le _, Nat.zero_le _⟩ (fun z67 μ64 n65 H locs hz67 hp66 hH hS => ?_)
                obtain ⟨hz9, hfr1, hn9, hp9⟩ := hp66
                have hfr := hfr.tr hfr1
                clear hfr1
                obtain ⟨β1, hY, hrel⟩ := hp9 (by omega)
                rw [hz9]
                clear hz9 hn9 hp9
                subst hQ
                refine m_iret hx hb hr hlocks hH hS dX9_set_92 ?_ (by omega)
                unfold a_set
                rw [if_pos ⟨by omega, hls2⟩, show ((wn : Nat) : Int).toNat = wn from rfl, if_neg (by omega)]
                refine ⟨rfl, ⟨_, _, _, _, _, _, _, hY, hR.act (d := (fu (aD u0).1 wn v, (aD u0).2)) hrel (Int.le_refl _) (fun _ _ => rfl) (hPD.st (fu_n (by omega)) (by rw [fu_n (by omega)]; exact Int.le_refl _))⟩, hfr⟩
              · skip
                refine j_bipush hx hb dX9_set_73 ?_ (by decide)
                subst hQ
                refine m_iret hx hb hr hlocks hH hS dX9_set_75 ?_ (by omega)
                unfold a_set
                rw [if_pos ⟨by omega, hls2⟩, show ((wn : Nat) : Int).toNat = wn from rfl, if_pos (by omega)]
                exact ⟨rfl, ⟨_, _, _, _, _, _, _, hY, hR⟩, hfr⟩
            · skip
              refine j_bipush hx hb dX9_set_58 ?_ (by decide)
              subst hQ
              refine m_iret hx hb hr hlocks hH hS dX9_set_60 ?_ (by omega)
              unfold a_set
              rw [if_neg (by unfold loSet hiSet; intro q9; (repeat' split at q9) <;> omega)]
              exact ⟨rfl, ⟨_, _, _, _, _, _, _, hY, hR⟩, hfr⟩
          · skip
            refine j_sipush hx hb dX9_set_44 ?_ (by decide)
            refine lv_goto (tgt := 52) hx hb dX9_set_47 (by decide) ?_
            refine m_callSi (As := [.int (iv v), .int (iv 60), .int (iv 150)]) (rest := []) ⟨hx, hb, hml, hown, hts⟩ hK hH hS (c_X9_in l G μ n v 60 150 (by omega) (by omega) (by omega)) (va_cwS 3 hts gX9_set_X9_in rfl rfl rfl (by decide +kernel) ⟨(Nat.le_of_ble_eq_true rfl), (Nat.le_of_ble_eq_true rfl)⟩) rfl rfl hl.1 (Nat.le_of_ble_eq_true rfl) dX9_set_52 ⟨Nat.zero_le _, Nat.zero_le _⟩ (fun z71 μ68 n69 H locs hz71 hp70 hH hS => ?_)
            obtain ⟨hz9, hm9, hn9⟩ := hp70
            rw [hm9, hn9] at hH
            have hz71c : (z71 = 1 ∧ (60 ≤ v ∧ v ≤ 150)) ∨ (z71 = 0 ∧ ¬ (60 ≤ v ∧ v ≤ 150)) := by
              by_cases q9 : 60 ≤ v ∧ v ≤ 150
              · rw [if_pos q9] at hz9; exact Or.inl ⟨hz9, q9⟩
              · rw [if_neg q9] at hz9; exact Or.inr ⟨hz9, q9⟩
            clear hz9 hm9 hn9
            refine j_if_ne (tgt := 61) hx hb dX9_set_55 (by decide) (fun c72 => ?_) (fun c72 => ?_) (by omega)
            · skip
              have hls2 : loSet wa ≤ v ∧ v ≤ hiSet wa := by unfold loSet hiSet; constructor; (repeat' split) <;> omega; (repeat' split) <;> omega
              obtain ⟨wn, hwne⟩ : ∃ q : Nat, (q : Int) = wa := ⟨wa.toNat, by omega⟩
              subst hwne
              have hw3 : wn < 3 := by omega
              have hsr : 0 ≤ (aD u0).1 wn ∧ (aD u0).1 wn ≤ 150 := by
                have hc : wn = 0 ∨ wn = 1 ∨ wn = 2 := by omega
                obtain ⟨b0, b1, b2, -⟩ := hOk
                rcases hc with rfl | rfl | rfl <;> omega
              refine lv_aload_n hx hb dX9_set_61 rfl (lv_at hl 0 rfl) ?_
              refine m_get (C := RX9) (T := TX9) (N := 13) (ci := 8) hx hb hts i_X9 hown hK hH hY.1 rfl 0 (by decide) f_0 rfl dX9_set_62 ?_
              refine lv_iload_n hx hb dX9_set_65 rfl (lv_at hl 1 rfl) ?_
              refine m_iald (nA := 163) (f := ((aD u0).1)) hx hb hK hH hY.2.1 dX9_set_66 ?_ (by omega) (by omega)
              refine j_norm (y := (((aD u0).1) wn)) rfl ?_
              refine lv_istore_n (lv' := [(3, .int (iv (((aD u0).1) wn))), (0, .ref yy), (1, .int (iv (wn : Int))), (2, .int (iv v))]) hx hb dX9_set_67 rfl hl (by decide) rfl (fun ls hl => ?_)
              refine lv_iload_n hx hb dX9_set_68 rfl (lv_at hl 0 rfl) ?_
              refine lv_iload_n hx hb dX9_set_69 rfl (lv_at hl 3 rfl) ?_
              refine j_icmp_ne (tgt := 76) hx hb dX9_set_70 (by decide) (fun c73 => ?_) (fun c73 => ?_) (by omega) (by omega)
              · skip
                refine lv_aload_n hx hb dX9_set_76 rfl (lv_at hl 1 rfl) ?_
                refine m_callVv (As := []) (rest := []) ⟨hx, hb, hml, hown, hts⟩ hK hH hS (c_X9_putAside l G μ n yy ((aD u0).1) α β κ (aC u0) ω (aN u0) (aT u0) (aL u0) en fr pl wr hY ) (cwV 0 hts gX9_set_X9_putAside rfl rfl rfl (by decide +kernel) ⟨(Nat.le_of_ble_eq_true rfl), (Nat.le_of_ble_eq_true rfl)⟩) hY.1 rfl rfl rfl rfl hl.1 (Nat.le_of_ble_eq_true rfl) dX9_set_77 ⟨Nat.zero_le _, Nat.zero_le _⟩ (fun μ74 n75 H locs hp76 hH hS => ?_)
                obtain ⟨hY, hfr1⟩ := hp76
                have hfr := hfr.tr hfr1
                clear hfr1
                refine lv_aload_n hx hb dX9_set_80 rfl (lv_at hl 1 rfl) ?_
                refine m_get (C := RX9) (T := TX9) (N := 13) (ci := 8) hx hb hts i_X9 hown hK hH hY.1 rfl 0 (by decide) f_0 rfl dX9_set_81 ?_
                refine lv_iload_n hx hb dX9_set_84 rfl (lv_at hl 2 rfl) ?_
                refine lv_iload_n hx hb dX9_set_85 rfl (lv_at hl 3 rfl) ?_
                refine m_iast (nA := 163) (f := ((aD u0).1)) hx hb hK hH hS hY.2.1 dX9_set_86 (fun H locs hH hS => ?_) (by omega) (by omega)
                obtain ⟨ν77, hY, hfr, hH⟩ : ∃ ξ : hM, IsMM G ξ yy (fu ((aD u0).1) wn v) ((aD u0).1) β κ (aC u0) ω (aN u0) (aT u0) (aL u0) en (en + 1) pl wr ∧ MFr yy μ ξ ∧ gP G ξ n75 H := hY.w1 hfr hH
                have hH : gP G ν77 n75 H := hH
                refine lv_aload_n hx hb dX9_set_87 rfl (lv_at hl 1 rfl) ?_
                refine lv_iload_n hx hb dX9_set_88 rfl (lv_at hl 0 rfl) ?_
                refine m_callVi (As := [.int (iv (((aD u0).1) wn))]) (rest := []) ⟨hx, hb, hml, hown, hts⟩ hK hH hS (c_X9_act l G ν77 n75 yy (fu ((aD u0).1) wn v) ((aD u0).1) β κ (aC u0) ω (aN u0) (aT u0) (aL u0) en (en + 1) pl wr hY (((aD u0).1) wn) (by omega) (by omega)) (cwV 1 hts gX9_set_X9_act rfl rfl rfl (by decide +kernel) ⟨(Nat.le_of_ble_eq_true rfl), (Nat.le_of_ble_eq_true rfl)⟩) hY.1 rfl rfl rfl rfl hl.1 (Nat.le_of_ble_eq_true rfl) dX9_set_89 ⟨Nat.zero_le _, Nat.zero_le _⟩ (fun z81 μ78 n79 H locs hz81 hp80 hH hS => ?_)
                obtain ⟨hz9, hfr1, hn9, hp9⟩ := hp80
                have hfr := hfr.tr hfr1
                clear hfr1
                obtain ⟨β1, hY, hrel⟩ := hp9 (by omega)
                rw [hz9]
                clear hz9 hn9 hp9
                subst hQ
                refine m_iret hx hb hr hlocks hH hS dX9_set_92 ?_ (by omega)
                unfold a_set
                rw [if_pos ⟨by omega, hls2⟩, show ((wn : Nat) : Int).toNat = wn from rfl, if_neg (by omega)]
                refine ⟨rfl, ⟨_, _, _, _, _, _, _, hY, hR.act (d := (fu (aD u0).1 wn v, (aD u0).2)) hrel (Int.le_refl _) (fun _ _ => rfl) (hPD.st (fu_n (by omega)) (by rw [fu_n (by omega)]; exact Int.le_refl _))⟩, hfr⟩
              · skip
                refine j_bipush hx hb dX9_set_73 ?_ (by decide)
                subst hQ
                refine m_iret hx hb hr hlocks hH hS dX9_set_75 ?_ (by omega)
                unfold a_set
                rw [if_pos ⟨by omega, hls2⟩, show ((wn : Nat) : Int).toNat = wn from rfl, if_pos (by omega)]
                exact ⟨rfl, ⟨_, _, _, _, _, _, _, hY, hR⟩, hfr⟩
            · skip
              refine j_bipush hx hb dX9_set_58 ?_ (by decide)
              subst hQ
              refine m_iret hx hb hr hlocks hH hS dX9_set_60 ?_ (by omega)
              unfold a_set
              rw [if_neg (by unfold loSet hiSet; intro q9; (repeat' split at q9) <;> omega)]
              exact ⟨rfl, ⟨_, _, _, _, _, _, _, hY, hR⟩, hfr⟩
        · skip
          refine j_bipush hx hb dX9_set_34 ?_ (by decide)
          refine lv_goto (tgt := 52) hx hb dX9_set_36 (by decide) ?_
          refine m_callSi (As := [.int (iv v), .int (iv 60), .int (iv 60)]) (rest := []) ⟨hx, hb, hml, hown, hts⟩ hK hH hS (c_X9_in l G μ n v 60 60 (by omega) (by omega) (by omega)) (va_cwS 3 hts gX9_set_X9_in rfl rfl rfl (by decide +kernel) ⟨(Nat.le_of_ble_eq_true rfl), (Nat.le_of_ble_eq_true rfl)⟩) rfl rfl hl.1 (Nat.le_of_ble_eq_true rfl) dX9_set_52 ⟨Nat.zero_le _, Nat.zero_le _⟩ (fun z85 μ82 n83 H locs hz85 hp84 hH hS => ?_)
          obtain ⟨hz9, hm9, hn9⟩ := hp84
          rw [hm9, hn9] at hH
          have hz85c : (z85 = 1 ∧ (60 ≤ v ∧ v ≤ 60)) ∨ (z85 = 0 ∧ ¬ (60 ≤ v ∧ v ≤ 60)) := by
            by_cases q9 : 60 ≤ v ∧ v ≤ 60
            · rw [if_pos q9] at hz9; exact Or.inl ⟨hz9, q9⟩
            · rw [if_neg q9] at hz9; exact Or.inr ⟨hz9, q9⟩
          clear hz9 hm9 hn9
          refine j_if_ne (tgt := 61) hx hb dX9_set_55 (by decide) (fun c86 => ?_) (fun c86 => ?_) (by omega)
          · skip
            have hls2 : loSet wa ≤ v ∧ v ≤ hiSet wa := by unfold loSet hiSet; constructor; (repeat' split) <;> omega; (repeat' split) <;> omega
            obtain ⟨wn, hwne⟩ : ∃ q : Nat, (q : Int) = wa := ⟨wa.toNat, by omega⟩
            subst hwne
            have hw3 : wn < 3 := by omega
            have hsr : 0 ≤ (aD u0).1 wn ∧ (aD u0).1 wn ≤ 150 := by
              have hc : wn = 0 ∨ wn = 1 ∨ wn = 2 := by omega
              obtain ⟨b0, b1, b2, -⟩ := hOk
              rcases hc with rfl | rfl | rfl <;> omega
            refine lv_aload_n hx hb dX9_set_61 rfl (lv_at hl 0 rfl) ?_
            refine m_get (C := RX9) (T := TX9) (N := 13) (ci := 8) hx hb hts i_X9 hown hK hH hY.1 rfl 0 (by decide) f_0 rfl dX9_set_62 ?_
            refine lv_iload_n hx hb dX9_set_65 rfl (lv_at hl 1 rfl) ?_
            refine m_iald (nA := 163) (f := ((aD u0).1)) hx hb hK hH hY.2.1 dX9_set_66 ?_ (by omega) (by omega)
            refine j_norm (y := (((aD u0).1) wn)) rfl ?_
            refine lv_istore_n (lv' := [(3, .int (iv (((aD u0).1) wn))), (0, .ref yy), (1, .int (iv (wn : Int))), (2, .int (iv v))]) hx hb dX9_set_67 rfl hl (by decide) rfl (fun ls hl => ?_)
            refine lv_iload_n hx hb dX9_set_68 rfl (lv_at hl 0 rfl) ?_
            refine lv_iload_n hx hb dX9_set_69 rfl (lv_at hl 3 rfl) ?_
            refine j_icmp_ne (tgt := 76) hx hb dX9_set_70 (by decide) (fun c87 => ?_) (fun c87 => ?_) (by omega) (by omega)
            · skip
              refine lv_aload_n hx hb dX9_set_76 rfl (lv_at hl 1 rfl) ?_
              refine m_callVv (As := []) (rest := []) ⟨hx, hb, hml, hown, hts⟩ hK hH hS (c_X9_putAside l G μ n yy ((aD u0).1) α β κ (aC u0) ω (aN u0) (aT u0) (aL u0) en fr pl wr hY ) (cwV 0 hts gX9_set_X9_putAside rfl rfl rfl (by decide +kernel) ⟨(Nat.le_of_ble_eq_true rfl), (Nat.le_of_ble_eq_true rfl)⟩) hY.1 rfl rfl rfl rfl hl.1 (Nat.le_of_ble_eq_true rfl) dX9_set_77 ⟨Nat.zero_le _, Nat.zero_le _⟩ (fun μ88 n89 H locs hp90 hH hS => ?_)
              obtain ⟨hY, hfr1⟩ := hp90
              have hfr := hfr.tr hfr1
              clear hfr1
              refine lv_aload_n hx hb dX9_set_80 rfl (lv_at hl 1 rfl) ?_
              refine m_get (C := RX9) (T := TX9) (N := 13) (ci := 8) hx hb hts i_X9 hown hK hH hY.1 rfl 0 (by decide) f_0 rfl dX9_set_81 ?_
              refine lv_iload_n hx hb dX9_set_84 rfl (lv_at hl 2 rfl) ?_
              refine lv_iload_n hx hb dX9_set_85 rfl (lv_at hl 3 rfl) ?_
              refine m_iast (nA := 163) (f := ((aD u0).1)) hx hb hK hH hS hY.2.1 dX9_set_86 (fun H locs hH hS => ?_) (by omega) (by omega)
              obtain ⟨ν91, hY, hfr, hH⟩ : ∃ ξ : hM, IsMM G ξ yy (fu ((aD u0).1) wn v) ((aD u0).1) β κ (aC u0) ω (aN u0) (aT u0) (aL u0) en (en + 1) pl wr ∧ MFr yy μ ξ ∧ gP G ξ n89 H := hY.w1 hfr hH
              have hH : gP G ν91 n89 H := hH
              refine lv_aload_n hx hb dX9_set_87 rfl (lv_at hl 1 rfl) ?_
              refine lv_iload_n hx hb dX9_set_88 rfl (lv_at hl 0 rfl) ?_
              refine m_callVi (As := [.int (iv (((aD u0).1) wn))]) (rest := []) ⟨hx, hb, hml, hown, hts⟩ hK hH hS (c_X9_act l G ν91 n89 yy (fu ((aD u0).1) wn v) ((aD u0).1) β κ (aC u0) ω (aN u0) (aT u0) (aL u0) en (en + 1) pl wr hY (((aD u0).1) wn) (by omega) (by omega)) (cwV 1 hts gX9_set_X9_act rfl rfl rfl (by decide +kernel) ⟨(Nat.le_of_ble_eq_true rfl), (Nat.le_of_ble_eq_true rfl)⟩) hY.1 rfl rfl rfl rfl hl.1 (Nat.le_of_ble_eq_true rfl) dX9_set_89 ⟨Nat.zero_le _, Nat.zero_le _⟩ (fun z95 μ92 n93 H locs hz95 hp94 hH hS => ?_)
              obtain ⟨hz9, hfr1, hn9, hp9⟩ := hp94
              have hfr := hfr.tr hfr1
              clear hfr1
              obtain ⟨β1, hY, hrel⟩ := hp9 (by omega)
              rw [hz9]
              clear hz9 hn9 hp9
              subst hQ
              refine m_iret hx hb hr hlocks hH hS dX9_set_92 ?_ (by omega)
              unfold a_set
              rw [if_pos ⟨by omega, hls2⟩, show ((wn : Nat) : Int).toNat = wn from rfl, if_neg (by omega)]
              refine ⟨rfl, ⟨_, _, _, _, _, _, _, hY, hR.act (d := (fu (aD u0).1 wn v, (aD u0).2)) hrel (Int.le_refl _) (fun _ _ => rfl) (hPD.st (fu_n (by omega)) (by rw [fu_n (by omega)]; exact Int.le_refl _))⟩, hfr⟩
            · skip
              refine j_bipush hx hb dX9_set_73 ?_ (by decide)
              subst hQ
              refine m_iret hx hb hr hlocks hH hS dX9_set_75 ?_ (by omega)
              unfold a_set
              rw [if_pos ⟨by omega, hls2⟩, show ((wn : Nat) : Int).toNat = wn from rfl, if_pos (by omega)]
              exact ⟨rfl, ⟨_, _, _, _, _, _, _, hY, hR⟩, hfr⟩
          · skip
            refine j_bipush hx hb dX9_set_58 ?_ (by decide)
            subst hQ
            refine m_iret hx hb hr hlocks hH hS dX9_set_60 ?_ (by omega)
            unfold a_set
            rw [if_neg (by unfold loSet hiSet; intro q9; (repeat' split at q9) <;> omega)]
            exact ⟨rfl, ⟨_, _, _, _, _, _, _, hY, hR⟩, hfr⟩
    · skip
      refine j_bipush hx hb dX9_set_14 ?_ (by decide)
      refine lv_goto (tgt := 30) hx hb dX9_set_16 (by decide) ?_
      refine lv_iload_n hx hb dX9_set_30 rfl (lv_at hl 1 rfl) ?_
      refine j_if_ne (tgt := 39) hx hb dX9_set_31 (by decide) (fun c96 => ?_) (fun c96 => ?_) (by omega)
      · skip
        refine lv_iload_n hx hb dX9_set_39 rfl (lv_at hl 1 rfl) ?_
        refine j_const hx hb dX9_set_40 ?_
        refine j_icmp_ne (tgt := 50) hx hb dX9_set_41 (by decide) (fun c97 => ?_) (fun c97 => ?_) (by omega) (by omega)
        · skip
          refine j_bipush hx hb dX9_set_50 ?_ (by decide)
          refine m_callSi (As := [.int (iv v), .int (iv 10), .int (iv 99)]) (rest := []) ⟨hx, hb, hml, hown, hts⟩ hK hH hS (c_X9_in l G μ n v 10 99 (by omega) (by omega) (by omega)) (va_cwS 3 hts gX9_set_X9_in rfl rfl rfl (by decide +kernel) ⟨(Nat.le_of_ble_eq_true rfl), (Nat.le_of_ble_eq_true rfl)⟩) rfl rfl hl.1 (Nat.le_of_ble_eq_true rfl) dX9_set_52 ⟨Nat.zero_le _, Nat.zero_le _⟩ (fun z101 μ98 n99 H locs hz101 hp100 hH hS => ?_)
          obtain ⟨hz9, hm9, hn9⟩ := hp100
          rw [hm9, hn9] at hH
          have hz101c : (z101 = 1 ∧ (10 ≤ v ∧ v ≤ 99)) ∨ (z101 = 0 ∧ ¬ (10 ≤ v ∧ v ≤ 99)) := by
            by_cases q9 : 10 ≤ v ∧ v ≤ 99
            · rw [if_pos q9] at hz9; exact Or.inl ⟨hz9, q9⟩
            · rw [if_neg q9] at hz9; exact Or.inr ⟨hz9, q9⟩
          clear hz9 hm9 hn9
          refine j_if_ne (tgt := 61) hx hb dX9_set_55 (by decide) (fun c102 => ?_) (fun c102 => ?_) (by omega)
          · skip
            have hls2 : loSet wa ≤ v ∧ v ≤ hiSet wa := by unfold loSet hiSet; constructor; (repeat' split) <;> omega; (repeat' split) <;> omega
            obtain ⟨wn, hwne⟩ : ∃ q : Nat, (q : Int) = wa := ⟨wa.toNat, by omega⟩
            subst hwne
            have hw3 : wn < 3 := by omega
            have hsr : 0 ≤ (aD u0).1 wn ∧ (aD u0).1 wn ≤ 150 := by
              have hc : wn = 0 ∨ wn = 1 ∨ wn = 2 := by omega
              obtain ⟨b0, b1, b2, -⟩ := hOk
              rcases hc with rfl | rfl | rfl <;> omega
            refine lv_aload_n hx hb dX9_set_61 rfl (lv_at hl 0 rfl) ?_
            refine m_get (C := RX9) (T := TX9) (N := 13) (ci := 8) hx hb hts i_X9 hown hK hH hY.1 rfl 0 (by decide) f_0 rfl dX9_set_62 ?_
            refine lv_iload_n hx hb dX9_set_65 rfl (lv_at hl 1 rfl) ?_
            refine m_iald (nA := 163) (f := ((aD u0).1)) hx hb hK hH hY.2.1 dX9_set_66 ?_ (by omega) (by omega)
            refine j_norm (y := (((aD u0).1) wn)) rfl ?_
            refine lv_istore_n (lv' := [(3, .int (iv (((aD u0).1) wn))), (0, .ref yy), (1, .int (iv (wn : Int))), (2, .int (iv v))]) hx hb dX9_set_67 rfl hl (by decide) rfl (fun ls hl => ?_)
            refine lv_iload_n hx hb dX9_set_68 rfl (lv_at hl 0 rfl) ?_
            refine lv_iload_n hx hb dX9_set_69 rfl (lv_at hl 3 rfl) ?_
            refine j_icmp_ne (tgt := 76) hx hb dX9_set_70 (by decide) (fun c103 => ?_) (fun c103 => ?_) (by omega) (by omega)
            · skip
              refine lv_aload_n hx hb dX9_set_76 rfl (lv_at hl 1 rfl) ?_
              refine m_callVv (As := []) (rest := []) ⟨hx, hb, hml, hown, hts⟩ hK hH hS (c_X9_putAside l G μ n yy ((aD u0).1) α β κ (aC u0) ω (aN u0) (aT u0) (aL u0) en fr pl wr hY ) (cwV 0 hts gX9_set_X9_putAside rfl rfl rfl (by decide +kernel) ⟨(Nat.le_of_ble_eq_true rfl), (Nat.le_of_ble_eq_true rfl)⟩) hY.1 rfl rfl rfl rfl hl.1 (Nat.le_of_ble_eq_true rfl) dX9_set_77 ⟨Nat.zero_le _, Nat.zero_le _⟩ (fun μ104 n105 H locs hp106 hH hS => ?_)
              obtain ⟨hY, hfr1⟩ := hp106
              have hfr := hfr.tr hfr1
              clear hfr1
              refine lv_aload_n hx hb dX9_set_80 rfl (lv_at hl 1 rfl) ?_
              refine m_get (C := RX9) (T := TX9) (N := 13) (ci := 8) hx hb hts i_X9 hown hK hH hY.1 rfl 0 (by decide) f_0 rfl dX9_set_81 ?_
              refine lv_iload_n hx hb dX9_set_84 rfl (lv_at hl 2 rfl) ?_
              refine lv_iload_n hx hb dX9_set_85 rfl (lv_at hl 3 rfl) ?_
              refine m_iast (nA := 163) (f := ((aD u0).1)) hx hb hK hH hS hY.2.1 dX9_set_86 (fun H locs hH hS => ?_) (by omega) (by omega)
              obtain ⟨ν107, hY, hfr, hH⟩ : ∃ ξ : hM, IsMM G ξ yy (fu ((aD u0).1) wn v) ((aD u0).1) β κ (aC u0) ω (aN u0) (aT u0) (aL u0) en (en + 1) pl wr ∧ MFr yy μ ξ ∧ gP G ξ n105 H := hY.w1 hfr hH
              have hH : gP G ν107 n105 H := hH
              refine lv_aload_n hx hb dX9_set_87 rfl (lv_at hl 1 rfl) ?_
              refine lv_iload_n hx hb dX9_set_88 rfl (lv_at hl 0 rfl) ?_
              refine m_callVi (As := [.int (iv (((aD u0).1) wn))]) (rest := []) ⟨hx, hb, hml, hown, hts⟩ hK hH hS (c_X9_act l G ν107 n105 yy (fu ((aD u0).1) wn v) ((aD u0).1) β κ (aC u0) ω (aN u0) (aT u0) (aL u0) en (en + 1) pl wr hY (((aD u0).1) wn) (by omega) (by omega)) (cwV 1 hts gX9_set_X9_act rfl rfl rfl (by decide +kernel) ⟨(Nat.le_of_ble_eq_true rfl), (Nat.le_of_ble_eq_true rfl)⟩) hY.1 rfl rfl rfl rfl hl.1 (Nat.le_of_ble_eq_true rfl) dX9_set_89 ⟨Nat.zero_le _, Nat.zero_le _⟩ (fun z111 μ108 n109 H locs hz111 hp110 hH hS => ?_)
              obtain ⟨hz9, hfr1, hn9, hp9⟩ := hp110
              have hfr := hfr.tr hfr1
              clear hfr1
              obtain ⟨β1, hY, hrel⟩ := hp9 (by omega)
              rw [hz9]
              clear hz9 hn9 hp9
              subst hQ
              refine m_iret hx hb hr hlocks hH hS dX9_set_92 ?_ (by omega)
              unfold a_set
              rw [if_pos ⟨by omega, hls2⟩, show ((wn : Nat) : Int).toNat = wn from rfl, if_neg (by omega)]
              refine ⟨rfl, ⟨_, _, _, _, _, _, _, hY, hR.act (d := (fu (aD u0).1 wn v, (aD u0).2)) hrel (Int.le_refl _) (fun _ _ => rfl) (hPD.st (fu_n (by omega)) (by rw [fu_n (by omega)]; exact Int.le_refl _))⟩, hfr⟩
            · skip
              refine j_bipush hx hb dX9_set_73 ?_ (by decide)
              subst hQ
              refine m_iret hx hb hr hlocks hH hS dX9_set_75 ?_ (by omega)
              unfold a_set
              rw [if_pos ⟨by omega, hls2⟩, show ((wn : Nat) : Int).toNat = wn from rfl, if_pos (by omega)]
              exact ⟨rfl, ⟨_, _, _, _, _, _, _, hY, hR⟩, hfr⟩
          · skip
            refine j_bipush hx hb dX9_set_58 ?_ (by decide)
            subst hQ
            refine m_iret hx hb hr hlocks hH hS dX9_set_60 ?_ (by omega)
            unfold a_set
            rw [if_neg (by unfold loSet hiSet; intro q9; (repeat' split at q9) <;> omega)]
            exact ⟨rfl, ⟨_, _, _, _, _, _, _, hY, hR⟩, hfr⟩
        · skip
          refine j_sipush hx hb dX9_set_44 ?_ (by decide)
          refine lv_goto (tgt := 52) hx hb dX9_set_47 (by decide) ?_
          refine m_callSi (As := [.int (iv v), .int (iv 10), .int (iv 150)]) (rest := []) ⟨hx, hb, hml, hown, hts⟩ hK hH hS (c_X9_in l G μ n v 10 150 (by omega) (by omega) (by omega)) (va_cwS 3 hts gX9_set_X9_in rfl rfl rfl (by decide +kernel) ⟨(Nat.le_of_ble_eq_true rfl), (Nat.le_of_ble_eq_true rfl)⟩) rfl rfl hl.1 (Nat.le_of_ble_eq_true rfl) dX9_set_52 ⟨Nat.zero_le _, Nat.zero_le _⟩ (fun z115 μ112 n113 H locs hz115 hp114 hH hS => ?_)
          obtain ⟨hz9, hm9, hn9⟩ := hp114
          rw [hm9, hn9] at hH
          have hz115c : (z115 = 1 ∧ (10 ≤ v ∧ v ≤ 150)) ∨ (z115 = 0 ∧ ¬ (10 ≤ v ∧ v ≤ 150)) := by
            by_cases q9 : 10 ≤ v ∧ v ≤ 150
            · rw [if_pos q9] at hz9; exact Or.inl ⟨hz9, q9⟩
            · rw [if_neg q9] at hz9; exact Or.inr ⟨hz9, q9⟩
          clear hz9 hm9 hn9
          refine j_if_ne (tgt := 61) hx hb dX9_set_55 (by decide) (fun c116 => ?_) (fun c116 => ?_) (by omega)
          · skip
            have hls2 : loSet wa ≤ v ∧ v ≤ hiSet wa := by unfold loSet hiSet; constructor; (repeat' split) <;> omega; (repeat' split) <;> omega
            obtain ⟨wn, hwne⟩ : ∃ q : Nat, (q : Int) = wa := ⟨wa.toNat, by omega⟩
            subst hwne
            have hw3 : wn < 3 := by omega
            have hsr : 0 ≤ (aD u0).1 wn ∧ (aD u0).1 wn ≤ 150 := by
              have hc : wn = 0 ∨ wn = 1 ∨ wn = 2 := by omega
              obtain ⟨b0, b1, b2, -⟩ := hOk
              rcases hc with rfl | rfl | rfl <;> omega
            refine lv_aload_n hx hb dX9_set_61 rfl (lv_at hl 0 rfl) ?_
            refine m_get (C := RX9) (T := TX9) (N := 13) (ci := 8) hx hb hts i_X9 hown hK hH hY.1 rfl 0 (by decide) f_0 rfl dX9_set_62 ?_
            refine lv_iload_n hx hb dX9_set_65 rfl (lv_at hl 1 rfl) ?_
            refine m_iald (nA := 163) (f := ((aD u0).1)) hx hb hK hH hY.2.1 dX9_set_66 ?_ (by omega) (by omega)
            refine j_norm (y := (((aD u0).1) wn)) rfl ?_
            refine lv_istore_n (lv' := [(3, .int (iv (((aD u0).1) wn))), (0, .ref yy), (1, .int (iv (wn : Int))), (2, .int (iv v))]) hx hb dX9_set_67 rfl hl (by decide) rfl (fun ls hl => ?_)
            refine lv_iload_n hx hb dX9_set_68 rfl (lv_at hl 0 rfl) ?_
            refine lv_iload_n hx hb dX9_set_69 rfl (lv_at hl 3 rfl) ?_
            refine j_icmp_ne (tgt := 76) hx hb dX9_set_70 (by decide) (fun c117 => ?_) (fun c117 => ?_) (by omega) (by omega)
            · skip
              refine lv_aload_n hx hb dX9_set_76 rfl (lv_at hl 1 rfl) ?_
              refine m_callVv (As := []) (rest := []) ⟨hx, hb, hml, hown, hts⟩ hK hH hS (c_X9_putAside l G μ n yy ((aD u0).1) α β κ (aC u0) ω (aN u0) (aT u0) (aL u0) en fr pl wr hY ) (cwV 0 hts gX9_set_X9_putAside rfl rfl rfl (by decide +kernel) ⟨(Nat.le_of_ble_eq_true rfl), (Nat.le_of_ble_eq_true rfl)⟩) hY.1 rfl rfl rfl rfl hl.1 (Nat.le_of_ble_eq_true rfl) dX9_set_77 ⟨Nat.zero_le _, Nat.zero_le _⟩ (fun μ118 n119 H locs hp120 hH hS => ?_)
              obtain ⟨hY, hfr1⟩ := hp120
              have hfr := hfr.tr hfr1
              clear hfr1
              refine lv_aload_n hx hb dX9_set_80 rfl (lv_at hl 1 rfl) ?_
              refine m_get (C := RX9) (T := TX9) (N := 13) (ci := 8) hx hb hts i_X9 hown hK hH hY.1 rfl 0 (by decide) f_0 rfl dX9_set_81 ?_
              refine lv_iload_n hx hb dX9_set_84 rfl (lv_at hl 2 rfl) ?_
              refine lv_iload_n hx hb dX9_set_85 rfl (lv_at hl 3 rfl) ?_
              refine m_iast (nA := 163) (f := ((aD u0).1)) hx hb hK hH hS hY.2.1 dX9_set_86 (fun H locs hH hS => ?_) (by omega) (by omega)
              obtain ⟨ν121, hY, hfr, hH⟩ : ∃ ξ : hM, IsMM G ξ yy (fu ((aD u0).1) wn v) ((aD u0).1) β κ (aC u0) ω (aN u0) (aT u0) (aL u0) en (en + 1) pl wr ∧ MFr yy μ ξ ∧ gP G ξ n119 H := hY.w1 hfr hH
              have hH : gP G ν121 n119 H := hH
              refine lv_aload_n hx hb dX9_set_87 rfl (lv_at hl 1 rfl) ?_
              refine lv_iload_n hx hb dX9_set_88 rfl (lv_at hl 0 rfl) ?_
              refine m_callVi (As := [.int (iv (((aD u0).1) wn))]) (rest := []) ⟨hx, hb, hml, hown, hts⟩ hK hH hS (c_X9_act l G ν121 n119 yy (fu ((aD u0).1) wn v) ((aD u0).1) β κ (aC u0) ω (aN u0) (aT u0) (aL u0) en (en + 1) pl wr hY (((aD u0).1) wn) (by omega) (by omega)) (cwV 1 hts gX9_set_X9_act rfl rfl rfl (by decide +kernel) ⟨(Nat.le_of_ble_eq_true rfl), (Nat.le_of_ble_eq_true rfl)⟩) hY.1 rfl rfl rfl rfl hl.1 (Nat.le_of_ble_eq_true rfl) dX9_set_89 ⟨Nat.zero_le _, Nat.zero_le _⟩ (fun z125 μ122 n123 H locs hz125 hp124 hH hS => ?_)
              obtain ⟨hz9, hfr1, hn9, hp9⟩ := hp124
              have hfr := hfr.tr hfr1
              clear hfr1
              obtain ⟨β1, hY, hrel⟩ := hp9 (by omega)
              rw [hz9]
              clear hz9 hn9 hp9
              subst hQ
              refine m_iret hx hb hr hlocks hH hS dX9_set_92 ?_ (by omega)
              unfold a_set
              rw [if_pos ⟨by omega, hls2⟩, show ((wn : Nat) : Int).toNat = wn from rfl, if_neg (by omega)]
              refine ⟨rfl, ⟨_, _, _, _, _, _, _, hY, hR.act (d := (fu (aD u0).1 wn v, (aD u0).2)) hrel (Int.le_refl _) (fun _ _ => rfl) (hPD.st (fu_n (by omega)) (by rw [fu_n (by omega)]; exact Int.le_refl _))⟩, hfr⟩
            · skip
              refine j_bipush hx hb dX9_set_73 ?_ (by decide)
              subst hQ
              refine m_iret hx hb hr hlocks hH hS dX9_set_75 ?_ (by omega)
              unfold a_set
              rw [if_pos ⟨by omega, hls2⟩, show ((wn : Nat) : Int).toNat = wn from rfl, if_pos (by omega)]
              exact ⟨rfl, ⟨_, _, _, _, _, _, _, hY, hR⟩, hfr⟩
          · skip
            refine j_bipush hx hb dX9_set_58 ?_ (by decide)
            subst hQ
            refine m_iret hx hb hr hlocks hH hS dX9_set_60 ?_ (by omega)
            unfold a_set
            rw [if_neg (by unfold loSet hiSet; intro q9; (repeat' split at q9) <;> omega)]
            exact ⟨rfl, ⟨_, _, _, _, _, _, _, hY, hR⟩, hfr⟩
      · skip
        refine j_bipush hx hb dX9_set_34 ?_ (by decide)
        refine lv_goto (tgt := 52) hx hb dX9_set_36 (by decide) ?_
        refine m_callSi (As := [.int (iv v), .int (iv 10), .int (iv 60)]) (rest := []) ⟨hx, hb, hml, hown, hts⟩ hK hH hS (c_X9_in l G μ n v 10 60 (by omega) (by omega) (by omega)) (va_cwS 3 hts gX9_set_X9_in rfl rfl rfl (by decide +kernel) ⟨(Nat.le_of_ble_eq_true rfl), (Nat.le_of_ble_eq_true rfl)⟩) rfl rfl hl.1 (Nat.le_of_ble_eq_true rfl) dX9_set_52 ⟨Nat.zero_le _, Nat.zero_le _⟩ (fun z129 μ126 n127 H locs hz129 hp128 hH hS => ?_)
        obtain ⟨hz9, hm9, hn9⟩ := hp128
        rw [hm9, hn9] at hH
        have hz129c : (z129 = 1 ∧ (10 ≤ v ∧ v ≤ 60)) ∨ (z129 = 0 ∧ ¬ (10 ≤ v ∧ v ≤ 60)) := by
          by_cases q9 : 10 ≤ v ∧ v ≤ 60
          · rw [if_pos q9] at hz9; exact Or.inl ⟨hz9, q9⟩
          · rw [if_neg q9] at hz9; exact Or.inr ⟨hz9, q9⟩
        clear hz9 hm9 hn9
        refine j_if_ne (tgt := 61) hx hb dX9_set_55 (by decide) (fun c130 => ?_) (fun c130 => ?_) (by omega)
        · skip
          have hls2 : loSet wa ≤ v ∧ v ≤ hiSet wa := by unfold loSet hiSet; constructor; (repeat' split) <;> omega; (repeat' split) <;> omega
          obtain ⟨wn, hwne⟩ : ∃ q : Nat, (q : Int) = wa := ⟨wa.toNat, by omega⟩
          subst hwne
          have hw3 : wn < 3 := by omega
          have hsr : 0 ≤ (aD u0).1 wn ∧ (aD u0).1 wn ≤ 150 := by
            have hc : wn = 0 ∨ wn = 1 ∨ wn = 2 := by omega
            obtain ⟨b0, b1, b2, -⟩ := hOk
            rcases hc with rfl | rfl | rfl <;> omega
          refine lv_aload_n hx hb dX9_set_61 rfl (lv_at hl 0 rfl) ?_
          refine m_get (C := RX9) (T := TX9) (N := 13) (ci := 8) hx hb hts i_X9 hown hK hH hY.1 rfl 0 (by decide) f_0 rfl dX9_set_62 ?_
          refine lv_iload_n hx hb dX9_set_65 rfl (lv_at hl 1 rfl) ?_
          refine m_iald (nA := 163) (f := ((aD u0).1)) hx hb hK hH hY.2.1 dX9_set_66 ?_ (by omega) (by omega)
          refine j_norm (y := (((aD u0).1) wn)) rfl ?_
          refine lv_istore_n (lv' := [(3, .int (iv (((aD u0).1) wn))), (0, .ref yy), (1, .int (iv (wn : Int))), (2, .int (iv v))]) hx hb dX9_set_67 rfl hl (by decide) rfl (fun ls hl => ?_)
          refine lv_iload_n hx hb dX9_set_68 rfl (lv_at hl 0 rfl) ?_
          refine lv_iload_n hx hb dX9_set_69 rfl (lv_at hl 3 rfl) ?_
          refine j_icmp_ne (tgt := 76) hx hb dX9_set_70 (by decide) (fun c131 => ?_) (fun c131 => ?_) (by omega) (by omega)
          · skip
            refine lv_aload_n hx hb dX9_set_76 rfl (lv_at hl 1 rfl) ?_
            refine m_callVv (As := []) (rest := []) ⟨hx, hb, hml, hown, hts⟩ hK hH hS (c_X9_putAside l G μ n yy ((aD u0).1) α β κ (aC u0) ω (aN u0) (aT u0) (aL u0) en fr pl wr hY ) (cwV 0 hts gX9_set_X9_putAside rfl rfl rfl (by decide +kernel) ⟨(Nat.le_of_ble_eq_true rfl), (Nat.le_of_ble_eq_true rfl)⟩) hY.1 rfl rfl rfl rfl hl.1 (Nat.le_of_ble_eq_true rfl) dX9_set_77 ⟨Nat.zero_le _, Nat.zero_le _⟩ (fun μ132 n133 H locs hp134 hH hS => ?_)
            obtain ⟨hY, hfr1⟩ := hp134
            have hfr := hfr.tr hfr1
            clear hfr1
            refine lv_aload_n hx hb dX9_set_80 rfl (lv_at hl 1 rfl) ?_
            refine m_get (C := RX9) (T := TX9) (N := 13) (ci := 8) hx hb hts i_X9 hown hK hH hY.1 rfl 0 (by decide) f_0 rfl dX9_set_81 ?_
            refine lv_iload_n hx hb dX9_set_84 rfl (lv_at hl 2 rfl) ?_
            refine lv_iload_n hx hb dX9_set_85 rfl (lv_at hl 3 rfl) ?_
            refine m_iast (nA := 163) (f := ((aD u0).1)) hx hb hK hH hS hY.2.1 dX9_set_86 (fun H locs hH hS => ?_) (by omega) (by omega)
            obtain ⟨ν135, hY, hfr, hH⟩ : ∃ ξ : hM, IsMM G ξ yy (fu ((aD u0).1) wn v) ((aD u0).1) β κ (aC u0) ω (aN u0) (aT u0) (aL u0) en (en + 1) pl wr ∧ MFr yy μ ξ ∧ gP G ξ n133 H := hY.w1 hfr hH
            have hH : gP G ν135 n133 H := hH
            refine lv_aload_n hx hb dX9_set_87 rfl (lv_at hl 1 rfl) ?_
            refine lv_iload_n hx hb dX9_set_88 rfl (lv_at hl 0 rfl) ?_
            refine m_callVi (As := [.int (iv (((aD u0).1) wn))]) (rest := []) ⟨hx, hb, hml, hown, hts⟩ hK hH hS (c_X9_act l G ν135 n133 yy (fu ((aD u0).1) wn v) ((aD u0).1) β κ (aC u0) ω (aN u0) (aT u0) (aL u0) en (en + 1) pl wr hY (((aD u0).1) wn) (by omega) (by omega)) (cwV 1 hts gX9_set_X9_act rfl rfl rfl (by decide +kernel) ⟨(Nat.le_of_ble_eq_true rfl), (Nat.le_of_ble_eq_true rfl)⟩) hY.1 rfl rfl rfl rfl hl.1 (Nat.le_of_ble_eq_true rfl) dX9_set_89 ⟨Nat.zero_le _, Nat.zero_le _⟩ (fun z139 μ136 n137 H locs hz139 hp138 hH hS => ?_)
            obtain ⟨hz9, hfr1, hn9, hp9⟩ := hp138
            have hfr := hfr.tr hfr1
            clear hfr1
            obtain ⟨β1, hY, hrel⟩ := hp9 (by omega)
            rw [hz9]
            clear hz9 hn9 hp9
            subst hQ
            refine m_iret hx hb hr hlocks hH hS dX9_set_92 ?_ (by omega)
            unfold a_set
            rw [if_pos ⟨by omega, hls2⟩, show ((wn : Nat) : Int).toNat = wn from rfl, if_neg (by omega)]
            refine ⟨rfl, ⟨_, _, _, _, _, _, _, hY, hR.act (d := (fu (aD u0).1 wn v, (aD u0).2)) hrel (Int.le_refl _) (fun _ _ => rfl) (hPD.st (fu_n (by omega)) (by rw [fu_n (by omega)]; exact Int.le_refl _))⟩, hfr⟩
          · skip
            refine j_bipush hx hb dX9_set_73 ?_ (by decide)
            subst hQ
            refine m_iret hx hb hr hlocks hH hS dX9_set_75 ?_ (by omega)
            unfold a_set
            rw [if_pos ⟨by omega, hls2⟩, show ((wn : Nat) : Int).toNat = wn from rfl, if_pos (by omega)]
            exact ⟨rfl, ⟨_, _, _, _, _, _, _, hY, hR⟩, hfr⟩
        · skip
          refine j_bipush hx hb dX9_set_58 ?_ (by decide)
          subst hQ
          refine m_iret hx hb hr hlocks hH hS dX9_set_60 ?_ (by omega)
          unfold a_set
          rw [if_neg (by unfold loSet hiSet; intro q9; (repeat' split at q9) <;> omega)]
          exact ⟨rfl, ⟨_, _, _, _, _, _, _, hY, hR⟩, hfr⟩

abbrev rm_t_X9_type : Room := { frames := 0, cells := 0, slots := 0, locals := 0 }
set_option maxHeartbeats 4000000 in
set_option maxRecDepth 100000 in
theorem t_X9_type (l : Launch) (G : wG) (μ : hM) (n : Nat) (yy : Nat) (u0 : aS) (en : Int) (k : Int) (hM0 : IsM G μ yy u0 en) (hen : en ≤ 5900) (hO : OkD (aD u0)) (hk : 0 ≤ k ∧ k ≤ 65535) : Met l yX9_type wsX9_type rm_t_X9_type (mPc G μ n [.ref yy, .int (iv k)]) (mQi G (fun z μ1 n1 => z = (a_type u0 k).2 ∧ IsM G μ1 yy (a_type u0 k).1 en ∧ MFr yy μ μ1)) 0 0 (gA G) := by
  refine Met.ofW (cc := cX9_type) (maxL := 2) (ret := (some .int)) (by decide) rfl ?_
  intro p e s m args below meth c s₁ B hml hv
  obtain ⟨hav, hK, hH⟩ := hv
  have hx := B.exec
  have hb := B.bytes
  have hr := B.returns
  have hts := atoms_spec (ws := wsX9_type) B.pre
  have hown : s.vm.findClass RX9 = some m.cls := findClass_of_methodNamed B.named
  have hlocks := B.notSynchronized
  have hS : va_S (gA G) s.heap s.heap [] := va_S.rf
  have hl := lv_entry ([.ref yy, .int (iv k)]) (n := 2) (Nat.le_of_ble_eq_true rfl)
  have hfr : entryFrame m args 2 = entryFrame m ([.ref yy, .int (iv k)] : List Value).toArray 2 := by rw [hav]
  rw [hfr, lg_entry_eq]
  generalize (lg_sl ([.ref yy, .int (iv k)]) ++ List.replicate (2 - (lg_sl ([.ref yy, .int (iv k)])).length) Slot.unset).toArray = ls at hl ⊢
  have hl : lv_has ls 2 [(0, .ref yy), (1, .int (iv k))] := hl
  generalize hQ : MQ below _ args s 0 0 (gA G) = Q
  show W p l e rm_t_X9_type s m args below meth c s.heap [] 0 0 Q (F0 m 0 ls [])
  obtain ⟨H, hHe⟩ : ∃ H, H = s.heap := ⟨_, rfl⟩
  obtain ⟨locs, hlo⟩ : ∃ q : List Loc, q = [] := ⟨_, rfl⟩
  have hH : gP G μ n H := by rw [hHe]; exact hH
  have hS : va_S (gA G) s.heap H locs := by rw [hHe, hlo]; exact hS
  suffices hgo : W p l e rm_t_X9_type s m args below meth c H locs 0 0 Q (F0 m 0 ls []) by rw [hHe, hlo] at hgo; exact hgo
  clear hHe hlo hfr hav
  have f_0 := hts (.fieldLink RX9 126 "StampDaterModel" "length" "I") (List.mem_of_getElem? (i := 1) rfl)
  have i_X9 : ∀ w ∈ u_ws RX9 TX9 13, w ∈ wsX9_type := by decide +kernel
  have f_2 := hts (.fieldLink RX9 22 "StampDaterModel" "text" "[I") (List.mem_of_getElem? (i := 2) rfl)
  have hfr : MFr yy μ μ := MFr.rf
  obtain ⟨α, β, κ, ω, fr, pl, wr, hY, hR⟩ := hM0
  have hT := hO.1
  have hOk := hT.1
  have h3 := hT.2.1
  have h5 := hT.2.2.1
  have h4 := hOk.2.2.2.1
  have hPD := hR.1
  have hen0 := hR.2.2.2.1
  have hkn := hR.2.2.2.2.1
  have hik := hR.2.2.2.2.2.1
  have hOC := hR.2.2.2.2.2.2
  have hl0 := hOC.1
  refine lv_aload_n hx hb dX9_type_0 rfl (lv_at hl 0 rfl) ?_
  refine m_get (C := RX9) (T := TX9) (N := 13) (ci := 8) hx hb hts i_X9 hown hK hH hY.1 rfl 7 (by decide) f_0 rfl dX9_type_1 ?_
  refine j_bipush hx hb dX9_type_4 ?_ (by decide)
  refine j_icmp_ne (tgt := 12) hx hb dX9_type_6 (by decide) (fun c1 => ?_) (fun c1 => ?_) (by omega) (by omega)
  · skip
    refine lv_aload_n hx hb dX9_type_12 rfl (lv_at hl 0 rfl) ?_
    refine m_get (C := RX9) (T := TX9) (N := 13) (ci := 8) hx hb hts i_X9 hown hK hH hY.1 rfl 6 (by decide) f_2 rfl dX9_type_13 ?_
    refine lv_aload_n hx hb dX9_type_16 rfl (lv_at hl 0 rfl) ?_
    refine m_get (C := RX9) (T := TX9) (N := 13) (ci := 8) hx hb hts i_X9 hown hK hH hY.1 rfl 7 (by decide) f_0 rfl dX9_type_17 ?_
    refine lv_iload_n hx hb dX9_type_20 rfl (lv_at hl 1 rfl) ?_
    refine m_iast (nA := 60) (f := (aC u0)) hx hb hK hH hS hY.2.2.2.2.2.1 dX9_type_21 (fun H locs hH hS => ?_) (by omega) (by omega)
    obtain ⟨ν2, hY, hfr, hH⟩ : ∃ ξ : hM, IsMM G ξ yy ((aD u0).1) α β κ (fu (aC u0) ((aL u0)).toNat k) ω (aN u0) (aT u0) (aL u0) en fr pl wr ∧ MFr yy μ ξ ∧ gP G ξ n H := hY.w5 hfr hH
    have hH : gP G ν2 n H := hH
    refine lv_aload_n hx hb dX9_type_22 rfl (lv_at hl 0 rfl) ?_
    refine lv_dup hx hb dX9_type_23 rfl ?_
    refine m_get (C := RX9) (T := TX9) (N := 13) (ci := 8) hx hb hts i_X9 hown hK hH hY.1 rfl 7 (by decide) f_0 rfl dX9_type_24 ?_
    refine j_const hx hb dX9_type_27 ?_
    refine j_iadd hx hb dX9_type_28 ?_
    refine m_put (C := RX9) (T := TX9) (N := 13) (ci := 8) hx hb hts i_X9 tyX9 tyX9_ok nmX9 hown hK hH hS hY.1 rfl 7 (by decide) f_0 rfl rfl rfl (Nat.le_of_ble_eq_true rfl) dX9_type_29 (fun H locs hH hS => ?_)
    obtain ⟨ν3, hY, hfr, hH⟩ : ∃ ξ : hM, IsMM G ξ yy ((aD u0).1) α β κ (fu (aC u0) ((aL u0)).toNat k) ω (aN u0) (aT u0) ((aL u0) + 1) en fr pl wr ∧ MFr yy μ ξ ∧ gP G ξ n H := hY.w0 hfr hH
    have hH : gP G ν3 n H := hH
    refine lv_aload_n hx hb dX9_type_32 rfl (lv_at hl 0 rfl) ?_
    refine m_get (C := RX9) (T := TX9) (N := 13) (ci := 8) hx hb hts i_X9 hown hK hH hY.1 rfl 7 (by decide) f_0 rfl dX9_type_33 ?_
    subst hQ
    refine m_iret hx hb hr hlocks hH hS dX9_type_36 ?_ (by omega)
    unfold a_type
    rw [if_pos (by omega)]
    exact ⟨rfl, ⟨_, _, _, _, _, _, _, hY, hR.tx ⟨by omega, fun j => by unfold fu; split; exact hk; exact hOC.2 j⟩⟩, hfr⟩
  · skip
    refine j_bipush hx hb dX9_type_9 ?_ (by decide)
    subst hQ
    refine m_iret hx hb hr hlocks hH hS dX9_type_11 ?_ (by omega)
    unfold a_type
    rw [if_neg (by omega)]
    exact ⟨rfl, ⟨_, _, _, _, _, _, _, hY, hR⟩, hfr⟩

abbrev rm_t_X9_clearText : Room := { frames := 0, cells := 0, slots := 0, locals := 0 }
set_option maxHeartbeats 4000000 in
set_option maxRecDepth 100000 in
theorem t_X9_clearText (l : Launch) (G : wG) (μ : hM) (n : Nat) (yy : Nat) (u0 : aS) (en : Int)  (hM0 : IsM G μ yy u0 en) (hen : en ≤ 5900) (hO : OkD (aD u0)) : Met l yX9_clearText wsX9_clearText rm_t_X9_clearText (mPc G μ n [.ref yy]) (mQi G (fun z μ1 n1 => z = (a_clear u0).2 ∧ IsM G μ1 yy (a_clear u0).1 en ∧ MFr yy μ μ1)) 0 0 (gA G) := by
  refine Met.ofW (cc := cX9_clearText) (maxL := 2) (ret := (some .int)) (by decide) rfl ?_
  intro p e s m args below meth c s₁ B hml hv
  obtain ⟨hav, hK, hH⟩ := hv
  have hx := B.exec
  have hb := B.bytes
  have hr := B.returns
  have hts := atoms_spec (ws := wsX9_clearText) B.pre
  have hown : s.vm.findClass RX9 = some m.cls := findClass_of_methodNamed B.named
  have hlocks := B.notSynchronized
  have hS : va_S (gA G) s.heap s.heap [] := va_S.rf
  have hl := lv_entry ([.ref yy]) (n := 2) (Nat.le_of_ble_eq_true rfl)
  have hfr : entryFrame m args 2 = entryFrame m ([.ref yy] : List Value).toArray 2 := by rw [hav]
  rw [hfr, lg_entry_eq]
  generalize (lg_sl ([.ref yy]) ++ List.replicate (2 - (lg_sl ([.ref yy])).length) Slot.unset).toArray = ls at hl ⊢
  have hl : lv_has ls 2 [(0, .ref yy)] := hl
  generalize hQ : MQ below _ args s 0 0 (gA G) = Q
  show W p l e rm_t_X9_clearText s m args below meth c s.heap [] 0 0 Q (F0 m 0 ls [])
  obtain ⟨H, hHe⟩ : ∃ H, H = s.heap := ⟨_, rfl⟩
  obtain ⟨locs, hlo⟩ : ∃ q : List Loc, q = [] := ⟨_, rfl⟩
  have hH : gP G μ n H := by rw [hHe]; exact hH
  have hS : va_S (gA G) s.heap H locs := by rw [hHe, hlo]; exact hS
  suffices hgo : W p l e rm_t_X9_clearText s m args below meth c H locs 0 0 Q (F0 m 0 ls []) by rw [hHe, hlo] at hgo; exact hgo
  clear hHe hlo hfr hav
  have f_0 := hts (.fieldLink RX9 126 "StampDaterModel" "length" "I") (List.mem_of_getElem? (i := 1) rfl)
  have i_X9 : ∀ w ∈ u_ws RX9 TX9 13, w ∈ wsX9_clearText := by decide +kernel
  have hfr : MFr yy μ μ := MFr.rf
  obtain ⟨α, β, κ, ω, fr, pl, wr, hY, hR⟩ := hM0
  have hT := hO.1
  have hOk := hT.1
  have h3 := hT.2.1
  have h5 := hT.2.2.1
  have h4 := hOk.2.2.2.1
  have hPD := hR.1
  have hen0 := hR.2.2.2.1
  have hkn := hR.2.2.2.2.1
  have hik := hR.2.2.2.2.2.1
  have hOC := hR.2.2.2.2.2.2
  have hl0 := hOC.1
  refine lv_aload_n hx hb dX9_clearText_0 rfl (lv_at hl 0 rfl) ?_
  refine m_get (C := RX9) (T := TX9) (N := 13) (ci := 8) hx hb hts i_X9 hown hK hH hY.1 rfl 7 (by decide) f_0 rfl dX9_clearText_1 ?_
  refine lv_istore_n (lv' := [(1, .int (iv (aL u0))), (0, .ref yy)]) hx hb dX9_clearText_4 rfl hl (by decide) rfl (fun ls hl => ?_)
  refine lv_aload_n hx hb dX9_clearText_5 rfl (lv_at hl 1 rfl) ?_
  refine j_const hx hb dX9_clearText_6 ?_
  refine m_put (C := RX9) (T := TX9) (N := 13) (ci := 8) hx hb hts i_X9 tyX9 tyX9_ok nmX9 hown hK hH hS hY.1 rfl 7 (by decide) f_0 rfl rfl rfl (Nat.le_of_ble_eq_true rfl) dX9_clearText_7 (fun H locs hH hS => ?_)
  obtain ⟨ν1, hY, hfr, hH⟩ : ∃ ξ : hM, IsMM G ξ yy ((aD u0).1) α β κ (aC u0) ω (aN u0) (aT u0) 0 en fr pl wr ∧ MFr yy μ ξ ∧ gP G ξ n H := hY.w0 hfr hH
  have hH : gP G ν1 n H := hH
  refine lv_iload_n hx hb dX9_clearText_10 rfl (lv_at hl 0 rfl) ?_
  subst hQ
  refine m_iret hx hb hr hlocks hH hS dX9_clearText_11 ?_ (by omega)
  exact ⟨rfl, ⟨_, _, _, _, _, _, _, hY, hR.tx ⟨by omega, hOC.2⟩⟩, hfr⟩

abbrev rm_t_X9_undo : Room := { frames := 0, cells := 0, slots := 0, locals := 0 }
set_option maxHeartbeats 4000000 in
set_option maxRecDepth 100000 in
theorem t_X9_undo (l : Launch) (G : wG) (μ : hM) (n : Nat) (yy : Nat) (u0 : aS) (en : Int)  (hM0 : IsM G μ yy u0 en) (hen : en ≤ 5900) (hO : OkD (aD u0)) : Met l yX9_undo wsX9_undo rm_t_X9_undo (mPc G μ n [.ref yy]) (mQi G (fun z μ1 n1 => z = (a_undo u0).2 ∧ IsM G μ1 yy (a_undo u0).1 en ∧ MFr yy μ μ1)) 0 0 (gA G) := by
  refine Met.ofW (cc := cX9_undo) (maxL := 2) (ret := (some .int)) (by decide) rfl ?_
  intro p e s m args below meth c s₁ B hml hv
  obtain ⟨hav, hK, hH⟩ := hv
  have hx := B.exec
  have hb := B.bytes
  have hr := B.returns
  have hts := atoms_spec (ws := wsX9_undo) B.pre
  have hown : s.vm.findClass RX9 = some m.cls := findClass_of_methodNamed B.named
  have hlocks := B.notSynchronized
  have hS : va_S (gA G) s.heap s.heap [] := va_S.rf
  have hl := lv_entry ([.ref yy]) (n := 2) (Nat.le_of_ble_eq_true rfl)
  have hfr : entryFrame m args 2 = entryFrame m ([.ref yy] : List Value).toArray 2 := by rw [hav]
  rw [hfr, lg_entry_eq]
  generalize (lg_sl ([.ref yy]) ++ List.replicate (2 - (lg_sl ([.ref yy])).length) Slot.unset).toArray = ls at hl ⊢
  have hl : lv_has ls 2 [(0, .ref yy)] := hl
  generalize hQ : MQ below _ args s 0 0 (gA G) = Q
  show W p l e rm_t_X9_undo s m args below meth c s.heap [] 0 0 Q (F0 m 0 ls [])
  obtain ⟨H, hHe⟩ : ∃ H, H = s.heap := ⟨_, rfl⟩
  obtain ⟨locs, hlo⟩ : ∃ q : List Loc, q = [] := ⟨_, rfl⟩
  have hH : gP G μ n H := by rw [hHe]; exact hH
  have hS : va_S (gA G) s.heap H locs := by rw [hHe, hlo]; exact hS
  suffices hgo : W p l e rm_t_X9_undo s m args below meth c H locs 0 0 Q (F0 m 0 ls []) by rw [hHe, hlo] at hgo; exact hgo
  clear hHe hlo hfr hav
  have f_0 := hts (.fieldLink RX9 47 "StampDaterModel" "known" "I") (List.mem_of_getElem? (i := 1) rfl)
  have i_X9 : ∀ w ∈ u_ws RX9 TX9 13, w ∈ wsX9_undo := by decide +kernel
  have f_2 := hts (.fieldLink RX9 7 "StampDaterModel" "s" "[I") (List.mem_of_getElem? (i := 2) rfl)
  have f_3 := hts (.fieldLink RX9 16 "StampDaterModel" "before" "[I") (List.mem_of_getElem? (i := 3) rfl)
  have hfr : MFr yy μ μ := MFr.rf
  obtain ⟨α, β, κ, ω, fr, pl, wr, hY, hR⟩ := hM0
  have hT := hO.1
  have hOk := hT.1
  have h3 := hT.2.1
  have h5 := hT.2.2.1
  have h4 := hOk.2.2.2.1
  have hPD := hR.1
  have hen0 := hR.2.2.2.1
  have hkn := hR.2.2.2.2.1
  have hik := hR.2.2.2.2.2.1
  have hOC := hR.2.2.2.2.2.2
  have hl0 := hOC.1
  refine lv_aload_n hx hb dX9_undo_0 rfl (lv_at hl 0 rfl) ?_
  refine m_get (C := RX9) (T := TX9) (N := 13) (ci := 8) hx hb hts i_X9 hown hK hH hY.1 rfl 3 (by decide) f_0 rfl dX9_undo_1 ?_
  refine j_if_ne (tgt := 10) hx hb dX9_undo_4 (by decide) (fun c1 => ?_) (fun c1 => ?_) (by omega)
  · skip
    refine lv_aload_n hx hb dX9_undo_10 rfl (lv_at hl 0 rfl) ?_
    refine lv_dup hx hb dX9_undo_11 rfl ?_
    refine m_get (C := RX9) (T := TX9) (N := 13) (ci := 8) hx hb hts i_X9 hown hK hH hY.1 rfl 3 (by decide) f_0 rfl dX9_undo_12 ?_
    refine j_const hx hb dX9_undo_15 ?_
    refine j_isub hx hb dX9_undo_16 ?_
    refine m_put (C := RX9) (T := TX9) (N := 13) (ci := 8) hx hb hts i_X9 tyX9 tyX9_ok nmX9 hown hK hH hS hY.1 rfl 3 (by decide) f_0 rfl rfl rfl (Nat.le_of_ble_eq_true rfl) dX9_undo_17 (fun H locs hH hS => ?_)
    obtain ⟨ν2, hY, hfr, hH⟩ : ∃ ξ : hM, IsMM G ξ yy ((aD u0).1) α β κ (aC u0) ω ((aN u0) - 1) (aT u0) (aL u0) en fr pl wr ∧ MFr yy μ ξ ∧ gP G ξ n H := hY.w0 hfr hH
    have hH : gP G ν2 n H := hH
    obtain ⟨qn, hqn⟩ : ∃ q : Nat, q = (aN u0 - 1).toNat := ⟨_, rfl⟩
    have hq1 := (hR.2.1 qn (by omega) (by omega)).1
    refine j_const hx hb dX9_undo_20 ?_
    refine lv_istore_n (lv' := [(1, .int (iv 0)), (0, .ref yy)]) hx hb dX9_undo_21 rfl hl (by decide) rfl (fun ls hl => ?_)
    have lp22 : ∀ (fuel : Nat) (kk : Nat) (τ : Nat → Int) (ν : hM) (ν0 : Nat) (hY : IsMM G ν yy τ α β κ (aC u0) ω (aN u0 - 1) (aT u0) (aL u0) en fr pl wr) (hfr : MFr yy μ ν) (hkk : kk ≤ 163) (hτ : τ = cpK (fun j => β (163 * qn + j)) (aD u0).1 kk) (_ : 163 - kk < fuel) (H : Heap) (locs : List Loc) (ls : Array Slot) (_ : gP G ν ν0 H) (_ : va_S (gA G) s.heap H locs) (_ : lv_has ls 2 [(0, .ref yy), (1, .int (iv (kk : Int)))]), W p l e rm_t_X9_undo s m args below meth c H locs 0 0 Q (F0 m 22 ls []) := by
      intro fuel
      induction fuel with
      | zero => intro _ _ _ _ _ _ _ _ hfuel; exact absurd hfuel (Nat.not_lt_zero _)
      | succ fuel ih =>
        intro kk τ ν ν0 hY hfr hkk hτ hfuel H locs ls hH hS hl
        have ih3 := ih; clear ih
        refine lv_iload_n hx hb dX9_undo_22 rfl (lv_at hl 1 rfl) ?_
        refine j_sipush hx hb dX9_undo_23 ?_ (by decide)
        refine j_icmp_ge (tgt := 56) hx hb dX9_undo_26 (by decide) (fun c4 => ?_) (fun c4 => ?_) (by omega) (by omega)
        · skip
          obtain ⟨ν5, hY, hfr, hH⟩ : ∃ ξ : hM, IsMM G ξ yy ((aH u0 (aN u0 - 1).toNat).1) α β κ (aC u0) ω (aN u0 - 1) (aT u0) (aL u0) en fr pl wr ∧ MFr yy μ ξ ∧ gP G ξ ν0 H := hY.c1 hfr hH ((aH u0 (aN u0 - 1).toNat).1) (fun j hj => by rw [hτ, show kk = 163 by omega, cpK_at hj, ← hqn]; exact hq1 j hj)
          refine lv_aload_n hx hb dX9_undo_56 rfl (lv_at hl 0 rfl) ?_
          refine m_get (C := RX9) (T := TX9) (N := 13) (ci := 8) hx hb hts i_X9 hown hK hH hY.1 rfl 3 (by decide) f_0 rfl dX9_undo_57 ?_
          subst hQ
          refine m_iret hx hb hr hlocks hH hS dX9_undo_60 ?_ (by omega)
          unfold a_undo
          rw [if_neg (by omega)]
          exact ⟨rfl, ⟨_, _, _, _, _, _, _, hY, hR.und (by omega)⟩, hfr⟩
        · skip
          refine lv_aload_n hx hb dX9_undo_29 rfl (lv_at hl 0 rfl) ?_
          refine m_get (C := RX9) (T := TX9) (N := 13) (ci := 8) hx hb hts i_X9 hown hK hH hY.1 rfl 0 (by decide) f_2 rfl dX9_undo_30 ?_
          refine lv_iload_n hx hb dX9_undo_33 rfl (lv_at hl 1 rfl) ?_
          refine lv_aload_n hx hb dX9_undo_34 rfl (lv_at hl 0 rfl) ?_
          refine m_get (C := RX9) (T := TX9) (N := 13) (ci := 8) hx hb hts i_X9 hown hK hH hY.1 rfl 2 (by decide) f_3 rfl dX9_undo_35 ?_
          refine j_sipush hx hb dX9_undo_38 ?_ (by decide)
          refine lv_aload_n hx hb dX9_undo_41 rfl (lv_at hl 0 rfl) ?_
          refine m_get (C := RX9) (T := TX9) (N := 13) (ci := 8) hx hb hts i_X9 hown hK hH hY.1 rfl 3 (by decide) f_0 rfl dX9_undo_42 ?_
          refine j_imul hx hb dX9_undo_45 ?_
          refine lv_iload_n hx hb dX9_undo_46 rfl (lv_at hl 1 rfl) ?_
          refine j_iadd hx hb dX9_undo_47 ?_
          refine j_norm (y := ((163 * qn + kk : Nat) : Int)) (by omega) ?_
          refine m_iald (nA := 652) (f := β) hx hb hK hH hY.2.2.2.1 dX9_undo_48 ?_ (by omega) (by omega)
          refine j_norm (y := (β (163 * qn + kk))) rfl ?_
          refine m_iast (nA := 163) (f := τ) hx hb hK hH hS hY.2.1 dX9_undo_49 (fun H locs hH hS => ?_) (by omega) (by omega)
          obtain ⟨ν6, hY, hfr, hH⟩ : ∃ ξ : hM, IsMM G ξ yy (fu τ kk (β (163 * qn + kk))) α β κ (aC u0) ω (aN u0 - 1) (aT u0) (aL u0) en fr pl wr ∧ MFr yy μ ξ ∧ gP G ξ ν0 H := hY.w1 hfr hH
          have hH : gP G ν6 ν0 H := hH
          refine j_iinc (lv' := [(1, .int (iv ((kk : Int) + 1))), (0, .ref yy)]) hx hb dX9_undo_50 hl (k := 1) rfl (by decide) rfl (fun ls hl => ?_)
          refine lv_goto (tgt := 22) hx hb dX9_undo_53 (by decide) ?_
          exact ih3 (kk + 1) (fu τ kk (β (163 * qn + kk))) ν6 ν0 hY hfr (by omega) (by rw [hτ]; exact cpK_s (σ := fun j => β (163 * qn + j))) (by omega) H locs ls hH hS (lv_sub hl [1, 0] rfl)
    exact lp22 (164) 0 ((aD u0).1) ν2 n hY hfr (by omega) (cpK_0 _ _).symm (by omega) H locs ls hH hS (lv_sub hl [1, 0] rfl)
  · skip
    refine j_bipush hx hb dX9_undo_7 ?_ (by decide)
    subst hQ
    refine m_iret hx hb hr hlocks hH hS dX9_undo_9 ?_ (by omega)
    unfold a_undo
    rw [if_pos (by omega)]
    exact ⟨rfl, ⟨_, _, _, _, _, _, _, hY, hR⟩, hfr⟩

abbrev rm_t_X9_keep : Room := { frames := 0, cells := 0, slots := 0, locals := 0 }
set_option maxHeartbeats 4000000 in
set_option maxRecDepth 100000 in
theorem t_X9_keep (l : Launch) (G : wG) (μ : hM) (n : Nat) (yy : Nat) (u0 : aS) (en : Int)  (hM0 : IsM G μ yy u0 en) (hen : en ≤ 5900) (hO : OkD (aD u0)) : Met l yX9_keep wsX9_keep rm_t_X9_keep (mPc G μ n [.ref yy]) (mQi G (fun z μ1 n1 => z = (a_keep u0).2 ∧ IsM G μ1 yy (a_keep u0).1 en ∧ MFr yy μ μ1)) 0 0 (gA G) := by
  refine Met.ofW (cc := cX9_keep) (maxL := 2) (ret := (some .int)) (by decide) rfl ?_
  intro p e s m args below meth c s₁ B hml hv
  obtain ⟨hav, hK, hH⟩ := hv
  have hx := B.exec
  have hb := B.bytes
  have hr := B.returns
  have hts := atoms_spec (ws := wsX9_keep) B.pre
  have hown : s.vm.findClass RX9 = some m.cls := findClass_of_methodNamed B.named
  have hlocks := B.notSynchronized
  have hS : va_S (gA G) s.heap s.heap [] := va_S.rf
  have hl := lv_entry ([.ref yy]) (n := 2) (Nat.le_of_ble_eq_true rfl)
  have hfr : entryFrame m args 2 = entryFrame m ([.ref yy] : List Value).toArray 2 := by rw [hav]
  rw [hfr, lg_entry_eq]
  generalize (lg_sl ([.ref yy]) ++ List.replicate (2 - (lg_sl ([.ref yy])).length) Slot.unset).toArray = ls at hl ⊢
  have hl : lv_has ls 2 [(0, .ref yy)] := hl
  generalize hQ : MQ below _ args s 0 0 (gA G) = Q
  show W p l e rm_t_X9_keep s m args below meth c s.heap [] 0 0 Q (F0 m 0 ls [])
  obtain ⟨H, hHe⟩ : ∃ H, H = s.heap := ⟨_, rfl⟩
  obtain ⟨locs, hlo⟩ : ∃ q : List Loc, q = [] := ⟨_, rfl⟩
  have hH : gP G μ n H := by rw [hHe]; exact hH
  have hS : va_S (gA G) s.heap H locs := by rw [hHe, hlo]; exact hS
  suffices hgo : W p l e rm_t_X9_keep s m args below meth c H locs 0 0 Q (F0 m 0 ls []) by rw [hHe, hlo] at hgo; exact hgo
  clear hHe hlo hfr hav
  have f_0 := hts (.fieldLink RX9 163 "StampDaterModel" "isKept" "Z") (List.mem_of_getElem? (i := 3) rfl)
  have i_X9 : ∀ w ∈ u_ws RX9 TX9 13, w ∈ wsX9_keep := by decide +kernel
  have f_2 := hts (.fieldLink RX9 7 "StampDaterModel" "s" "[I") (List.mem_of_getElem? (i := 2) rfl)
  have f_3 := hts (.fieldLink RX9 19 "StampDaterModel" "kept" "[I") (List.mem_of_getElem? (i := 1) rfl)
  have hfr : MFr yy μ μ := MFr.rf
  obtain ⟨α, β, κ, ω, fr, pl, wr, hY, hR⟩ := hM0
  have hT := hO.1
  have hOk := hT.1
  have h3 := hT.2.1
  have h5 := hT.2.2.1
  have h4 := hOk.2.2.2.1
  have hPD := hR.1
  have hen0 := hR.2.2.2.1
  have hkn := hR.2.2.2.2.1
  have hik := hR.2.2.2.2.2.1
  have hOC := hR.2.2.2.2.2.2
  have hl0 := hOC.1
  refine j_const hx hb dX9_keep_0 ?_
  refine lv_istore_n (lv' := [(1, .int (iv 0)), (0, .ref yy)]) hx hb dX9_keep_1 rfl hl (by decide) rfl (fun ls hl => ?_)
  have lp2 : ∀ (fuel : Nat) (kk : Nat) (κ1 : Nat → Int) (ν : hM) (ν0 : Nat) (hY : IsMM G ν yy ((aD u0).1) α β κ1 (aC u0) ω (aN u0) (aT u0) (aL u0) en fr pl wr) (hfr : MFr yy μ ν) (hkk : kk ≤ 163) (hτ : κ1 = cpK (aD u0).1 κ kk) (_ : 163 - kk < fuel) (H : Heap) (locs : List Loc) (ls : Array Slot) (_ : gP G ν ν0 H) (_ : va_S (gA G) s.heap H locs) (_ : lv_has ls 2 [(0, .ref yy), (1, .int (iv (kk : Int)))]), W p l e rm_t_X9_keep s m args below meth c H locs 0 0 Q (F0 m 2 ls []) := by
    intro fuel
    induction fuel with
    | zero => intro _ _ _ _ _ _ _ _ hfuel; exact absurd hfuel (Nat.not_lt_zero _)
    | succ fuel ih =>
      intro kk κ1 ν ν0 hY hfr hkk hτ hfuel H locs ls hH hS hl
      have ih1 := ih; clear ih
      refine lv_iload_n hx hb dX9_keep_2 rfl (lv_at hl 1 rfl) ?_
      refine j_sipush hx hb dX9_keep_3 ?_ (by decide)
      refine j_icmp_ge (tgt := 27) hx hb dX9_keep_6 (by decide) (fun c2 => ?_) (fun c2 => ?_) (by omega) (by omega)
      · skip
        refine lv_aload_n hx hb dX9_keep_27 rfl (lv_at hl 0 rfl) ?_
        refine j_const hx hb dX9_keep_28 ?_
        refine m_put (C := RX9) (T := TX9) (N := 13) (ci := 8) hx hb hts i_X9 tyX9 tyX9_ok nmX9 hown hK hH hS hY.1 rfl 5 (by decide) f_0 rfl (nar_z (by omega)) (fit_z (by omega)) (Nat.le_of_ble_eq_true rfl) dX9_keep_29 (fun H locs hH hS => ?_)
        obtain ⟨ν3, hY, hfr, hH⟩ : ∃ ξ : hM, IsMM G ξ yy ((aD u0).1) α β κ1 (aC u0) ω (aN u0) 1 (aL u0) en fr pl wr ∧ MFr yy μ ξ ∧ gP G ξ ν0 H := hY.w0 hfr hH
        have hH : gP G ν3 ν0 H := hH
        refine lv_aload_n hx hb dX9_keep_32 rfl (lv_at hl 0 rfl) ?_
        refine m_get (C := RX9) (T := TX9) (N := 13) (ci := 8) hx hb hts i_X9 hown hK hH hY.1 rfl 0 (by decide) f_2 rfl dX9_keep_33 ?_
        refine j_const hx hb dX9_keep_36 ?_
        refine m_iald (nA := 163) (f := ((aD u0).1)) hx hb hK hH hY.2.1 dX9_keep_37 ?_ (by omega) (by omega)
        refine j_norm (y := (((aD u0).1) 3)) rfl ?_
        subst hQ
        refine m_iret hx hb hr hlocks hH hS dX9_keep_38 ?_ (by omega)
        exact ⟨rfl, ⟨_, _, _, _, _, _, _, hY, hR.keep (fun j hj => by rw [hτ, show kk = 163 by omega]; exact cpK_at hj)⟩, hfr⟩
      · skip
        refine lv_aload_n hx hb dX9_keep_9 rfl (lv_at hl 0 rfl) ?_
        refine m_get (C := RX9) (T := TX9) (N := 13) (ci := 8) hx hb hts i_X9 hown hK hH hY.1 rfl 4 (by decide) f_3 rfl dX9_keep_10 ?_
        refine lv_iload_n hx hb dX9_keep_13 rfl (lv_at hl 1 rfl) ?_
        refine lv_aload_n hx hb dX9_keep_14 rfl (lv_at hl 0 rfl) ?_
        refine m_get (C := RX9) (T := TX9) (N := 13) (ci := 8) hx hb hts i_X9 hown hK hH hY.1 rfl 0 (by decide) f_2 rfl dX9_keep_15 ?_
        refine lv_iload_n hx hb dX9_keep_18 rfl (lv_at hl 1 rfl) ?_
        refine m_iald (nA := 163) (f := ((aD u0).1)) hx hb hK hH hY.2.1 dX9_keep_19 ?_ (by omega) (by omega)
        refine j_norm (y := (((aD u0).1) kk)) rfl ?_
        refine m_iast (nA := 163) (f := κ1) hx hb hK hH hS hY.2.2.2.2.1 dX9_keep_20 (fun H locs hH hS => ?_) (by omega) (by omega)
        obtain ⟨ν4, hY, hfr, hH⟩ : ∃ ξ : hM, IsMM G ξ yy ((aD u0).1) α β (fu κ1 kk (((aD u0).1) kk)) (aC u0) ω (aN u0) (aT u0) (aL u0) en fr pl wr ∧ MFr yy μ ξ ∧ gP G ξ ν0 H := hY.w4 hfr hH
        have hH : gP G ν4 ν0 H := hH
        refine j_iinc (lv' := [(1, .int (iv ((kk : Int) + 1))), (0, .ref yy)]) hx hb dX9_keep_21 hl (k := 1) rfl (by decide) rfl (fun ls hl => ?_)
        refine lv_goto (tgt := 2) hx hb dX9_keep_24 (by decide) ?_
        exact ih1 (kk + 1) (fu κ1 kk (((aD u0).1) kk)) ν4 ν0 hY hfr (by omega) (by rw [hτ]; exact cpK_s) (by omega) H locs ls hH hS (lv_sub hl [1, 0] rfl)
  exact lp2 (164) 0 κ μ n hY hfr (by omega) (cpK_0 _ _).symm (by omega) H locs ls hH hS (lv_sub hl [1, 0] rfl)

abbrev rm_t_X9_restore : Room := { frames := 2, cells := 0, slots := 0, locals := 43 }
set_option maxHeartbeats 4000000 in
set_option maxRecDepth 100000 in
theorem t_X9_restore (l : Launch) (G : wG) (μ : hM) (n : Nat) (yy : Nat) (u0 : aS) (en : Int)  (hM0 : IsM G μ yy u0 en) (hen : en ≤ 5900) (hO : OkD (aD u0)) (hK3 : 0 ≤ (aK u0).1 3 ∧ (aK u0).1 3 ≤ 36524) : Met l yX9_restore wsX9_restore rm_t_X9_restore (mPc G μ n [.ref yy]) (mQi G (fun z μ1 n1 => z = (a_restore u0).2 ∧ IsM G μ1 yy (a_restore u0).1 en ∧ MFr yy μ μ1)) 0 0 (gA G) := by
  refine Met.ofW (cc := cX9_restore) (maxL := 2) (ret := (some .int)) (by decide) rfl ?_
  intro p e s m args below meth c s₁ B hml hv
  obtain ⟨hav, hK, hH⟩ := hv
  have hx := B.exec
  have hb := B.bytes
  have hr := B.returns
  have hts := atoms_spec (ws := wsX9_restore) B.pre
  have hown : s.vm.findClass RX9 = some m.cls := findClass_of_methodNamed B.named
  have hlocks := B.notSynchronized
  have hS : va_S (gA G) s.heap s.heap [] := va_S.rf
  have hl := lv_entry ([.ref yy]) (n := 2) (Nat.le_of_ble_eq_true rfl)
  have hfr : entryFrame m args 2 = entryFrame m ([.ref yy] : List Value).toArray 2 := by rw [hav]
  rw [hfr, lg_entry_eq]
  generalize (lg_sl ([.ref yy]) ++ List.replicate (2 - (lg_sl ([.ref yy])).length) Slot.unset).toArray = ls at hl ⊢
  have hl : lv_has ls 2 [(0, .ref yy)] := hl
  generalize hQ : MQ below _ args s 0 0 (gA G) = Q
  show W p l e rm_t_X9_restore s m args below meth c s.heap [] 0 0 Q (F0 m 0 ls [])
  obtain ⟨H, hHe⟩ : ∃ H, H = s.heap := ⟨_, rfl⟩
  obtain ⟨locs, hlo⟩ : ∃ q : List Loc, q = [] := ⟨_, rfl⟩
  have hH : gP G μ n H := by rw [hHe]; exact hH
  have hS : va_S (gA G) s.heap H locs := by rw [hHe, hlo]; exact hS
  suffices hgo : W p l e rm_t_X9_restore s m args below meth c H locs 0 0 Q (F0 m 0 ls []) by rw [hHe, hlo] at hgo; exact hgo
  clear hHe hlo hfr hav
  have f_0 := hts (.fieldLink RX9 163 "StampDaterModel" "isKept" "Z") (List.mem_of_getElem? (i := 1) rfl)
  have i_X9 : ∀ w ∈ u_ws RX9 TX9 13, w ∈ wsX9_restore := by decide +kernel
  have f_2 := hts (.fieldLink RX9 7 "StampDaterModel" "s" "[I") (List.mem_of_getElem? (i := 2) rfl)
  have f_3 := hts (.fieldLink RX9 19 "StampDaterModel" "kept" "[I") (List.mem_of_getElem? (i := 3) rfl)
  have hfr : MFr yy μ μ := MFr.rf
  obtain ⟨α, β, κ, ω, fr, pl, wr, hY, hR⟩ := hM0
  have hT := hO.1
  have hOk := hT.1
  have h3 := hT.2.1
  have h5 := hT.2.2.1
  have h4 := hOk.2.2.2.1
  have hPD := hR.1
  have hen0 := hR.2.2.2.1
  have hkn := hR.2.2.2.2.1
  have hik := hR.2.2.2.2.2.1
  have hOC := hR.2.2.2.2.2.2
  have hl0 := hOC.1
  refine lv_aload_n hx hb dX9_restore_0 rfl (lv_at hl 0 rfl) ?_
  refine m_get (C := RX9) (T := TX9) (N := 13) (ci := 8) hx hb hts i_X9 hown hK hH hY.1 rfl 5 (by decide) f_0 rfl dX9_restore_1 ?_
  refine j_if_ne (tgt := 10) hx hb dX9_restore_4 (by decide) (fun c1 => ?_) (fun c1 => ?_) (by omega)
  · skip
    have hkk1 := hR.2.2.1 (by omega)
    refine lv_aload_n hx hb dX9_restore_10 rfl (lv_at hl 0 rfl) ?_
    refine m_callVv (As := []) (rest := []) ⟨hx, hb, hml, hown, hts⟩ hK hH hS (c_X9_putAside l G μ n yy ((aD u0).1) α β κ (aC u0) ω (aN u0) (aT u0) (aL u0) en fr pl wr hY ) (cwV 0 hts gX9_restore_X9_putAside rfl rfl rfl (by decide +kernel) ⟨(Nat.le_of_ble_eq_true rfl), (Nat.le_of_ble_eq_true rfl)⟩) hY.1 rfl rfl rfl rfl hl.1 (Nat.le_of_ble_eq_true rfl) dX9_restore_11 ⟨Nat.zero_le _, Nat.zero_le _⟩ (fun μ2 n3 H locs hp4 hH hS => ?_)
    obtain ⟨hY, hfr1⟩ := hp4
    have hfr := hfr.tr hfr1
    clear hfr1
    refine j_const hx hb dX9_restore_14 ?_
    refine lv_istore_n (lv' := [(1, .int (iv 0)), (0, .ref yy)]) hx hb dX9_restore_15 rfl hl (by decide) rfl (fun ls hl => ?_)
    have lp16 : ∀ (fuel : Nat) (kk : Nat) (τ : Nat → Int) (ν : hM) (ν0 : Nat) (hY : IsMM G ν yy τ ((aD u0).1) β κ (aC u0) ω (aN u0) (aT u0) (aL u0) en (en + 1) pl wr) (hfr : MFr yy μ ν) (hkk : kk ≤ 163) (hτ : τ = cpK κ (aD u0).1 kk) (_ : 163 - kk < fuel) (H : Heap) (locs : List Loc) (ls : Array Slot) (_ : gP G ν ν0 H) (_ : va_S (gA G) s.heap H locs) (_ : lv_has ls 2 [(0, .ref yy), (1, .int (iv (kk : Int)))]), W p l e rm_t_X9_restore s m args below meth c H locs 0 0 Q (F0 m 16 ls []) := by
      intro fuel
      induction fuel with
      | zero => intro _ _ _ _ _ _ _ _ hfuel; exact absurd hfuel (Nat.not_lt_zero _)
      | succ fuel ih =>
        intro kk τ ν ν0 hY hfr hkk hτ hfuel H locs ls hH hS hl
        have ih5 := ih; clear ih
        refine lv_iload_n hx hb dX9_restore_16 rfl (lv_at hl 1 rfl) ?_
        refine j_sipush hx hb dX9_restore_17 ?_ (by decide)
        refine j_icmp_ge (tgt := 41) hx hb dX9_restore_20 (by decide) (fun c6 => ?_) (fun c6 => ?_) (by omega) (by omega)
        · skip
          obtain ⟨ν7, hY, hfr, hH⟩ : ∃ ξ : hM, IsMM G ξ yy ((aK u0).1) ((aD u0).1) β κ (aC u0) ω (aN u0) (aT u0) (aL u0) en (en + 1) pl wr ∧ MFr yy μ ξ ∧ gP G ξ ν0 H := hY.c1 hfr hH ((aK u0).1) (fun j hj => by rw [hτ, show kk = 163 by omega, cpK_at hj]; exact hkk1.1 j hj)
          refine lv_aload_n hx hb dX9_restore_41 rfl (lv_at hl 0 rfl) ?_
          refine lv_aload_n hx hb dX9_restore_42 rfl (lv_at hl 0 rfl) ?_
          refine m_get (C := RX9) (T := TX9) (N := 13) (ci := 8) hx hb hts i_X9 hown hK hH hY.1 rfl 0 (by decide) f_2 rfl dX9_restore_43 ?_
          refine j_const hx hb dX9_restore_46 ?_
          refine m_iald (nA := 163) (f := ((aK u0).1)) hx hb hK hH hY.2.1 dX9_restore_47 ?_ (by omega) (by omega)
          refine j_norm (y := (((aK u0).1) 3)) rfl ?_
          refine m_callVi (As := [.int (iv (((aK u0).1) 3))]) (rest := []) ⟨hx, hb, hml, hown, hts⟩ hK hH hS (c_X9_act l G ν7 ν0 yy ((aK u0).1) ((aD u0).1) β κ (aC u0) ω (aN u0) (aT u0) (aL u0) en (en + 1) pl wr hY (((aK u0).1) 3) (by omega) (by omega)) (cwV 1 hts gX9_restore_X9_act rfl rfl rfl (by decide +kernel) ⟨(Nat.le_of_ble_eq_true rfl), (Nat.le_of_ble_eq_true rfl)⟩) hY.1 rfl rfl rfl rfl hl.1 (Nat.le_of_ble_eq_true rfl) dX9_restore_48 ⟨Nat.zero_le _, Nat.zero_le _⟩ (fun z11 μ8 n9 H locs hz11 hp10 hH hS => ?_)
          obtain ⟨hz9, hfr1, hn9, hp9⟩ := hp10
          have hfr := hfr.tr hfr1
          clear hfr1
          obtain ⟨β1, hY, hrel⟩ := hp9 (by omega)
          rw [hz9]
          clear hz9 hn9 hp9
          subst hQ
          refine m_iret hx hb hr hlocks hH hS dX9_restore_51 ?_ (by omega)
          unfold a_restore
          rw [if_neg (by omega)]
          exact ⟨rfl, ⟨_, _, _, _, _, _, _, hY, hR.act hrel (Int.le_refl _) (fun _ _ => rfl) hkk1.2⟩, hfr⟩
        · skip
          refine lv_aload_n hx hb dX9_restore_23 rfl (lv_at hl 0 rfl) ?_
          refine m_get (C := RX9) (T := TX9) (N := 13) (ci := 8) hx hb hts i_X9 hown hK hH hY.1 rfl 0 (by decide) f_2 rfl dX9_restore_24 ?_
          refine lv_iload_n hx hb dX9_restore_27 rfl (lv_at hl 1 rfl) ?_
          refine lv_aload_n hx hb dX9_restore_28 rfl (lv_at hl 0 rfl) ?_
          refine m_get (C := RX9) (T := TX9) (N := 13) (ci := 8) hx hb hts i_X9 hown hK hH hY.1 rfl 4 (by decide) f_3 rfl dX9_restore_29 ?_
          refine lv_iload_n hx hb dX9_restore_32 rfl (lv_at hl 1 rfl) ?_
          refine m_iald (nA := 163) (f := κ) hx hb hK hH hY.2.2.2.2.1 dX9_restore_33 ?_ (by omega) (by omega)
          refine j_norm (y := (κ kk)) rfl ?_
          refine m_iast (nA := 163) (f := τ) hx hb hK hH hS hY.2.1 dX9_restore_34 (fun H locs hH hS => ?_) (by omega) (by omega)
          obtain ⟨ν12, hY, hfr, hH⟩ : ∃ ξ : hM, IsMM G ξ yy (fu τ kk (κ kk)) ((aD u0).1) β κ (aC u0) ω (aN u0) (aT u0) (aL u0) en (en + 1) pl wr ∧ MFr yy μ ξ ∧ gP G ξ ν0 H := hY.w1 hfr hH
          have hH : gP G ν12 ν0 H := hH
          refine j_iinc (lv' := [(1, .int (iv ((kk : Int) + 1))), (0, .ref yy)]) hx hb dX9_restore_35 hl (k := 1) rfl (by decide) rfl (fun ls hl => ?_)
          refine lv_goto (tgt := 16) hx hb dX9_restore_38 (by decide) ?_
          exact ih5 (kk + 1) (fu τ kk (κ kk)) ν12 ν0 hY hfr (by omega) (by rw [hτ]; exact cpK_s) (by omega) H locs ls hH hS (lv_sub hl [1, 0] rfl)
    exact lp16 (164) 0 ((aD u0).1) μ2 n3 hY hfr (by omega) (cpK_0 _ _).symm (by omega) H locs ls hH hS (lv_sub hl [1, 0] rfl)
  · skip
    refine j_bipush hx hb dX9_restore_7 ?_ (by decide)
    subst hQ
    refine m_iret hx hb hr hlocks hH hS dX9_restore_9 ?_ (by omega)
    unfold a_restore
    rw [if_pos (by omega)]
    exact ⟨rfl, ⟨_, _, _, _, _, _, _, hY, hR⟩, hfr⟩
