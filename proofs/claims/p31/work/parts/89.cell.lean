/-! a cell of the script -/
def sPc (G : wG) (μ : hM) (n b L : Nat) (xs : Nat → Int32) (k : Int) : Array Value → State → Prop := va_Pc [.ref b, .int (iv k)] (fun U => gK G U ∧ gP G μ n U.heap ∧ va_X b L xs U U.heap ∧ b < U.heap.size)
theorem sPc.blind {G : wG} {μ : hM} {n b L : Nat} {xs : Nat → Int32} {k : Int} : FrameBlind (sPc G μ n b L xs k) := by
  intro a U g mk q
  obtain ⟨h1, ⟨k1, k2, k3, k4, k5⟩, h3, h4, h5⟩ := q
  exact ⟨h1, ⟨k1, k2, k3, k4, k5.same rfl⟩, h3, h4, h5⟩
theorem sPc.of {G : wG} {μ : hM} {n b L : Nat} {xs : Nat → Int32} {k : Int} {s U : State} {H : Heap} {locs : List Loc} (hK : gK G s) (hX : va_X b L xs s s.heap) (hbl : b < s.heap.size) (hbA : ¬ gA G b) (hS : va_S (gA G) s.heap H locs) (hH : gP G μ n H) (hU : U.heap = H) (hW : s.WarmedH U.vm) : sPc G μ n b L xs k ([.ref b, .int (iv k)] : List Value).toArray U :=
  ⟨rfl, hK.next hS hU hW, by rw [hU]; exact hH, by rw [hU]; exact (hX.kept (hS.2.1 b hbl hbA)).moved hW.alike, by rw [hU]; exact Nat.lt_of_lt_of_le hbl hS.1⟩
abbrev rm_c_L_cell : Room := { frames := 0, cells := 0, slots := 0, locals := 0 }
set_option maxHeartbeats 4000000 in
set_option maxRecDepth 100000 in
theorem c_L_cell (l : Launch) (G : wG) (μ : hM) (n b L : Nat) (xs : Nat → Int32) (k : Int) (hk : 0 ≤ k ∧ k ≤ 100) (hL : L ≤ 260) (hbA : ¬ gA G b) : Met l yL_cell wsL_cell rm_c_L_cell (sPc G μ n b L xs k) (mQi G (fun z μ1 n1 => μ1 = μ ∧ n1 = n)) 0 0 (gA G) := by
  refine Met.ofW (cc := cL_cell) (maxL := 2) (ret := (some .int)) (by decide) rfl ?_
  intro p e s m args below meth c s₁ B hml hv
  obtain ⟨hav, hK, hH, hX, hbl⟩ := hv
  have hx := B.exec
  have hb := B.bytes
  have hr := B.returns
  have hlocks := B.notSynchronized
  have hS : va_S (gA G) s.heap s.heap [] := va_S.rf
  have hl := lv_entry ([.ref b, .int (iv k)]) (n := 2) (Nat.le_of_ble_eq_true rfl)
  have hfr : entryFrame m args 2 = entryFrame m ([.ref b, .int (iv k)] : List Value).toArray 2 := by rw [hav]
  rw [hfr, lg_entry_eq]
  generalize (lg_sl ([.ref b, .int (iv k)]) ++ List.replicate (2 - (lg_sl ([.ref b, .int (iv k)])).length) Slot.unset).toArray = ls at hl ⊢
  have hl : lv_has ls 2 [(0, .ref b), (1, .int (iv k))] := hl
  generalize hQ : MQ below _ args s 0 0 (gA G) = Q
  show W p l e rm_c_L_cell s m args below meth c s.heap [] 0 0 Q (F0 m 0 ls [])
  refine lv_iload_n hx hb dL_cell_0 rfl (lv_at hl 1 rfl) ?_
  refine lv_aload_n hx hb dL_cell_1 rfl (lv_at hl 0 rfl) ?_
  refine va_slen hx hb hX hbl hbA hS dL_cell_2 ?_
  rw [show Int32.ofNat L = iv (L : Int) from iv_nI L]
  refine j_icmp_ge (tgt := 12) hx hb dL_cell_3 (by decide) (fun hge => ?_) (fun hlt => ?_) (by omega) (by omega)
  · refine j_sipush hx hb dL_cell_12 ?_ (by decide)
    refine lv_iload_n hx hb dL_cell_15 rfl (lv_at hl 1 rfl) ?_
    refine j_const hx hb dL_cell_16 ?_
    refine j_iadd hx hb dL_cell_17 ?_
    refine j_imul hx hb dL_cell_18 ?_
    refine lv_iload_n hx hb dL_cell_19 rfl (lv_at hl 1 rfl) ?_
    refine j_bipush hx hb dL_cell_20 ?_ (by decide)
    refine j_iadd hx hb dL_cell_22 ?_
    refine j_imul hx hb dL_cell_23 ?_
    have hw := wr32_rng (7919 * (k + 3) * (k + 11))
    rw [← wr32_iv (7919 * (k + 3) * (k + 11))]
    subst hQ
    exact m_iret hx hb hr hlocks hH hS dL_cell_24 ⟨rfl, rfl⟩ hw
  · refine lv_aload_n hx hb dL_cell_6 rfl (lv_at hl 0 rfl) ?_
    refine lv_iload_n hx hb dL_cell_7 rfl (lv_at hl 1 rfl) ?_
    refine va_sld hx hb hX hbl hbA hS (iv_in ⟨by omega, by omega⟩ (by omega)) dL_cell_8 ?_
    obtain ⟨z0, hz0, hzr⟩ : ∃ z : Int, xs (iv k).toNatClampNeg = iv z ∧ -2147483648 ≤ z ∧ z ≤ 2147483647 := ⟨_, (iv_of _).symm, iv_rng _⟩
    rw [hz0]
    refine lv_goto (tgt := 24) hx hb dL_cell_9 (by decide) ?_
    subst hQ
    exact m_iret hx hb hr hlocks hH hS dL_cell_24 ⟨rfl, rfl⟩ hzr
section SCALL
variable {p : Program} {l : Launch} {e : Env} {R : Room} {s : State} {m : MethodId} {args : Array Value} {below : List Frame} {meth : Method} {c : Code} {H : Heap} {locs : List Loc} {cells slots : Nat} {Q : State → Prop}
variable {cc : ByteArray} {pc : Nat} {ls : Array Slot} {rest : List Value} {G : wG} {μ : hM} {n : Nat}
theorem m_callSc {y : MethodName} {bytes : ByteArray} {maxL nL mc ms index b L : Nat} {xs : Nat → Int32} {k : Int} {ret : Option FieldType} {ws : List Cond} {rm : Room} {Ts : List Cond} {own : String} {st0 : List Value} {post : Int → hM → Nat → Prop} (S : CallFix p m c cc nL s args Ts own) (hK : gK G s) (hX : va_X b L xs s s.heap) (hbl : b < s.heap.size) (hbA : ¬ gA G b) (hH : gP G μ n H) (hS : va_S (gA G) s.heap H locs) (hMet : Met l y ws rm (sPc G μ n b L xs k) (mQi G post) mc ms (gA G)) (cw : CallB R s args own index y bytes maxL ret ws rm mc ms 2 ∧ (Cond.static y).before args s = true) (hst : st0 = .int (iv k) :: .ref b :: rest) (hsize : ls.size = nL) (hW : (rest.map fun v => v.category).sum ≤ 8) (hdg : decode cc pc = .ok (.invokestatic index, 3)) (hf : cells + mc ≤ R.cells ∧ slots + ms ≤ R.slots) (kk : ∀ (z : Int) (μ1 : hM) (n1 : Nat) (H1 : Heap) (locs1 : List Loc), (-2147483648 ≤ z ∧ z ≤ 2147483647) → post z μ1 n1 → gP G μ1 n1 H1 → va_S (gA G) s.heap H1 locs1 → W p l e R s m args below meth c H1 locs1 (cells + mc) (slots + ms) Q (F0 m (pc + 3) ls (.int (iv z) :: rest))) : W p l e R s m args below meth c H locs cells slots Q (F0 m pc ls st0) :=
  va_calli (va_runS (As := [.ref b, .int (iv k)]) S hMet cw ⟨sPc.blind, fun U hU hW2 => sPc.of hK hX hbl hbA hS hH hU hW2⟩ rfl rfl hsize hst (by show 2 * 0 + _ ≤ 8; omega) hdg hf) hS (fun q _ h => h) (fun q h => h) (fun r u t H1 locs1 ht hvm hw hB hz1 hk1 hS1 => by
    obtain ⟨z, rfl, hz, hp⟩ := hw
    exact kk z u.1 u.2 H1 locs1 hz hp (by rw [← ht]; exact hB) hS1)
end SCALL
