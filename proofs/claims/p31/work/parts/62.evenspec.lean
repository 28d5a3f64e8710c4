/-! doubles: a method's answer, its end, its call -/
def mQd (G : wG) (post : UInt64 → hM → Nat → Prop) : Array Value → State → Outcome → State → Prop := va_Qd (S := hM × Nat) (fun r u => post r u.1 u.2) (gB G) (gA G)
section DBL
variable {p : Program} {l : Launch} {e : Env} {R : Room} {s : State} {m : MethodId} {args : Array Value} {below : List Frame} {meth : Method} {c : Code} {H : Heap} {locs : List Loc} {cells slots : Nat} {Q : State → Prop}
variable {cc : ByteArray} {pc : Nat} {ls : Array Slot} {rest : List Value} {G : wG} {μ : hM} {n : Nat} {a : Nat}
theorem m_dret (hx : p.tables.exec = Jvm.exec) (hb : c.code = cc) (hr : meth.sig.returnType = some .double) (hlocks : meth.locks = false) (hH : gP G μ n H) (hS : va_S (gA G) s.heap H locs) {post : UInt64 → hM → Nat → Prop} {z : UInt64} (hdg : decode cc pc = .ok (.dreturn, 1)) (hp : post z μ n) : W p l e R s m args below meth c H locs cells slots (MQ below (mQd G post) args s cells slots (gA G)) (F0 m pc ls [.double z]) :=
  W.dret hx hb hr (fun t ht _ => ⟨⟨z, (μ, n), rfl, hp, by show gP G μ n t.heap; rw [ht]; exact hH⟩, hS.F ht⟩) (fun q hq => hS.2.2 q hq) hdg hlocks
theorem m_callVd {y : MethodName} {bytes : ByteArray} {maxL nL mc ms na index : Nat} {ret : Option FieldType} {ws : List Cond} {rm : Room} {Ts : List Cond} {own C : String} {b : Nat} {As st0 : List Value} {ci : Nat} {fs : List Value} {q : vw_C} {post : UInt64 → hM → Nat → Prop} (S : CallFix p m c cc nL s args Ts own) (hK : gK G s) (hH : gP G μ n H) (hS : va_S (gA G) s.heap H locs) (hMet : Met l y ws rm (mPc G μ n (.ref b :: As)) (mQd G post) mc ms (gA G)) (cw : CallW R s args own C index y bytes maxL ret ws rm mc ms na) (hbr : μ b = some (.inr (ci, fs))) (hcl : vwCl[ci]? = some q) (hqC : q.1 = C) (hst : st0 = As.reverse ++ .ref b :: rest) (hn : As.length = na) (hsize : ls.size = nL) (hW : (rest.map fun v => v.category).sum ≤ 8) (hdg : decode cc pc = .ok (.invokevirtual index, 3)) (hf : cells + mc ≤ R.cells ∧ slots + ms ≤ R.slots) (kk : ∀ (z : UInt64) (μ1 : hM) (n1 : Nat) (H1 : Heap) (locs1 : List Loc), post z μ1 n1 → gP G μ1 n1 H1 → va_S (gA G) s.heap H1 locs1 → W p l e R s m args below meth c H1 locs1 (cells + mc) (slots + ms) Q (F0 m (pc + 3) ls (.double z :: rest))) : W p l e R s m args below meth c H locs cells slots Q (F0 m pc ls st0) :=
  va_calld (va_runV S hMet cw ⟨mPc.blind, by rw [← hqC]; exact gP.recv hK hH hbr hcl, fun U hU hW2 => mPc.of hK hS hH hU hW2⟩ rfl hn hsize hst (by show 2 * 0 + _ ≤ 8; omega) hdg hf) hS (fun q _ h => h) (fun q h => h) (fun r u t H1 locs1 ht hvm hw hB hz1 hk1 hS1 => kk r u.1 u.2 H1 locs1 hw (by rw [← ht]; exact hB) hS1)
end DBL
theorem n64_of {r : UInt64} (h : Jvm.FP.Core.dIsNaN r = false) : vf_n64 r := by
  have h1 : ¬ 9218868437227405312 < r.toNat % 2 ^ 63 := fun q => by
    have := (Jvm.FP.Core.isNaN_bits r).mpr q
    rw [h] at this
    cases this
  unfold vf_n64
  rw [UInt64.le_iff_toNat_le, UInt64.toNat_and]
  have e : (0x7fffffffffffffff : UInt64).toNat = 2 ^ 63 - 1 := by decide
  rw [e, Nat.and_two_pow_sub_one_eq_mod]
  exact Nat.not_lt.mp h1
theorem ev_60 : Jvm.FP.Core.DFin 4633641066610819072 ∧ ¬ Jvm.FP.Core.DZero 4633641066610819072 := by
  rw [Jvm.FP.Core.fin_bits, Jvm.FP.Core.zero_bits2]
  decide
theorem ev_n1 (a : Int32) : Jvm.FP.Core.dIsNaN (FP.ddiv (FP.i2d a) 4633641066610819072) = false := Jvm.FP.Core.ddiv_out (Jvm.FP.Core.i2d_fin a).notNaN ev_60.1 ev_60.2
theorem ev_n2 (a g : Int32) (hg : g ≠ 0) : Jvm.FP.Core.dIsNaN (FP.ddiv (FP.ddiv (FP.i2d a) 4633641066610819072) (FP.i2d g)) = false := Jvm.FP.Core.ddiv_out (ev_n1 a) (Jvm.FP.Core.i2d_fin g) (fun q => Jvm.FP.Core.i2d_ne_zero hg ((Jvm.FP.Core.zero_bits2 _).mp q))
/-- how even the wear is -/
def a_even (σ : Nat → Int) : UInt64 := if emax σ 60 = 0 then FP.dconst1 else FP.ddiv (FP.ddiv (FP.i2d (iv (esum σ 60))) 4633641066610819072) (FP.i2d (iv (emax σ 60)))
theorem iv_n0 {g : Int} (h : 0 < g ∧ g ≤ 99) : iv g ≠ 0 := iv_ne0 (by omega)
theorem esum_b (σ : Nat → Int) (p : Nat) : ∀ k : Nat, k ≤ 10 → esum σ (10 * p + k) = esum σ (10 * p) + bsum (roww σ p) k := by
  intro k
  induction k with
  | zero => intro _; exact (Int.add_zero _).symm
  | succ k ih =>
    intro hk
    show esum σ (10 * p + k) + σ (88 + 13 * ((10 * p + k) / 10) + (10 * p + k) % 10) = esum σ (10 * p) + (bsum (roww σ p) k + roww σ p k)
    rw [ih (by omega), roww_at (by omega), show (10 * p + k) / 10 = p by omega, show (10 * p + k) % 10 = k by omega]
    omega
theorem bmost_ge (f : Nat → Int) : ∀ k j : Nat, j ≤ k → f j ≤ f (bmost f k) := by
  intro k
  induction k with
  | zero => intro j hj; rw [show j = 0 by omega]; exact Int.le_refl _
  | succ k ih =>
    intro j hj
    show f j ≤ f (if f (bmost f k) < f (k + 1) then k + 1 else bmost f k)
    by_cases h : f (bmost f k) < f (k + 1)
    · rw [if_pos h]
      by_cases e : j = k + 1
      · rw [e]; exact Int.le_refl _
      · have := ih j (by omega); omega
    · rw [if_neg h]
      by_cases e : j = k + 1
      · rw [e]; omega
      · exact ih j (by omega)
theorem emax_b {σ : Nat → Int} {p : Nat} : ∀ k : Nat, k ≤ 9 → emax σ (10 * p + (k + 1)) = max (emax σ (10 * p)) (roww σ p (bmost (roww σ p) k)) := by
  intro k
  induction k with
  | zero =>
    intro _
    show max (emax σ (10 * p)) (σ (88 + 13 * ((10 * p) / 10) + (10 * p) % 10)) = max (emax σ (10 * p)) (roww σ p 0)
    rw [roww_at (by omega), show (10 * p) / 10 = p by omega, show (10 * p) % 10 = 0 by omega]
  | succ k ih =>
    intro hk
    show max (emax σ (10 * p + (k + 1))) (σ (88 + 13 * ((10 * p + (k + 1)) / 10) + (10 * p + (k + 1)) % 10)) = max (emax σ (10 * p)) (roww σ p (if roww σ p (bmost (roww σ p) k) < roww σ p (k + 1) then k + 1 else bmost (roww σ p) k))
    have e : roww σ p (k + 1) = σ (88 + 13 * p + (k + 1)) := roww_at (by omega)
    rw [ih (by omega), show (10 * p + (k + 1)) / 10 = p by omega, show (10 * p + (k + 1)) % 10 = k + 1 by omega, ← e]
    by_cases h : roww σ p (bmost (roww σ p) k) < roww σ p (k + 1)
    · rw [if_pos h]; omega
    · rw [if_neg h]; omega
