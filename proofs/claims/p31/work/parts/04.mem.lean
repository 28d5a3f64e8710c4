/-! numbers: an int is iv z, z a number between the bounds -/
def iv (z : Int) : Int32 := Int32.ofInt z
theorem iv_toInt {z : Int} (h : -2147483648 ≤ z ∧ z ≤ 2147483647) : (iv z).toInt = z := Int32.toInt_ofInt_of_le (by omega) (by omega)
theorem iv_of (x : Int32) : iv x.toInt = x := Int32.ofInt_toInt x
theorem iv_rng (x : Int32) : -2147483648 ≤ x.toInt ∧ x.toInt ≤ 2147483647 := by
  have h1 := Int32.toInt_lt x
  have h2 := Int32.le_toInt x
  omega
theorem iv_add (a b : Int) : iv a + iv b = iv (a + b) := (Int32.ofInt_add a b).symm
theorem iv_sub (a b : Int) : iv a - iv b = iv (a - b) := (Int32.ofInt_sub a b).symm
theorem iv_mul (a b : Int) : iv a * iv b = iv (a * b) := (Int32.ofInt_mul a b).symm
theorem iv_neg (a : Int) : - iv a = iv (-a) := (Int32.ofInt_neg a).symm
theorem iv_lit0 : iv 0 = 0 := rfl
theorem iv_le {a b : Int} (ha : -2147483648 ≤ a ∧ a ≤ 2147483647) (hb : -2147483648 ≤ b ∧ b ≤ 2147483647) : iv a ≤ iv b ↔ a ≤ b := by
  rw [Int32.le_iff_toInt_le, iv_toInt ha, iv_toInt hb]
theorem iv_lt {a b : Int} (ha : -2147483648 ≤ a ∧ a ≤ 2147483647) (hb : -2147483648 ≤ b ∧ b ≤ 2147483647) : iv a < iv b ↔ a < b := by
  rw [Int32.lt_iff_toInt_lt, iv_toInt ha, iv_toInt hb]
theorem iv_eq {a b : Int} (ha : -2147483648 ≤ a ∧ a ≤ 2147483647) (hb : -2147483648 ≤ b ∧ b ≤ 2147483647) : iv a = iv b ↔ a = b := by
  rw [← Int32.toInt_inj, iv_toInt ha, iv_toInt hb]
theorem iv_tdiv {a b : Int} (ha : -2147483648 ≤ a ∧ a ≤ 2147483647) (hb : 0 < b ∧ b ≤ 2147483647) : iv a / iv b = iv (a.tdiv b) := by
  have hne : iv b ≠ -1 := by
    intro h
    have h1 := congrArg Int32.toInt h
    rw [iv_toInt (by omega), show (-1 : Int32).toInt = -1 from by decide] at h1
    omega
  apply Int32.toInt_inj.mp
  rw [Int32.toInt_div_of_ne_right _ _ hne, iv_toInt ha, iv_toInt (by omega)]
  have h2 : (a.tdiv b).natAbs ≤ a.natAbs := Int.natAbs_tdiv_le_natAbs a b
  have h3 : 0 ≤ a → 0 ≤ a.tdiv b := fun h => Int.tdiv_nonneg h (by omega)
  rw [iv_toInt]
  by_cases h : 0 ≤ a
  · have h4 := h3 h
    have e1 : (a.natAbs : Int) = a := Int.natAbs_of_nonneg h
    have e2 : ((a.tdiv b).natAbs : Int) = a.tdiv b := Int.natAbs_of_nonneg h4
    generalize a.tdiv b = t at *
    generalize a.natAbs = u at *
    generalize t.natAbs = v at *
    omega
  · have e1 : (a.natAbs : Int) = -a := Int.ofNat_natAbs_of_nonpos (by omega)
    have e3 : a.tdiv b ≤ ((a.tdiv b).natAbs : Int) := Int.le_natAbs
    have e4 : -(a.tdiv b) ≤ ((a.tdiv b).natAbs : Int) := by
      have := Int.le_natAbs (a := -(a.tdiv b))
      rwa [Int.natAbs_neg] at this
    have e5 : 0 ≤ (-a).tdiv b := Int.tdiv_nonneg (by omega) (by omega)
    rw [Int.neg_tdiv] at e5
    clear h3
    generalize a.tdiv b = t at *
    generalize a.natAbs = u at *
    generalize t.natAbs = v at *
    omega
theorem iv_div {a b : Int} (ha : 0 ≤ a ∧ a ≤ 2147483647) (hb : 0 < b ∧ b ≤ 2147483647) : iv a / iv b = iv (a / b) := by
  rw [iv_tdiv (by omega) hb, Int.tdiv_eq_ediv_of_nonneg ha.1]
theorem iv_rem {a b : Int} (ha : 0 ≤ a ∧ a ≤ 2147483647) (hb : 0 < b ∧ b ≤ 2147483647) : iv a - iv a / iv b * iv b = iv (a % b) := by
  rw [iv_div ha hb, iv_mul, iv_sub, Int.emod_def, Int.mul_comm]
theorem iv_trem {a b : Int} (ha : -2147483648 ≤ a ∧ a ≤ 2147483647) (hb : 0 < b ∧ b ≤ 2147483647) : iv a - iv a / iv b * iv b = iv (a.tmod b) := by
  rw [iv_tdiv ha hb, iv_mul, iv_sub, Int.tmod_def, Int.mul_comm]
theorem iv_clamp {a : Int} (h : 0 ≤ a ∧ a ≤ 2147483647) : (iv a).toNatClampNeg = a.toNat := by
  show (iv a).toInt.toNat = _
  rw [iv_toInt (by omega)]
theorem iv_in {a : Int} {n : Nat} (h : 0 ≤ a ∧ a < n) (hn : a ≤ 2147483647) : vp_in (iv a) n := by
  rw [vp_in_iff, iv_toInt (by omega)]
  exact h
theorem iv_nI (n : Nat) : nI n = iv (n : Int) := (Int32.ofInt_eq_ofNat (n := n)).symm
theorem iv_min {a b : Int} (ha : -2147483648 ≤ a ∧ a ≤ 2147483647) (hb : -2147483648 ≤ b ∧ b ≤ 2147483647) : (if iv b < iv a then iv b else iv a) = iv (min a b) := by
  by_cases h : b < a
  · rw [if_pos ((iv_lt hb ha).mpr h), show min a b = b by omega]
  · rw [if_neg (fun q => h ((iv_lt hb ha).mp q)), show min a b = a by omega]
theorem iv_max {a b : Int} (ha : -2147483648 ≤ a ∧ a ≤ 2147483647) (hb : -2147483648 ≤ b ∧ b ≤ 2147483647) : (if iv a < iv b then iv b else iv a) = iv (max a b) := by
  by_cases h : a < b
  · rw [if_pos ((iv_lt ha hb).mpr h), show max a b = b by omega]
  · rw [if_neg (fun q => h ((iv_lt ha hb).mp q)), show max a b = a by omega]
theorem iv_abs {a : Int} (ha : -2147483648 ≤ a ∧ a ≤ 2147483647) : (if 0 ≤ iv a then iv a else 0 - iv a) = iv (if 0 ≤ a then a else -a) := by
  have h0 : (0 : Int32) = iv 0 := rfl
  rw [h0]
  by_cases h : 0 ≤ a
  · rw [if_pos ((iv_le (by omega) ha).mpr h), if_pos h]
  · rw [if_neg (fun q => h ((iv_le (by omega) ha).mp q)), if_neg h, iv_sub, Int.zero_sub]
/-! the memory: a map from addresses to cells -/
abbrev hM : Type := Nat → Option va_E
def hu (μ : hM) (a : Nat) (e : va_E) : hM := fun q => if q = a then some e else μ q
theorem hu_s {μ : hM} {a : Nat} {e : va_E} : hu μ a e a = some e := if_pos rfl
theorem hu_n {μ : hM} {a b : Nat} {e : va_E} (h : b ≠ a) : hu μ a e b = μ b := if_neg h
theorem hu_n' {μ : hM} {a b : Nat} {e f : va_E} (h : b ≠ a) (hb : μ b = some f) : hu μ a e b = some f := (hu_n h).trans hb
theorem hu_uu {μ : hM} {a : Nat} {e f : va_E} : hu (hu μ a e) a f = hu μ a f := by
  funext q
  unfold hu
  by_cases h : q = a <;> simp [h]
theorem hu_c {μ : hM} {a b : Nat} {e f : va_E} (h : a ≠ b) : hu (hu μ a e) b f = hu (hu μ b f) a e := by
  funext q
  unfold hu
  by_cases h1 : q = a
  · subst h1; simp [h]
  · simp [h1]
theorem hu_id {μ : hM} {a : Nat} {e : va_E} (h : μ a = some e) : hu μ a e = μ := by
  funext q
  unfold hu
  by_cases h1 : q = a
  · subst h1; simp [h]
  · simp [h1]
/-- the surroundings: the classes' numbers and slots, the array classes, the first address of the law's own cells, the address of LONGEST -/
abbrev wG : Type := va_G × (Nat → ClassId) × Nat × Nat
abbrev gA (G : wG) : Nat → Prop := fun q => G.2.2.1 ≤ q
abbrev gTys (G : wG) : List (ClassId × FieldType) := [(G.2.1 0, .int), (G.2.1 1, .char), (G.2.1 2, .object RX0), (G.2.1 3, .object RX3), (G.2.1 4, .object RX6)]
/-- LONGEST's numbers -/
def longest (j : Nat) : Int := ([31, 29, 31, 30, 31, 30, 31, 31, 30, 31, 30, 31] : List Int).getD j 0
/-- what holds of calls of private members among nest mates, and of arrays of our classes -/
def gN (U : State) : Prop := va_Nw (.methodLinkNest RX5 60 yX8_isPlace RX8) U ∧ va_Nw (.methodLinkNest RX6 24 yX3_init RX8) U ∧ va_AO RX0 U ∧ va_AO RX3 U ∧ va_AO RX6 U
theorem gN.next {s U : State} (h : gN s) (hW : s.WarmedH U.vm) : gN U := ⟨h.1.warmM hW, h.2.1.warmM hW, h.2.2.1.moved hW.alike, h.2.2.2.1.moved hW.alike, h.2.2.2.2.moved hW.alike⟩
theorem gN.same {s U : State} (h : gN s) (hv : s.vm = U.vm) : gN U := ⟨h.1.same rfl hv, h.2.1.same rfl hv, h.2.2.1.moved (hv ▸ Vm.Alike.refl s.vm), h.2.2.2.1.moved (hv ▸ Vm.Alike.refl s.vm), h.2.2.2.2.moved (hv ▸ Vm.Alike.refl s.vm)⟩
/-- what holds of the tables and the statics, at a method's entry -/
def gK (G : wG) (U : State) : Prop := va_K G.1 vwCl (gTys G) U ∧ va_Z RX1 "LONGEST" "[I" (.ref G.2.2.2) (gA G) U U.heap ∧ va_T .int G.2.2.2 12 (fun j => .int (iv (longest j))) (gA G) U U.heap ∧ G.2.2.1 ≤ U.heap.size ∧ gN U
def gP (G : wG) (μ : hM) (n : Nat) (H : Heap) : Prop := H.size = n ∧ ∃ ws : va_W, va_P G.1 vwCl ws H ∧ va_D (gA G) ws ∧ ∀ a e, μ a = some e → ∃ k : Nat, ws[k]? = some (a, e)
theorem gP.lt {G : wG} {μ : hM} {n : Nat} {H : Heap} (h : gP G μ n H) {a : Nat} {e : va_E} (ha : μ a = some e) : a < n := by
  obtain ⟨hn, ws, hP, hD, hm⟩ := h
  obtain ⟨k, hk⟩ := hm a e ha
  rw [← hn]
  exact (hP k _ hk).lt
theorem gP.ge {G : wG} {μ : hM} {n : Nat} {H : Heap} (h : gP G μ n H) {a : Nat} {e : va_E} (ha : μ a = some e) : G.2.2.1 ≤ a := by
  obtain ⟨hn, ws, hP, hD, hm⟩ := h
  obtain ⟨k, hk⟩ := hm a e ha
  exact hD.2 k _ hk
theorem gK.next {G : wG} {s U : State} {H : Heap} {locs : List Loc} (h : gK G s) (hS : va_S (gA G) s.heap H locs) (hU : U.heap = H) (hW : s.WarmedH U.vm) : gK G U := by
  obtain ⟨h1, h2, h3, h4, h5⟩ := h
  have hv := hW.alike
  have hq : ∀ a : Nat, a < s.heap.size → ¬ gA G a → U.heap[a]? = s.heap[a]? := fun a h1 h2 => by rw [hU]; exact hS.2.1 a h1 h2
  exact ⟨va_K.moved hv h1, (h2.kept hq).moved hv, (h3.kept hq).moved hv, Nat.le_trans h4 (by rw [hU]; exact hS.1), h5.next hW⟩
theorem gP.upd {G : wG} {μ : hM} {n a k : Nat} {H1 : Heap} {ws : va_W} {e : va_E} (hz : H1.size = n) (hP : va_P G.1 vwCl (ws.set k (a, e)) H1) (hD : va_D (gA G) (ws.set k (a, e))) {e0 : va_E} (hk : ws[k]? = some (a, e0)) (hm : ∀ b f, μ b = some f → ∃ j : Nat, ws[j]? = some (b, f)) : gP G (hu μ a e) n H1 := by
  have hlt : k < ws.length := (List.getElem?_eq_some_iff.mp hk).1
  refine ⟨hz, _, hP, hD, fun b f hb => ?_⟩
  by_cases h : b = a
  · subst h
    rw [hu_s] at hb
    cases hb
    exact ⟨k, by simp [hlt]⟩
  · rw [hu_n h] at hb
    obtain ⟨j, hj⟩ := hm b f hb
    refine ⟨j, ?_⟩
    have hjk : k ≠ j := by
      intro q
      subst q
      rw [hk] at hj
      cases hj
      exact h rfl
    rw [List.getElem?_set_ne hjk]
    exact hj
theorem gP.new {G : wG} {μ : hM} {n : Nat} {H H1 : Heap} {e : va_E} (h : gP G μ n H) (hbs : G.2.2.1 ≤ n) (hz : H1.size = n + 1) (ho : ∀ q, q < n → H1[q]? = H[q]?) (he : va_at G.1 vwCl (n, e) H1) : gP G (hu μ n e) (n + 1) H1 := by
  obtain ⟨hn, ws, hP, hD, hm⟩ := h
  have hk : ∀ (k : Nat) (x : Nat × va_E), ws[k]? = some x → H1[x.1]? = H[x.1]? := fun k x hx => ho x.1 (by rw [← hn]; exact (hP k x hx).lt)
  refine ⟨hz, ws ++ [(n, e)], (hP.kept hk).app (fun k x hx => ?_), hD.push (D := G.1) (cl := vwCl) (H := H) hP hn.symm hbs, fun b f hb => ?_⟩
  · have hz : k < 1 := (List.getElem?_eq_some_iff.mp hx).1
    rw [show k = 0 by omega] at hx
    cases hx
    exact he
  · by_cases h : b = n
    · subst h
      rw [hu_s] at hb
      cases hb
      exact ⟨ws.length, by simp⟩
    · rw [hu_n h] at hb
      obtain ⟨j, hj⟩ := hm b f hb
      exact ⟨j, by rw [List.getElem?_append_left ((List.getElem?_eq_some_iff.mp hj).1)]; exact hj⟩
/-! contracts -/
def mPc (G : wG) (μ : hM) (n : Nat) (av : List Value) : Array Value → State → Prop := va_Pc av (fun U => gK G U ∧ gP G μ n U.heap)
abbrev gB (G : wG) : hM × Nat → State → Prop := fun u t => gP G u.1 u.2 t.heap
def mQi (G : wG) (post : Int → hM → Nat → Prop) : Array Value → State → Outcome → State → Prop := va_Qi (S := hM × Nat) (fun r u => ∃ z : Int, r = iv z ∧ (-2147483648 ≤ z ∧ z ≤ 2147483647) ∧ post z u.1 u.2) (gB G) (gA G)
def mQv (G : wG) (post : hM → Nat → Prop) : Array Value → State → Outcome → State → Prop := va_Qv (S := hM × Nat) (fun u => post u.1 u.2) (gB G) (gA G)
theorem mPc.blind {G : wG} {μ : hM} {n : Nat} {av : List Value} : FrameBlind (mPc G μ n av) := by
  intro a U g mk q
  obtain ⟨h1, ⟨k1, k2, k3, k4, k5⟩, h3⟩ := q
  exact ⟨h1, ⟨k1, k2, k3, k4, k5.same rfl⟩, h3⟩
theorem mPc.of {G : wG} {μ : hM} {n : Nat} {av : List Value} {s U : State} {H : Heap} {locs : List Loc} (hK : gK G s) (hS : va_S (gA G) s.heap H locs) (hH : gP G μ n H) (hU : U.heap = H) (hW : s.WarmedH U.vm) : mPc G μ n av av.toArray U :=
  ⟨rfl, hK.next hS hU hW, by rw [hU]; exact hH⟩
theorem gP.recv {G : wG} {μ : hM} {n b ci : Nat} {H : Heap} {fs : List Value} {q : vw_C} {s : State} (hK : gK G s) (hH : gP G μ n H) (hb : μ b = some (.inr (ci, fs))) (hc : vwCl[ci]? = some q) : ∃ cell : Cell, H[b]? = some cell ∧ cell.vm.isStatics = false ∧ s.vm.findClass q.1 = some cell.cls := by
  obtain ⟨hn, ws, hP, hD, hm⟩ := hH
  obtain ⟨k, hk⟩ := hm _ _ hb
  exact va_recv hK.1 hP hc hk
