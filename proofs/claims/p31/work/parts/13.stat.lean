section QROWS
variable {p : Program} {l : Launch} {e : Env} {R : Room} {s : State} {m : MethodId} {args : Array Value} {below : List Frame} {meth : Method} {c : Code} {H : Heap} {locs : List Loc} {cells slots : Nat} {Q : State → Prop}
variable {cc : ByteArray} {pc : Nat} {ls : Array Slot} {rest : List Value}
theorem j_aloadq (hx : p.tables.exec = Jvm.exec) (hb : c.code = cc) {k : Fin 4} {i : Nat} {r : Option Nat} (hdg : decode cc pc = .ok (.aload_n k, 1)) (hi : (k : Nat) = i) (hl : ls[i]? = some (.val (va_rf r))) (kk : W p l e R s m args below meth c H locs cells slots Q (F0 m (pc + 1) ls (va_rf r :: rest))) : W p l e R s m args below meth c H locs cells slots Q (F0 m pc ls rest) := by
  cases r with
  | none => exact lv_aload_nN hx hb hdg hi hl kk
  | some a => exact lv_aload_n hx hb hdg hi hl kk
theorem j_astoreq (hx : p.tables.exec = Jvm.exec) (hb : c.code = cc) {k : Fin 4} {i nL : Nat} {r : Option Nat} {lv lv' : List (Nat × Value)} (hdg : decode cc pc = .ok (.astore_n k, 1)) (hi : (k : Nat) = i) (h : lv_has ls nL lv) (hn : i < nL) (hl : (i, va_rf r) :: lv.filter (fun q => !(q.1 == i) && !(q.1 + 1 == i && q.2.category == 2)) = lv')
    (kk : ∀ ls' : Array Slot, lv_has ls' nL lv' → W p l e R s m args below meth c H locs cells slots Q (F0 m (pc + 1) ls' rest)) : W p l e R s m args below meth c H locs cells slots Q (F0 m pc ls (va_rf r :: rest)) := by
  cases r with
  | none => exact lv_astore_nN hx hb hdg hi h hn hl kk
  | some a => exact lv_astore_n hx hb hdg hi h hn hl kk
theorem j_ifnullq (hx : p.tables.exec = Jvm.exec) (hb : c.code = cc) {r : Option Nat} {off : Int} {tgt : Nat} (hdg : decode cc pc = .ok (.ifnull off, 3)) (ht : (pc : Int) + off = (tgt : Int)) (kt : r = none → W p l e R s m args below meth c H locs cells slots Q (F0 m tgt ls rest)) (kf : ∀ a, r = some a → W p l e R s m args below meth c H locs cells slots Q (F0 m (pc + 3) ls rest)) : W p l e R s m args below meth c H locs cells slots Q (F0 m pc ls (va_rf r :: rest)) := by
  cases r with
  | none => exact lv_ifnullN hx hb hdg ht (kt rfl)
  | some a => exact lv_ifnull hx hb hdg (kf a rfl)
theorem j_ifnonnullq (hx : p.tables.exec = Jvm.exec) (hb : c.code = cc) {r : Option Nat} {off : Int} {tgt : Nat} (hdg : decode cc pc = .ok (.ifnonnull off, 3)) (ht : (pc : Int) + off = (tgt : Int)) (kt : r = none → W p l e R s m args below meth c H locs cells slots Q (F0 m (pc + 3) ls rest)) (kf : ∀ a, r = some a → W p l e R s m args below meth c H locs cells slots Q (F0 m tgt ls rest)) : W p l e R s m args below meth c H locs cells slots Q (F0 m pc ls (va_rf r :: rest)) := by
  cases r with
  | none => exact lv_ifnonnullN hx hb hdg (kt rfl)
  | some a => exact lv_ifnonnull hx hb hdg ht (kf a rfl)
theorem j_ldcw (hx : p.tables.exec = Jvm.exec) (hb : c.code = cc) {own : String} {index : Nat} {v : Int32} (z : Int) (hown : s.vm.findClass own = some m.cls) (hconst : (Jvm.Cond.constant own index v).before args s = true) (hdg : decode cc pc = .ok (.ldc_w index, 3)) (k : W p l e R s m args below meth c H locs cells slots Q (F0 m (pc + 3) ls (.int (iv z) :: rest))) (hv : v = iv z := by decide) : W p l e R s m args below meth c H locs cells slots Q (F0 m pc ls rest) := by
  subst hv
  exact lv_ldcw hx hb hown hconst hdg k
theorem j_ixor (hx : p.tables.exec = Jvm.exec) (hb : c.code = cc) {x y v : Int} (hdg : decode cc pc = .ok (.ixor, 1)) (h : iv x ^^^ iv y = iv v) (k : W p l e R s m args below meth c H locs cells slots Q (F0 m (pc + 1) ls (.int (iv v) :: rest))) : W p l e R s m args below meth c H locs cells slots Q (F0 m pc ls (.int (iv y) :: .int (iv x) :: rest)) := lv_ixor hx hb hdg (by rw [h]; exact k)
theorem j_iushr (hx : p.tables.exec = Jvm.exec) (hb : c.code = cc) {x y v : Int} (hdg : decode cc pc = .ok (.iushr, 1)) (h : ((iv x).toUInt32 >>> ((iv y).toUInt32 &&& Int32.toUInt32 31)).toInt32 = iv v) (k : W p l e R s m args below meth c H locs cells slots Q (F0 m (pc + 1) ls (.int (iv v) :: rest))) : W p l e R s m args below meth c H locs cells slots Q (F0 m pc ls (.int (iv y) :: .int (iv x) :: rest)) := lv_iushr hx hb hdg h k
end QROWS
theorem nar_q {C : String} (r : Option Nat) : narrow (.object C) (va_rf r) = va_rf r := by cases r <;> rfl
theorem fit_q {C : String} (r : Option Nat) : fits (.object C) (va_rf r) = true := by cases r <;> rfl
theorem nar_z {z : Int} (h : 0 ≤ z ∧ z ≤ 1) : narrow .boolean (.int (iv z)) = .int (iv z) := by
  have : z = 0 ∨ z = 1 := by omega
  rcases this with rfl | rfl <;> rfl
theorem fit_z {z : Int} (h : 0 ≤ z ∧ z ≤ 1) : fits .boolean (.int (iv z)) = true := by
  have : z = 0 ∨ z = 1 := by omega
  rcases this with rfl | rfl <;> rfl
/-- how many bits of six are set -/
def pc6 (x : Nat) : Nat := x % 2 + x / 2 % 2 + x / 4 % 2 + x / 8 % 2 + x / 16 % 2 + x / 32 % 2
/-- which of the known prints lies in a row -/
def pix (σ : Nat → Int) (r : Nat) : Nat := ((σ 5 - 1 - (r : Int)) % 12).toNat
def prow (σ : Nat → Int) (i : Nat) : List Value := [.int (iv (σ (13 + 6 * i))), .int (iv (σ (14 + 6 * i))), .int (iv (σ (15 + 6 * i))), .int (iv (σ (16 + 6 * i))), .int (iv (σ (17 + 6 * i))), .int (iv (σ (18 + 6 * i)))]
theorem pix_lt (σ : Nat → Int) (r : Nat) : pix σ r < 12 := by
  unfold pix
  omega
def stcell (sa : Nat) (σ : Nat → Int) (rd : Option Nat) : va_E := .inr (5, [.ref (sa + 1), .ref (sa + 16), .int (iv (σ 3)), .int (iv (σ 5)), .int (iv (σ 6)), .int (iv (σ 7)), .int (iv (σ 8)), va_rf rd])
/-- what a state is: its cells lie from sa on: the state, its stamp (fifteen cells), the row of prints, twelve prints -/
def IsState (G : wG) (μ : hM) (sa : Nat) (π : Nat → Nat) (σ : Nat → Int) (fp sp : Int) (rd : Option Nat) : Prop :=
  μ sa = some (.inr (5, [.ref (sa + 1), .ref (sa + 16), .int (iv (σ 3)), .int (iv (σ 5)), .int (iv (σ 6)), .int (iv (σ 7)), .int (iv (σ 8)), va_rf rd])) ∧
  IsSt G μ (sa + 1) π σ fp sp ∧
  μ (sa + 16) = some (.inl (G.2.1 3, 12, .inr (.inr (.inr (.inr (fun r => some (sa + 17 + r))))))) ∧
  ∀ r, r < 12 → μ (sa + 17 + r) = some (.inr (2, prow σ (pix σ r)))
theorem IsState.fr {G : wG} {μ ν : hM} {sa : Nat} {π : Nat → Nat} {σ : Nat → Int} {fp sp : Int} {rd : Option Nat} (h : IsState G μ sa π σ fp sp rd) (hq : ∀ q, sa ≤ q → q < sa + 29 → ν q = μ q) : IsState G ν sa π σ fp sp rd := by
  obtain ⟨h1, h2, h3, h4⟩ := h
  exact ⟨(hq sa (by omega) (by omega)).trans h1, h2.fr (fun q a b => hq q (by omega) (by omega)), (hq (sa + 16) (by omega) (by omega)).trans h3, fun r hr => (hq (sa + 17 + r) (by omega) (by omega)).trans (h4 r hr)⟩
/-- the bounds of a state's numbers -/
def OkT (σ : Nat → Int) : Prop := OkS σ ∧ (0 ≤ σ 3 ∧ σ 3 ≤ 36524) ∧ (0 ≤ σ 5 ∧ σ 5 ≤ 2000000000) ∧ σ 12 = min 12 (σ 5) ∧ ∀ i, i < 12 → (0 ≤ σ (13 + 6 * i) ∧ σ (13 + 6 * i) ≤ 999999) ∧ (0 ≤ σ (14 + 6 * i) ∧ σ (14 + 6 * i) ≤ 36524) ∧ (0 ≤ σ (15 + 6 * i) ∧ σ (15 + 6 * i) ≤ 63) ∧ (0 ≤ σ (16 + 6 * i) ∧ σ (16 + 6 * i) ≤ 63) ∧ (0 ≤ σ (17 + 6 * i) ∧ σ (17 + 6 * i) ≤ 1) ∧ (0 ≤ σ (18 + 6 * i) ∧ σ (18 + 6 * i) ≤ 9)
/-- the chain of days with right prints -/
def Chn (μ : hM) (rb : Nat) : Option Nat → List (Int × Int) → Prop
  | none, [] => True
  | some a, (d, n) :: t => ∃ e : Option Nat, rb ≤ a ∧ μ a = some (.inr (3, [.int (iv d), .int (iv n), .int (iv ((t.length : Int) + 1)), va_rf e])) ∧ Chn μ rb e t
  | _, _ => False
theorem Chn.fr {μ ν : hM} {rb : Nat} (hq : ∀ q e, rb ≤ q → μ q = some e → ν q = some e) : ∀ {ch : List (Int × Int)} {rd : Option Nat}, Chn μ rb rd ch → Chn ν rb rd ch := by
  intro ch
  induction ch with
  | nil =>
    intro rd h
    cases rd with
    | none => trivial
    | some a => exact h
  | cons x t ih =>
    intro rd h
    cases rd with
    | none => exact h
    | some a =>
      obtain ⟨d, n⟩ := x
      obtain ⟨e, h1, h2, h3⟩ := h
      exact ⟨e, h1, hq a _ h1 h2, ih h3⟩
def chAdd (ch : List (Int × Int)) (td mo : Int) : List (Int × Int) := if mo = 0 then ch else match ch with
  | [] => [(td, mo)]
  | (d, n) :: t => if d = td then (td, n + mo) :: t else (td, mo) :: (d, n) :: t
/-- the number that an int is -/
def wr32 (z : Int) : Int := (iv z).toInt
theorem wr32_iv (z : Int) : iv (wr32 z) = iv z := iv_of (iv z)
theorem wr32_rng (z : Int) : -2147483648 ≤ wr32 z ∧ wr32 z ≤ 2147483647 := iv_rng (iv z)
theorem wr32_id {z : Int} (h : -2147483648 ≤ z ∧ z ≤ 2147483647) : wr32 z = z := iv_toInt h
/-- the right prints of a day -/
def chOf (ch : List (Int × Int)) (d : Int) : Int := match ch with
  | [] => 0
  | (e, n) :: t => if e = d then n else chOf t d
/-- one print, kept -/
def prF (σ : Nat → Int) (k : Int) : Nat → Int := fun j =>
  if 19 ≤ j ∧ j < 85 then σ (j - 6)
  else if j = 13 then shw σ 6 else if j = 14 then σ 3 else if j = 15 then (fbN σ k 6 : Int) else if j = 16 then (sbN σ k 6 : Int) else if j = 17 then rtF σ (dig (σ 3)) k else if j = 18 then k
  else if j = 12 then min 12 (σ 12 + 1) else if j = 5 then σ 5 + 1 else if j = 6 then σ 6 + rtF σ (dig (σ 3)) k else if j = 7 then σ 7 + (pc6 (fbN σ k 6) : Int) else if j = 8 then σ 8 + (pc6 (sbN σ k 6) : Int)
  else onceF σ k j
theorem slip_ot (σ : Nat → Int) {j : Nat} (h : j ≠ 10 ∧ (j < 85 ∨ 163 ≤ j)) : ∀ p, p ≤ 6 → slipF σ p j = σ j := by
  intro p
  induction p with
  | zero => intro _; rfl
  | succ p ih =>
    intro hp
    by_cases hc : slipF σ p 2 ≤ slipF σ p (87 + 13 * p)
    · rw [← slip_y (by omega) hc, fu_n (by omega), bset_n (by omega) (by omega) (by omega)]
      exact ih (by omega)
    · rw [← slip_n hc]
      exact ih (by omega)
theorem once_ot {σ : Nat → Int} (h : OkS σ) (k : Int) {j : Nat} (hj : j ≠ 4 ∧ j ≠ 10 ∧ (j < 85 ∨ 163 ≤ j)) : onceF σ k j = σ j := by
  have hi : inkF σ k j = σ j := by
    unfold inkF
    rw [fu_n (by omega), wear_ot h k (by omega) 6 (by omega)]
  unfold onceF
  split
  · rw [slip_ot (inkF σ k) (by omega) 6 (by omega)]; exact hi
  · exact hi
theorem prF_st (σ : Nat → Int) (k : Int) {j : Nat} (hj : j < 3 ∨ j = 4 ∨ j = 9 ∨ j = 10 ∨ (85 ≤ j ∧ j < 163)) : prF σ k j = onceF σ k j := by
  unfold prF
  rw [if_neg (by omega), if_neg (by omega), if_neg (by omega), if_neg (by omega), if_neg (by omega), if_neg (by omega), if_neg (by omega), if_neg (by omega), if_neg (by omega), if_neg (by omega), if_neg (by omega), if_neg (by omega)]
theorem prF_3 {σ : Nat → Int} (h : OkS σ) (k : Int) : prF σ k 3 = σ 3 := once_ot h k (by omega)
theorem prF_sh (σ : Nat → Int) (k : Int) {j : Nat} (h : 19 ≤ j ∧ j < 85) : prF σ k j = σ (j - 6) := if_pos h
theorem pc6_rng : ∀ x : Nat, pc6 x ≤ 6 := fun x => by unfold pc6; omega
theorem okS_cg {σ τ : Nat → Int} (h : OkS σ) (hq : ∀ j, (j < 3 ∨ j = 4 ∨ (85 ≤ j ∧ j < 163)) → τ j = σ j) : OkS τ := by
  obtain ⟨h0, h1, h2, h4, hp⟩ := h
  refine ⟨by rw [hq 0 (by omega)]; exact h0, by rw [hq 1 (by omega)]; exact h1, by rw [hq 2 (by omega)]; exact h2, by rw [hq 4 (by omega)]; exact h4, fun q hqq => ?_⟩
  obtain ⟨q1, q2, q3, q4⟩ := hp q hqq
  exact ⟨by rw [hq (85 + 13 * q) (by omega)]; exact q1, by rw [hq (86 + 13 * q) (by omega)]; exact q2, by rw [hq (87 + 13 * q) (by omega)]; exact q3, fun e he => by rw [hq (88 + 13 * q + e) (by omega)]; exact q4 e he⟩
theorem dig_rng {day : Int} (h : 0 ≤ day ∧ day ≤ 36524) : 0 ≤ dig day ∧ dig day ≤ 999999 := by
  have h1 := yearOf_rng h
  have h2 := monthOf_rng (restOf day) (yearOf day)
  have h3 := restOf_rng day
  have h4 : cum (monthOf (restOf day) (yearOf day)) (yearOf day) ≤ restOf day ∧ restOf day - cum (monthOf (restOf day) (yearOf day)) (yearOf day) ≤ 31 := by
    generalize restOf day = r at *
    generalize yearOf day = y at *
    have s1 := cum_s (m := 1) (by omega) y
    have s2 := cum_s (m := 2) (by omega) y
    have s3 := cum_s (m := 3) (by omega) y
    have s4 := cum_s (m := 4) (by omega) y
    have s5 := cum_s (m := 5) (by omega) y
    have s6 := cum_s (m := 6) (by omega) y
    have s7 := cum_s (m := 7) (by omega) y
    have s8 := cum_s (m := 8) (by omega) y
    have s9 := cum_s (m := 9) (by omega) y
    have s10 := cum_s (m := 10) (by omega) y
    have s11 := cum_s (m := 11) (by omega) y
    have c1 := cum_1 y
    have c12 : cum 12 y = feb y + 306 := by simp [cum]
    have r1 := mlen_rng 1 y
    have r2 := mlen_rng 2 y
    have r3 := mlen_rng 3 y
    have r4 := mlen_rng 4 y
    have r5 := mlen_rng 5 y
    have r6 := mlen_rng 6 y
    have r7 := mlen_rng 7 y
    have r8 := mlen_rng 8 y
    have r9 := mlen_rng 9 y
    have r10 := mlen_rng 10 y
    have r11 := mlen_rng 11 y
    simp only [show (1 : Int) + 1 = 2 from rfl, show (2 : Int) + 1 = 3 from rfl, show (3 : Int) + 1 = 4 from rfl, show (4 : Int) + 1 = 5 from rfl, show (5 : Int) + 1 = 6 from rfl, show (6 : Int) + 1 = 7 from rfl, show (7 : Int) + 1 = 8 from rfl, show (8 : Int) + 1 = 9 from rfl, show (9 : Int) + 1 = 10 from rfl, show (10 : Int) + 1 = 11 from rfl, show (11 : Int) + 1 = 12 from rfl] at s1 s2 s3 s4 s5 s6 s7 s8 s9 s10 s11
    unfold monthOf
    (repeat' split) <;> omega
  unfold dig
  omega
theorem okT_pr {σ : Nat → Int} (h : OkT σ) {k : Int} (hk : 1 ≤ k ∧ k ≤ 9) (h5 : σ 5 ≤ 1999999999) : OkT (prF σ k) := by
  obtain ⟨hs, h3, hp, h12, hr⟩ := h
  have ho := okS_once hs (k := k) (by omega)
  have e5 : prF σ k 5 = σ 5 + 1 := rfl
  have e12 : prF σ k 12 = min 12 (σ 12 + 1) := rfl
  refine ⟨okS_cg ho (fun j hj => prF_st σ k (by omega)), by rw [prF_3 hs k]; exact h3, by rw [e5]; omega, by rw [e5, e12]; omega, fun i hi => ?_⟩
  by_cases h0 : i = 0
  · subst h0
    have hf := fbN_lt σ k 6
    have hsb := sbN_lt σ k 6
    have h6 := shw_6 hs
    have hrt := rtF_01 σ (dig (σ 3)) k
    rw [show 2 ^ 6 = 64 from rfl] at hf hsb
    show (0 ≤ shw σ 6 ∧ shw σ 6 ≤ 999999) ∧ (0 ≤ σ 3 ∧ σ 3 ≤ 36524) ∧ (0 ≤ (fbN σ k 6 : Int) ∧ (fbN σ k 6 : Int) ≤ 63) ∧ (0 ≤ (sbN σ k 6 : Int) ∧ (sbN σ k 6 : Int) ≤ 63) ∧ (0 ≤ rtF σ (dig (σ 3)) k ∧ rtF σ (dig (σ 3)) k ≤ 1) ∧ (0 ≤ k ∧ k ≤ 9)
    omega
  · have hq := hr (i - 1) (by omega)
    rw [prF_sh σ k (j := 13 + 6 * i) (by omega), prF_sh σ k (j := 14 + 6 * i) (by omega), prF_sh σ k (j := 15 + 6 * i) (by omega), prF_sh σ k (j := 16 + 6 * i) (by omega), prF_sh σ k (j := 17 + 6 * i) (by omega), prF_sh σ k (j := 18 + 6 * i) (by omega)]
    rw [show 13 + 6 * i - 6 = 13 + 6 * (i - 1) by omega, show 14 + 6 * i - 6 = 14 + 6 * (i - 1) by omega, show 15 + 6 * i - 6 = 15 + 6 * (i - 1) by omega, show 16 + 6 * i - 6 = 16 + 6 * (i - 1) by omega, show 17 + 6 * i - 6 = 17 + 6 * (i - 1) by omega, show 18 + 6 * i - 6 = 18 + 6 * (i - 1) by omega]
    exact hq
/-- so many prints, kept -/
def nPr (σ : Nat → Int) (k : Int) : Nat → (Nat → Int)
  | 0 => σ
  | j + 1 => prF (nPr σ k j) k
/-- .. and how many of them are right -/
def nRt (σ : Nat → Int) (k : Int) : Nat → Int
  | 0 => 0
  | j + 1 => nRt σ k j + rtF (nPr σ k j) (dig (nPr σ k j 3)) k
theorem nPr_5 (σ : Nat → Int) (k : Int) : ∀ j : Nat, nPr σ k j 5 = σ 5 + j := by
  intro j
  induction j with
  | zero => show σ 5 = σ 5 + ((0 : Nat) : Int); omega
  | succ j ih =>
    show nPr σ k j 5 + 1 = σ 5 + ((j + 1 : Nat) : Int)
    omega
theorem okT_n {σ : Nat → Int} (h : OkT σ) {k : Int} (hk : 1 ≤ k ∧ k ≤ 9) : ∀ j : Nat, σ 5 + j ≤ 2000000000 → OkT (nPr σ k j) := by
  intro j
  induction j with
  | zero => intro _; exact h
  | succ j ih =>
    intro h5
    have e5 := nPr_5 σ k j
    exact okT_pr (ih (by omega)) hk (by omega)
theorem nPr_3 {σ : Nat → Int} (h : OkT σ) {k : Int} (hk : 1 ≤ k ∧ k ≤ 9) : ∀ j : Nat, σ 5 + j ≤ 2000000000 → nPr σ k j 3 = σ 3 := by
  intro j
  induction j with
  | zero => intro _; rfl
  | succ j ih =>
    intro h5
    show prF (nPr σ k j) k 3 = σ 3
    rw [prF_3 (okT_n h hk j (by omega)).1 k]
    exact ih (by omega)
theorem nPr_6 (σ : Nat → Int) (k : Int) : ∀ j : Nat, nPr σ k j 6 = σ 6 + nRt σ k j := by
  intro j
  induction j with
  | zero => show σ 6 = σ 6 + 0; omega
  | succ j ih =>
    show nPr σ k j 6 + rtF (nPr σ k j) (dig (nPr σ k j 3)) k = σ 6 + (nRt σ k j + rtF (nPr σ k j) (dig (nPr σ k j 3)) k)
    omega
theorem nRt_rng (σ : Nat → Int) (k : Int) : ∀ j : Nat, 0 ≤ nRt σ k j ∧ nRt σ k j ≤ j := by
  intro j
  induction j with
  | zero => exact ⟨Int.le_refl _, Int.le_refl _⟩
  | succ j ih =>
    have := rtF_01 (nPr σ k j) (dig (nPr σ k j 3)) k
    show 0 ≤ nRt σ k j + rtF (nPr σ k j) (dig (nPr σ k j 3)) k ∧ nRt σ k j + rtF (nPr σ k j) (dig (nPr σ k j 3)) k ≤ ((j + 1 : Nat) : Int)
    omega
/-- the rows of prints behind one more -/
theorem prow_0 (σ : Nat → Int) (k : Int) {r : Nat} (hr : r < 12) (h5 : 0 ≤ σ 5) (h : (r : Int) = σ 5 % 12) : pix (prF σ k) r = 0 := by
  unfold pix
  rw [show prF σ k 5 = σ 5 + 1 from rfl]
  omega
theorem prow_s (σ : Nat → Int) (k : Int) {r : Nat} (hr : r < 12) (h5 : 0 ≤ σ 5) (h : (r : Int) ≠ σ 5 % 12) : prow (prF σ k) (pix (prF σ k) r) = prow σ (pix σ r) := by
  have e : pix (prF σ k) r = pix σ r + 1 := by
    unfold pix
    rw [show prF σ k 5 = σ 5 + 1 from rfl]
    omega
  have hlt : pix σ r + 1 < 12 := by
    rw [← e]
    exact pix_lt _ _
  rw [e]
  generalize pix σ r = i at hlt ⊢
  unfold prow
  rw [prF_sh σ k (j := 13 + 6 * (i + 1)) (by omega), prF_sh σ k (j := 14 + 6 * (i + 1)) (by omega), prF_sh σ k (j := 15 + 6 * (i + 1)) (by omega), prF_sh σ k (j := 16 + 6 * (i + 1)) (by omega), prF_sh σ k (j := 17 + 6 * (i + 1)) (by omega), prF_sh σ k (j := 18 + 6 * (i + 1)) (by omega)]
  rw [show 13 + 6 * (i + 1) - 6 = 13 + 6 * i by omega, show 14 + 6 * (i + 1) - 6 = 14 + 6 * i by omega, show 15 + 6 * (i + 1) - 6 = 15 + 6 * i by omega, show 16 + 6 * (i + 1) - 6 = 16 + 6 * i by omega, show 17 + 6 * (i + 1) - 6 = 17 + 6 * i by omega, show 18 + 6 * (i + 1) - 6 = 18 + 6 * i by omega]
theorem Chn.some_ {μ : hM} {rb a : Nat} {ch : List (Int × Int)} (h : Chn μ rb (some a) ch) : ∃ (d c : Int) (t : List (Int × Int)) (e : Option Nat), ch = (d, c) :: t ∧ rb ≤ a ∧ μ a = some (.inr (3, [.int (iv d), .int (iv c), .int (iv ((t.length : Int) + 1)), va_rf e])) ∧ Chn μ rb e t := by
  cases ch with
  | nil => exact h.elim
  | cons x t =>
    obtain ⟨d, c⟩ := x
    obtain ⟨e, h1, h2, h3⟩ := h
    exact ⟨d, c, t, e, rfl, h1, h2, h3⟩
theorem Chn.none_ {μ : hM} {rb : Nat} {ch : List (Int × Int)} (h : Chn μ rb none ch) : ch = [] := by
  cases ch with
  | nil => rfl
  | cons x t => exact h.elim
theorem IsSt.mn {G : wG} {μ ν : hM} {st : Nat} {π : Nat → Nat} {σ : Nat → Int} {fp sp : Int} (h : IsSt G μ st π σ fp sp) (hq : ∀ q e, st ≤ q → q < st + 15 → μ q = some e → ν q = some e) : IsSt G ν st π σ fp sp := by
  obtain ⟨h1, h2, h3, h4, h5, h6, h7⟩ := h
  refine ⟨hq st _ (by omega) (by omega) h1, hq (st + 1) _ (by omega) (by omega) h2, hq (st + 14) _ (by omega) (by omega) h3, fun p hp => ?_, fun p hp => ?_, h6, h7⟩
  · have := h6 p hp
    exact hq (st + 2 + 2 * π p) _ (by omega) (by omega) (h4 p hp)
  · have := h6 p hp
    exact hq (st + 3 + 2 * π p) _ (by omega) (by omega) (h5 p hp)
theorem IsState.mn {G : wG} {μ ν : hM} {sa : Nat} {π : Nat → Nat} {σ : Nat → Int} {fp sp : Int} {rd : Option Nat} (h : IsState G μ sa π σ fp sp rd) (hq : ∀ q e, sa ≤ q → q < sa + 29 → μ q = some e → ν q = some e) : IsState G ν sa π σ fp sp rd := by
  obtain ⟨h1, h2, h3, h4⟩ := h
  exact ⟨hq sa _ (by omega) (by omega) h1, h2.mn (fun q e a b => hq q e (by omega) (by omega)), hq (sa + 16) _ (by omega) (by omega) h3, fun r hr => hq (sa + 17 + r) _ (by omega) (by omega) (h4 r hr)⟩
def bc1 (x : Nat) : Nat := x - ((x / 2) &&& 1431655765)
def bc2 (x : Nat) : Nat := (bc1 x &&& 858993459) + (bc1 x / 4 &&& 858993459)
def bc3 (x : Nat) : Nat := (bc2 x + bc2 x / 16) &&& 252645135
def bc4 (x : Nat) : Nat := bc3 x + bc3 x / 256
def bc5 (x : Nat) : Nat := bc4 x + bc4 x / 65536
theorem bcA : ∀ x : Nat, x < 64 → ((iv (x : Int)).toUInt32 >>> ((iv 1).toUInt32 &&& Int32.toUInt32 31)).toInt32 = iv ((x / 2 : Nat) : Int) := by decide +kernel
theorem bcB : ∀ x : Nat, x < 64 → iv ((x / 2 : Nat) : Int) &&& iv 1431655765 = iv (((x / 2) &&& 1431655765 : Nat) : Int) := by decide +kernel
theorem bcC : ∀ x : Nat, x < 64 → (x : Int) - (((x / 2) &&& 1431655765 : Nat) : Int) = ((bc1 x : Nat) : Int) := by decide +kernel
theorem bcD : ∀ x : Nat, x < 64 → iv ((bc1 x : Nat) : Int) &&& iv 858993459 = iv ((bc1 x &&& 858993459 : Nat) : Int) := by decide +kernel
theorem bcE : ∀ x : Nat, x < 64 → ((iv ((bc1 x : Nat) : Int)).toUInt32 >>> ((iv 2).toUInt32 &&& Int32.toUInt32 31)).toInt32 = iv ((bc1 x / 4 : Nat) : Int) := by decide +kernel
theorem bcF : ∀ x : Nat, x < 64 → iv ((bc1 x / 4 : Nat) : Int) &&& iv 858993459 = iv ((bc1 x / 4 &&& 858993459 : Nat) : Int) := by decide +kernel
theorem bcH : ∀ x : Nat, x < 64 → ((iv ((bc2 x : Nat) : Int)).toUInt32 >>> ((iv 4).toUInt32 &&& Int32.toUInt32 31)).toInt32 = iv ((bc2 x / 16 : Nat) : Int) := by decide +kernel
theorem bcI : ∀ x : Nat, x < 64 → iv ((bc2 x + bc2 x / 16 : Nat) : Int) &&& iv 252645135 = iv ((bc3 x : Nat) : Int) := by decide +kernel
theorem bcJ : ∀ x : Nat, x < 64 → ((iv ((bc3 x : Nat) : Int)).toUInt32 >>> ((iv 8).toUInt32 &&& Int32.toUInt32 31)).toInt32 = iv ((bc3 x / 256 : Nat) : Int) := by decide +kernel
theorem bcL : ∀ x : Nat, x < 64 → ((iv ((bc4 x : Nat) : Int)).toUInt32 >>> ((iv 16).toUInt32 &&& Int32.toUInt32 31)).toInt32 = iv ((bc4 x / 65536 : Nat) : Int) := by decide +kernel
theorem bcN : ∀ x : Nat, x < 64 → iv ((bc5 x : Nat) : Int) &&& iv 63 = iv ((pc6 x : Nat) : Int) := by decide +kernel
theorem clA : ∀ f : Nat, f < 64 → ∀ g : Nat, g < 64 → iv (f : Int) ||| iv (g : Int) = iv ((f ||| g : Nat) : Int) := by decide +kernel
theorem clB : ∀ h : Nat, h < 64 → iv (h : Int) ^^^ iv (-1) = iv (-(h : Int) - 1) := by decide +kernel
theorem clC : ∀ h : Nat, h < 64 → iv 63 &&& iv (-(h : Int) - 1) = iv ((63 - h : Nat) : Int) := by decide +kernel
theorem clD : ∀ f : Nat, f < 64 → ∀ g : Nat, g < 64 → f ||| g < 64 := by decide +kernel
