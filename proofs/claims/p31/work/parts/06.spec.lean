/-- a method of a class some of whose methods are run by entries of the machine's own, but not this one -/
theorem Met.ofWF {l : Launch} {y : MethodName} {ws ws' : List Cond} {rm : Room} {Pc : Array Value → State → Prop} {Qc : Array Value → State → Outcome → State → Prop} {mc ms : Nat} {free : Addr → Prop} {cc : ByteArray} {maxL : Nat} {ret : Option FieldType}
    (hy : plainFor y = true) (hw : ws = Cond.code y cc maxL ret :: ws')
    (body : ∀ p e s m args below meth c s₁, BodyLoose p l y (headSpec ws rm) cc maxL ret e s m args below meth c s₁ → c.maxLocals = maxL → Pc args s →
      W p l e (headSpec ws rm).room s m args below meth c s.heap [] 0 0 (MQ below Qc args s mc ms free) (entryFrame m args maxL)) : Met l y ws rm Pc Qc mc ms free := by
  refine MetFree.of_bodySF (code := cc) (maxLocals := maxL) (ret := ret) hy ?_ ?_
  · intro args s m h hn
    obtain ⟨meth, c, h1, h2, h3, h4, h5, h6, -, -⟩ := Cond.code_spec hn (atoms_spec (ws := ws) h _ (by rw [hw]; exact List.mem_cons_self))
    exact ⟨meth, c, h1, h2, h3, h4, h5, h6⟩
  · intro p e s m args below meth c s₁ B hml hP _
    have hh0 : s₁.heap = s.heap := by rw [B.state]; rfl
    obtain ⟨t, a1, o, b1, b2, b3⟩ := body p e s m args below meth c s₁ B hml hP s₁ hh0 (Stand.of_body B)
    exact ⟨t, o, a1, b1, b2, ⟨b3.1, b3.2⟩⟩
/-! numbers of a row -/
theorem iv_xor_neg {a b : Int} (ha : -2147483648 ≤ a ∧ a ≤ 2147483647) (hb : 0 ≤ b ∧ b ≤ 2147483647) : (iv a ^^^ iv b).toInt < 0 ↔ a < 0 := by
  have h1 : (iv a ^^^ iv b).toInt < 0 ↔ (iv a ^^^ iv b).toBitVec.msb = true := by
    rw [← Int32.toInt_toBitVec, BitVec.msb_eq_toInt]
    simp
  rw [h1, Int32.toBitVec_xor, BitVec.msb_xor]
  have ma : (iv a).toBitVec.msb = decide (a < 0) := by rw [BitVec.msb_eq_toInt, Int32.toInt_toBitVec, iv_toInt ha]
  have mb : (iv b).toBitVec.msb = false := by
    rw [BitVec.msb_eq_toInt, Int32.toInt_toBitVec, iv_toInt (by omega)]
    exact decide_eq_false (by omega)
  rw [ma, mb]
  simp
theorem ne_oa {μ : hM} {a b : Nat} {x : Nat × List Value} {y : ClassId × vp_A} (ha : μ a = some (.inr x)) (hb : μ b = some (.inl y)) : a ≠ b := fun e => by
  rw [e, hb] at ha
  cases ha
theorem ne_ao {μ : hM} {a b : Nat} {x : Nat × List Value} {y : ClassId × vp_A} (ha : μ a = some (.inl y)) (hb : μ b = some (.inr x)) : a ≠ b := (ne_oa hb ha).symm
theorem tN1 {i : Int} (h : 0 ≤ i) : (i + 1).toNat = i.toNat + 1 := by omega
def bsum (f : Nat → Int) : Nat → Int
  | 0 => 0
  | k + 1 => bsum f k + f k
theorem bsum_rng {f : Nat → Int} {M : Int} : ∀ k : Nat, (∀ j, j < k → 0 ≤ f j ∧ f j ≤ M) → 0 ≤ bsum f k ∧ bsum f k ≤ M * k := by
  intro k
  induction k with
  | zero => intro _; exact ⟨Int.le_refl _, by rw [show ((0 : Nat) : Int) = 0 from rfl, Int.mul_zero]; exact Int.le_refl _⟩
  | succ k ih =>
    intro h
    have h1 := h k (Nat.lt_succ_self k)
    have h2 := ih (fun j hj => h j (Nat.lt_succ_of_lt hj))
    show 0 ≤ bsum f k + f k ∧ bsum f k + f k ≤ M * ((k + 1 : Nat) : Int)
    rw [show ((k + 1 : Nat) : Int) = (k : Int) + 1 from rfl, Int.mul_add, Int.mul_one]
    omega
def bleast (f : Nat → Int) : Nat → Int
  | 0 => 99
  | k + 1 => min (bleast f k) (f k)
def bmost (f : Nat → Int) : Nat → Nat
  | 0 => 0
  | k + 1 => if f (bmost f k) < f (k + 1) then k + 1 else bmost f k
theorem bmost_le (f : Nat → Int) : ∀ k, bmost f k ≤ k := by
  intro k
  induction k with
  | zero => exact Nat.le_refl _
  | succ k ih =>
    show (if f (bmost f k) < f (k + 1) then k + 1 else bmost f k) ≤ k + 1
    split
    · exact Nat.le_refl _
    · omega
theorem bmost_step {f : Nat → Int} {i : Int} (h : 1 ≤ i) : bmost f (i + 1 - 1).toNat = if f (bmost f (i - 1).toNat) < f i.toNat then i.toNat else bmost f (i - 1).toNat := by
  have h1 : (i + 1 - 1).toNat = (i - 1).toNat + 1 := by omega
  have h2 : i.toNat = (i - 1).toNat + 1 := by omega
  rw [h1, h2]
  rfl
theorem tmod_of {x y : Int} (hy : y = 10 ∨ y = 12) : x.tmod y = if 0 ≤ x then x % y else -((-x) % y) := by
  split
  · rename_i h
    rw [Int.tmod_eq_emod_of_nonneg h]
  · have e := Int.neg_tmod (-x) y
    rw [Int.neg_neg] at e
    rw [e, Int.tmod_eq_emod_of_nonneg (by omega)]
section BITROWS
variable {p : Program} {l : Launch} {e : Env} {R : Room} {s : State} {m : MethodId} {args : Array Value} {below : List Frame} {meth : Method} {c : Code} {H : Heap} {locs : List Loc} {cells slots : Nat} {Q : State → Prop}
variable {cc : ByteArray} {pc : Nat} {ls : Array Slot} {rest : List Value}
theorem j_iand (hx : p.tables.exec = Jvm.exec) (hb : c.code = cc) {x y v : Int} (hdg : decode cc pc = .ok (.iand, 1)) (h : iv x &&& iv y = iv v) (k : W p l e R s m args below meth c H locs cells slots Q (F0 m (pc + 1) ls (.int (iv v) :: rest))) : W p l e R s m args below meth c H locs cells slots Q (F0 m pc ls (.int (iv y) :: .int (iv x) :: rest)) := lv_iand hx hb hdg (by rw [h]; exact k)
theorem j_ior (hx : p.tables.exec = Jvm.exec) (hb : c.code = cc) {x y v : Int} (hdg : decode cc pc = .ok (.ior, 1)) (h : iv x ||| iv y = iv v) (k : W p l e R s m args below meth c H locs cells slots Q (F0 m (pc + 1) ls (.int (iv v) :: rest))) : W p l e R s m args below meth c H locs cells slots Q (F0 m pc ls (.int (iv y) :: .int (iv x) :: rest)) := lv_ior hx hb hdg (by rw [h]; exact k)
theorem j_ishl (hx : p.tables.exec = Jvm.exec) (hb : c.code = cc) {x y v : Int} (hdg : decode cc pc = .ok (.ishl, 1)) (h : iv x <<< (iv y &&& 31) = iv v) (k : W p l e R s m args below meth c H locs cells slots Q (F0 m (pc + 1) ls (.int (iv v) :: rest))) : W p l e R s m args below meth c H locs cells slots Q (F0 m pc ls (.int (iv y) :: .int (iv x) :: rest)) := lv_ishl hx hb hdg (by rw [h]; exact k)
theorem j_ishr (hx : p.tables.exec = Jvm.exec) (hb : c.code = cc) {x y v : Int} (hdg : decode cc pc = .ok (.ishr, 1)) (h : iv x >>> (iv y &&& 31) = iv v) (k : W p l e R s m args below meth c H locs cells slots Q (F0 m (pc + 1) ls (.int (iv v) :: rest))) : W p l e R s m args below meth c H locs cells slots Q (F0 m pc ls (.int (iv y) :: .int (iv x) :: rest)) := lv_ishr hx hb hdg (by rw [h]; exact k)
end BITROWS
theorem bit_and1 : ∀ P : Nat, P < 64 → iv (P : Int) &&& iv 1 = iv ((P % 2 : Nat) : Int) := by decide +kernel
theorem bit_and2 : ∀ P : Nat, P < 64 → iv (P : Int) &&& iv 2 = iv ((P / 2 % 2 * 2 : Nat) : Int) := by decide +kernel
theorem bit_shr2 : ∀ P : Nat, P < 64 → iv (P : Int) >>> (iv 2 &&& 31) = iv ((P / 4 : Nat) : Int) := by decide +kernel
theorem bit_shr4 : ∀ P : Nat, P < 64 → iv (P : Int) >>> (iv 4 &&& 31) = iv ((P / 16 : Nat) : Int) := by decide +kernel
/-! dates -/
def lgst (m : Int) : Int := if 1 ≤ m ∧ m ≤ 12 then longest (m - 1).toNat else 0
def clen (m y : Int) : Int := if m = 2 ∧ y % 4 ≠ 0 then 28 else lgst m
def mlen (m y : Int) : Int := if m = 2 then (if y % 4 = 0 then 29 else 28) else if m = 4 ∨ m = 6 ∨ m = 9 ∨ m = 11 then 30 else 31
def feb (y : Int) : Int := if y % 4 = 0 then 29 else 28
def cum (m y : Int) : Int := if m ≤ 1 then 0 else if m = 2 then 31 else feb y + (if m = 3 then 31 else if m = 4 then 62 else if m = 5 then 92 else if m = 6 then 123 else if m = 7 then 153 else if m = 8 then 184 else if m = 9 then 215 else if m = 10 then 245 else if m = 11 then 276 else if m = 12 then 306 else 337)
def ystart (y : Int) : Int := 365 * y + (y + 3) / 4
def monthOf (r y : Int) : Int := if r < cum 2 y then 1 else if r < cum 3 y then 2 else if r < cum 4 y then 3 else if r < cum 5 y then 4 else if r < cum 6 y then 5 else if r < cum 7 y then 6 else if r < cum 8 y then 7 else if r < cum 9 y then 8 else if r < cum 10 y then 9 else if r < cum 11 y then 10 else if r < cum 12 y then 11 else 12
def yearOf (day : Int) : Int := 4 * day / 1461
def restOf (day : Int) : Int := day - ystart (yearOf day)
def dig (day : Int) : Int := 10000 * (restOf day - cum (monthOf (restOf day) (yearOf day)) (yearOf day) + 1) + 100 * monthOf (restOf day) (yearOf day) + yearOf day
def dday (D : Int) : Int := if (1 ≤ D / 100 % 100 ∧ D / 100 % 100 ≤ 12) ∧ (1 ≤ D / 10000 ∧ D / 10000 ≤ mlen (D / 100 % 100) (D % 100)) then ystart (D % 100) + cum (D / 100 % 100) (D % 100) + D / 10000 - 1 else -5
theorem m12 {m : Int} (h : 1 ≤ m ∧ m ≤ 12) : m = 1 ∨ m = 2 ∨ m = 3 ∨ m = 4 ∨ m = 5 ∨ m = 6 ∨ m = 7 ∨ m = 8 ∨ m = 9 ∨ m = 10 ∨ m = 11 ∨ m = 12 := by omega
theorem lgst_m {m : Int} (h : 1 ≤ m ∧ m ≤ 12) : lgst m = if m = 2 then 29 else if m = 4 ∨ m = 6 ∨ m = 9 ∨ m = 11 then 30 else 31 := by
  rcases m12 h with rfl | rfl | rfl | rfl | rfl | rfl | rfl | rfl | rfl | rfl | rfl | rfl <;> decide
theorem clen_m {m : Int} (h : 1 ≤ m ∧ m ≤ 12) (y : Int) : clen m y = mlen m y := by
  unfold clen mlen
  rw [lgst_m h]
  split <;> split <;> (try split) <;> first | rfl | omega
theorem clen_0 {m : Int} (h : m < 1 ∨ 12 < m) (y : Int) : clen m y = 0 := by
  unfold clen lgst
  rw [if_neg (by omega), if_neg (by omega)]
theorem mlen_rng (m y : Int) : 28 ≤ mlen m y ∧ mlen m y ≤ 31 := by
  unfold mlen
  split
  · split <;> omega
  · split <;> omega
theorem lgst_rng (m : Int) : 0 ≤ lgst m ∧ lgst m ≤ 31 := by
  by_cases h : 1 ≤ m ∧ m ≤ 12
  · rw [lgst_m h]
    split
    · omega
    · split <;> omega
  · unfold lgst
    rw [if_neg h]
    omega
theorem clen_rng (m y : Int) : 0 ≤ clen m y ∧ clen m y ≤ 31 := by
  unfold clen
  have := lgst_rng m
  split <;> omega
theorem feb_rng (y : Int) : feb y = if y % 4 = 0 then 29 else 28 := rfl
theorem cum_1 (y : Int) : cum 1 y = 0 := rfl
theorem cum_s {m : Int} (h : 1 ≤ m ∧ m ≤ 12) (y : Int) : cum (m + 1) y = cum m y + mlen m y := by
  have hf := feb_rng y
  rcases m12 h with rfl | rfl | rfl | rfl | rfl | rfl | rfl | rfl | rfl | rfl | rfl | rfl <;> simp [cum, mlen, feb] <;> (try split) <;> omega
theorem cum_rng (m y : Int) : 0 ≤ cum m y ∧ cum m y ≤ 366 := by
  have hf := feb_rng y
  unfold cum
  repeat' split
  all_goals (first | omega | (rw [hf]; split <;> omega))
theorem monthOf_eq {m r y : Int} (h : 1 ≤ m ∧ m ≤ 12) (h1 : cum m y ≤ r) (h2 : m < 12 → r < cum (m + 1) y) : monthOf r y = m := by
  have s1 : cum 2 y = cum 1 y + mlen 1 y := cum_s (m := 1) (by omega) y
  have r1 := mlen_rng 1 y
  have s2 : cum 3 y = cum 2 y + mlen 2 y := cum_s (m := 2) (by omega) y
  have r2 := mlen_rng 2 y
  have s3 : cum 4 y = cum 3 y + mlen 3 y := cum_s (m := 3) (by omega) y
  have r3 := mlen_rng 3 y
  have s4 : cum 5 y = cum 4 y + mlen 4 y := cum_s (m := 4) (by omega) y
  have r4 := mlen_rng 4 y
  have s5 : cum 6 y = cum 5 y + mlen 5 y := cum_s (m := 5) (by omega) y
  have r5 := mlen_rng 5 y
  have s6 : cum 7 y = cum 6 y + mlen 6 y := cum_s (m := 6) (by omega) y
  have r6 := mlen_rng 6 y
  have s7 : cum 8 y = cum 7 y + mlen 7 y := cum_s (m := 7) (by omega) y
  have r7 := mlen_rng 7 y
  have s8 : cum 9 y = cum 8 y + mlen 8 y := cum_s (m := 8) (by omega) y
  have r8 := mlen_rng 8 y
  have s9 : cum 10 y = cum 9 y + mlen 9 y := cum_s (m := 9) (by omega) y
  have r9 := mlen_rng 9 y
  have s10 : cum 11 y = cum 10 y + mlen 10 y := cum_s (m := 10) (by omega) y
  have r10 := mlen_rng 10 y
  have s11 : cum 12 y = cum 11 y + mlen 11 y := cum_s (m := 11) (by omega) y
  have r11 := mlen_rng 11 y
  unfold monthOf
  rcases m12 h with rfl | rfl | rfl | rfl | rfl | rfl | rfl | rfl | rfl | rfl | rfl | rfl
  · have h3 : r < cum 2 y := h2 (by omega)
    rw [if_pos (by omega)]
  · have h3 : r < cum 3 y := h2 (by omega)
    rw [if_neg (by omega), if_pos (by omega)]
  · have h3 : r < cum 4 y := h2 (by omega)
    rw [if_neg (by omega), if_neg (by omega), if_pos (by omega)]
  · have h3 : r < cum 5 y := h2 (by omega)
    rw [if_neg (by omega), if_neg (by omega), if_neg (by omega), if_pos (by omega)]
  · have h3 : r < cum 6 y := h2 (by omega)
    rw [if_neg (by omega), if_neg (by omega), if_neg (by omega), if_neg (by omega), if_pos (by omega)]
  · have h3 : r < cum 7 y := h2 (by omega)
    rw [if_neg (by omega), if_neg (by omega), if_neg (by omega), if_neg (by omega), if_neg (by omega), if_pos (by omega)]
  · have h3 : r < cum 8 y := h2 (by omega)
    rw [if_neg (by omega), if_neg (by omega), if_neg (by omega), if_neg (by omega), if_neg (by omega), if_neg (by omega), if_pos (by omega)]
  · have h3 : r < cum 9 y := h2 (by omega)
    rw [if_neg (by omega), if_neg (by omega), if_neg (by omega), if_neg (by omega), if_neg (by omega), if_neg (by omega), if_neg (by omega), if_pos (by omega)]
  · have h3 : r < cum 10 y := h2 (by omega)
    rw [if_neg (by omega), if_neg (by omega), if_neg (by omega), if_neg (by omega), if_neg (by omega), if_neg (by omega), if_neg (by omega), if_neg (by omega), if_pos (by omega)]
  · have h3 : r < cum 11 y := h2 (by omega)
    rw [if_neg (by omega), if_neg (by omega), if_neg (by omega), if_neg (by omega), if_neg (by omega), if_neg (by omega), if_neg (by omega), if_neg (by omega), if_neg (by omega), if_pos (by omega)]
  · have h3 : r < cum 12 y := h2 (by omega)
    rw [if_neg (by omega), if_neg (by omega), if_neg (by omega), if_neg (by omega), if_neg (by omega), if_neg (by omega), if_neg (by omega), if_neg (by omega), if_neg (by omega), if_neg (by omega), if_pos (by omega)]
  · clear h2
    rw [if_neg (by omega), if_neg (by omega), if_neg (by omega), if_neg (by omega), if_neg (by omega), if_neg (by omega), if_neg (by omega), if_neg (by omega), if_neg (by omega), if_neg (by omega), if_neg (by omega)]
theorem monthOf_rng (r y : Int) : 1 ≤ monthOf r y ∧ monthOf r y ≤ 12 := by
  unfold monthOf
  (repeat' split) <;> omega
theorem yearOf_rng {day : Int} (h : 0 ≤ day ∧ day ≤ 36524) : 0 ≤ yearOf day ∧ yearOf day ≤ 99 := by
  unfold yearOf
  omega
theorem year_eq {y day : Int} (h1 : ystart y ≤ day) (h2 : day < ystart (y + 1)) : yearOf day = y := by
  unfold ystart at h1 h2
  unfold yearOf
  omega
theorem yearOf_le (day : Int) : ystart (yearOf day) ≤ day ∧ day < ystart (yearOf day + 1) := by
  unfold ystart yearOf
  omega
theorem restOf_rng (day : Int) : 0 ≤ restOf day ∧ restOf day < 337 + feb (yearOf day) := by
  have h := yearOf_le day
  unfold restOf
  unfold feb
  generalize yearOf day = y at *
  unfold ystart at *
  split <;> omega
theorem yearJ {day : Int} (h : 0 ≤ day) : day / 1461 * 4 + (day % 1461 - 1).tdiv 365 = yearOf day := by
  unfold yearOf
  by_cases h0 : day % 1461 = 0
  · rw [h0, show ((0 : Int) - 1).tdiv 365 = 0 from by decide]
    omega
  · rw [Int.tdiv_eq_ediv_of_nonneg (by omega)]
    omega
theorem cum_mono {m y r : Int} (h : 1 ≤ m ∧ m ≤ 12) (hr : cum m y ≤ r) (hr2 : r < 337 + feb y) (h12 : m = 12 ∨ r - cum m y < mlen m y) : monthOf r y = m ∧ r - cum m y < mlen m y := by
  have hs := cum_s h y
  have hf := feb_rng y
  have h3 : 28 ≤ feb y ∧ feb y ≤ 29 := by rw [hf]; split <;> omega
  refine ⟨monthOf_eq h hr (fun hm => by omega), ?_⟩
  rcases h12 with rfl | h12
  · have e1 : cum 12 y = feb y + 306 := by simp [cum]
    have e2 : mlen 12 y = 31 := by simp [mlen]
    omega
  · exact h12
theorem longest_rng (j : Nat) : 0 ≤ longest j ∧ longest j ≤ 31 := by
  unfold longest
  by_cases h : j < 12
  · have : j = 0 ∨ j = 1 ∨ j = 2 ∨ j = 3 ∨ j = 4 ∨ j = 5 ∨ j = 6 ∨ j = 7 ∨ j = 8 ∨ j = 9 ∨ j = 10 ∨ j = 11 := by omega
    rcases this with rfl | rfl | rfl | rfl | rfl | rfl | rfl | rfl | rfl | rfl | rfl | rfl <;> decide
  · rw [List.getD_eq_getElem?_getD, List.getElem?_eq_none (by simp; omega)]
    decide
/-- whether some date begins with digits, if one begins with all but the last -/
def sbg (D k : Int) : Int := if k = 1 then (if D ≤ 3 then 1 else 0) else if k = 2 then (if 1 ≤ D ∧ D ≤ 31 then 1 else 0) else if k = 3 then (if D % 10 ≤ 1 then 1 else 0) else if k = 4 then (if D / 100 ≤ lgst (D % 100) then 1 else 0) else if k = 5 then 1 else if D / 10000 ≤ clen (D / 100 % 100) (D % 100) then 1 else 0
/-- whether two pairs of digits agree in the places of two bits -/
def pag (a b : Int) (P : Nat) : Int := if (P % 2 = 0 ∨ a / 10 = b / 10) ∧ (P / 2 % 2 = 0 ∨ a % 10 = b % 10) then 1 else 0
theorem pag_rng (a b : Int) (P : Nat) : 0 ≤ pag a b P ∧ pag a b P ≤ 1 := by
  unfold pag
  split <;> omega
/-- the way of a band from a digit to another: below 0 if it goes back -/
def wayf (sh d : Int) : Int := if (d - sh) % 10 ≤ 5 then (d - sh) % 10 else (d - sh) % 10 - 10
theorem wayf_rng (sh d : Int) : -9 ≤ wayf sh d ∧ wayf sh d ≤ 9 := by
  unfold wayf
  split <;> omega
