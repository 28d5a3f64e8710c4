section ROWS
variable {p : Program} {l : Launch} {e : Env} {R : Room} {s : State} {m : MethodId} {args : Array Value} {below : List Frame} {meth : Method} {c : Code} {H : Heap} {locs : List Loc} {cells slots : Nat} {Q : State → Prop}
variable {cc : ByteArray} {pc : Nat} {ls : Array Slot} {rest : List Value} {G : wG} {μ : hM} {n : Nat} {a : Nat}
theorem j_const (hx : p.tables.exec = Jvm.exec) (hb : c.code = cc) {z : Int} (hdg : decode cc pc = .ok (.iconst z, 1)) (k : W p l e R s m args below meth c H locs cells slots Q (F0 m (pc + 1) ls (.int (iv z) :: rest))) : W p l e R s m args below meth c H locs cells slots Q (F0 m pc ls rest) := lv_iconst hx hb hdg rfl k
theorem j_bipush (hx : p.tables.exec = Jvm.exec) (hb : c.code = cc) {z : Int} (hdg : decode cc pc = .ok (.bipush z, 2)) (k : W p l e R s m args below meth c H locs cells slots Q (F0 m (pc + 2) ls (.int (iv z) :: rest))) (hv : (Int8.ofInt z).toInt32 = iv z := by decide) : W p l e R s m args below meth c H locs cells slots Q (F0 m pc ls rest) := lv_bipush hx hb hdg hv k
theorem j_sipush (hx : p.tables.exec = Jvm.exec) (hb : c.code = cc) {z : Int} (hdg : decode cc pc = .ok (.sipush z, 3)) (k : W p l e R s m args below meth c H locs cells slots Q (F0 m (pc + 3) ls (.int (iv z) :: rest))) (hv : (Int16.ofInt z).toInt32 = iv z := by decide) : W p l e R s m args below meth c H locs cells slots Q (F0 m pc ls rest) := lv_sipush hx hb hdg hv k
theorem j_ldc (hx : p.tables.exec = Jvm.exec) (hb : c.code = cc) {own : String} {index : Nat} {v : Int32} (z : Int) (hown : s.vm.findClass own = some m.cls) (hconst : (Jvm.Cond.constant own index v).before args s = true) (hdg : decode cc pc = .ok (.ldc index, 2)) (k : W p l e R s m args below meth c H locs cells slots Q (F0 m (pc + 2) ls (.int (iv z) :: rest))) (hv : v = iv z := by decide) : W p l e R s m args below meth c H locs cells slots Q (F0 m pc ls rest) := by
  subst hv
  exact lv_ldc hx hb hown hconst hdg k
theorem j_iadd (hx : p.tables.exec = Jvm.exec) (hb : c.code = cc) {a b : Int} (hdg : decode cc pc = .ok (.iadd, 1)) (k : W p l e R s m args below meth c H locs cells slots Q (F0 m (pc + 1) ls (.int (iv (a + b)) :: rest))) : W p l e R s m args below meth c H locs cells slots Q (F0 m pc ls (.int (iv b) :: .int (iv a) :: rest)) := lv_iadd hx hb hdg (by rw [iv_add]; exact k)
theorem j_isub (hx : p.tables.exec = Jvm.exec) (hb : c.code = cc) {a b : Int} (hdg : decode cc pc = .ok (.isub, 1)) (k : W p l e R s m args below meth c H locs cells slots Q (F0 m (pc + 1) ls (.int (iv (a - b)) :: rest))) : W p l e R s m args below meth c H locs cells slots Q (F0 m pc ls (.int (iv b) :: .int (iv a) :: rest)) := lv_isub hx hb hdg (by rw [iv_sub]; exact k)
theorem j_imul (hx : p.tables.exec = Jvm.exec) (hb : c.code = cc) {a b : Int} (hdg : decode cc pc = .ok (.imul, 1)) (k : W p l e R s m args below meth c H locs cells slots Q (F0 m (pc + 1) ls (.int (iv (a * b)) :: rest))) : W p l e R s m args below meth c H locs cells slots Q (F0 m pc ls (.int (iv b) :: .int (iv a) :: rest)) := lv_imul hx hb hdg (by rw [iv_mul]; exact k)
theorem j_ineg (hx : p.tables.exec = Jvm.exec) (hb : c.code = cc) {a : Int} (hdg : decode cc pc = .ok (.ineg, 1)) (k : W p l e R s m args below meth c H locs cells slots Q (F0 m (pc + 1) ls (.int (iv (-a)) :: rest))) : W p l e R s m args below meth c H locs cells slots Q (F0 m pc ls (.int (iv a) :: rest)) := lv_ineg hx hb hdg (by first | (rw [iv_neg]; exact k) | (rw [show (0 : Int32) - iv a = iv (0 - a) from iv_sub 0 a, Int.zero_sub]; exact k))
theorem iv_ne0 {b : Int} (hb : 0 < b ∧ b ≤ 2147483647) : ¬ iv b = 0 := fun q => by
  have h : iv b = iv 0 := q
  rw [iv_eq (by omega) (by omega)] at h
  omega
theorem j_idiv (hx : p.tables.exec = Jvm.exec) (hb : c.code = cc) {a b : Int} (hdg : decode cc pc = .ok (.idiv, 1)) (k : W p l e R s m args below meth c H locs cells slots Q (F0 m (pc + 1) ls (.int (iv (a / b)) :: rest))) (ha : 0 ≤ a ∧ a ≤ 2147483647 := by omega) (hb2 : 0 < b ∧ b ≤ 2147483647 := by omega) : W p l e R s m args below meth c H locs cells slots Q (F0 m pc ls (.int (iv b) :: .int (iv a) :: rest)) := lv_idiv hx hb hdg (iv_ne0 hb2) (by rw [iv_div ha hb2]; exact k)
theorem j_irem (hx : p.tables.exec = Jvm.exec) (hb : c.code = cc) {a b : Int} (hdg : decode cc pc = .ok (.irem, 1)) (k : W p l e R s m args below meth c H locs cells slots Q (F0 m (pc + 1) ls (.int (iv (a % b)) :: rest))) (ha : 0 ≤ a ∧ a ≤ 2147483647 := by omega) (hb2 : 0 < b ∧ b ≤ 2147483647 := by omega) : W p l e R s m args below meth c H locs cells slots Q (F0 m pc ls (.int (iv b) :: .int (iv a) :: rest)) := lv_irem hx hb hdg (iv_ne0 hb2) (by rw [iv_rem ha hb2]; exact k)
theorem j_idivT (hx : p.tables.exec = Jvm.exec) (hb : c.code = cc) {a b : Int} (hdg : decode cc pc = .ok (.idiv, 1)) (k : W p l e R s m args below meth c H locs cells slots Q (F0 m (pc + 1) ls (.int (iv (a.tdiv b)) :: rest))) (ha : -2147483648 ≤ a ∧ a ≤ 2147483647 := by omega) (hb2 : 0 < b ∧ b ≤ 2147483647 := by omega) : W p l e R s m args below meth c H locs cells slots Q (F0 m pc ls (.int (iv b) :: .int (iv a) :: rest)) := lv_idiv hx hb hdg (iv_ne0 hb2) (by rw [iv_tdiv ha hb2]; exact k)
theorem j_iremT (hx : p.tables.exec = Jvm.exec) (hb : c.code = cc) {a b : Int} (hdg : decode cc pc = .ok (.irem, 1)) (k : W p l e R s m args below meth c H locs cells slots Q (F0 m (pc + 1) ls (.int (iv (a.tmod b)) :: rest))) (ha : -2147483648 ≤ a ∧ a ≤ 2147483647 := by omega) (hb2 : 0 < b ∧ b ≤ 2147483647 := by omega) : W p l e R s m args below meth c H locs cells slots Q (F0 m pc ls (.int (iv b) :: .int (iv a) :: rest)) := lv_irem hx hb hdg (iv_ne0 hb2) (by rw [iv_trem ha hb2]; exact k)
theorem j_iinc (hx : p.tables.exec = Jvm.exec) (hb : c.code = cc) {i nL k : Nat} {z x : Int} {lv lv' : List (Nat × Value)} (hdg : decode cc pc = .ok (.iinc i z, 3)) (h : lv_has ls nL lv) (hk : lv[k]? = some (i, .int (iv x))) (hn : i < nL) (hl : (i, Value.int (iv (x + z))) :: lv.filter (fun q => !(q.1 == i) && !(q.1 + 1 == i && q.2.category == 2)) = lv') (kk : ∀ ls' : Array Slot, lv_has ls' nL lv' → W p l e R s m args below meth c H locs cells slots Q (F0 m (pc + 3) ls' rest)) : W p l e R s m args below meth c H locs cells slots Q (F0 m pc ls rest) := lv_iinc hx hb hdg h hk (iv_add x z) hn hl kk
theorem j_icmp_eq (hx : p.tables.exec = Jvm.exec) (hb : c.code = cc) {a b : Int} {off : Int} {tgt : Nat} (hdg : decode cc pc = .ok (.if_icmp .eq off, 3)) (ht : (pc : Int) + off = (tgt : Int)) (kt : a = b → W p l e R s m args below meth c H locs cells slots Q (F0 m tgt ls rest)) (kf : a ≠ b → W p l e R s m args below meth c H locs cells slots Q (F0 m (pc + 3) ls rest)) (ha : -2147483648 ≤ a ∧ a ≤ 2147483647 := by omega) (hb2 : -2147483648 ≤ b ∧ b ≤ 2147483647 := by omega) : W p l e R s m args below meth c H locs cells slots Q (F0 m pc ls (.int (iv b) :: .int (iv a) :: rest)) := by
  have hiff : iv a = iv b ↔ a = b := iv_eq ha hb2
  refine lv_icmp_eq hx hb hdg ht (fun q => kt ?_) (fun q => kf ?_)
  · have q1 := q
    first | (have q2 := hiff.mp q1; omega) | (have q2 : ¬ (a = b) := fun z => q1 (hiff.mpr z); omega)
  · have q1 := q
    first | (have q2 : ¬ (a = b) := fun z => q1 (hiff.mpr z); omega) | (have q2 := hiff.mp q1; omega)
theorem j_if_eq (hx : p.tables.exec = Jvm.exec) (hb : c.code = cc) {a : Int} {off : Int} {tgt : Nat} (hdg : decode cc pc = .ok (.ifCond .eq off, 3)) (ht : (pc : Int) + off = (tgt : Int)) (kt : a = 0 → W p l e R s m args below meth c H locs cells slots Q (F0 m tgt ls rest)) (kf : a ≠ 0 → W p l e R s m args below meth c H locs cells slots Q (F0 m (pc + 3) ls rest)) (ha : -2147483648 ≤ a ∧ a ≤ 2147483647 := by omega) : W p l e R s m args below meth c H locs cells slots Q (F0 m pc ls (.int (iv a) :: rest)) := by
  have hiff : iv a = iv 0 ↔ a = 0 := iv_eq ha (show (-2147483648 : Int) ≤ 0 ∧ (0 : Int) ≤ 2147483647 by omega)
  refine lv_if_eq hx hb hdg ht (fun q => kt ?_) (fun q => kf ?_)
  · have q1 := q
    first | (have q2 := hiff.mp q1; omega) | (have q2 : ¬ (a = 0) := fun z => q1 (hiff.mpr z); omega)
  · have q1 := q
    first | (have q2 : ¬ (a = 0) := fun z => q1 (hiff.mpr z); omega) | (have q2 := hiff.mp q1; omega)
theorem j_icmp_ne (hx : p.tables.exec = Jvm.exec) (hb : c.code = cc) {a b : Int} {off : Int} {tgt : Nat} (hdg : decode cc pc = .ok (.if_icmp .ne off, 3)) (ht : (pc : Int) + off = (tgt : Int)) (kt : a ≠ b → W p l e R s m args below meth c H locs cells slots Q (F0 m tgt ls rest)) (kf : a = b → W p l e R s m args below meth c H locs cells slots Q (F0 m (pc + 3) ls rest)) (ha : -2147483648 ≤ a ∧ a ≤ 2147483647 := by omega) (hb2 : -2147483648 ≤ b ∧ b ≤ 2147483647 := by omega) : W p l e R s m args below meth c H locs cells slots Q (F0 m pc ls (.int (iv b) :: .int (iv a) :: rest)) := by
  have hiff : iv a = iv b ↔ a = b := iv_eq ha hb2
  refine lv_icmp_ne hx hb hdg ht (fun q => kt ?_) (fun q => kf ?_)
  · have q1 := q
    first | (have q2 := hiff.mp q1; omega) | (have q2 : ¬ (a = b) := fun z => q1 (hiff.mpr z); omega)
  · have q1 := q
    first | (have q2 : ¬ (a = b) := fun z => q1 (hiff.mpr z); omega) | (have q2 := hiff.mp q1; omega)
theorem j_if_ne (hx : p.tables.exec = Jvm.exec) (hb : c.code = cc) {a : Int} {off : Int} {tgt : Nat} (hdg : decode cc pc = .ok (.ifCond .ne off, 3)) (ht : (pc : Int) + off = (tgt : Int)) (kt : a ≠ 0 → W p l e R s m args below meth c H locs cells slots Q (F0 m tgt ls rest)) (kf : a = 0 → W p l e R s m args below meth c H locs cells slots Q (F0 m (pc + 3) ls rest)) (ha : -2147483648 ≤ a ∧ a ≤ 2147483647 := by omega) : W p l e R s m args below meth c H locs cells slots Q (F0 m pc ls (.int (iv a) :: rest)) := by
  have hiff : iv a = iv 0 ↔ a = 0 := iv_eq ha (show (-2147483648 : Int) ≤ 0 ∧ (0 : Int) ≤ 2147483647 by omega)
  refine lv_if_ne hx hb hdg ht (fun q => kt ?_) (fun q => kf ?_)
  · have q1 := q
    first | (have q2 := hiff.mp q1; omega) | (have q2 : ¬ (a = 0) := fun z => q1 (hiff.mpr z); omega)
  · have q1 := q
    first | (have q2 : ¬ (a = 0) := fun z => q1 (hiff.mpr z); omega) | (have q2 := hiff.mp q1; omega)
theorem j_icmp_lt (hx : p.tables.exec = Jvm.exec) (hb : c.code = cc) {a b : Int} {off : Int} {tgt : Nat} (hdg : decode cc pc = .ok (.if_icmp .lt off, 3)) (ht : (pc : Int) + off = (tgt : Int)) (kt : a < b → W p l e R s m args below meth c H locs cells slots Q (F0 m tgt ls rest)) (kf : b ≤ a → W p l e R s m args below meth c H locs cells slots Q (F0 m (pc + 3) ls rest)) (ha : -2147483648 ≤ a ∧ a ≤ 2147483647 := by omega) (hb2 : -2147483648 ≤ b ∧ b ≤ 2147483647 := by omega) : W p l e R s m args below meth c H locs cells slots Q (F0 m pc ls (.int (iv b) :: .int (iv a) :: rest)) := by
  have hiff : iv a < iv b ↔ a < b := iv_lt ha hb2
  refine lv_icmp_lt hx hb hdg ht (fun q => kt ?_) (fun q => kf ?_)
  · have q1 := q
    first | (have q2 := hiff.mp q1; omega) | (have q2 : ¬ (a < b) := fun z => q1 (hiff.mpr z); omega)
  · have q1 := q
    first | (have q2 : ¬ (a < b) := fun z => q1 (hiff.mpr z); omega) | (have q2 := hiff.mp q1; omega)
theorem j_if_lt (hx : p.tables.exec = Jvm.exec) (hb : c.code = cc) {a : Int} {off : Int} {tgt : Nat} (hdg : decode cc pc = .ok (.ifCond .lt off, 3)) (ht : (pc : Int) + off = (tgt : Int)) (kt : a < 0 → W p l e R s m args below meth c H locs cells slots Q (F0 m tgt ls rest)) (kf : 0 ≤ a → W p l e R s m args below meth c H locs cells slots Q (F0 m (pc + 3) ls rest)) (ha : -2147483648 ≤ a ∧ a ≤ 2147483647 := by omega) : W p l e R s m args below meth c H locs cells slots Q (F0 m pc ls (.int (iv a) :: rest)) := by
  have hiff : iv a < iv 0 ↔ a < 0 := iv_lt ha (show (-2147483648 : Int) ≤ 0 ∧ (0 : Int) ≤ 2147483647 by omega)
  refine lv_if_lt hx hb hdg ht (fun q => kt ?_) (fun q => kf ?_)
  · have q1 := q
    first | (have q2 := hiff.mp q1; omega) | (have q2 : ¬ (a < 0) := fun z => q1 (hiff.mpr z); omega)
  · have q1 := q
    first | (have q2 : ¬ (a < 0) := fun z => q1 (hiff.mpr z); omega) | (have q2 := hiff.mp q1; omega)
theorem j_icmp_ge (hx : p.tables.exec = Jvm.exec) (hb : c.code = cc) {a b : Int} {off : Int} {tgt : Nat} (hdg : decode cc pc = .ok (.if_icmp .ge off, 3)) (ht : (pc : Int) + off = (tgt : Int)) (kt : b ≤ a → W p l e R s m args below meth c H locs cells slots Q (F0 m tgt ls rest)) (kf : a < b → W p l e R s m args below meth c H locs cells slots Q (F0 m (pc + 3) ls rest)) (ha : -2147483648 ≤ a ∧ a ≤ 2147483647 := by omega) (hb2 : -2147483648 ≤ b ∧ b ≤ 2147483647 := by omega) : W p l e R s m args below meth c H locs cells slots Q (F0 m pc ls (.int (iv b) :: .int (iv a) :: rest)) := by
  have hiff : iv b ≤ iv a ↔ b ≤ a := iv_le hb2 ha
  refine lv_icmp_ge hx hb hdg ht (fun q => kt ?_) (fun q => kf ?_)
  · have q1 := q
    first | (have q2 := hiff.mp q1; omega) | (have q2 : ¬ (b ≤ a) := fun z => q1 (hiff.mpr z); omega)
  · have q1 := q
    first | (have q2 : ¬ (b ≤ a) := fun z => q1 (hiff.mpr z); omega) | (have q2 := hiff.mp q1; omega)
theorem j_if_ge (hx : p.tables.exec = Jvm.exec) (hb : c.code = cc) {a : Int} {off : Int} {tgt : Nat} (hdg : decode cc pc = .ok (.ifCond .ge off, 3)) (ht : (pc : Int) + off = (tgt : Int)) (kt : 0 ≤ a → W p l e R s m args below meth c H locs cells slots Q (F0 m tgt ls rest)) (kf : a < 0 → W p l e R s m args below meth c H locs cells slots Q (F0 m (pc + 3) ls rest)) (ha : -2147483648 ≤ a ∧ a ≤ 2147483647 := by omega) : W p l e R s m args below meth c H locs cells slots Q (F0 m pc ls (.int (iv a) :: rest)) := by
  have hiff : iv 0 ≤ iv a ↔ 0 ≤ a := iv_le (show (-2147483648 : Int) ≤ 0 ∧ (0 : Int) ≤ 2147483647 by omega) ha
  refine lv_if_ge hx hb hdg ht (fun q => kt ?_) (fun q => kf ?_)
  · have q1 := q
    first | (have q2 := hiff.mp q1; omega) | (have q2 : ¬ (0 ≤ a) := fun z => q1 (hiff.mpr z); omega)
  · have q1 := q
    first | (have q2 : ¬ (0 ≤ a) := fun z => q1 (hiff.mpr z); omega) | (have q2 := hiff.mp q1; omega)
theorem j_icmp_gt (hx : p.tables.exec = Jvm.exec) (hb : c.code = cc) {a b : Int} {off : Int} {tgt : Nat} (hdg : decode cc pc = .ok (.if_icmp .gt off, 3)) (ht : (pc : Int) + off = (tgt : Int)) (kt : b < a → W p l e R s m args below meth c H locs cells slots Q (F0 m tgt ls rest)) (kf : a ≤ b → W p l e R s m args below meth c H locs cells slots Q (F0 m (pc + 3) ls rest)) (ha : -2147483648 ≤ a ∧ a ≤ 2147483647 := by omega) (hb2 : -2147483648 ≤ b ∧ b ≤ 2147483647 := by omega) : W p l e R s m args below meth c H locs cells slots Q (F0 m pc ls (.int (iv b) :: .int (iv a) :: rest)) := by
  have hiff : iv b < iv a ↔ b < a := iv_lt hb2 ha
  refine lv_icmp_gt hx hb hdg ht (fun q => kt ?_) (fun q => kf ?_)
  · have q1 := q
    first | (have q2 := hiff.mp q1; omega) | (have q2 : ¬ (b < a) := fun z => q1 (hiff.mpr z); omega)
  · have q1 := q
    first | (have q2 : ¬ (b < a) := fun z => q1 (hiff.mpr z); omega) | (have q2 := hiff.mp q1; omega)
theorem j_if_gt (hx : p.tables.exec = Jvm.exec) (hb : c.code = cc) {a : Int} {off : Int} {tgt : Nat} (hdg : decode cc pc = .ok (.ifCond .gt off, 3)) (ht : (pc : Int) + off = (tgt : Int)) (kt : 0 < a → W p l e R s m args below meth c H locs cells slots Q (F0 m tgt ls rest)) (kf : a ≤ 0 → W p l e R s m args below meth c H locs cells slots Q (F0 m (pc + 3) ls rest)) (ha : -2147483648 ≤ a ∧ a ≤ 2147483647 := by omega) : W p l e R s m args below meth c H locs cells slots Q (F0 m pc ls (.int (iv a) :: rest)) := by
  have hiff : iv 0 < iv a ↔ 0 < a := iv_lt (show (-2147483648 : Int) ≤ 0 ∧ (0 : Int) ≤ 2147483647 by omega) ha
  refine lv_if_gt hx hb hdg ht (fun q => kt ?_) (fun q => kf ?_)
  · have q1 := q
    first | (have q2 := hiff.mp q1; omega) | (have q2 : ¬ (0 < a) := fun z => q1 (hiff.mpr z); omega)
  · have q1 := q
    first | (have q2 : ¬ (0 < a) := fun z => q1 (hiff.mpr z); omega) | (have q2 := hiff.mp q1; omega)
theorem j_icmp_le (hx : p.tables.exec = Jvm.exec) (hb : c.code = cc) {a b : Int} {off : Int} {tgt : Nat} (hdg : decode cc pc = .ok (.if_icmp .le off, 3)) (ht : (pc : Int) + off = (tgt : Int)) (kt : a ≤ b → W p l e R s m args below meth c H locs cells slots Q (F0 m tgt ls rest)) (kf : b < a → W p l e R s m args below meth c H locs cells slots Q (F0 m (pc + 3) ls rest)) (ha : -2147483648 ≤ a ∧ a ≤ 2147483647 := by omega) (hb2 : -2147483648 ≤ b ∧ b ≤ 2147483647 := by omega) : W p l e R s m args below meth c H locs cells slots Q (F0 m pc ls (.int (iv b) :: .int (iv a) :: rest)) := by
  have hiff : iv a ≤ iv b ↔ a ≤ b := iv_le ha hb2
  refine lv_icmp_le hx hb hdg ht (fun q => kt ?_) (fun q => kf ?_)
  · have q1 := q
    first | (have q2 := hiff.mp q1; omega) | (have q2 : ¬ (a ≤ b) := fun z => q1 (hiff.mpr z); omega)
  · have q1 := q
    first | (have q2 : ¬ (a ≤ b) := fun z => q1 (hiff.mpr z); omega) | (have q2 := hiff.mp q1; omega)
theorem j_if_le (hx : p.tables.exec = Jvm.exec) (hb : c.code = cc) {a : Int} {off : Int} {tgt : Nat} (hdg : decode cc pc = .ok (.ifCond .le off, 3)) (ht : (pc : Int) + off = (tgt : Int)) (kt : a ≤ 0 → W p l e R s m args below meth c H locs cells slots Q (F0 m tgt ls rest)) (kf : 0 < a → W p l e R s m args below meth c H locs cells slots Q (F0 m (pc + 3) ls rest)) (ha : -2147483648 ≤ a ∧ a ≤ 2147483647 := by omega) : W p l e R s m args below meth c H locs cells slots Q (F0 m pc ls (.int (iv a) :: rest)) := by
  have hiff : iv a ≤ iv 0 ↔ a ≤ 0 := iv_le ha (show (-2147483648 : Int) ≤ 0 ∧ (0 : Int) ≤ 2147483647 by omega)
  refine lv_if_le hx hb hdg ht (fun q => kt ?_) (fun q => kf ?_)
  · have q1 := q
    first | (have q2 := hiff.mp q1; omega) | (have q2 : ¬ (a ≤ 0) := fun z => q1 (hiff.mpr z); omega)
  · have q1 := q
    first | (have q2 : ¬ (a ≤ 0) := fun z => q1 (hiff.mpr z); omega) | (have q2 := hiff.mp q1; omega)
theorem j_table (hx : p.tables.exec = Jvm.exec) (hb : c.code = cc) {dflt lo hi : Int} {offs : Array Int} {len : Nat} {z off : Int} {tgt : Nat} (k : Int) (hz : z = k) (hdg : decode cc pc = .ok (.tableswitch dflt lo hi offs, len)) (kk : W p l e R s m args below meth c H locs cells slots Q (F0 m tgt ls rest)) (hr : -2147483648 ≤ k ∧ k ≤ 2147483647 := by decide) (h1 : ¬ k < lo := by decide) (h2 : ¬ hi < k := by decide) (ho : offs[(k - lo).toNat]? = some off := by rfl) (ht : (pc : Int) + off = (tgt : Int) := by decide) : W p l e R s m args below meth c H locs cells slots Q (F0 m pc ls (.int (iv z) :: rest)) := by
  subst hz
  exact lv_tableIn hx hb hdg (by rw [iv_toInt hr]; exact h1) (by rw [iv_toInt hr]; exact h2) (by rw [iv_toInt hr]; exact ho) ht kk
theorem j_tableO (hx : p.tables.exec = Jvm.exec) (hb : c.code = cc) {dflt lo hi : Int} {offs : Array Int} {len : Nat} {z : Int} {tgt : Nat} (hdg : decode cc pc = .ok (.tableswitch dflt lo hi offs, len)) (hz : z < lo ∨ hi < z) (kk : W p l e R s m args below meth c H locs cells slots Q (F0 m tgt ls rest)) (ht : (pc : Int) + dflt = (tgt : Int) := by decide) (hr : -2147483648 ≤ z ∧ z ≤ 2147483647 := by omega) : W p l e R s m args below meth c H locs cells slots Q (F0 m pc ls (.int (iv z) :: rest)) := lv_tableOut hx hb hdg (by rw [iv_toInt hr]; exact hz) ht kk
theorem j_lookup (hx : p.tables.exec = Jvm.exec) (hb : c.code = cc) {dflt : Int} {ps : Array (Int × Int)} {len : Nat} {z off : Int} {tgt : Nat} (hdg : decode cc pc = .ok (.lookupswitch dflt ps, len)) (ho : Op.lookupswitch.offset ps.toList dflt z = off) (ht : (pc : Int) + off = (tgt : Int)) (kk : W p l e R s m args below meth c H locs cells slots Q (F0 m tgt ls rest)) (hp : (ps.toList.zip (ps.toList.drop 1)).all (fun (a, next) => a.1 < next.1) = true := by decide) (hr : -2147483648 ≤ z ∧ z ≤ 2147483647 := by omega) : W p l e R s m args below meth c H locs cells slots Q (F0 m pc ls (.int (iv z) :: rest)) := lv_lookup hx hb hdg hp (by rw [iv_toInt hr]; exact ho) ht kk
theorem m_get (hx : p.tables.exec = Jvm.exec) (hb : c.code = cc) {own C : String} {T : u_T} {N ci index : Nat} {Ts : List Cond} (hts : ∀ w ∈ Ts, w.before args s = true) (hin : ∀ w ∈ u_ws C T N, w ∈ Ts) (hown : s.vm.findClass own = some m.cls) (hK : gK G s) (hH : gP G μ n H) {fs : List Value} (ha : μ a = some (.inr (ci, fs))) (hc : vwCl[ci]? = some (C, T, N)) (k : Nat) (hk : k < N) (hlink : (Cond.fieldLink own index (T k).1 (T k).2.1 (T k).2.2.1).before args s = true) {v : Value} (hv : fs[k]? = some v) (hdg : decode cc pc = .ok (.getfield index, 3)) (kk : W p l e R s m args below meth c H locs cells slots Q (F0 m (pc + 3) ls (v :: rest))) : W p l e R s m args below meth c H locs cells slots Q (F0 m pc ls (.ref a :: rest)) := by
  obtain ⟨hn, ws, hP, hD, hm⟩ := hH
  obtain ⟨q0, he⟩ := hm _ _ ha
  exact va_get hx hb hts hin hown hK.1 hP q0 he hc k hk hlink (fun _ h => h) hv hdg kk
theorem m_put (hx : p.tables.exec = Jvm.exec) (hb : c.code = cc) {own C : String} {T : u_T} {N ci index : Nat} {Ts : List Cond} (hts : ∀ w ∈ Ts, w.before args s = true) (hin : ∀ w ∈ u_ws C T N, w ∈ Ts) (ty0 : Nat → FieldType) (hty : ∀ k, k < N → parseFieldDescriptor (T k).2.2.1 = some (ty0 k)) (hnm : ∀ a, a < N → ∀ b, b < N → a ≠ b → (T a).2.1 ≠ (T b).2.1) (hown : s.vm.findClass own = some m.cls) (hK : gK G s) (hH : gP G μ n H) (hS : va_S (gA G) s.heap H locs) {fs : List Value} (ha : μ a = some (.inr (ci, fs))) (hc : vwCl[ci]? = some (C, T, N)) (k : Nat) (hk : k < N) (hlink : (Cond.fieldLink own index (T k).1 (T k).2.1 (T k).2.2.1).before args s = true) (hfin : (T k).2.2.2 = false) {v : Value} (hnar : narrow (ty0 k) v = v) (hfit : fits (ty0 k) v = true) (hl : k < fs.length) (hdg : decode cc pc = .ok (.putfield index, 3)) (kk : ∀ (H1 : Heap) (locs1 : List Loc), gP G (hu μ a (.inr (ci, fs.set k v))) n H1 → va_S (gA G) s.heap H1 locs1 → W p l e R s m args below meth c H1 locs1 cells slots Q (F0 m (pc + 3) ls rest)) : W p l e R s m args below meth c H locs cells slots Q (F0 m pc ls (v :: .ref a :: rest)) := by
  obtain ⟨hn, ws, hP, hD, hm⟩ := hH
  obtain ⟨q0, he⟩ := hm _ _ ha
  have hap := va_apart (own := own) hts hin ty0 hty hnm hK.1 hc
  obtain ⟨r, h1, cell, q1, q2, q3, q4⟩ := hP q0 _ he
  have hr : r = (C, T, N) := Option.some.inj (h1.symm.trans hc)
  subst hr
  obtain ⟨hSl, hfc, kC, hkC, hkind⟩ := hK.1.1 ci _ hc
  obtain ⟨cf, kf, fi, f, hi, hsl⟩ := hSl k hk
  have hlay := hts _ (hin _ (u_in_lay hk))
  unfold u_lay at hlay
  rw [if_neg (by rw [hfin]; decide)] at hlay
  have hst := (u_facts hfc hkC (u_lays hts hin hk) hi).1
  have h6 := u_store hfc hkC hkind hlay hi (hty k hk) hnar hfit
  refine W.putK hx hb (f := f) ⟨hown, hlink, ⟨_, _, _, hi⟩, hst⟩ (by rw [q2]; exact h6) q1 q3 (by rw [hsl]; exact k2_hasslot (q4 k hk)) rfl rfl hdg fun H' e1 e2 e3 => ?_
  rw [hsl] at e1 ⊢
  exact kk H' _ (gP.upd (e2.trans hn) (hP.set hD he ⟨_, hc, t_OB.to (V := updV (vp_V fs) k v) ⟨_, e1, q2, q3, t_set q4 hap hk v⟩ (fun j _ => vp_updV_set hl v j)⟩ e3) (hD.set he) he hm) (hS.put e2 e3 (hD.2 q0 _ he))
theorem m_putF (hx : p.tables.exec = Jvm.exec) (hb : c.code = cc) {own C : String} {T : u_T} {N ci index : Nat} {Ts : List Cond} (hts : ∀ w ∈ Ts, w.before args s = true) (hin : ∀ w ∈ u_ws C T N, w ∈ Ts) (ty0 : Nat → FieldType) (hty : ∀ k, k < N → parseFieldDescriptor (T k).2.2.1 = some (ty0 k)) (hnm : ∀ a, a < N → ∀ b, b < N → a ≠ b → (T a).2.1 ≠ (T b).2.1) (hown : s.vm.findClass own = some m.cls) (hK : gK G s) (hH : gP G μ n H) (hS : va_S (gA G) s.heap H locs) {fs : List Value} (ha : μ a = some (.inr (ci, fs))) (hc : vwCl[ci]? = some (C, T, N)) (k : Nat) (hk : k < N) (hlink : (Cond.fieldLink own index (T k).1 (T k).2.1 (T k).2.2.1).before args s = true) (hfin : (T k).2.2.2 = true) (hin2 : meth.name = "<init>") (hdecl : (T k).1 = own) {v : Value} (hnar : narrow (ty0 k) v = v) (hfit : fits (ty0 k) v = true) (hl : k < fs.length) (hdg : decode cc pc = .ok (.putfield index, 3)) (kk : ∀ (H1 : Heap) (locs1 : List Loc), gP G (hu μ a (.inr (ci, fs.set k v))) n H1 → va_S (gA G) s.heap H1 locs1 → W p l e R s m args below meth c H1 locs1 cells slots Q (F0 m (pc + 3) ls rest)) : W p l e R s m args below meth c H locs cells slots Q (F0 m pc ls (v :: .ref a :: rest)) := by
  obtain ⟨hn, ws, hP, hD, hm⟩ := hH
  obtain ⟨q0, he⟩ := hm _ _ ha
  have hap := va_apart (own := own) hts hin ty0 hty hnm hK.1 hc
  obtain ⟨r, h1, cell, q1, q2, q3, q4⟩ := hP q0 _ he
  have hr : r = (C, T, N) := Option.some.inj (h1.symm.trans hc)
  subst hr
  obtain ⟨hSl, hfc, kC, hkC, hkind⟩ := hK.1.1 ci _ hc
  obtain ⟨cf, kf, fi, f, hi, hsl⟩ := hSl k hk
  have hlay := hts _ (hin _ (u_in_lay hk))
  unfold u_lay at hlay
  rw [if_pos hfin] at hlay
  have hst := (u_facts hfc hkC (u_lays hts hin hk) hi).1
  have hcf : m.cls = cf := by
    obtain ⟨_, _, c', _, _, _, -, -, hf', -, -, -, hown2, -⟩ := Cond.laysFinal_spec hlay
    have e1 : c' = cf := by have := hi.symm.trans hf'; simp at this; exact this.1.symm
    rw [hdecl] at hown2
    rw [← e1]; exact Option.some.inj (hown.symm.trans hown2)
  have h6 := u_fits hfc hkC hkind (Or.inr hlay) hi (hty k hk) hnar hfit
  refine W.putFinK hx hb hown hlink hi hst hcf hin2 (by rw [q2]; exact h6) q1 q3 (by rw [hsl]; exact k2_hasslot (q4 k hk)) rfl rfl hdg fun H' e1 e2 e3 => ?_
  rw [hsl] at e1 ⊢
  exact kk H' _ (gP.upd (e2.trans hn) (hP.set hD he ⟨_, hc, t_OB.to (V := updV (vp_V fs) k v) ⟨_, e1, q2, q3, t_set q4 hap hk v⟩ (fun j _ => vp_updV_set hl v j)⟩ e3) (hD.set he) he hm) (hS.put e2 e3 (hD.2 q0 _ he))
theorem m_iald (hx : p.tables.exec = Jvm.exec) (hb : c.code = cc) (hK : gK G s) (hH : gP G μ n H) {nA : Nat} {f : Nat → Int} {i : Int} (ha : μ a = some (.inl (G.2.1 0, nA, .inl (fun j => iv (f j))))) (hdg : decode cc pc = .ok (.iaload, 1)) (kk : W p l e R s m args below meth c H locs cells slots Q (F0 m (pc + 1) ls (.int (iv (f i.toNat)) :: rest))) (hi : 0 ≤ i ∧ i < nA := by omega) (hi2 : i ≤ 2147483647 := by omega) : W p l e R s m args below meth c H locs cells slots Q (F0 m pc ls (.int (iv i) :: .ref a :: rest)) := by
  obtain ⟨hn, ws, hP, hD, hm⟩ := hH
  obtain ⟨q0, he⟩ := hm _ _ ha
  refine va_iald hx hb hK.1 hP q0 0 he rfl (iv_in hi hi2) hdg ?_
  rw [iv_clamp ⟨hi.1, hi2⟩]
  exact kk
theorem m_cald (hx : p.tables.exec = Jvm.exec) (hb : c.code = cc) (hK : gK G s) (hH : gP G μ n H) {nA : Nat} {f : Nat → Int} {i : Int} (ha : μ a = some (.inl (G.2.1 1, nA, .inl (fun j => iv (f j))))) (hdg : decode cc pc = .ok (.caload, 1)) (kk : W p l e R s m args below meth c H locs cells slots Q (F0 m (pc + 1) ls (.int (iv (f i.toNat)) :: rest))) (hi : 0 ≤ i ∧ i < nA := by omega) (hi2 : i ≤ 2147483647 := by omega) : W p l e R s m args below meth c H locs cells slots Q (F0 m pc ls (.int (iv i) :: .ref a :: rest)) := by
  obtain ⟨hn, ws, hP, hD, hm⟩ := hH
  obtain ⟨q0, he⟩ := hm _ _ ha
  refine va_cald hx hb hK.1 hP q0 1 he rfl (iv_in hi hi2) hdg ?_
  rw [iv_clamp ⟨hi.1, hi2⟩]
  exact kk
/-- a row of numbers with one place changed -/
def fu (f : Nat → Int) (k : Nat) (v : Int) : Nat → Int := fun j => if j = k then v else f j
theorem fu_s {f : Nat → Int} {k : Nat} {v : Int} : fu f k v k = v := if_pos rfl
theorem fu_n {f : Nat → Int} {k j : Nat} {v : Int} (h : j ≠ k) : fu f k v j = f j := if_neg h
theorem arr_iv (cA : ClassId) (nA k : Nat) (f : Nat → Int) (v : Int) : (vp_cell cA (nA, .inl (fun j => iv (f j)))).setSlot k (.int (iv v)) = vp_cell cA (nA, .inl (fun j => iv (fu f k v j))) := by
  rw [vp_cell_i, vp_cell_i, arrV_store]
  congr 1
  funext q
  by_cases hq : q = k
  · subst hq
    simp [updV, fu]
  · simp [updV, fu, hq]
theorem m_iast (hx : p.tables.exec = Jvm.exec) (hb : c.code = cc) (hK : gK G s) (hH : gP G μ n H) (hS : va_S (gA G) s.heap H locs) {nA : Nat} {f : Nat → Int} {i v : Int} (ha : μ a = some (.inl (G.2.1 0, nA, .inl (fun j => iv (f j))))) (hdg : decode cc pc = .ok (.iastore, 1)) (kk : ∀ (H1 : Heap) (locs1 : List Loc), gP G (hu μ a (.inl (G.2.1 0, nA, .inl (fun j => iv (fu f i.toNat v j))))) n H1 → va_S (gA G) s.heap H1 locs1 → W p l e R s m args below meth c H1 locs1 cells slots Q (F0 m (pc + 1) ls rest)) (hi : 0 ≤ i ∧ i < nA := by omega) (hi2 : i ≤ 2147483647 := by omega) : W p l e R s m args below meth c H locs cells slots Q (F0 m pc ls (.int (iv v) :: .int (iv i) :: .ref a :: rest)) := by
  obtain ⟨hn, ws, hP, hD, hm⟩ := hH
  obtain ⟨q0, he⟩ := hm _ _ ha
  refine W.iast hx hb (hP q0 _ he) ((hK.1.2 0 _ rfl).1 nA (fun j => .int (iv (f j)))) (fun q => by cases q) (by show ¬ (iv i < 0 ∨ (arrV _ _ _).slots.size ≤ _); rw [arrV_size]; exact iv_in hi hi2) rfl rfl hdg fun H1 e1 z oq => ?_
  rw [iv_clamp ⟨hi.1, hi2⟩] at e1
  exact kk H1 _ (gP.upd (z.trans hn) (hP.set hD he (show H1[a]? = some (vp_cell _ _) from e1.trans (congrArg some (arr_iv _ _ _ _ _))) oq) (hD.set he) he hm) (hS.put z oq (hD.2 q0 _ he))
theorem m_cast (hx : p.tables.exec = Jvm.exec) (hb : c.code = cc) (hK : gK G s) (hH : gP G μ n H) (hS : va_S (gA G) s.heap H locs) {nA : Nat} {f : Nat → Int} {i v : Int} (ha : μ a = some (.inl (G.2.1 1, nA, .inl (fun j => iv (f j))))) (hv : narrow .char (.int (iv v)) = .int (iv v)) (hdg : decode cc pc = .ok (.castore, 1)) (kk : ∀ (H1 : Heap) (locs1 : List Loc), gP G (hu μ a (.inl (G.2.1 1, nA, .inl (fun j => iv (fu f i.toNat v j))))) n H1 → va_S (gA G) s.heap H1 locs1 → W p l e R s m args below meth c H1 locs1 cells slots Q (F0 m (pc + 1) ls rest)) (hi : 0 ≤ i ∧ i < nA := by omega) (hi2 : i ≤ 2147483647 := by omega) : W p l e R s m args below meth c H locs cells slots Q (F0 m pc ls (.int (iv v) :: .int (iv i) :: .ref a :: rest)) := by
  obtain ⟨hn, ws, hP, hD, hm⟩ := hH
  obtain ⟨q0, he⟩ := hm _ _ ha
  refine W.cast hx hb (hP q0 _ he) ((hK.1.2 1 _ rfl).1 nA (fun j => .int (iv (f j)))) (fun q => by cases q) (by show ¬ (iv i < 0 ∨ (arrV _ _ _).slots.size ≤ _); rw [arrV_size]; exact iv_in hi hi2) rfl rfl hdg fun H1 e1 z oq => ?_
  rw [iv_clamp ⟨hi.1, hi2⟩, hv] at e1
  exact kk H1 _ (gP.upd (z.trans hn) (hP.set hD he (show H1[a]? = some (vp_cell _ _) from e1.trans (congrArg some (arr_iv _ _ _ _ _))) oq) (hD.set he) he hm) (hS.put z oq (hD.2 q0 _ he))
theorem m_alen (hx : p.tables.exec = Jvm.exec) (hb : c.code = cc) (hK : gK G s) (hH : gP G μ n H) (t0 : Nat) {cA : ClassId} {x : vp_A} {ty : FieldType} (ha : μ a = some (.inl (cA, x))) (ht : (gTys G)[t0]? = some (cA, ty)) (hdg : decode cc pc = .ok (.arraylength, 1)) (kk : W p l e R s m args below meth c H locs cells slots Q (F0 m (pc + 1) ls (.int (iv (x.1 : Int)) :: rest))) : W p l e R s m args below meth c H locs cells slots Q (F0 m pc ls (.ref a :: rest)) := by
  obtain ⟨hn, ws, hP, hD, hm⟩ := hH
  obtain ⟨q0, he⟩ := hm _ _ ha
  exact va_alen hx hb hK.1 hP q0 t0 he ht (iv_nI x.1) hdg kk
theorem m_aald (hx : p.tables.exec = Jvm.exec) (hb : c.code = cc) (hK : gK G s) (hH : gP G μ n H) (t0 : Nat) {cA : ClassId} {C : String} {nA b : Nat} {f : Nat → Option Nat} {i : Int} (ha : μ a = some (.inl (cA, nA, .inr (.inr (.inr (.inr f)))))) (ht : (gTys G)[t0]? = some (cA, .object C)) (hf : f i.toNat = some b) (hdg : decode cc pc = .ok (.aaload, 1)) (kk : W p l e R s m args below meth c H locs cells slots Q (F0 m (pc + 1) ls (.ref b :: rest))) (hi : 0 ≤ i ∧ i < nA := by omega) (hi2 : i ≤ 2147483647 := by omega) : W p l e R s m args below meth c H locs cells slots Q (F0 m pc ls (.int (iv i) :: .ref a :: rest)) := by
  obtain ⟨hn, ws, hP, hD, hm⟩ := hH
  obtain ⟨q0, he⟩ := hm _ _ ha
  refine va_aldq hx hb hK.1 hP q0 t0 he ht (iv_in hi hi2) hdg ?_
  rw [iv_clamp ⟨hi.1, hi2⟩, hf]
  exact kk
/-- a row of references with one place changed -/
def qu (f : Nat → Option Nat) (k b : Nat) : Nat → Option Nat := fun j => if j = k then some b else f j
theorem qu_s {f : Nat → Option Nat} {k b : Nat} : qu f k b k = some b := if_pos rfl
theorem qu_n {f : Nat → Option Nat} {k b j : Nat} (h : j ≠ k) : qu f k b j = f j := if_neg h
theorem arr_qu (cA : ClassId) (nA k b : Nat) (f : Nat → Option Nat) : (vp_cell cA (nA, .inr (.inr (.inr (.inr f))))).setSlot k (.ref b) = vp_cell cA (nA, .inr (.inr (.inr (.inr (qu f k b))))) := by
  rw [vp_cell_q, vp_cell_q, arrV_store]
  congr 1
  funext q
  by_cases hq : q = k
  · subst hq
    simp [updV, qu, va_rf]
  · simp [updV, qu, hq]
theorem m_aast (hx : p.tables.exec = Jvm.exec) (hb : c.code = cc) (hK : gK G s) (hH : gP G μ n H) (hS : va_S (gA G) s.heap H locs) (t0 ci : Nat) {cA : ClassId} {r : vw_C} {nA b : Nat} {vs : List Value} {f : Nat → Option Nat} {i : Int} (ha : μ a = some (.inl (cA, nA, .inr (.inr (.inr (.inr f)))))) (ht : (gTys G)[t0]? = some (cA, .object r.1)) (hv : μ b = some (.inr (ci, vs))) (hc : vwCl[ci]? = some r) (hdg : decode cc pc = .ok (.aastore, 1)) (kk : ∀ (H1 : Heap) (locs1 : List Loc), gP G (hu μ a (.inl (cA, nA, .inr (.inr (.inr (.inr (qu f i.toNat b))))))) n H1 → va_S (gA G) s.heap H1 locs1 → W p l e R s m args below meth c H1 locs1 cells slots Q (F0 m (pc + 1) ls rest)) (hi : 0 ≤ i ∧ i < nA := by omega) (hi2 : i ≤ 2147483647 := by omega) : W p l e R s m args below meth c H locs cells slots Q (F0 m pc ls (.ref b :: .int (iv i) :: .ref a :: rest)) := by
  obtain ⟨hn, ws, hP, hD, hm⟩ := hH
  obtain ⟨q0, he⟩ := hm _ _ ha
  obtain ⟨qk, hvk⟩ := hm _ _ hv
  have hin := iv_in hi hi2
  have h0 : ¬ iv i < 0 := fun q => hin (Or.inl q)
  have hlt : (iv i).toNatClampNeg < nA := Nat.not_le.mp fun q => hin (Or.inr q)
  obtain ⟨r', hr', cellV, g1, g2, g3, -⟩ := hP qk _ hvk
  have hcls := (hK.1.1 ci r hc).2
  obtain ⟨kA, comp, k1, k2, k3, -⟩ := (hK.1.2 t0 _ ht).2
  have hcomp : comp = G.1.1 ci := Option.some.inj (k3.symm.trans hcls.1)
  subst hcomp
  obtain ⟨kC, hkC, -⟩ := hcls.2
  refine W.aast hx hb (hP q0 _ he) (fun q h => by cases h) (fun h => by cases h) k1 k2 rfl hkC ⟨h0, by show _ < (arrV _ _ _).slots.size; rw [arrV_size]; exact hlt⟩ g1 (fun q h => by rw [g3] at h; cases h) (by rw [g2]; exact hkC) (by rw [g2]; exact va_assign hcls) rfl rfl hdg fun H1 e1 z oq => ?_
  rw [iv_clamp ⟨hi.1, hi2⟩] at e1
  exact kk H1 _ (gP.upd (z.trans hn) (hP.set hD he (show H1[a]? = some (vp_cell _ _) from e1.trans (congrArg some (arr_qu _ _ _ _ _))) oq) (hD.set he) he hm) (hS.put z oq (hD.2 q0 _ he))
theorem m_new (hx : p.tables.exec = Jvm.exec) (hb : c.code = cc) {own C : String} {T : u_T} {N ci index : Nat} {Ts : List Cond} (hts : ∀ w ∈ Ts, w.before args s = true) (hin : ∀ w ∈ u_ws C T N, w ∈ Ts) (ty : Nat → FieldType) (hty : ∀ k, k < N → parseFieldDescriptor (T k).2.2.1 = some (ty k)) (hown : s.vm.findClass own = some m.cls) (hcl : (Cond.classLink own index C).before args s = true) (hinst : (Cond.instantiable C N).before args s = true) (hini : (Cond.initialized C).before args s = true) (hK : gK G s) (hH : gP G μ n H) (hS : va_S (gA G) s.heap H locs) (hc : vwCl[ci]? = some (C, T, N)) {fs : List Value} (hfs : ∀ j, j < N → defaultValue (ty j) = vp_V fs j) (hdg : decode cc pc = .ok (.new index, 3)) (hcells : cells + 1 ≤ R.cells) (hslots : slots + N ≤ R.slots) (kk : ∀ (H1 : Heap), gP G (hu μ n (.inr (ci, fs))) (n + 1) H1 → va_S (gA G) s.heap H1 locs → μ n = none → W p l e R s m args below meth c H1 locs (cells + 1) (slots + N) Q (F0 m (pc + 3) ls (.ref n :: rest))) : W p l e R s m args below meth c H locs cells slots Q (F0 m pc ls rest) := by
  have hbs : G.2.2.1 ≤ n := Nat.le_trans hK.2.2.2.1 (by rw [← hH.1]; exact hS.1)
  have hKn := hK.1.1 ci _ hc
  refine W.newcK hx hb hown hcl hinst hini rfl hdg hcells hslots hKn.2.1 hH.1 fun H1 kC hkC e1 z1 o1 => ?_
  refine kk H1 (hH.new hbs z1 o1 ⟨_, hc, (u_born ty hts hin hKn hkC e1 hty).to hfs⟩) ⟨Nat.le_trans hS.1 (by rw [hH.1]; omega), fun x h1 h2 => (o1 x (Nat.lt_of_lt_of_le h1 (by rw [← hH.1]; exact hS.1))).trans (hS.2.1 x h1 h2), hS.2.2⟩ ?_
  cases hq : μ n with
  | none => rfl
  | some f => exact absurd (hH.lt hq) (Nat.lt_irrefl _)
theorem m_newI (hx : p.tables.exec = Jvm.exec) (hb : c.code = cc) (harr : (Cond.arrayClass (newarray.typeOf .int)).before args s = true) (hK : gK G s) (hH : gP G μ n H) (hS : va_S (gA G) s.heap H locs) {z : Int} (N : Nat) (hz : z = (N : Int)) (hN : N ≤ 100000) (hdg : decode cc pc = .ok (.newarray .int, 2)) (hcells : cells + 1 ≤ R.cells) (hslots : slots + N ≤ R.slots) (kk : ∀ (H1 : Heap), gP G (hu μ n (.inl (G.2.1 0, N, .inl (fun _ => iv 0)))) (n + 1) H1 → va_S (gA G) s.heap H1 locs → μ n = none → W p l e R s m args below meth c H1 locs (cells + 1) (slots + N) Q (F0 m (pc + 2) ls (.ref n :: rest))) : W p l e R s m args below meth c H locs cells slots Q (F0 m pc ls (.int (iv z) :: rest)) := by
  subst hz
  have hbs : G.2.2.1 ≤ n := Nat.le_trans hK.2.2.2.1 (by rw [← hH.1]; exact hS.1)
  refine va_newaK hx hb harr rfl hdg rfl (N := N) (fun q => by have q2 : iv (N : Int) < iv 0 := q; rw [iv_lt (by omega) (by omega)] at q2; omega) (by rw [iv_clamp (by omega)]; omega) (Nat.le_trans (Nat.mul_le_mul hN (show componentBytes (newarray.typeOf .int) ≤ 8 by decide)) (by decide)) hcells hslots hH.1 fun H1 cA e1 z1 o1 hAr hNm => ?_
  have hcA : cA = G.2.1 0 := by
    have h2 := (hK.1.2 0 _ rfl).2
    exact Option.some.inj (hNm.symm.trans h2)
  subst hcA
  refine kk H1 (hH.new hbs z1 o1 (show H1[n]? = some (vp_cell _ _) from e1)) ⟨Nat.le_trans hS.1 (by rw [hH.1]; omega), fun x h1 h2 => (o1 x (Nat.lt_of_lt_of_le h1 (by rw [← hH.1]; exact hS.1))).trans (hS.2.1 x h1 h2), hS.2.2⟩ ?_
  cases hq : μ n with
  | none => rfl
  | some f => exact absurd (hH.lt hq) (Nat.lt_irrefl _)
theorem m_newC (hx : p.tables.exec = Jvm.exec) (hb : c.code = cc) (harr : (Cond.arrayClass (newarray.typeOf .char)).before args s = true) (hK : gK G s) (hH : gP G μ n H) (hS : va_S (gA G) s.heap H locs) {z : Int} (N : Nat) (hz : z = (N : Int)) (hN : N ≤ 100000) (hdg : decode cc pc = .ok (.newarray .char, 2)) (hcells : cells + 1 ≤ R.cells) (hslots : slots + N ≤ R.slots) (kk : ∀ (H1 : Heap), gP G (hu μ n (.inl (G.2.1 1, N, .inl (fun _ => iv 0)))) (n + 1) H1 → va_S (gA G) s.heap H1 locs → μ n = none → W p l e R s m args below meth c H1 locs (cells + 1) (slots + N) Q (F0 m (pc + 2) ls (.ref n :: rest))) : W p l e R s m args below meth c H locs cells slots Q (F0 m pc ls (.int (iv z) :: rest)) := by
  subst hz
  have hbs : G.2.2.1 ≤ n := Nat.le_trans hK.2.2.2.1 (by rw [← hH.1]; exact hS.1)
  refine va_newaK hx hb harr rfl hdg rfl (N := N) (fun q => by have q2 : iv (N : Int) < iv 0 := q; rw [iv_lt (by omega) (by omega)] at q2; omega) (by rw [iv_clamp (by omega)]; omega) (Nat.le_trans (Nat.mul_le_mul hN (show componentBytes (newarray.typeOf .char) ≤ 8 by decide)) (by decide)) hcells hslots hH.1 fun H1 cA e1 z1 o1 hAr hNm => ?_
  have hcA : cA = G.2.1 1 := by
    have h2 := (hK.1.2 1 _ rfl).2
    exact Option.some.inj (hNm.symm.trans h2)
  subst hcA
  refine kk H1 (hH.new hbs z1 o1 (show H1[n]? = some (vp_cell _ _) from e1)) ⟨Nat.le_trans hS.1 (by rw [hH.1]; omega), fun x h1 h2 => (o1 x (Nat.lt_of_lt_of_le h1 (by rw [← hH.1]; exact hS.1))).trans (hS.2.1 x h1 h2), hS.2.2⟩ ?_
  cases hq : μ n with
  | none => rfl
  | some f => exact absurd (hH.lt hq) (Nat.lt_irrefl _)
theorem m_anew (hx : p.tables.exec = Jvm.exec) (hb : c.code = cc) {own C : String} {index : Nat} (hown : s.vm.findClass own = some m.cls) (hclink : (Cond.classLink own index C).before args s = true) (hover : (Cond.arrayOver (.object C)).before args s = true) (hK : gK G s) (hH : gP G μ n H) (hS : va_S (gA G) s.heap H locs) (t0 : Nat) {cB : ClassId} (ht : (gTys G)[t0]? = some (cB, .object C)) {z : Int} (N : Nat) (hz : z = (N : Int)) (hN : N ≤ 100000) (hdg : decode cc pc = .ok (.anewarray index, 3)) (hcells : cells + 1 ≤ R.cells) (hslots : slots + N ≤ R.slots) (kk : ∀ (H1 : Heap), gP G (hu μ n (.inl (cB, N, .inr (.inr (.inr (.inr (fun _ => none))))))) (n + 1) H1 → va_S (gA G) s.heap H1 locs → μ n = none → W p l e R s m args below meth c H1 locs (cells + 1) (slots + N) Q (F0 m (pc + 3) ls (.ref n :: rest))) : W p l e R s m args below meth c H locs cells slots Q (F0 m pc ls (.int (iv z) :: rest)) := by
  subst hz
  have hbs : G.2.2.1 ≤ n := Nat.le_trans hK.2.2.2.1 (by rw [← hH.1]; exact hS.1)
  have hcl : (iv (N : Int)).toNatClampNeg = N := by rw [iv_clamp (by omega)]; omega
  refine W.anew hx hb hown hclink hover rfl hdg rfl (fun q => by have q2 : iv (N : Int) < iv 0 := q; rw [iv_lt (by omega) (by omega)] at q2; omega) (by rw [hcl]; omega) hcells (by rw [hcl]; exact hslots) fun cA kA comp f1 f2 f3 f4 => ?_
  rw [hcl]
  generalize hH1 : H.push ({ cls := cA, slots := Array.replicate N .null, vm := .none } : Cell) = H1
  have z1 : H1.size = n + 1 := by rw [← hH1, Array.size_push, hH.1]
  have e1 : H1[n]? = some (arrV cA N (fun _ => .null)) := by rw [← hH1, ← hH.1, Array.getElem?_push_size, ← arrV_new]
  have o1 : ∀ q : Nat, q < n → H1[q]? = H[q]? := fun q hq => by rw [← hH1, Array.getElem?_push, if_neg (Nat.ne_of_lt (by rw [hH.1]; exact hq))]
  have hcA : cA = cB := by
    obtain ⟨_, _, _, _, _, h2⟩ := (hK.1.2 t0 _ ht).2
    exact Option.some.inj (f1.symm.trans h2)
  subst hcA
  have hsz : s.heap.size ≤ n := by rw [← hH.1]; exact hS.1
  rw [hH.1]
  refine kk H1 (hH.new hbs z1 o1 (show H1[n]? = some (vp_cell _ _) from e1)) ⟨by rw [z1]; omega, fun x h1 h2 => (o1 x (Nat.lt_of_lt_of_le h1 hsz)).trans (hS.2.1 x h1 h2), hS.2.2⟩ ?_
  cases hq : μ n with
  | none => rfl
  | some f => exact absurd (hH.lt hq) (Nat.lt_irrefl _)
theorem m_gets (hx : p.tables.exec = Jvm.exec) (hb : c.code = cc) {own : String} {index : Nat} (hK : gK G s) (hS : va_S (gA G) s.heap H locs) (hown : s.vm.findClass own = some m.cls) (hlink : (Cond.fieldLink own index RX1 "LONGEST" "[I").before args s = true) (hdg : decode cc pc = .ok (.getstatic index, 3)) (kk : W p l e R s m args below meth c H locs cells slots Q (F0 m (pc + 3) ls (.ref G.2.2.2 :: rest))) : W p l e R s m args below meth c H locs cells slots Q (F0 m pc ls rest) := va_gets hx hb hK.2.1 hS hown hlink (fun _ h => h) hdg kk
theorem m_lald (hx : p.tables.exec = Jvm.exec) (hb : c.code = cc) (hK : gK G s) (hS : va_S (gA G) s.heap H locs) {i : Int} (hdg : decode cc pc = .ok (.iaload, 1)) (kk : W p l e R s m args below meth c H locs cells slots Q (F0 m (pc + 1) ls (.int (iv (longest i.toNat)) :: rest))) (hi : 0 ≤ i ∧ i < 12 := by omega) : W p l e R s m args below meth c H locs cells slots Q (F0 m pc ls (.int (iv i) :: .ref G.2.2.2 :: rest)) := va_ti hx hb hK.2.2.1 hS (iv_in (n := 12) hi (by omega)) (by rw [iv_clamp (by omega)]) hdg kk
theorem m_llen (hx : p.tables.exec = Jvm.exec) (hb : c.code = cc) (hK : gK G s) (hS : va_S (gA G) s.heap H locs) (hdg : decode cc pc = .ok (.arraylength, 1)) (kk : W p l e R s m args below meth c H locs cells slots Q (F0 m (pc + 1) ls (.int (iv 12) :: rest))) : W p l e R s m args below meth c H locs cells slots Q (F0 m pc ls (.ref G.2.2.2 :: rest)) := va_tlen hx hb hK.2.2.1 hS (iv_nI 12) hdg kk
theorem m_copy (hx : p.tables.exec = Jvm.exec) (hb : c.code = cc) (hml : c.maxLocals = ls.size) {own : String} {index : Nat} (hown : s.vm.findClass own = some m.cls) (hlink : (Cond.methodLink own index arraycopyName).before args s = true) (hnat : (Cond.native arraycopyName).before args s = true) (hstat : (Cond.static arraycopyName).before args s = true) (hini : (Cond.initialized "java/lang/System").before args s = true) (hK : gK G s) (hH : gP G μ n H) (hS : va_S (gA G) s.heap H locs) {a0 nA : Nat} {f g : Nat → Int} {z : Int} (ha0 : μ a0 = some (.inl (G.2.1 0, nA, .inl (fun j => iv (f j))))) (ha : μ a = some (.inl (G.2.1 0, nA, .inl (fun j => iv (g j))))) (hz : z = (nA : Int)) (hnA : nA ≤ 100000) (hframes : 1 ≤ R.frames) (hlocals : (rest.map fun v => v.category).sum + (nativeFrameWords "java/lang/System" "arraycopy" 5 + 11) ≤ R.locals) (hdg : decode cc pc = .ok (.invokestatic index, 3)) (kk : ∀ (n1 : Nat) (H1 : Heap) (locs1 : List Loc), gP G (hu μ a (.inl (G.2.1 0, nA, .inl (fun j => iv (if j < nA then f j else g j))))) n1 H1 → va_S (gA G) s.heap H1 locs1 → W p l e R s m args below meth c H1 locs1 cells slots Q (F0 m (pc + 3) ls rest)) : W p l e R s m args below meth c H locs cells slots Q (F0 m pc ls (.int (iv z) :: .int (iv 0) :: .ref a :: .int (iv 0) :: .ref a0 :: rest)) := by
  subst hz
  obtain ⟨hn, ws, hP, hD, hm⟩ := hH
  obtain ⟨q0, he0⟩ := hm _ _ ha0
  obtain ⟨q1, he1⟩ := hm _ _ ha
  have hc0 : (iv 0).toNatClampNeg = 0 := by decide
  have hcn : (iv (nA : Int)).toNatClampNeg = nA := by rw [iv_clamp (by omega)]; omega
  refine va_copyi hx hb hml hown hlink hnat hstat hini hK.1 hP hD hS q0 q1 0 0 he0 he1 rfl rfl rfl (by decide) (by decide) (fun q => by have q2 : iv (nA : Int) < iv 0 := q; rw [iv_lt (by omega) (by omega)] at q2; omega) (by rw [hc0, hcn]; omega) (by rw [hc0, hcn]; omega) (fun _ _ => rfl) hframes hlocals hdg fun H1 locs1 hP1 hD1 hS1 => ?_
  rw [hc0, hcn] at hP1 hD1
  have hcp : (va_cpy (fun j => iv (f j)) (fun j => iv (g j)) 0 0 nA) = fun j => iv (if j < nA then f j else g j) := by
    funext j
    by_cases hj : j < nA
    · rw [pk_cpy_in (Nat.zero_le _) (by omega)]; simp [hj]
    · rw [pk_cpy_out (by omega)]; simp [hj]
  rw [hcp] at hP1 hD1
  exact kk H1.size H1 locs1 (gP.upd rfl hP1 hD1 he1 hm) hS1
theorem m_min (hx : p.tables.exec = Jvm.exec) (hb : c.code = cc) (hml : c.maxLocals = ls.size) {own : String} {index : Nat} (hown : s.vm.findClass own = some m.cls) (hlink : (Cond.methodLink own index Lib.Math.min.name).before args s = true) (hstat : (Cond.static Lib.Math.min.name).before args s = true) (hini : (Cond.initialized "java/lang/Math").before args s = true) (hcode : (Cond.code Lib.Math.min.name Lib.Math.min.code 2 (some .int)).before args s = true) (hframes : 1 ≤ R.frames) (hlocals : (rest.map fun v => v.category).sum + 13 ≤ R.locals) (hc : cells ≤ R.cells) (hs : slots ≤ R.slots) {a b : Int} (hdg : decode cc pc = .ok (.invokestatic index, 3)) (kk : W p l e R s m args below meth c H locs cells slots Q (F0 m (pc + 3) ls (.int (iv (min a b)) :: rest))) (ha : -2147483648 ≤ a ∧ a ≤ 2147483647 := by omega) (hb2 : -2147483648 ≤ b ∧ b ≤ 2147483647 := by omega) : W p l e R s m args below meth c H locs cells slots Q (F0 m pc ls (.int (iv b) :: .int (iv a) :: rest)) := va_mmin hx hb hml hown hlink hstat hini hcode hframes hlocals hc hs hdg (by rw [iv_min ha hb2]; exact kk)
theorem m_max (hx : p.tables.exec = Jvm.exec) (hb : c.code = cc) (hml : c.maxLocals = ls.size) {own : String} {index : Nat} (hown : s.vm.findClass own = some m.cls) (hlink : (Cond.methodLink own index Lib.Math.max.name).before args s = true) (hstat : (Cond.static Lib.Math.max.name).before args s = true) (hini : (Cond.initialized "java/lang/Math").before args s = true) (hcode : (Cond.code Lib.Math.max.name Lib.Math.max.code 2 (some .int)).before args s = true) (hframes : 1 ≤ R.frames) (hlocals : (rest.map fun v => v.category).sum + 13 ≤ R.locals) (hc : cells ≤ R.cells) (hs : slots ≤ R.slots) {a b : Int} (hdg : decode cc pc = .ok (.invokestatic index, 3)) (kk : W p l e R s m args below meth c H locs cells slots Q (F0 m (pc + 3) ls (.int (iv (max a b)) :: rest))) (ha : -2147483648 ≤ a ∧ a ≤ 2147483647 := by omega) (hb2 : -2147483648 ≤ b ∧ b ≤ 2147483647 := by omega) : W p l e R s m args below meth c H locs cells slots Q (F0 m pc ls (.int (iv b) :: .int (iv a) :: rest)) := va_mmax hx hb hml hown hlink hstat hini hcode hframes hlocals hc hs hdg (by rw [iv_max ha hb2]; exact kk)
theorem m_abs (hx : p.tables.exec = Jvm.exec) (hb : c.code = cc) (hml : c.maxLocals = ls.size) {own : String} {index : Nat} (hown : s.vm.findClass own = some m.cls) (hlink : (Cond.methodLink own index Lib.Math.abs.name).before args s = true) (hstat : (Cond.static Lib.Math.abs.name).before args s = true) (hini : (Cond.initialized "java/lang/Math").before args s = true) (hcode : (Cond.code Lib.Math.abs.name Lib.Math.abs.code 1 (some .int)).before args s = true) (hframes : 1 ≤ R.frames) (hlocals : (rest.map fun v => v.category).sum + 13 ≤ R.locals) (hc : cells ≤ R.cells) (hs : slots ≤ R.slots) {a : Int} (hdg : decode cc pc = .ok (.invokestatic index, 3)) (kk : W p l e R s m args below meth c H locs cells slots Q (F0 m (pc + 3) ls (.int (iv (if 0 ≤ a then a else -a)) :: rest))) (ha : -2147483648 ≤ a ∧ a ≤ 2147483647 := by omega) : W p l e R s m args below meth c H locs cells slots Q (F0 m pc ls (.int (iv a) :: rest)) := va_mabs hx hb hml hown hlink hstat hini hcode hframes hlocals hc hs hdg (by rw [iv_abs ha]; exact kk)
theorem m_iret (hx : p.tables.exec = Jvm.exec) (hb : c.code = cc) (hr : meth.sig.returnType = some .int) (hlocks : meth.locks = false) (hH : gP G μ n H) (hS : va_S (gA G) s.heap H locs) {post : Int → hM → Nat → Prop} {z : Int} (hdg : decode cc pc = .ok (.ireturn, 1)) (hp : post z μ n) (hz : -2147483648 ≤ z ∧ z ≤ 2147483647 := by omega) : W p l e R s m args below meth c H locs cells slots (MQ below (mQi G post) args s cells slots (gA G)) (F0 m pc ls [.int (iv z)]) :=
  W.iret hx hb hr (fun t ht _ => ⟨⟨iv z, (μ, n), rfl, ⟨z, rfl, hz, hp⟩, by show gP G μ n t.heap; rw [ht]; exact hH⟩, hS.F ht⟩) (fun q hq => hS.2.2 q hq) hdg hlocks
theorem m_zret (hx : p.tables.exec = Jvm.exec) (hb : c.code = cc) (hr : meth.sig.returnType = some .boolean) (hlocks : meth.locks = false) (hH : gP G μ n H) (hS : va_S (gA G) s.heap H locs) {post : Int → hM → Nat → Prop} {z : Int} (hdg : decode cc pc = .ok (.ireturn, 1)) (hp : post z μ n) (hz : z = 0 ∨ z = 1 := by omega) : W p l e R s m args below meth c H locs cells slots (MQ below (mQi G post) args s cells slots (gA G)) (F0 m pc ls [.int (iv z)]) :=
  W.zret hx hb hr (by rcases hz with rfl | rfl <;> rfl) (fun t ht _ => ⟨⟨iv z, (μ, n), rfl, ⟨z, rfl, by omega, hp⟩, by show gP G μ n t.heap; rw [ht]; exact hH⟩, hS.F ht⟩) (fun q hq => hS.2.2 q hq) hdg hlocks
theorem m_vret (hx : p.tables.exec = Jvm.exec) (hb : c.code = cc) (hr : meth.sig.returnType = none) (hlocks : meth.locks = false) (hH : gP G μ n H) (hS : va_S (gA G) s.heap H locs) {post : hM → Nat → Prop} (hdg : decode cc pc = .ok (.return_, 1)) (hp : post μ n) : W p l e R s m args below meth c H locs cells slots (MQ below (mQv G post) args s cells slots (gA G)) (F0 m pc ls []) :=
  W.vret hx hb hr (fun t ht _ => ⟨⟨(μ, n), rfl, hp, by show gP G μ n t.heap; rw [ht]; exact hH⟩, hS.F ht⟩) (fun q hq => hS.2.2 q hq) hdg hlocks
theorem m_callVi {y : MethodName} {bytes : ByteArray} {maxL nL mc ms na index : Nat} {ret : Option FieldType} {ws : List Cond} {rm : Room} {Ts : List Cond} {own C : String} {b : Nat} {As st0 : List Value} {ci : Nat} {fs : List Value} {q : vw_C} {post : Int → hM → Nat → Prop} (S : CallFix p m c cc nL s args Ts own) (hK : gK G s) (hH : gP G μ n H) (hS : va_S (gA G) s.heap H locs) (hMet : Met l y ws rm (mPc G μ n (.ref b :: As)) (mQi G post) mc ms (gA G)) (cw : CallW R s args own C index y bytes maxL ret ws rm mc ms na) (hbr : μ b = some (.inr (ci, fs))) (hcl : vwCl[ci]? = some q) (hqC : q.1 = C) (hst : st0 = As.reverse ++ .ref b :: rest) (hn : As.length = na) (hsize : ls.size = nL) (hW : (rest.map fun v => v.category).sum ≤ 8) (hdg : decode cc pc = .ok (.invokevirtual index, 3)) (hf : cells + mc ≤ R.cells ∧ slots + ms ≤ R.slots) (kk : ∀ (z : Int) (μ1 : hM) (n1 : Nat) (H1 : Heap) (locs1 : List Loc), (-2147483648 ≤ z ∧ z ≤ 2147483647) → post z μ1 n1 → gP G μ1 n1 H1 → va_S (gA G) s.heap H1 locs1 → W p l e R s m args below meth c H1 locs1 (cells + mc) (slots + ms) Q (F0 m (pc + 3) ls (.int (iv z) :: rest))) : W p l e R s m args below meth c H locs cells slots Q (F0 m pc ls st0) :=
  va_calli (va_runV S hMet cw ⟨mPc.blind, by rw [← hqC]; exact gP.recv hK hH hbr hcl, fun U hU hW2 => mPc.of hK hS hH hU hW2⟩ rfl hn hsize hst (by show 2 * 0 + _ ≤ 8; omega) hdg hf) hS (fun q _ h => h) (fun q h => h) (fun r u t H1 locs1 ht hvm hw hB hz1 hk1 hS1 => by
    obtain ⟨z, rfl, hz, hp⟩ := hw
    exact kk z u.1 u.2 H1 locs1 hz hp (by rw [← ht]; exact hB) hS1)
theorem m_callVv {y : MethodName} {bytes : ByteArray} {maxL nL mc ms na index : Nat} {ret : Option FieldType} {ws : List Cond} {rm : Room} {Ts : List Cond} {own C : String} {b : Nat} {As st0 : List Value} {ci : Nat} {fs : List Value} {q : vw_C} {post : hM → Nat → Prop} (S : CallFix p m c cc nL s args Ts own) (hK : gK G s) (hH : gP G μ n H) (hS : va_S (gA G) s.heap H locs) (hMet : Met l y ws rm (mPc G μ n (.ref b :: As)) (mQv G post) mc ms (gA G)) (cw : CallW R s args own C index y bytes maxL ret ws rm mc ms na) (hbr : μ b = some (.inr (ci, fs))) (hcl : vwCl[ci]? = some q) (hqC : q.1 = C) (hst : st0 = As.reverse ++ .ref b :: rest) (hn : As.length = na) (hsize : ls.size = nL) (hW : (rest.map fun v => v.category).sum ≤ 8) (hdg : decode cc pc = .ok (.invokevirtual index, 3)) (hf : cells + mc ≤ R.cells ∧ slots + ms ≤ R.slots) (kk : ∀ (μ1 : hM) (n1 : Nat) (H1 : Heap) (locs1 : List Loc), post μ1 n1 → gP G μ1 n1 H1 → va_S (gA G) s.heap H1 locs1 → W p l e R s m args below meth c H1 locs1 (cells + mc) (slots + ms) Q (F0 m (pc + 3) ls rest)) : W p l e R s m args below meth c H locs cells slots Q (F0 m pc ls st0) :=
  va_callv (va_runV S hMet cw ⟨mPc.blind, by rw [← hqC]; exact gP.recv hK hH hbr hcl, fun U hU hW2 => mPc.of hK hS hH hU hW2⟩ rfl hn hsize hst (by show 2 * 0 + _ ≤ 8; omega) hdg hf) hS (fun q _ h => h) (fun q h => h) (fun u t H1 locs1 ht hvm hw hB hz1 hk1 hS1 => kk u.1 u.2 H1 locs1 hw (by rw [← ht]; exact hB) hS1)
theorem m_callSi {y : MethodName} {bytes : ByteArray} {maxL nL mc ms na index : Nat} {ret : Option FieldType} {ws : List Cond} {rm : Room} {Ts : List Cond} {own : String} {As st0 : List Value} {post : Int → hM → Nat → Prop} (S : CallFix p m c cc nL s args Ts own) (hK : gK G s) (hH : gP G μ n H) (hS : va_S (gA G) s.heap H locs) (hMet : Met l y ws rm (mPc G μ n As) (mQi G post) mc ms (gA G)) (cw : CallB R s args own index y bytes maxL ret ws rm mc ms na ∧ (Cond.static y).before args s = true) (hst : st0 = As.reverse ++ rest) (hn : As.length = na) (hsize : ls.size = nL) (hW : (rest.map fun v => v.category).sum ≤ 8) (hdg : decode cc pc = .ok (.invokestatic index, 3)) (hf : cells + mc ≤ R.cells ∧ slots + ms ≤ R.slots) (kk : ∀ (z : Int) (μ1 : hM) (n1 : Nat) (H1 : Heap) (locs1 : List Loc), (-2147483648 ≤ z ∧ z ≤ 2147483647) → post z μ1 n1 → gP G μ1 n1 H1 → va_S (gA G) s.heap H1 locs1 → W p l e R s m args below meth c H1 locs1 (cells + mc) (slots + ms) Q (F0 m (pc + 3) ls (.int (iv z) :: rest))) : W p l e R s m args below meth c H locs cells slots Q (F0 m pc ls st0) :=
  va_calli (va_runS S hMet cw ⟨mPc.blind, fun U hU hW2 => mPc.of hK hS hH hU hW2⟩ rfl hn hsize hst (by show 2 * 0 + _ ≤ 8; omega) hdg hf) hS (fun q _ h => h) (fun q h => h) (fun r u t H1 locs1 ht hvm hw hB hz1 hk1 hS1 => by
    obtain ⟨z, rfl, hz, hp⟩ := hw
    exact kk z u.1 u.2 H1 locs1 hz hp (by rw [← ht]; exact hB) hS1)
theorem m_callSv {y : MethodName} {bytes : ByteArray} {maxL nL mc ms na index : Nat} {ret : Option FieldType} {ws : List Cond} {rm : Room} {Ts : List Cond} {own : String} {As st0 : List Value} {post : hM → Nat → Prop} (S : CallFix p m c cc nL s args Ts own) (hK : gK G s) (hH : gP G μ n H) (hS : va_S (gA G) s.heap H locs) (hMet : Met l y ws rm (mPc G μ n As) (mQv G post) mc ms (gA G)) (cw : CallB R s args own index y bytes maxL ret ws rm mc ms na ∧ (Cond.static y).before args s = true) (hst : st0 = As.reverse ++ rest) (hn : As.length = na) (hsize : ls.size = nL) (hW : (rest.map fun v => v.category).sum ≤ 8) (hdg : decode cc pc = .ok (.invokestatic index, 3)) (hf : cells + mc ≤ R.cells ∧ slots + ms ≤ R.slots) (kk : ∀ (μ1 : hM) (n1 : Nat) (H1 : Heap) (locs1 : List Loc), post μ1 n1 → gP G μ1 n1 H1 → va_S (gA G) s.heap H1 locs1 → W p l e R s m args below meth c H1 locs1 (cells + mc) (slots + ms) Q (F0 m (pc + 3) ls rest)) : W p l e R s m args below meth c H locs cells slots Q (F0 m pc ls st0) :=
  va_callv (va_runS S hMet cw ⟨mPc.blind, fun U hU hW2 => mPc.of hK hS hH hU hW2⟩ rfl hn hsize hst (by show 2 * 0 + _ ≤ 8; omega) hdg hf) hS (fun q _ h => h) (fun q h => h) (fun u t H1 locs1 ht hvm hw hB hz1 hk1 hS1 => kk u.1 u.2 H1 locs1 hw (by rw [← ht]; exact hB) hS1)
theorem m_callIv {y : MethodName} {bytes : ByteArray} {maxL nL mc ms na index : Nat} {ws : List Cond} {rm : Room} {Ts : List Cond} {own : String} {b : Nat} {As st0 : List Value} {post : hM → Nat → Prop} (S : CallFix p m c cc nL s args Ts own) (hK : gK G s) (hH : gP G μ n H) (hS : va_S (gA G) s.heap H locs) (hMet : Met l y ws rm (mPc G μ n (.ref b :: As)) (mQv G post) mc ms (gA G)) (cw : CallB R s args own index y bytes maxL none ws rm mc ms na ∧ y.name = "<init>" ∧ (Cond.instanceMethod y).before args s = true) (hst : st0 = As.reverse ++ .ref b :: rest) (hn : As.length = na) (hsize : ls.size = nL) (hW : (rest.map fun v => v.category).sum ≤ 8) (hdg : decode cc pc = .ok (.invokespecial index, 3)) (hf : cells + mc ≤ R.cells ∧ slots + ms ≤ R.slots) (kk : ∀ (μ1 : hM) (n1 : Nat) (H1 : Heap) (locs1 : List Loc), post μ1 n1 → gP G μ1 n1 H1 → va_S (gA G) s.heap H1 locs1 → W p l e R s m args below meth c H1 locs1 (cells + mc) (slots + ms) Q (F0 m (pc + 3) ls rest)) : W p l e R s m args below meth c H locs cells slots Q (F0 m pc ls st0) :=
  va_callv (va_runI S hMet cw ⟨mPc.blind, fun U hU hW2 => mPc.of hK hS hH hU hW2⟩ rfl hn hsize hst (by show 2 * 0 + _ ≤ 8; omega) hdg hf) hS (fun q _ h => h) (fun q h => h) (fun u t H1 locs1 ht hvm hw hB hz1 hk1 hS1 => kk u.1 u.2 H1 locs1 hw (by rw [← ht]; exact hB) hS1)
theorem m_callSNi {y : MethodName} {bytes : ByteArray} {maxL nL mc ms na index : Nat} {ret : Option FieldType} {ws : List Cond} {rm : Room} {Ts : List Cond} {own : String} {As st0 : List Value} {host : String} {post : Int → hM → Nat → Prop} (S : CallFix p m c cc nL s args Ts own) (hK : gK G s) (hH : gP G μ n H) (hS : va_S (gA G) s.heap H locs) (hMet : Met l y ws rm (mPc G μ n As) (mQi G post) mc ms (gA G)) (cw : va_CN R s args own index y host bytes maxL ret ws rm mc ms na ∧ (Cond.static y).before args s = true ∧ True) (hst : st0 = As.reverse ++ rest) (hn : As.length = na) (hsize : ls.size = nL) (hW : (rest.map fun v => v.category).sum ≤ 8) (hdg : decode cc pc = .ok (.invokestatic index, 3)) (hf : cells + mc ≤ R.cells ∧ slots + ms ≤ R.slots) (kk : ∀ (z : Int) (μ1 : hM) (n1 : Nat) (H1 : Heap) (locs1 : List Loc), (-2147483648 ≤ z ∧ z ≤ 2147483647) → post z μ1 n1 → gP G μ1 n1 H1 → va_S (gA G) s.heap H1 locs1 → W p l e R s m args below meth c H1 locs1 (cells + mc) (slots + ms) Q (F0 m (pc + 3) ls (.int (iv z) :: rest))) : W p l e R s m args below meth c H locs cells slots Q (F0 m pc ls st0) :=
  va_calli (va_runSN S hMet cw ⟨mPc.blind, fun U hU hW2 => mPc.of hK hS hH hU hW2⟩ rfl hn hsize hst (by show 2 * 0 + _ ≤ 8; omega) hdg hf) hS (fun q _ h => h) (fun q h => h) (fun r u t H1 locs1 ht hvm hw hB hz1 hk1 hS1 => by
    obtain ⟨z, rfl, hz, hp⟩ := hw
    exact kk z u.1 u.2 H1 locs1 hz hp (by rw [← ht]; exact hB) hS1)
theorem m_callINv {y : MethodName} {bytes : ByteArray} {maxL nL mc ms na index : Nat} {ws : List Cond} {rm : Room} {Ts : List Cond} {own : String} {b : Nat} {As st0 : List Value} {host : String} {post : hM → Nat → Prop} (S : CallFix p m c cc nL s args Ts own) (hK : gK G s) (hH : gP G μ n H) (hS : va_S (gA G) s.heap H locs) (hMet : Met l y ws rm (mPc G μ n (.ref b :: As)) (mQv G post) mc ms (gA G)) (cw : va_CN R s args own index y host bytes maxL none ws rm mc ms na ∧ y.name = "<init>" ∧ (Cond.instanceMethod y).before args s = true) (hst : st0 = As.reverse ++ .ref b :: rest) (hn : As.length = na) (hsize : ls.size = nL) (hW : (rest.map fun v => v.category).sum ≤ 8) (hdg : decode cc pc = .ok (.invokespecial index, 3)) (hf : cells + mc ≤ R.cells ∧ slots + ms ≤ R.slots) (kk : ∀ (μ1 : hM) (n1 : Nat) (H1 : Heap) (locs1 : List Loc), post μ1 n1 → gP G μ1 n1 H1 → va_S (gA G) s.heap H1 locs1 → W p l e R s m args below meth c H1 locs1 (cells + mc) (slots + ms) Q (F0 m (pc + 3) ls rest)) : W p l e R s m args below meth c H locs cells slots Q (F0 m pc ls st0) :=
  va_callv (va_runIN S hMet cw ⟨mPc.blind, fun U hU hW2 => mPc.of hK hS hH hU hW2⟩ rfl hn hsize hst (by show 2 * 0 + _ ≤ 8; omega) hdg hf) hS (fun q _ h => h) (fun q h => h) (fun u t H1 locs1 ht hvm hw hB hz1 hk1 hS1 => kk u.1 u.2 H1 locs1 hw (by rw [← ht]; exact hB) hS1)
theorem j_top {x : Int} (k : ∀ y : Int, y = x → W p l e R s m args below meth c H locs cells slots Q (F0 m pc ls (.int (iv y) :: rest))) : W p l e R s m args below meth c H locs cells slots Q (F0 m pc ls (.int (iv x) :: rest)) := k x rfl
theorem j_norm {x y : Int} (h : x = y) (k : W p l e R s m args below meth c H locs cells slots Q (F0 m pc ls (.int (iv y) :: rest))) : W p l e R s m args below meth c H locs cells slots Q (F0 m pc ls (.int (iv x) :: rest)) := by
  rw [h]
  exact k
end ROWS
