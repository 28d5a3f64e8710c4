/-! the whole as numbers: a state's numbers and its chain; the state, how many are remembered, those, whether a snapshot is kept, that, the text, its length -/
abbrev dT : Type := (Nat → Int) × List (Int × Int)
abbrev aS : Type := dT × Int × (Nat → dT) × Int × dT × (Nat → Int) × Int
abbrev aD (s : aS) : dT := s.1
abbrev aN (s : aS) : Int := s.2.1
abbrev aH (s : aS) : Nat → dT := s.2.2.1
abbrev aT (s : aS) : Int := s.2.2.2.1
abbrev aK (s : aS) : dT := s.2.2.2.2.1
abbrev aC (s : aS) : Nat → Int := s.2.2.2.2.2.1
abbrev aL (s : aS) : Int := s.2.2.2.2.2.2
def aAct (s : aS) (d : dT) : aS := (d, min 4 (aN s + 1), hiS (aN s) (aH s) (aD s), s.2.2.2)
def aStart : aS := ((s0, []), 0, fun _ => (s0, []), 0, (s0, []), fun _ => 0, 0)
def a_pass (s : aS) (k : Int) : aS × Int := if 1 ≤ k ∧ k ≤ 999 then (if (aD s).1 3 + k ≤ 36524 then (aAct s (fu (aD s).1 3 ((aD s).1 3 + k), (aD s).2), (aD s).1 3 + k) else (s, -3)) else (s, -2)
def a_adjust (s : aS) (k : Int) : aS × Int := if 0 ≤ k ∧ k ≤ 36524 then (aAct s (adj (aD s).1 (dig k), (aD s).2), wsm (aD s).1 (dig k) 0 6) else (s, -1)
def a_turn (s : aS) (p k : Int) : aS × Int := if 0 ≤ p ∧ p ≤ 5 then (if k ≠ 0 ∧ -9 ≤ k ∧ k ≤ 9 then (aAct s (trn (aD s).1 p.toNat k, (aD s).2), ((aD s).1 (86 + 13 * p.toNat) + k) % 10) else (s, -2)) else (s, -1)
def a_press (s : aS) (k t : Int) : aS × Int := if (1 ≤ k ∧ k ≤ 9) ∧ 1 ≤ t ∧ t ≤ 99 then (aAct s (nPr (aD s).1 k t.toNat, chAdd (aD s).2 ((aD s).1 3) (nRt (aD s).1 k t.toNat)), nRt (aD s).1 k t.toNat) else (s, -2)
def a_fill (s : aS) (k : Int) : aS × Int := if 1 ≤ k ∧ k ≤ 200 then (if 200 ≤ (aD s).1 4 then (s, -5) else (aAct s (fu (aD s).1 4 (min 200 ((aD s).1 4 + k)), (aD s).2), min 200 ((aD s).1 4 + k))) else (s, -2)
def a_exchange (s : aS) (p q : Int) : aS × Int := if (0 ≤ p ∧ p ≤ 5) ∧ 0 ≤ q ∧ q ≤ 5 then (if p = q then (s, -5) else (aAct s (swpS (aD s).1 p.toNat q.toNat, (aD s).2), (aD s).1 (85 + 13 * q.toNat))) else (s, -1)
def a_tighten (s : aS) (p : Int) : aS × Int := if 0 ≤ p ∧ p ≤ 5 then (if (aD s).1 (87 + 13 * p.toNat) = 0 then (s, -5) else (aAct s (fu (aD s).1 (87 + 13 * p.toNat) 0, (aD s).2), (aD s).1 (87 + 13 * p.toNat))) else (s, -1)
/-- a new band in a place -/
def rnw (σ : Nat → Int) (p : Nat) : Nat → Int := fun j => if 86 + 13 * p ≤ j ∧ j ≤ 97 + 13 * p then 0 else σ j
def a_replace (s : aS) (p : Int) : aS × Int := if 0 ≤ p ∧ p ≤ 5 then (aAct s (rnw (aD s).1 p.toNat, (aD s).2), bsum (roww (aD s).1 p.toNat) 10) else (s, -1)
def loSet (w : Int) : Int := if w = 0 then 10 else if w = 1 then 60 else 1
def hiSet (w : Int) : Int := if w = 0 then 60 else if w = 1 then 150 else 99
def a_set (s : aS) (w v : Int) : aS × Int := if (0 ≤ w ∧ w ≤ 2) ∧ loSet w ≤ v ∧ v ≤ hiSet w then (if (aD s).1 w.toNat = v then (s, -5) else (aAct s (fu (aD s).1 w.toNat v, (aD s).2), (aD s).1 w.toNat)) else (s, -2)
def aText (s : aS) (c : Nat → Int) (L : Int) : aS := (s.1, s.2.1, s.2.2.1, s.2.2.2.1, s.2.2.2.2.1, c, L)
def a_type (s : aS) (k : Int) : aS × Int := if aL s < 60 then (aText s (fu (aC s) (aL s).toNat k) (aL s + 1), aL s + 1) else (s, -3)
def a_clear (s : aS) : aS × Int := (aText s (aC s) 0, aL s)
def a_fault (s : aS) : aS × Int := (s, (fltF (aC s) (aL s) 61 0 0 0).1)
/-- an order is done -/
def ordD (k nu ti : Int) (d : dT) : dT :=
  if k = 100 then (adj d.1 nu, d.2) else if k = 97 then (adj d.1 (dig (d.1 3)), d.2) else if k = 112 then (nPr d.1 nu ti.toNat, chAdd d.2 (d.1 3) (nRt d.1 nu ti.toNat)) else if k = 43 then (fu d.1 3 (d.1 3 + nu), d.2) else if k = 105 then (fu d.1 4 (min 200 (d.1 4 + nu)), d.2) else d
/-- the orders are done -/
def allD (c : Nat → Int) (L : Int) : Nat → Int → dT → dT
  | 0, _, d => d
  | f + 1, a, d => allD c L f ((ordF c L a).2.1 + 1) (ordD (nxt c L a) (ordF c L a).2.2.1 (ordF c L a).2.2.2 d)
def a_doAll (s : aS) : aS × Int := if (fltF (aC s) (aL s) 61 0 0 0).1 = -5 then (if (aD s).1 3 + (fltF (aC s) (aL s) 61 0 0 0).2.2 ≤ 36524 then (aAct s (allD (aC s) (aL s) (fltF (aC s) (aL s) 61 0 0 0).2.1.toNat 0 (aD s)), (fltF (aC s) (aL s) 61 0 0 0).2.1) else (s, -3)) else (s, -100 - (fltF (aC s) (aL s) 61 0 0 0).1)
def a_undo (s : aS) : aS × Int := if aN s = 0 then (s, -5) else ((aH s (aN s - 1).toNat, aN s - 1, s.2.2), aN s - 1)
def a_keep (s : aS) : aS × Int := ((s.1, s.2.1, s.2.2.1, 1, s.1, s.2.2.2.2.2), (aD s).1 3)
def a_restore (s : aS) : aS × Int := if aT s = 0 then (s, -5) else (aAct s (aK s), (aK s).1 3)
def a_date (k w : Int) : Int := if 0 ≤ k ∧ k ≤ 36524 then (if w = 0 then dig k / 10000 else if w = 1 then dig k / 100 % 100 else if w = 2 then dig k % 100 else if w = 3 then dig k else -2) else -1
def a_day (D : Int) : Int := if 0 ≤ D ∧ D ≤ 999999 then dday D else -2
def a_band (σ : Nat → Int) (p w : Int) : Int := if 0 ≤ p ∧ p ≤ 5 then (if w = 0 then σ (85 + 13 * p.toNat) else if w = 1 then σ (86 + 13 * p.toNat) else if w = 2 then σ (87 + 13 * p.toNat) else if w = 3 then roww σ p.toNat (bmost (roww σ p.toNat) 9) else if w = 4 then bleast (roww σ p.toNat) 10 else if w = 5 then (bmost (roww σ p.toNat) 9 : Int) else if w = 6 then drk σ p.toNat 5 + 100 else -2) else -1
def a_wear (σ : Nat → Int) (p k : Int) : Int := if 0 ≤ p ∧ p ≤ 5 then (if 0 ≤ k ∧ k ≤ 9 then roww σ p.toNat k.toNat else -2) else -1
/-- the places of a print that are clear -/
def clr (σ : Nat → Int) (i : Nat) : Nat := 63 - ((σ (15 + 6 * i)).toNat ||| (σ (16 + 6 * i)).toNat)
def a_print (σ : Nat → Int) (i w : Int) : Int := if 0 ≤ i ∧ i < 12 ∧ i < σ 5 then (if w = 0 then σ (13 + 6 * i.toNat) else if w = 1 then σ (14 + 6 * i.toNat) else if w = 2 then σ (15 + 6 * i.toNat) else if w = 3 then σ (16 + 6 * i.toNat) else if w = 4 then σ (17 + 6 * i.toNat) else if w = 5 then σ (18 + 6 * i.toNat) else if w = 6 then acnt (σ (13 + 6 * i.toNat)) (clr σ i.toNat) 36525 else if w = 7 then afst (σ (13 + 6 * i.toNat)) (clr σ i.toNat) 36525 else -2) else -1
def a_rightOf (d : dT) (k : Int) : Int := if 0 ≤ k ∧ k ≤ 36524 then wr32 (chOf d.2 k) else -1
def a_count (s : aS) (w : Int) : Int := if w = 0 then (aD s).1 3 else if w = 1 then (aD s).1 4 else if w = 2 then (aD s).1 5 else if w = 3 then wr32 ((aD s).1 6) else if w = 4 then wr32 ((aD s).1 7) else if w = 5 then wr32 ((aD s).1 8) else if w = 6 then wr32 ((aD s).1 9) else if w = 7 then wr32 ((aD s).1 10) else if w = 8 then (if shw (aD s).1 6 = dig ((aD s).1 3) then 1 else 0) else if w = 9 then dday (shw (aD s).1 6) else if w = 10 then wr32 ((aD s).2.length : Int) else if w = 11 then aN s else if w = 12 then aL s else if w = 13 then (aD s).1 0 else if w = 14 then (aD s).1 1 else if w = 15 then (aD s).1 2 else -2
def a_stepsTo (σ : Nat → Int) (k : Int) : Int := if 0 ≤ k ∧ k ≤ 36524 then wsm σ (dig k) 0 6 else -1
/-- the least strength, tried from one on -/
def lpF (σ : Nat → Int) : Nat → Int → Int
  | 0, _ => -5
  | f + 1, k => if fbN σ k 6 = 0 ∧ sbN σ k 6 = 0 then k else lpF σ f (k + 1)
def a_leastPress (σ : Nat → Int) : Int := lpF σ 9 1
/-- how many days a stamp lasts, today and so many days tried; 200: none ends it -/
def lsF (td k t ink : Int) : Nat → Int → (Nat → Int) → Int
  | 0, _, _ => 200
  | f + 1, n, τ => if td + n ≤ 36524 then (if okN (adj τ (dig (td + n))) (dig (td + n)) k t.toNat = 1 then lsF td k t ink f (n + 1) (fu (nOnce (adj τ (dig (td + n))) k t.toNat) 4 ink) else n) else 200
def lasF (σ : Nat → Int) (k t : Int) : Int := lsF (σ 3) k t (σ 4) 200 0 σ
def a_lasts (σ : Nat → Int) (k t : Int) : Int := if (1 ≤ k ∧ k ≤ 9) ∧ 1 ≤ t ∧ t ≤ 20 then (if lasF σ k t = 200 then -5 else lasF σ k t) else -2
/-- what an exchange brings: the longest so far, and which -/
def beS (σ : Nat → Int) (k t : Int) (p q : Nat) (x : Int × Int) : Int × Int := if x.1 < lasF (swpS σ p q) k t then (lasF (swpS σ p q) k t, 10 * (p : Int) + q) else x
/-- the second place goes from q on -/
def beQ (σ : Nat → Int) (k t : Int) (p : Nat) : Nat → Nat → Int × Int → Int × Int
  | 0, _, x => x
  | f + 1, q, x => beQ σ k t p f (q + 1) (beS σ k t p q x)
def beP (σ : Nat → Int) (k t : Int) : Nat → Nat → Int × Int → Int × Int
  | 0, _, x => x
  | f + 1, p, x => beP σ k t f (p + 1) (beQ σ k t p (5 - p) (p + 1) x)
def a_best (σ : Nat → Int) (k t : Int) : Int := if (1 ≤ k ∧ k ≤ 9) ∧ 1 ≤ t ∧ t ≤ 20 then (beP σ k t 6 0 (lasF σ k t, -5)).2 else -2
/-! what the class's objects are: x the whole, from x + 1 the state, x + 30 the history, x + 148 the snapshot, x + 177 the text, x + 179 the trial; from rb on the chains -/
def OkD (d : dT) : Prop := OkT d.1 ∧ ∀ x ∈ d.2, 0 ≤ x.1 ∧ x.1 ≤ 40000
def IsDT (G : wG) (μ : hM) (sa rb : Nat) (d : dT) : Prop := ∃ (π : Nat → Nat) (fp sp : Int) (rd : Option Nat), IsState G μ sa π d.1 fp sp rd ∧ Chn μ rb rd d.2 ∧ OkD d
def IsDH (G : wG) (μ : hM) (h rb : Nat) (sz : Int) (ds : Nat → dT) : Prop := ∃ (ρ : Nat → Nat) (πs : Nat → Nat → Nat) (fps sps : Nat → Int) (rds : Nat → Option Nat), IsHist G μ h ρ sz πs (fun r => (ds r).1) fps sps rds ∧ ∀ r, r < 4 → Chn μ rb (rds r) (ds r).2 ∧ OkD (ds r)
def IsDX (G : wG) (μ : hM) (tx : Nat) (c : Nat → Int) (L : Int) : Prop := ∃ o d ki nu ti a : Int, IsText G μ tx c L o d ki nu ti a
def IsDR (G : wG) (μ : hM) (st : Nat) : Prop := ∃ (π : Nat → Nat) (τ : Nat → Int) (fp sp : Int), IsSt G μ st π τ fp sp ∧ OkS τ
def IsD (G : wG) (μ : hM) (x rb : Nat) (s : aS) : Prop :=
  μ x = some (.inr (7, [.ref (x + 1), .ref (x + 30), .ref (x + 148), .int (iv (aT s)), .ref (x + 177), .ref (x + 179)])) ∧
  IsDT G μ (x + 1) rb (aD s) ∧ IsDH G μ (x + 30) rb (aN s) (aH s) ∧ IsDT G μ (x + 148) rb (aK s) ∧ IsDX G μ (x + 177) (aC s) (aL s) ∧ IsDR G μ (x + 179) ∧
  ((0 ≤ aN s ∧ aN s ≤ 4) ∧ (0 ≤ aT s ∧ aT s ≤ 1) ∧ OkC (aC s) (aL s) ∧ x + 194 ≤ rb ∧ ∃ e, μ (rb - 1) = some e)
/-- what stays: all but the whole's own cells -/
def DFr (x : Nat) (μ ν : hM) : Prop := ∀ q e, (q < x ∨ x + 194 ≤ q) → μ q = some e → ν q = some e
theorem DFr.rf {x : Nat} {μ : hM} : DFr x μ μ := fun _ _ _ h => h
theorem DFr.tr {x : Nat} {μ ν ξ : hM} (h : DFr x μ ν) (h2 : DFr x ν ξ) : DFr x μ ξ := fun q e a b => h2 q e a (h q e a b)
theorem IsDT.mn {G : wG} {μ ν : hM} {sa rb : Nat} {d : dT} (h : IsDT G μ sa rb d) (h1 : ∀ q e, sa ≤ q → q < sa + 29 → μ q = some e → ν q = some e) (h2 : ∀ q e, rb ≤ q → μ q = some e → ν q = some e) : IsDT G ν sa rb d := by
  obtain ⟨π, fp, sp, rd, a, b, c⟩ := h
  exact ⟨π, fp, sp, rd, a.mn h1, b.fr h2, c⟩
theorem IsDH.mn {G : wG} {μ ν : hM} {h rb : Nat} {sz : Int} {ds : Nat → dT} (hh : IsDH G μ h rb sz ds) (h1 : ∀ q e, h ≤ q → q < h + 118 → μ q = some e → ν q = some e) (h2 : ∀ q e, rb ≤ q → μ q = some e → ν q = some e) : IsDH G ν h rb sz ds := by
  obtain ⟨ρ, πs, fps, sps, rds, a, b⟩ := hh
  exact ⟨ρ, πs, fps, sps, rds, a.mn h1, fun r hr => ⟨(b r hr).1.fr h2, (b r hr).2⟩⟩
theorem IsDX.mn {G : wG} {μ ν : hM} {tx : Nat} {c : Nat → Int} {L : Int} (h : IsDX G μ tx c L) (hq : ∀ q e, tx ≤ q → q < tx + 2 → μ q = some e → ν q = some e) : IsDX G ν tx c L := by
  obtain ⟨o, d, ki, nu, ti, a, h⟩ := h
  exact ⟨o, d, ki, nu, ti, a, h.mn hq⟩
theorem IsDR.mn {G : wG} {μ ν : hM} {st : Nat} (h : IsDR G μ st) (hq : ∀ q e, st ≤ q → q < st + 15 → μ q = some e → ν q = some e) : IsDR G ν st := by
  obtain ⟨π, τ, fp, sp, a, b⟩ := h
  exact ⟨π, τ, fp, sp, a.mn hq, b⟩
theorem IsD.pS {G : wG} {μ ν : hM} {x rb : Nat} {s : aS} {d : dT} (h : IsD G μ x rb s) (hd : IsDT G ν (x + 1) rb d) (hq : ∀ q e, (q < x + 1 ∨ x + 30 ≤ q) → μ q = some e → ν q = some e) : IsD G ν x rb (d, s.2) ∧ DFr x μ ν := by
  obtain ⟨a1, a2, a3, a4, a5, a6, a7, a8, a9, a10, e, a11⟩ := h
  exact ⟨⟨hq _ _ (by omega) a1, hd, a3.mn (fun q e b c => hq q e (by omega)) (fun q e b => hq q e (by omega)), a4.mn (fun q e b c => hq q e (by omega)) (fun q e b => hq q e (by omega)), a5.mn (fun q e b c => hq q e (by omega)), a6.mn (fun q e b c => hq q e (by omega)), a7, a8, a9, a10, e, hq _ _ (by omega) a11⟩, fun q e b => hq q e (by omega)⟩
theorem IsD.pH {G : wG} {μ ν : hM} {x rb : Nat} {s : aS} {sz : Int} {ds : Nat → dT} (h : IsD G μ x rb s) (hd : IsDH G ν (x + 30) rb sz ds) (hsz : 0 ≤ sz ∧ sz ≤ 4) (hq : ∀ q e, (q < x + 30 ∨ x + 148 ≤ q) → μ q = some e → ν q = some e) : IsD G ν x rb (s.1, sz, ds, s.2.2.2) ∧ DFr x μ ν := by
  obtain ⟨a1, a2, a3, a4, a5, a6, a7, a8, a9, a10, e, a11⟩ := h
  exact ⟨⟨hq _ _ (by omega) a1, a2.mn (fun q e b c => hq q e (by omega)) (fun q e b => hq q e (by omega)), hd, a4.mn (fun q e b c => hq q e (by omega)) (fun q e b => hq q e (by omega)), a5.mn (fun q e b c => hq q e (by omega)), a6.mn (fun q e b c => hq q e (by omega)), hsz, a8, a9, a10, e, hq _ _ (by omega) a11⟩, fun q e b => hq q e (by omega)⟩
theorem IsD.pK {G : wG} {μ ν : hM} {x rb : Nat} {s : aS} {d : dT} (h : IsD G μ x rb s) (hd : IsDT G ν (x + 148) rb d) (hq : ∀ q e, (q < x + 148 ∨ x + 177 ≤ q) → μ q = some e → ν q = some e) : IsD G ν x rb (s.1, s.2.1, s.2.2.1, s.2.2.2.1, d, s.2.2.2.2.2) ∧ DFr x μ ν := by
  obtain ⟨a1, a2, a3, a4, a5, a6, a7, a8, a9, a10, e, a11⟩ := h
  exact ⟨⟨hq _ _ (by omega) a1, a2.mn (fun q e b c => hq q e (by omega)) (fun q e b => hq q e (by omega)), a3.mn (fun q e b c => hq q e (by omega)) (fun q e b => hq q e (by omega)), hd, a5.mn (fun q e b c => hq q e (by omega)), a6.mn (fun q e b c => hq q e (by omega)), a7, a8, a9, a10, e, hq _ _ (by omega) a11⟩, fun q e b => hq q e (by omega)⟩
theorem IsD.pX {G : wG} {μ ν : hM} {x rb : Nat} {s : aS} {c : Nat → Int} {L : Int} (h : IsD G μ x rb s) (hd : IsDX G ν (x + 177) c L) (hc : OkC c L) (hq : ∀ q e, (q < x + 177 ∨ x + 179 ≤ q) → μ q = some e → ν q = some e) : IsD G ν x rb (aText s c L) ∧ DFr x μ ν := by
  obtain ⟨a1, a2, a3, a4, a5, a6, a7, a8, a9, a10, e, a11⟩ := h
  exact ⟨⟨hq _ _ (by omega) a1, a2.mn (fun q e b c => hq q e (by omega)) (fun q e b => hq q e (by omega)), a3.mn (fun q e b c => hq q e (by omega)) (fun q e b => hq q e (by omega)), a4.mn (fun q e b c => hq q e (by omega)) (fun q e b => hq q e (by omega)), hd, a6.mn (fun q e b c => hq q e (by omega)), a7, a8, hc, a10, e, hq _ _ (by omega) a11⟩, fun q e b => hq q e (by omega)⟩
theorem IsD.pR {G : wG} {μ ν : hM} {x rb : Nat} {s : aS} (h : IsD G μ x rb s) (hd : IsDR G ν (x + 179)) (hq : ∀ q e, (q < x + 179 ∨ x + 194 ≤ q) → μ q = some e → ν q = some e) : IsD G ν x rb s ∧ DFr x μ ν := by
  obtain ⟨a1, a2, a3, a4, a5, a6, a7, a8, a9, a10, e, a11⟩ := h
  have hl9 : ∃ e, ν (rb - 1) = some e := by
    by_cases h9 : rb - 1 = x + 193
    · obtain ⟨π, τ, fp, sp, hI, -⟩ := hd
      exact ⟨_, by rw [h9]; exact hI.2.2.1⟩
    · exact ⟨e, hq _ _ (by omega) a11⟩
  exact ⟨⟨hq _ _ (by omega) a1, a2.mn (fun q e b c => hq q e (by omega)) (fun q e b => hq q e (by omega)), a3.mn (fun q e b c => hq q e (by omega)) (fun q e b => hq q e (by omega)), a4.mn (fun q e b c => hq q e (by omega)) (fun q e b => hq q e (by omega)), a5.mn (fun q e b c => hq q e (by omega)), hd, a7, a8, a9, a10, hl9⟩, fun q e b => hq q e (by omega)⟩
theorem IsD.pT {G : wG} {μ : hM} {x rb : Nat} {s : aS} (h : IsD G μ x rb s) (t : Int) (ht : 0 ≤ t ∧ t ≤ 1) : IsD G (hu μ x (.inr (7, [.ref (x + 1), .ref (x + 30), .ref (x + 148), .int (iv t), .ref (x + 177), .ref (x + 179)]))) x rb (s.1, s.2.1, s.2.2.1, t, s.2.2.2.2) ∧ DFr x μ (hu μ x (.inr (7, [.ref (x + 1), .ref (x + 30), .ref (x + 148), .int (iv t), .ref (x + 177), .ref (x + 179)]))) := by
  obtain ⟨a1, a2, a3, a4, a5, a6, a7, a8, a9, a10, e, a11⟩ := h
  have hq : ∀ q e, q ≠ x → μ q = some e → hu μ x (.inr (7, [.ref (x + 1), .ref (x + 30), .ref (x + 148), .int (iv t), .ref (x + 177), .ref (x + 179)])) q = some e := fun q e b c => hu_n' b c
  exact ⟨⟨hu_s, a2.mn (fun q e b c => hq q e (by omega)) (fun q e b => hq q e (by omega)), a3.mn (fun q e b c => hq q e (by omega)) (fun q e b => hq q e (by omega)), a4.mn (fun q e b c => hq q e (by omega)) (fun q e b => hq q e (by omega)), a5.mn (fun q e b c => hq q e (by omega)), a6.mn (fun q e b c => hq q e (by omega)), a7, ht, a9, a10, e, hq _ _ (by omega) a11⟩, fun q e b => hq q e (by omega)⟩
theorem hiS_map {α β : Type} (sz : Int) (f : Nat → α) (x : α) (g : α → β) : hiS sz (fun r => g (f r)) (g x) = fun r => g (hiS sz f x r) := by
  funext r
  unfold hiS
  split
  · dsimp only
    split
    · rfl
    · unfold rot
      split
      · rfl
      · split <;> rfl
  · dsimp only
    split <;> rfl
theorem hiS_all {α : Type} {P : α → Prop} {sz : Int} {f : Nat → α} {x : α} (h : ∀ r, r < 4 → P (f r)) (hx : P x) : ∀ r, r < 4 → P (hiS sz f x r) := by
  intro r hr
  unfold hiS
  split
  · dsimp only
    split
    · exact hx
    · exact rot_all (P := P) h r hr
  · dsimp only
    split
    · exact hx
    · exact h r hr
theorem hiS_all2 {α β : Type} {P : α → β → Prop} {sz : Int} {f : Nat → α} {x : α} {g : Nat → β} {y : β} (h : ∀ r, r < 4 → P (f r) (g r)) (hx : P x y) : ∀ r, r < 4 → P (hiS sz f x r) (hiS sz g y r) := by
  intro r hr
  unfold hiS
  split
  · dsimp only
    split
    · exact hx
    · rename_i h3
      rw [rot_lt f (by omega), rot_lt g (by omega)]
      exact h (r + 1) (by omega)
  · dsimp only
    split
    · exact hx
    · exact h r hr
/-- the history, one state more -/
theorem IsD.rem {G : wG} {μ ν : hM} {x rb : Nat} {s : aS} {rd : Option Nat} {rds : Nat → Option Nat} {ρ1 : Nat → Nat} {πs1 : Nat → Nat → Nat} {fps1 sps1 : Nat → Int} (h : IsD G μ x rb s) (hC : Chn μ rb rd (aD s).2) (hCs : ∀ r, r < 4 → Chn μ rb (rds r) (aH s r).2 ∧ OkD (aH s r)) (hL : IsHist G ν (x + 30) ρ1 (min 4 (aN s + 1)) πs1 (hiS (aN s) (fun r => (aH s r).1) (aD s).1) fps1 sps1 (hiS (aN s) rds rd)) (hq : ∀ q, (q < x + 30 ∨ x + 30 + 118 ≤ q) → ν q = μ q) : IsD G ν x rb (aAct s (aD s)) ∧ DFr x μ ν := by
  have hrb := h.2.2.2.2.2.2.2.2.2.1
  have hOk : OkD (aD s) := by obtain ⟨π, fp, sp, rd2, b1, b2, b3⟩ := h.2.1; exact b3
  have hsz := h.2.2.2.2.2.2.1
  rw [hiS_map (aN s) (aH s) (aD s) Prod.fst] at hL
  refine h.pH (sz := min 4 (aN s + 1)) (ds := hiS (aN s) (aH s) (aD s)) ⟨ρ1, πs1, fps1, sps1, _, hL, ?_⟩ (by omega) (fun q e a b => (hq q (by omega)).trans b)
  exact hiS_all2 (P := fun rd d => Chn ν rb rd d.2 ∧ OkD d) (fun r hr => ⟨(hCs r hr).1.fr (fun q e a b => (hq q (by omega)).trans b), (hCs r hr).2⟩) ⟨hC.fr (fun q e a b => (hq q (by omega)).trans b), hOk⟩
