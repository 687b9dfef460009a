/-! the reference's public methods, as functions of its state -/
def gTest (k tm nd : Int32) (g : GS) : Int32 × GS :=
  if rg k 0 3 = false then (-1, g) else if rg tm 1 1000 = false then (-1, g) else if k = 2 ∧ inN nd (gT g) = false then (-1, g) else if gT g = 20 then (-2, g) else
  (nI (gT g), (gFi g, gFs g, gT g + 1, upd (gKd g) (gT g) k, upd (gTi g) (gT g) tm, upd (gNd g) (gT g) (if k = 2 then nd else -9), gMs g, gBy g, gB g, gCg g, gVe g, gAs g, gMv g, gPm g, gPk g, gPt g, gPp g, gPs g, gMay g))
def gTurn (x k : Int32) (g : GS) : Int32 × GS :=
  if inN x (gT g) = false then (-1, g) else if rg k 0 3 = false then (-1, g) else if k = 2 then (-1, g) else if gKd g x.toNatClampNeg = 2 then (-3, metG g 3) else
  (gKd g x.toNatClampNeg, (gFi g, gFs g, gT g, upd (gKd g) x.toNatClampNeg k, gTi g, gNd g, gMs g, gBy g, gB g, gCg g, gVe g, gAs g, gMv g, gPm g, gPk g, gPt g, gPp g, gPs g, gMay g))
def gReach (x i b : Int32) (g : GS) : Int32 × GS :=
  if inN x (gT g) = false then (-1, g) else if rg b 0 255 = false then (-1, g) else if ¬ gMs g x.toNatClampNeg = 0 then (-3, metG g 1) else if rg i 0 4 = false then (-3, metG g 2) else
  (gBy g (5 * x.toNatClampNeg + i.toNatClampNeg), (gFi g, gFs g, gT g, gKd g, gTi g, gNd g, gMs g, upd (gBy g) (5 * x.toNatClampNeg + i.toNatClampNeg) b, gB g, gCg g, gVe g, gAs g, gMv g, gPm g, gPk g, gPt g, gPp g, gPs g, gMay g))
def gByteOf (x i : Int32) (g : GS) : Int32 × GS :=
  if inN x (gT g) = false then (-1, g) else if ¬ gMs g x.toNatClampNeg = 0 then (-3, metG g 1) else if rg i 0 4 = false then (-3, metG g 2) else (gBy g (5 * x.toNatClampNeg + i.toNatClampNeg), g)
def gTear (x : Int32) (g : GS) : Int32 × GS :=
  if inN x (gT g) = false then (-1, g) else if ¬ gMs g x.toNatClampNeg = 0 then (-3, metG g 1) else
  (1, (gFi g, gFs g, gT g, gKd g, gTi g, gNd g, upd (gMs g) x.toNatClampNeg 1, gBy g, gB g, gCg g, gVe g, gAs g, gMv g, gPm g, gPk g, gPt g, gPp g, gPs g, gMay g))
def zrR (bs : Nat → Int32) (a : Nat) : Nat → (Nat → Int32)
  | 0 => bs
  | k + 1 => upd (zrR bs a k) (a + k) 0
def gAnew (x : Int32) (g : GS) : Int32 × GS :=
  if inN x (gT g) = false then (-1, g) else
  (if gMs g x.toNatClampNeg = 0 then 1 else 0, (gFi g, gFs g, gT g, gKd g, gTi g, gNd g, upd (gMs g) x.toNatClampNeg 0, zrR (gBy g) (5 * x.toNatClampNeg) 5, gB g, gCg g, gVe g, gAs g, gMv g, gPm g, gPk g, gPt g, gPp g, gPs g, gMay g))
def mvR (bs : Nat → Int32) (a : Nat) (mv : Nat → Int32) : Nat → (Nat → Int32)
  | 0 => mv
  | k + 1 => upd (mvR bs a mv k) k (bs (a + k))
def cpR (mv : Nat → Int32) (b : Nat) (bs : Nat → Int32) : Nat → (Nat → Int32)
  | 0 => bs
  | k + 1 => upd (cpR mv b bs k) (b + k) (mv k)
def gCopy (x i o j n : Int32) (g : GS) : Int32 × GS :=
  if inN x (gT g) = false then (-1, g) else if inN o (gT g) = false then (-1, g) else if ¬ 0 ≤ n then (-3, metG g 4) else if ¬ gMs g x.toNatClampNeg = 0 then (-3, metG g 1) else if ¬ gMs g o.toNatClampNeg = 0 then (-3, metG g 1) else
  if i < 0 ∨ j < 0 ∨ 5 < i.toInt64 + n.toInt64 ∨ 5 < j.toInt64 + n.toInt64 then (-3, metG g 2) else
  (1, (gFi g, gFs g, gT g, gKd g, gTi g, gNd g, gMs g, cpR (mvR (gBy g) (5 * x.toNatClampNeg + i.toNatClampNeg) (gMv g) n.toNatClampNeg) (5 * o.toNatClampNeg + j.toNatClampNeg) (gBy g) n.toNatClampNeg, gB g, gCg g, gVe g, gAs g, mvR (gBy g) (5 * x.toNatClampNeg + i.toNatClampNeg) (gMv g) n.toNatClampNeg, gPm g, gPk g, gPt g, gPp g, gPs g, gMay g))
def gTold (x w : Int32) (g : GS) : Int32 := if inN x (gT g) = false then -1 else if rg w 0 6 = false then -1 else gTl g x.toNatClampNeg w
def gTime (x k : Int32) (g : GS) : Int32 × GS :=
  if inN x (gT g) = false then (-1, g) else if rg k 0 3 = false then (-1, g) else if ¬ k = 0 ∧ ¬ k = gKd g x.toNatClampNeg then (-3, metG g 3) else (gTi g x.toNatClampNeg, g)
def gBuild (x : Int64) (g : GS) : Int32 × GS :=
  if ¬ x &&& (-1099511627776) = 0 then (-1, g) else if gB g = 60 then (-2, g) else
  (nI (gB g), (gFi g, gFs g, gT g, gKd g, gTi g, gNd g, gMs g, gBy g, gB g + 1, vp_updL (gCg g) (gB g) x, gVe g, gAs g, gMv g, -9, gPk g, gPt g, gPp g, gPs g, gMay g))
def gVerdict (x : Int32) (f : Bool) (g : GS) : Int32 × GS :=
  if inN x (gT g) = false then (-1, g) else if gB g = 0 then (-4, g) else (bI (!decide (gVe g (20 * (gB g - 1) + x.toNatClampNeg) < 0)), judG g x.toNatClampNeg f)
def gWas (x b : Int32) (g : GS) : Int32 := if inN x (gT g) = false then -1 else if inN b (gB g) = false then -1 else gVe g (20 * b.toNatClampNeg + x.toNatClampNeg)
def gChange (b : Int32) (g : GS) : Int32 × GS := if inN b (gB g) = false then (-1, g) else (1, (gFi g, gFs g, gT g, gKd g, gTi g, gNd g, gMs g, gBy g, gB g, gCg g, gVe g, gCg g b.toNatClampNeg, gMv g, gPm g, gPk g, gPt g, gPp g, gPs g, gMay g))
def cnV (v : Nat → Int32) (d : Int32) : Nat → Int32
  | 0 => 0
  | b + 1 => cnV v d b + (if v b = d then 1 else 0)
def gOften (x w : Int32) (g : GS) : Int32 :=
  if inN x (gT g) = false then -1 else if rg w 0 2 = false then -1 else cnV (gV g x.toNatClampNeg) (if w = 0 then 1 else if w = 1 then 0 else -9) (gB g)
/-- how many below n -/
def cN (x : Int32) : Nat → Nat
  | 0 => 0
  | n + 1 => cN x n + (if bt x n then 1 else 0)
/-- the best so far: number, gain, cost -/
def wrM (g : GS) (ps : Int32) (op : Int64) (lf : Int32) : Nat → Int32 × Int64 × Int64
  | 0 => (-9, 0, 1)
  | t + 1 => if gMb g t = false then wrM g ps op lf t else if bt ps t = true then wrM g ps op lf t else
      if (bitsN (gRS g (gCh g t &&& (ps ^^^ (-1))) &&& op) 40).toInt64 * (16 + htM (gVe g) (gB g) t 8).toInt64 ≤ 0 then wrM g ps op lf t else
      if lf.toInt64 < (gTS g (gCh g t &&& (ps ^^^ (-1)))).toInt64 then wrM g ps op lf t else
      if ((bitsN (gRS g (gCh g t &&& (ps ^^^ (-1))) &&& op) 40).toInt64 * (16 + htM (gVe g) (gB g) t 8).toInt64) * (wrM g ps op lf t).2.2 ≤ (wrM g ps op lf t).2.1 * (gTS g (gCh g t &&& (ps ^^^ (-1)))).toInt64 then wrM g ps op lf t else
      (nI t, (bitsN (gRS g (gCh g t &&& (ps ^^^ (-1))) &&& op) 40).toInt64 * (16 + htM (gVe g) (gB g) t 8).toInt64, (gTS g (gCh g t &&& (ps ^^^ (-1)))).toInt64)
abbrev gOp (g : GS) (ps : Int32) : Int64 := gCg g (gB g - 1) &&& (gRS g ps ^^^ (-1))
abbrev wrN (g : GS) (ps lf : Int32) : Int32 × Int64 × Int64 := wrM g ps (gOp g ps) lf (gT g)
/-- the rounds of a pick: what is left, the row, how many, the set -/
def pkM (g : GS) : Nat → Int32 × (Nat → Int32) × Nat × Int32 → Int32 × (Nat → Int32) × Nat × Int32
  | 0, s => s
  | f + 1, s => if (wrN g s.2.2.2 s.1).1 < 0 then s else
      pkM g f (s.1 - (wrN g s.2.2.2 s.1).2.2.toInt32, (pkR (gCh g (wrN g s.2.2.2 s.1).1.toNatClampNeg &&& (s.2.2.2 ^^^ (-1))) s.2.1 s.2.2.1 (gT g)).1, (pkR (gCh g (wrN g s.2.2.2 s.1).1.toNatClampNeg &&& (s.2.2.2 ^^^ (-1))) s.2.1 s.2.2.1 (gT g)).2, s.2.2.2 ||| (gCh g (wrN g s.2.2.2 s.1).1.toNatClampNeg &&& (s.2.2.2 ^^^ (-1))))
abbrev pkG (tm : Int32) (g : GS) : Int32 × (Nat → Int32) × Nat × Int32 := pkM g 21 (tm, gPk g, 0, 0)
def gPick (tm : Int32) (g : GS) : Int32 × GS :=
  if rg tm 0 30000 = false then (-1, g) else if gB g = 0 then (-4, g) else
  (nI (pkG tm g).2.2.1, (gFi g, gFs g, gT g, gKd g, gTi g, gNd g, gMs g, gBy g, gB g, gCg g, gVe g, gAs g, gMv g, nI (pkG tm g).2.2.1, (pkG tm g).2.1, tm - (pkG tm g).1, bitsN (gRS g (pkG tm g).2.2.2 &&& gCg g (gB g - 1)) 40, (pkG tm g).2.2.2, gMay g))
def gPicked (i : Int32) (g : GS) : Int32 := if rg i 0 (gPm g - 1) = false then -9 else gPk g i.toNatClampNeg
def gAbout (w : Int32) (g : GS) : Int32 := if rg w 0 2 = false then -1 else if ¬ 0 ≤ gPm g then -9 else if w = 0 then gPt g else if w = 1 then gPp g else gPs g
def pkF (f : Nat → Bool) (pk : Nat → Int32) : Nat → (Nat → Int32) × Nat
  | 0 => (pk, 0)
  | i + 1 => if f i then (upd (pkF f pk i).1 (pkF f pk i).2 (nI i), (pkF f pk i).2 + 1) else pkF f pk i
def whB (f : Nat → Bool) (b : Bool) : Nat → Bool
  | 0 => b
  | t + 1 => whB f b t && f t
abbrev bsW (g : GS) (tm st : Int32) : Nat → Bool := whB (fun t => !bt st t || decide (gCh g t &&& (st ^^^ (-1)) = 0)) (!decide (tm < gTS g st))
abbrev bsP (g : GS) (st : Int32) : Int32 := bitsN (gRS g st &&& gCg g (gB g - 1)) 40
/-- the best of the first sets: bits, parts, time -/
def bsM (g : GS) (tm : Int32) (mv : Nat → Int32) (m : Nat) : Nat → Int32 × Int32 × Int32
  | 0 => (0, 0, 0)
  | j + 1 => if bsW g tm (soS mv (nI (j + 1)) m) (gT g) = true ∧ ((bsM g tm mv m j).2.1 < bsP g (soS mv (nI (j + 1)) m) ∨ (bsP g (soS mv (nI (j + 1)) m) = (bsM g tm mv m j).2.1 ∧ ¬ (bsM g tm mv m j).2.2 ≤ gTS g (soS mv (nI (j + 1)) m))) then (soS mv (nI (j + 1)) m, bsP g (soS mv (nI (j + 1)) m), gTS g (soS mv (nI (j + 1)) m)) else bsM g tm mv m j
abbrev byM (g : GS) : (Nat → Int32) × Nat := pkF (gMb g) (gMay g) (gT g)
abbrev bsG (tm : Int32) (g : GS) : Int32 × Int32 × Int32 := bsM g tm (byM g).1 (byM g).2 (2 ^ (byM g).2 - 1)
def gBest (tm : Int32) (g : GS) : Int32 × GS :=
  if rg tm 0 30000 = false then (-1, g) else if gB g = 0 then (-4, g) else
  if 12 < (byM g).2 then (-6, (gFi g, gFs g, gT g, gKd g, gTi g, gNd g, gMs g, gBy g, gB g, gCg g, gVe g, gAs g, gMv g, gPm g, gPk g, gPt g, gPp g, gPs g, (byM g).1)) else
  ((bsG tm g).2.1, (gFi g, gFs g, gT g, gKd g, gTi g, gNd g, gMs g, gBy g, gB g, gCg g, gVe g, (bsG tm g).1.toInt64, gMv g, gPm g, gPk g, gPt g, gPp g, gPs g, (byM g).1))
def rnM (g : GS) (x : Int32) : Nat → Int32 × Int32 × (Nat → Int32)
  | 0 => (0, 0, gVe g)
  | i + 1 => if gCh g (gPk g i).toNatClampNeg &&& (rnM g x i).1 = 0 then ((rnM g x i).1 ||| (if bt x (gPk g i).toNatClampNeg then one (gPk g i).toNatClampNeg else 0), (rnM g x i).2.1 + 1, upd (rnM g x i).2.2 (20 * (gB g - 1) + (gPk g i).toNatClampNeg) (bI (bt x (gPk g i).toNatClampNeg))) else rnM g x i
def gRun (x : Int32) (m : Nat) (g : GS) : Int32 × GS :=
  if arT x (gT g) = false then (-1, g) else if ¬ 0 ≤ gPm g then (-4, g) else
  ((rnM g x m).2.1, (gFi g, gFs g, gT g, gKd g, gTi g, gNd g, gMs g, gBy g, gB g, gCg g, (rnM g x m).2.2, gAs g, gMv g, gPm g, gPk g, gPt g, gPp g, gPs g, gMay g))
abbrev gAc (g : GS) : Nat → Int64 := orL (fun t => if gVe g (20 * (gB g - 1) + t) = 1 ∧ gFk g t = false then gRe g t else 0)
abbrev gCl (g : GS) : Nat → Int64 := orL (fun t => if gVe g (20 * (gB g - 1) + t) = 0 then gRe g t else 0)
abbrev gSus (g : GS) : Int64 := gCg g (gB g - 1) &&& gAc g (gT g) &&& (gCl g (gT g) ^^^ (-1))
def gSuspects (g : GS) : Int32 × GS := if gB g = 0 then (-4, g) else (bitsN (gSus g) 40, (gFi g, gFs g, gT g, gKd g, gTi g, gNd g, gMs g, gBy g, gB g, gCg g, gVe g, gSus g, gMv g, gPm g, gPk g, gPt g, gPp g, gPs g, gMay g))
def gBadWork (g : GS) : Int32 := if gB g = 0 then -4 else bI (anyB (fun t => decide (gVe g (20 * (gB g - 1) + t) = 1) && !gFk g t) (gT g))
/-- all that ever fell of a set -/
def evS (g : GS) (x : Int32) : Nat → Int32
  | 0 => 0
  | b + 1 => evS g x b ||| gFo g b x
abbrev gEv (g : GS) : Int32 := evS g (gCo g) (gB g)
abbrev fyM (g : GS) : (Nat → Int32) × Nat := pkF (fun t => bt (gEv g) t) (gMay g) (gT g)
abbrev shB (g : GS) (st : Int32) : Nat → Bool := whB (fun b => decide (gFo g b (gCo g) = 0) || !decide (gFo g b st = 0)) true
/-- is a set better than the best yet -/
def fwB (g : GS) (st be : Int32) : Bool := decide (bitsN st.toInt64 40 - bitsN be.toInt64 40 < 0) || (decide (bitsN st.toInt64 40 - bitsN be.toInt64 40 = 0) && (decide (gTS g st < gTS g be) || (decide (gTS g st = gTS g be) && !decide (be ≤ st))))
def fwM (g : GS) (mv : Nat → Int32) (m : Nat) : Nat → Int32
  | 0 => gEv g
  | k + 1 => if shB g (soS mv (nI k) m) (gB g) = true ∧ fwB g (soS mv (nI k) m) (fwM g mv m k) = true then soS mv (nI k) m else fwM g mv m k
abbrev fwH (g : GS) : Int32 := fwM g (fyM g).1 (fyM g).2 (2 ^ (fyM g).2)
def gFewest (g : GS) : Int32 × GS :=
  if 12 < (fyM g).2 then (-6, (gFi g, gFs g, gT g, gKd g, gTi g, gNd g, gMs g, gBy g, gB g, gCg g, gVe g, gAs g, gMv g, gPm g, gPk g, gPt g, gPp g, gPs g, (fyM g).1)) else
  (bitsN (fwH g).toInt64 40, (gFi g, gFs g, gT g, gKd g, gTi g, gNd g, gMs g, gBy g, gB g, gCg g, gVe g, (fwH g).toInt64, gMv g, gPm g, gPk g, gPt g, gPp g, gPs g, (fyM g).1))
def fsN (f : Nat → Bool) : Nat → Nat
  | 0 => 0
  | n + 1 => if fsN f n < n then fsN f n else if f n then n else n + 1
abbrev gMi (g : GS) (x : Int32) : Nat → Bool := fun b => !decide (gFo g b (gCo g) = 0) && decide (gFo g b x = 0)
def gMissed (x : Int32) (g : GS) : Int32 := if arT x (gT g) = false then -1 else if fsN (gMi g x) (gB g) < gB g then nI (fsN (gMi g x) (gB g)) else -9
def vcM (ve : Nat → Int32) : Nat → Int32
  | 0 => 0
  | k + 1 => vcM ve k + (if ve k < 0 then 0 else 1)
def gCount (w : Int32) (g : GS) : Int32 := if w = 0 then nI (gT g) else if w = 1 then nI (gB g) else if w = 2 then vcM (gVe g) (20 * gB g) else -1
def gFindings (f : Int32) (g : GS) : Int32 := if rg f 1 4 = false then -1 else gFs g f.toNatClampNeg
def dgU (g : GS) (h : Int64) (t : Nat) : Int64 :=
  if gMs g t = 0 then dgF (fun i => gBy g (5 * t + i)) (dgF (fun w => gTl g t (nI w)) h 7) 5 else 31 * dgF (fun w => gTl g t (nI w)) h 7 - 1
def dgX (g : GS) : Nat → Int64
  | 0 => 17
  | t + 1 => dgU g (dgX g t) t
def gDigest (g : GS) : Int64 := dgB (gCg g) (fun t b => gVe g (20 * b + t)) (gT g) (dgX g (gT g)) (gB g)
theorem rg_ex {x : Int32} {N : Nat} {M : Int32} (hM : M.toInt = N) (h : rg x 0 M = true) : ∃ j, j ≤ N ∧ x = nI j := by
  simp only [rg, Bool.and_eq_true, Bool.not_eq_true', decide_eq_false_iff_not] at h
  exact nI_of2 hM h.1 (Int32.not_lt.mp h.2)
theorem rg1_ex {x : Int32} (h : rg x 1 4 = true) : ∃ k, k < 5 ∧ x = nI k := by
  simp only [rg, Bool.and_eq_true, Bool.not_eq_true', decide_eq_false_iff_not] at h
  exact fin_ix h.1 (Int32.not_lt.mp h.2)
theorem cp_ex {i n : Int32} (hn : 0 ≤ n) (hi : ¬ i < 0) (h : i.toInt64 + n.toInt64 ≤ 5) : ∃ a b, a + b ≤ 5 ∧ i = nI a ∧ n = nI b := by
  obtain ⟨a, ha, rfl⟩ := nI_of hi
  obtain ⟨b, hb, rfl⟩ := nI_of (Int32.not_lt.mpr hn)
  rw [nI_l ha, nI_l hb, lN_add] at h
  have : a + b ≤ 5 := (pk_lLE (b := 5) (by omega) (by omega)).mp h
  exact ⟨a, b, this, rfl, rfl⟩
theorem whB_f {f : Nat → Bool} {b : Bool} {t : Nat} (h : whB f b t = false) : ∀ k, whB f b (t + k) = false
  | 0 => h
  | k + 1 => by show (whB f b (t + k) && f (t + k)) = false; rw [whB_f h k]; rfl
theorem whB_stop {f : Nat → Bool} {b : Bool} {t T : Nat} (h : whB f b t = false) (ht : t ≤ T) : whB f b T = false := by
  have := whB_f h (T - t)
  rwa [show t + (T - t) = T by omega] at this
theorem fsN_no {f : Nat → Bool} : ∀ {n : Nat}, (∀ i, i < n → f i = false) → fsN f n = n
  | 0, _ => rfl
  | n + 1, h => by
    have ih := fsN_no (n := n) (fun i hi => h i (by omega))
    rw [fsN, ih, if_neg (by omega), h n (by omega)]; rfl
theorem fsN_at {f : Nat → Bool} {b : Nat} (h : ∀ i, i < b → f i = false) (hb : f b = true) : ∀ k, fsN f (b + 1 + k) = b
  | 0 => by rw [Nat.add_zero, fsN, fsN_no h, if_neg (by omega), if_pos hb]
  | k + 1 => by
    show (if fsN f (b + 1 + k) < b + 1 + k then fsN f (b + 1 + k) else _) = b
    rw [fsN_at h hb k, if_pos (by omega)]
theorem fsN_eq {f : Nat → Bool} {b B : Nat} (h : ∀ i, i < b → f i = false) (hb : f b = true) (hB : b < B) : fsN f B = b := by
  have := fsN_at h hb (B - (b + 1))
  rwa [show b + 1 + (B - (b + 1)) = B by omega] at this
theorem pkF_le {f : Nat → Bool} {pk : Nat → Int32} : ∀ n, (pkF f pk n).2 ≤ n
  | 0 => Nat.le_refl _
  | n + 1 => by
    unfold pkF
    have := pkF_le (f := f) (pk := pk) n
    split
    · show (pkF f pk n).2 + 1 ≤ n + 1; omega
    · omega
