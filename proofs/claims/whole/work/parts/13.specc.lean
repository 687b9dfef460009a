/-! the class's readers -/
abbrev cV (hs : HS) (t : Nat) : Nat → Int32 := fun b => vIn (hFe hs) (hPs hs) t b
abbrev cFk (ts : TS) (hs : HS) (t : Nat) : Bool := flk (hCg hs) (cV hs t) (tPa ts t) (hB hs)
abbrev cBar (ts : TS) : Int32 := orI (fun t => decide (tKd ts t = 3) || !decide (tTn ts t = 0)) (tT ts)
abbrev cPk (ts : TS) : Int32 := orI (fun t => decide (tCh ts t &&& cBar ts = 0)) (tT ts)
abbrev cWit (ts : TS) (hs : HS) : Int32 := orI (fun t => !decide (tKd ts t = 3) && !decide (hFe hs t = 0) && !cFk ts hs t) (tT ts)
def vAll (hs : HS) : Nat → Int32
  | 0 => 0
  | t + 1 => vAll hs t + (popL (hFe hs t) + popL (hPs hs t))
def wdr (ss : SS) (p : Nat) : Bool := decide (0 < popL (sVf ss p) - popL (sFc ss)) || (decide (popL (sVf ss p) - popL (sFc ss) = 0) && decide (sTf ss p < sFt ss))
def cTl (ts : TS) (hs : HS) (t : Nat) (w : Int32) : Int32 :=
  if w = 0 then tKd ts t else if w = 1 then cTm (tKd ts) (tOt ts) t else if w = 2 then tNd ts t else if w = 3 then htC (hFe hs t) (hB hs) else if w = 4 then bI (cFk ts hs t) else if w = 5 then bI (decide (hPs hs t < hFe hs t) && !cFk ts hs t) else popI (tCh ts t)
def dgF (f : Nat → Int32) (h : Int64) : Nat → Int64
  | 0 => h
  | n + 1 => 31 * dgF f h n + (f n).toInt64
def dgT (ts : TS) (hs : HS) (h : Int64) (t : Nat) : Int64 :=
  if tTn ts t = 0 then dgF (fun i => byB (tPa ts t) i) (dgF (fun w => cTl ts hs t (nI w)) h 7) 5 else 31 * dgF (fun w => cTl ts hs t (nI w)) h 7 - 1
/-- the worthiest so far: number, gain, cost -/
def wrS (ts : TS) (hs : HS) (ps : PS) (x lf : Int32) : Nat → Int32 × Int64 × Int64
  | 0 => (-9, 0, 1)
  | t + 1 => if bt x t then (if lf.toInt64 < (tmS (tKd ts) (tOt ts) (tCh ts t &&& (pBits ps ^^^ (-1))) (tT ts)).toInt64 then wrS ts hs ps x lf t else
      if ((popL (paS (tPa ts) (tCh ts t &&& (pBits ps ^^^ (-1))) (tT ts) &&& pChg ps &&& (pSeen ps ^^^ (-1)))).toInt64 * (16 + htC (hFe hs t) (hB hs)).toInt64) * (wrS ts hs ps x lf t).2.2 ≤ (wrS ts hs ps x lf t).2.1 * (tmS (tKd ts) (tOt ts) (tCh ts t &&& (pBits ps ^^^ (-1))) (tT ts)).toInt64 then wrS ts hs ps x lf t else
      (nI t, (popL (paS (tPa ts) (tCh ts t &&& (pBits ps ^^^ (-1))) (tT ts) &&& pChg ps &&& (pSeen ps ^^^ (-1)))).toInt64 * (16 + htC (hFe hs t) (hB hs)).toInt64, (tmS (tKd ts) (tOt ts) (tCh ts t &&& (pBits ps ^^^ (-1))) (tT ts)).toInt64)) else wrS ts hs ps x lf t
theorem vIn_neg (fe ps : Nat → Int64) (t b : Nat) : vIn fe ps t b < 0 ↔ vIn fe ps t b = -9 := by
  unfold vIn
  cases bl (fe t) b <;> cases bl (ps t) b <;> decide
theorem zand_or (a b r : Int64) : ((a ||| b) &&& r = 0) ↔ (a &&& r = 0 ∧ b &&& r = 0) := by
  constructor
  · intro h
    have hb : ∀ i, bl ((a ||| b) &&& r) i = false := fun i => by rw [h, l_0]
    constructor <;> apply l_ext <;> intro i hi <;> have := hb i <;> rw [l_and, l_or] at this <;> rw [l_and, l_0] <;> revert this <;> cases bl a i <;> cases bl b i <;> cases bl r i <;> simp
  · intro h
    apply l_ext
    intro i hi
    have h1 : bl (a &&& r) i = false := by rw [h.1, l_0]
    have h2 : bl (b &&& r) i = false := by rw [h.2, l_0]
    rw [l_and] at h1 h2
    rw [l_and, l_or, l_0]
    revert h1 h2
    cases bl a i <;> cases bl b i <;> cases bl r i <;> simp
theorem touch (a b r : Int64) : (!decide ((a ||| b) &&& r = 0)) = ((!decide (a &&& r = 0)) || !decide (b &&& r = 0)) := by
  have h := zand_or a b r
  by_cases h1 : a &&& r = 0 <;> by_cases h2 : b &&& r = 0 <;> simp [h, h1, h2]
theorem lOr0 (x : Int64) : x ||| 0 = x := l_ext fun i _ => by rw [l_or, l_0, Bool.or_false]
theorem lAnd0 (x : Int64) : 0 &&& x = 0 := l_ext fun i _ => by rw [l_and, l_0, Bool.false_and]
