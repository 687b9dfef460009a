/-! what the writers do -/
def refM (ms : MS) (k : Nat) : MS := (upd (mFc ms) k (mFc ms k + 1), nI k, mLa ms)
def addT (ts : TS) (k tm nd : Int32) : TS := (upd (tKd ts) (tT ts) k, upd (tOt ts) (tT ts) tm, upd (tNd ts) (tT ts) (if k = 2 then nd else -9), upd (tCh ts) (tT ts) (one (tT ts) ||| (if k = 2 then tCh ts nd.toNatClampNeg else 0)), tPa ts, tTn ts, tT ts + 1)
def setB (x : Int64) (i : Nat) (b : Int32) : Int64 := (x &&& (((255 : Int64) <<< ((nI (8 * i)).toInt64 &&& 63)) ^^^ (-1))) ||| (b.toInt64 <<< ((nI (8 * i)).toInt64 &&& 63))
def mskB (n : Nat) : Int64 := ((1 : Int64) <<< ((nI (8 * n)).toInt64 &&& 63)) - 1
def cpB (x y : Int64) (i j n : Nat) : Int64 := (y &&& ((mskB n <<< ((nI (8 * j)).toInt64 &&& 63)) ^^^ (-1))) ||| (((x.toUInt64 >>> ((nI (8 * i)).toInt64.toUInt64 &&& Int64.toUInt64 63)).toInt64 &&& mskB n) <<< ((nI (8 * j)).toInt64 &&& 63))
def addH (hs : HS) (x : Int64) : HS := (vp_updL (hCg hs) (hB hs) x, hFe hs, hPs hs, hB hs + 1)
def judH (hs : HS) (t : Nat) (f : Bool) : HS := (hCg hs, vp_updL (hFe hs) t (if f then hFe hs t ||| oneL (hB hs - 1) else hFe hs t &&& (oneL (hB hs - 1) ^^^ (-1))), vp_updL (hPs hs) t (if f then hPs hs t &&& (oneL (hB hs - 1) ^^^ (-1)) else hPs hs t ||| oneL (hB hs - 1)), hB hs)
def takeP (ps : PS) (t : Nat) (ct : Int32) (pa : Int64) : PS := if pN ps < 20 then (upd (pRow ps) (pN ps) (nI t), pN ps + 1, pBits ps ||| one t, pSpan ps + ct, pSeen ps ||| pa, pChg ps, pTh ps) else ps
def addS (ss : SS) (tb ch ti : Int32) (co : Int64) : SS := if sN ss < 12 then (upd (sTb ss) (sN ss) tb, upd (sCh ss) (sN ss) ch, upd (sTi ss) (sN ss) ti, vp_updL (sCo ss) (sN ss) co, sN ss + 1, sBf ss, sCf ss, sTf ss, sVf ss, sFb ss, sFt ss, sFc ss) else ss
def sumS (ss : SS) (k : Nat) : SS := (sTb ss, sCh ss, sTi ss, sCo ss, sN ss, upd (sBf ss) (lw k) (sBf ss (rs k) ||| sTb ss (lw k)), upd (sCf ss) (lw k) (sCf ss (rs k) ||| sCh ss (lw k)), upd (sTf ss) (lw k) (sTf ss (rs k) + sTi ss (lw k)), vp_updL (sVf ss) (lw k) (sVf ss (rs k) ||| sCo ss (lw k)), sFb ss, sFt ss, sFc ss)
def keepS (ss : SS) (p : Nat) : SS := (sTb ss, sCh ss, sTi ss, sCo ss, sN ss, sBf ss, sCf ss, sTf ss, sVf ss, sBf ss p, sTf ss p, sVf ss p)
def skW (mo : Int32) : Nat → SS → Nat → SS
  | 0, ss, _ => ss
  | f + 1, ss, k => if k < 2 ^ sN ss then
      (if sTf (sumS ss k) (lw k) ≤ mo then
        (if sCf (sumS ss k) (lw k) = sBf (sumS ss k) (lw k) ∧ wdr (sumS ss k) (lw k) = true then skW mo f (keepS (sumS ss k) (lw k)) (k + 1) else skW mo f (sumS ss k) (k + 1))
       else skW mo f (sumS ss k) (k + 2 ^ lw k)) else ss
/-- one step of the search for the fewest: the state, how many yet, the next set -/
def fwR (go : Int64) (ss : SS) (k : Nat) (fy : Int32) : Bool := decide (sVf (sumS ss k) (lw k) = go) && (decide (popI (nI k) < fy) || (decide (popI (nI k) = fy) && !decide (sFt (sumS ss k) ≤ sTf (sumS ss k) (lw k))))
def fwS (go : Int64) (ss : SS) (k : Nat) (fy : Int32) : SS := if fwR go ss k fy then keepS (sumS ss k) (lw k) else sumS ss k
def fwY (go : Int64) (ss : SS) (k : Nat) (fy : Int32) : Int32 := if fwR go ss k fy then popI (nI k) else fy
def fwK (go : Int64) (ss : SS) (k : Nat) (fy : Int32) : Nat := if sVf (sumS ss k) (lw k) = go ∨ ¬ popI (nI k) < fwY go ss k fy then k + 2 ^ lw k else k + 1
def skF (go : Int64) (en : Nat) : Nat → SS → Nat → Int32 → SS
  | 0, ss, _, _ => ss
  | f + 1, ss, k, fy => if k < en then skF go en f (fwS go ss k fy) (fwK go ss k fy) (fwY go ss k fy) else ss
def enF (go : Int64) (N : Nat) : Nat := if go = 0 then 0 else 2 ^ N
def tkS (ts : TS) (x : Int32) (ps : PS) : Nat → PS
  | 0 => ps
  | i + 1 => if bt x i then takeP (tkS ts x ps i) i (cTm (tKd ts) (tOt ts) i) (tPa ts i) else tkS ts x ps i
theorem one_pow : ∀ N, N < 31 → one N = nI (2 ^ N) := by decide +kernel
theorem pow_le12 {N : Nat} (h : N ≤ 12) : 2 ^ N ≤ 4096 := Nat.pow_le_pow_right (by decide) h
theorem oneLE (t : Nat) : (1 : Int64) <<< ((nI t).toInt64 &&& 63) = oneL t := rfl
theorem take20 {ps : PS} {t : Nat} {ct : Int32} {pa : Int64} (h : pN ps ≤ 20) : pN (takeP ps t ct pa) ≤ 20 := by
  unfold takeP
  split
  · show pN ps + 1 ≤ 20; omega
  · exact h
theorem enF_le (go : Int64) {N : Nat} (h : N ≤ 12) : enF go N ≤ 4096 := by
  unfold enF
  split
  · omega
  · exact pow_le12 h
def metG (gs : GS) (k : Nat) : GS := (nI k, upd (gFs gs) k (gFs gs k + 1), gT gs, gKd gs, gTi gs, gNd gs, gMs gs, gBy gs, gB gs, gCg gs, gVe gs, gAs gs, gMv gs, gPm gs, gPk gs, gPt gs, gPp gs, gPs gs, gMay gs)
def judG (gs : GS) (t : Nat) (f : Bool) : GS := (gFi gs, gFs gs, gT gs, gKd gs, gTi gs, gNd gs, gMs gs, gBy gs, gB gs, gCg gs, upd (gVe gs) (20 * (gB gs - 1) + t) (bI f), gAs gs, gMv gs, gPm gs, gPk gs, gPt gs, gPp gs, gPs gs, gMay gs)
def pkR (x : Int32) (pk : Nat → Int32) (m : Nat) : Nat → (Nat → Int32) × Nat
  | 0 => (pk, m)
  | i + 1 => if bt x i then (upd (pkR x pk m i).1 (pkR x pk m i).2 (nI i), (pkR x pk m i).2 + 1) else pkR x pk m i
def takG (gs : GS) (t m : Nat) : GS := (gFi gs, gFs gs, gT gs, gKd gs, gTi gs, gNd gs, gMs gs, gBy gs, gB gs, gCg gs, gVe gs, gAs gs, gMv gs, nI (pkR (gCh gs t &&& (gPs gs ^^^ (-1))) (gPk gs) m (gT gs)).2, (pkR (gCh gs t &&& (gPs gs ^^^ (-1))) (gPk gs) m (gT gs)).1, gPt gs, gPp gs, gPs gs ||| (gCh gs t &&& (gPs gs ^^^ (-1))), gMay gs)
