/-! the class's public methods, as functions of its state -/
def xTest (k tm nd : Int32) (s : CS) : Int32 × CS :=
  if rg k 0 3 = false then (-1, s) else if tm < 1 then (-1, s) else if ¬ tm ≤ 1000 then (-1, s) else if k = 2 ∧ inN nd (tT s.2.1) = false then (-1, s) else if 20 ≤ tT s.2.1 then (-2, s) else
  (nI (tT s.2.1), (s.1, addT s.2.1 k tm nd, s.2.2.1, s.2.2.2.1, s.2.2.2.2))
def xTurn (x k : Int32) (s : CS) : Int32 × CS :=
  if inN x (tT s.2.1) = false then (-1, s) else if rg k 0 3 = false then (-1, s) else if k = 2 then (-1, s) else
  if tKd s.2.1 x.toNatClampNeg = 2 then (-3, (refM s.1 3, s.2.1, s.2.2.1, s.2.2.2.1, s.2.2.2.2)) else
  (tKd s.2.1 x.toNatClampNeg, (s.1, (upd (tKd s.2.1) x.toNatClampNeg k, tOt s.2.1, tNd s.2.1, tCh s.2.1, tPa s.2.1, tTn s.2.1, tT s.2.1), s.2.2.1, s.2.2.2.1, s.2.2.2.2))
def xReach (x i b : Int32) (s : CS) : Int32 × CS :=
  if inN x (tT s.2.1) = false then (-1, s) else if b < 0 then (-1, s) else if ¬ b ≤ 255 then (-1, s) else
  if ¬ tTn s.2.1 x.toNatClampNeg = 0 then (-3, (refM s.1 1, s.2.1, s.2.2.1, s.2.2.2.1, s.2.2.2.2)) else
  if inN i 5 = false then (-3, (refM s.1 2, s.2.1, s.2.2.1, s.2.2.2.1, s.2.2.2.2)) else
  (byB (tPa s.2.1 x.toNatClampNeg) i.toNatClampNeg, (s.1, (tKd s.2.1, tOt s.2.1, tNd s.2.1, tCh s.2.1, vp_updL (tPa s.2.1) x.toNatClampNeg (setB (tPa s.2.1 x.toNatClampNeg) i.toNatClampNeg b), tTn s.2.1, tT s.2.1), s.2.2.1, s.2.2.2.1, s.2.2.2.2))
def xByteOf (x i : Int32) (s : CS) : Int32 × CS :=
  if inN x (tT s.2.1) = false then (-1, s) else
  if ¬ tTn s.2.1 x.toNatClampNeg = 0 then (-3, (refM s.1 1, s.2.1, s.2.2.1, s.2.2.2.1, s.2.2.2.2)) else
  if inN i 5 = false then (-3, (refM s.1 2, s.2.1, s.2.2.1, s.2.2.2.1, s.2.2.2.2)) else
  (byB (tPa s.2.1 x.toNatClampNeg) i.toNatClampNeg, s)
def xTear (x : Int32) (s : CS) : Int32 × CS :=
  if inN x (tT s.2.1) = false then (-1, s) else
  if ¬ tTn s.2.1 x.toNatClampNeg = 0 then (-3, (refM s.1 1, s.2.1, s.2.2.1, s.2.2.2.1, s.2.2.2.2)) else
  (1, (s.1, (tKd s.2.1, tOt s.2.1, tNd s.2.1, tCh s.2.1, vp_updL (tPa s.2.1) x.toNatClampNeg 0, upd (tTn s.2.1) x.toNatClampNeg 1, tT s.2.1), s.2.2.1, s.2.2.2.1, s.2.2.2.2))
def xAnew (x : Int32) (s : CS) : Int32 × CS :=
  if inN x (tT s.2.1) = false then (-1, s) else
  (if tTn s.2.1 x.toNatClampNeg = 0 then 1 else 0, (s.1, (tKd s.2.1, tOt s.2.1, tNd s.2.1, tCh s.2.1, vp_updL (tPa s.2.1) x.toNatClampNeg 0, upd (tTn s.2.1) x.toNatClampNeg 0, tT s.2.1), s.2.2.1, s.2.2.2.1, s.2.2.2.2))
def xCopy (x i o j n : Int32) (s : CS) : Int32 × CS :=
  if inN x (tT s.2.1) = false then (-1, s) else if inN o (tT s.2.1) = false then (-1, s) else
  if ¬ 0 ≤ n then (-3, (refM s.1 4, s.2.1, s.2.2.1, s.2.2.2.1, s.2.2.2.2)) else
  if ¬ tTn s.2.1 x.toNatClampNeg = 0 then (-3, (refM s.1 1, s.2.1, s.2.2.1, s.2.2.2.1, s.2.2.2.2)) else
  if ¬ tTn s.2.1 o.toNatClampNeg = 0 then (-3, (refM s.1 1, s.2.1, s.2.2.1, s.2.2.2.1, s.2.2.2.2)) else
  if stB i n = false then (-3, (refM s.1 2, s.2.1, s.2.2.1, s.2.2.2.1, s.2.2.2.2)) else if stB j n = false then (-3, (refM s.1 2, s.2.1, s.2.2.1, s.2.2.2.1, s.2.2.2.2)) else
  (1, (s.1, (tKd s.2.1, tOt s.2.1, tNd s.2.1, tCh s.2.1, vp_updL (tPa s.2.1) o.toNatClampNeg (cpB (tPa s.2.1 x.toNatClampNeg) (tPa s.2.1 o.toNatClampNeg) i.toNatClampNeg j.toNatClampNeg n.toNatClampNeg), tTn s.2.1, tT s.2.1), s.2.2.1, s.2.2.2.1, s.2.2.2.2))
def xTold (x w : Int32) (s : CS) : Int32 := if inN x (tT s.2.1) = false then -1 else if w < 0 then -1 else if ¬ w ≤ 6 then -1 else cTl s.2.1 s.2.2.1 x.toNatClampNeg w
def xTime (x k : Int32) (s : CS) : Int32 × CS :=
  if inN x (tT s.2.1) = false then (-1, s) else if rg k 0 3 = false then (-1, s) else
  if ¬ k = 0 ∧ ¬ k = tKd s.2.1 x.toNatClampNeg then (-3, (refM s.1 3, s.2.1, s.2.2.1, s.2.2.2.1, s.2.2.2.2)) else (tOt s.2.1 x.toNatClampNeg, s)
def hi40 (x : Int64) : Int64 := (x.toUInt64 >>> ((40 : Int32).toInt64.toUInt64 &&& Int64.toUInt64 63)).toInt64
def xBuild (x : Int64) (s : CS) : Int32 × CS :=
  if ¬ hi40 x = 0 then (-1, s) else if 60 ≤ hB s.2.2.1 then (-2, s) else
  (nI (hB s.2.2.1), (s.1, s.2.1, addH s.2.2.1 x, (pRow s.2.2.2.1, 0, 0, 0, 0, 0, 0), s.2.2.2.2))
def xVerdict (x : Int32) (f : Bool) (s : CS) : Int32 × CS :=
  if inN x (tT s.2.1) = false then (-1, s) else if hB s.2.2.1 = 0 then (-4, s) else
  (if vIn (hFe s.2.2.1) (hPs s.2.2.1) x.toNatClampNeg (hB s.2.2.1 - 1) = -9 then 0 else 1, (s.1, s.2.1, judH s.2.2.1 x.toNatClampNeg f, s.2.2.2.1, s.2.2.2.2))
def xWas (x b : Int32) (s : CS) : Int32 := if inN x (tT s.2.1) = false then -1 else if inN b (hB s.2.2.1) = false then -1 else vIn (hFe s.2.2.1) (hPs s.2.2.1) x.toNatClampNeg b.toNatClampNeg
def xChange (b : Int32) (s : CS) : Int32 × CS := if inN b (hB s.2.2.1) = false then (-1, s) else (1, ((mFc s.1, mLf s.1, hCg s.2.2.1 b.toNatClampNeg), s.2.1, s.2.2.1, s.2.2.2.1, s.2.2.2.2))
def xOften (x w : Int32) (s : CS) : Int32 :=
  if inN x (tT s.2.1) = false then -1 else if w < 0 then -1 else if ¬ w ≤ 2 then -1 else
  if w = 0 then popL (hFe s.2.2.1 x.toNatClampNeg) else if w = 1 then popL (hPs s.2.2.1 x.toNatClampNeg) else nI (hB s.2.2.1) - popL (hFe s.2.2.1 x.toNatClampNeg) - popL (hPs s.2.2.1 x.toNatClampNeg)
/-- which test is worthiest now, if any -/
abbrev wrt (ts : TS) (hs : HS) (al tm : Int32) (ps : PS) : Int32 := (wrS ts hs ps (al &&& (pBits ps ^^^ (-1))) (tm - pSpan ps) (tT ts)).1
def pkL (ts : TS) (hs : HS) (al tm : Int32) : Nat → PS → PS
  | 0, ps => ps
  | r + 1, ps => if wrt ts hs al tm ps = -9 then ps else pkL ts hs al tm r (tkS ts (tCh ts (wrt ts hs al tm ps).toNatClampNeg &&& (pBits ps ^^^ (-1))) ps (tT ts))
abbrev pk0 (hs : HS) (ps : PS) : PS := (pRow ps, 0, 0, 0, 0, pcg (hCg hs) (hB hs), 1)
def xPick (tm : Int32) (s : CS) : Int32 × CS :=
  if rg tm 0 30000 = false then (-1, s) else if hB s.2.2.1 = 0 then (-4, s) else
  (nI (pN (pkL s.2.1 s.2.2.1 (cPk s.2.1) tm (tT s.2.1) (pk0 s.2.2.1 s.2.2.2.1))), (s.1, s.2.1, s.2.2.1, pkL s.2.1 s.2.2.1 (cPk s.2.1) tm (tT s.2.1) (pk0 s.2.2.1 s.2.2.2.1), s.2.2.2.2))
def xPicked (i : Int32) (s : CS) : Int32 := if pTh s.2.2.2.1 = 0 then -9 else if i < 0 then -9 else if ¬ i < nI (pN s.2.2.2.1) then -9 else pRow s.2.2.2.1 i.toNatClampNeg
def xAbout (w : Int32) (s : CS) : Int32 :=
  if w < 0 then -1 else if ¬ w ≤ 2 then -1 else if pTh s.2.2.2.1 = 0 then -9 else if w = 0 then pSpan s.2.2.2.1 else if w = 1 then popL (pSeen s.2.2.2.1 &&& pChg s.2.2.2.1) else pBits s.2.2.2.1
/-- the sets' rows, filled with the tests of a set -/
def adS (ts : TS) (al : Int32) (co : Nat → Int64) (ss : SS) : Nat → SS
  | 0 => (sTb ss, sCh ss, sTi ss, sCo ss, 0, sBf ss, sCf ss, sTf ss, sVf ss, 0, 0, 0)
  | t + 1 => if bt al t then addS (adS ts al co ss t) (one t) (tCh ts t) (cTm (tKd ts) (tOt ts) t) (co t) else adS ts al co ss t
abbrev bsS (tm : Int32) (s : CS) : SS := skW tm 4097 (adS s.2.1 (cPk s.2.1) (fun t => tPa s.2.1 t &&& pcg (hCg s.2.2.1) (hB s.2.2.1)) s.2.2.2.2 (tT s.2.1)) 1
def xBest (tm : Int32) (s : CS) : Int32 × CS :=
  if rg tm 0 30000 = false then (-1, s) else if hB s.2.2.1 = 0 then (-4, s) else if ¬ popI (cPk s.2.1) ≤ 12 then (-6, s) else
  (popL (sFc (bsS tm s)), ((mFc s.1, mLf s.1, (sFb (bsS tm s)).toInt64), s.2.1, s.2.2.1, s.2.2.2.1, bsS tm s))
/-- a run: what fell, how many verdicts, the history -/
def rnS (ts : TS) (ps : PS) (x : Int32) (hs : HS) : Nat → Int32 × Int32 × HS
  | 0 => (0, 0, hs)
  | i + 1 => if tCh ts (pRow ps i).toNatClampNeg &&& (rnS ts ps x hs i).1 = 0 then ((rnS ts ps x hs i).1 ||| (if bt x (pRow ps i).toNatClampNeg then one (pRow ps i).toNatClampNeg else 0), (rnS ts ps x hs i).2.1 + 1, judH (rnS ts ps x hs i).2.2 (pRow ps i).toNatClampNeg (bt x (pRow ps i).toNatClampNeg)) else rnS ts ps x hs i
def xRun (x : Int32) (s : CS) : Int32 × CS :=
  if hAll x (tT s.2.1) = false then (-1, s) else if pTh s.2.2.2.1 = 0 then (-4, s) else
  ((rnS s.2.1 s.2.2.2.1 x s.2.2.1 (pN s.2.2.2.1)).2.1, (s.1, s.2.1, (rnS s.2.1 s.2.2.2.1 x s.2.2.1 (pN s.2.2.2.1)).2.2, s.2.2.2.1, s.2.2.2.2))
def orL (f : Nat → Int64) : Nat → Int64
  | 0 => 0
  | n + 1 => orL f n ||| f n
def anyB (f : Nat → Bool) : Nat → Bool
  | 0 => false
  | n + 1 => anyB f n || f n
abbrev sAc (ts : TS) (hs : HS) : Nat → Int64 := orL (fun t => if vIn (hFe hs) (hPs hs) t (hB hs - 1) = 1 ∧ cFk ts hs t = false then tPa ts t else 0)
abbrev sCl (ts : TS) (hs : HS) : Nat → Int64 := orL (fun t => if vIn (hFe hs) (hPs hs) t (hB hs - 1) = 0 then tPa ts t else 0)
abbrev sus (ts : TS) (hs : HS) : Int64 := sAc ts hs (tT ts) &&& (sCl ts hs (tT ts) ^^^ (-1)) &&& pcg (hCg hs) (hB hs)
def xSuspects (s : CS) : Int32 × CS := if hB s.2.2.1 = 0 then (-4, s) else (popL (sus s.2.1 s.2.2.1), ((mFc s.1, mLf s.1, sus s.2.1 s.2.2.1), s.2.1, s.2.2.1, s.2.2.2.1, s.2.2.2.2))
def xBadWork (s : CS) : Int32 := if hB s.2.2.1 = 0 then -4 else bI (anyB (fun t => decide (vIn (hFe s.2.2.1) (hPs s.2.2.1) t (hB s.2.2.1 - 1) = 1) && !cFk s.2.1 s.2.2.1 t) (tT s.2.1))
abbrev fwA (s : CS) : SS := adS s.2.1 (cWit s.2.1 s.2.2.1) (hFe s.2.2.1) s.2.2.2.2 (tT s.2.1)
abbrev fwG (s : CS) : Int64 := paS (hFe s.2.2.1) (cWit s.2.1 s.2.2.1) (tT s.2.1)
abbrev fwZ (s : CS) : SS := skF (fwG s) (enF (fwG s) (sN (fwA s))) 4097 (fwA s) 1 13
def xFewest (s : CS) : Int32 × CS := if ¬ popI (cWit s.2.1 s.2.2.1) ≤ 12 then (-6, s) else
  (popI (sFb (fwZ s)), ((mFc s.1, mLf s.1, (sFb (fwZ s)).toInt64), s.2.1, s.2.2.1, s.2.2.2.1, fwZ s))
abbrev uns (x : Int32) (s : CS) : Int64 := paS (hFe s.2.2.1) (cWit s.2.1 s.2.2.1) (tT s.2.1) &&& (paS (hFe s.2.2.1) x (tT s.2.1) ^^^ (-1))
def xMissed (x : Int32) (s : CS) : Int32 := if hAll x (tT s.2.1) = false then -1 else if uns x s = 0 then -9 else tzL (uns x s)
def xCount (w : Int32) (s : CS) : Int32 := if w = 0 then nI (tT s.2.1) else if w = 1 then nI (hB s.2.2.1) else if w = 2 then vAll s.2.2.1 20 else -1
def xFindings (f : Int32) (s : CS) : Int32 := if f < 1 then -1 else if ¬ f ≤ 4 then -1 else mFc s.1 f.toNatClampNeg
def dgA (ts : TS) (hs : HS) : Nat → Int64
  | 0 => 17
  | t + 1 => dgT ts hs (dgA ts hs t) t
def dgB (cg : Nat → Int64) (v : Nat → Nat → Int32) (T : Nat) (h : Int64) : Nat → Int64
  | 0 => h
  | b + 1 => dgF (fun t => v t b) (31 * dgB cg v T h b + cg b) T
def xDigest (s : CS) : Int64 := dgB (hCg s.2.2.1) (vIn (hFe s.2.2.1) (hPs s.2.2.1)) (tT s.2.1) (dgA s.2.1 s.2.2.1 (tT s.2.1)) (hB s.2.2.1)
theorem add12 {ss : SS} {a b d : Int32} {e : Int64} (h : sN ss ≤ 12) : sN (addS ss a b d e) ≤ 12 := by
  unfold addS
  split
  · show sN ss + 1 ≤ 12; omega
  · exact h
theorem ad12 (ts : TS) (al : Int32) (co : Nat → Int64) (ss : SS) : ∀ n, sN (adS ts al co ss n) ≤ 12
  | 0 => Nat.zero_le _
  | n + 1 => by
    unfold adS
    split
    · exact add12 (ad12 ts al co ss n)
    · exact ad12 ts al co ss n
theorem tk20 {ts : TS} {x : Int32} {ps : PS} (h : pN ps ≤ 20) : ∀ n, pN (tkS ts x ps n) ≤ 20
  | 0 => h
  | n + 1 => by
    unfold tkS
    split
    · exact take20 (tk20 h n)
    · exact tk20 h n
theorem wr_is (ts : TS) (hs : HS) (ps : PS) (x lf : Int32) : ∀ n, (wrS ts hs ps x lf n).1 = -9 ∨ ∃ w, w < n ∧ (wrS ts hs ps x lf n).1 = nI w
  | 0 => Or.inl rfl
  | n + 1 => by
    have ih : (wrS ts hs ps x lf n).1 = -9 ∨ ∃ w, w < n + 1 ∧ (wrS ts hs ps x lf n).1 = nI w := by
      rcases wr_is ts hs ps x lf n with h | ⟨w, h1, h2⟩
      · exact Or.inl h
      · exact Or.inr ⟨w, by omega, h2⟩
    unfold wrS
    split
    · split
      · exact ih
      · split
        · exact ih
        · exact Or.inr ⟨n, by omega, rfl⟩
    · exact ih
theorem fin_ix {x : Int32} (h : ¬ x < 1) (h4 : x ≤ 4) : ∃ k, k < 5 ∧ x = nI k := by
  have h0 : ¬ x < 0 := fun z => h (by rw [Int32.lt_iff_toInt_lt] at z ⊢; have : (0 : Int32).toInt = 0 := rfl; have : (1 : Int32).toInt = 1 := rfl; omega)
  obtain ⟨j, h1, h2⟩ := nI_of2 (M := 4) (n := 4) rfl h0 h4
  exact ⟨j, by omega, h2⟩
theorem st_ex {i n : Int32} (hn : 0 ≤ n) (h : stB i n = true) : ∃ a b, a + b ≤ 5 ∧ i = nI a ∧ n = nI b := by
  simp only [stB, Bool.and_eq_true, Bool.not_eq_true', decide_eq_false_iff_not] at h
  obtain ⟨⟨h1, h2⟩, h3⟩ := h
  obtain ⟨a, ha, rfl⟩ := nI_of2 (M := 5) (n := 5) rfl h1 (Int32.not_lt.mp h2)
  have e : (5 : Int32) - nI a = nI (5 - a) := pk_sub (a := 5) ha
  rw [e] at h3
  have hn0 : ¬ n < 0 := Int32.not_lt.mpr hn
  obtain ⟨b, hb, rfl⟩ := nI_of hn0
  have : b ≤ 5 - a := Nat.not_lt.mp fun z => h3 ((nI_ltI (by omega) hb).mpr z)
  exact ⟨a, b, by omega, rfl, rfl⟩
