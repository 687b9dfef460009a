/-! what the readers answer, further -/
/-- the numbers below n of which f holds, as bits -/
def orI (f : Nat → Bool) : Nat → Int32
  | 0 => 0
  | n + 1 => orI f n ||| (if f n then one n else 0)
def sumI (f : Nat → Int32) : Nat → Int32
  | 0 => 0
  | n + 1 => sumI f n + f n
/-- FLAKY, build by build: the last verdict, whether a part was touched since, whether it is flaky -/
def flS (cg : Nat → Int64) (v : Nat → Int32) (r : Int64) : Nat → Int32 × Bool × Bool
  | 0 => (-9, false, false)
  | b + 1 => if v b < 0 then ((flS cg v r b).1, (flS cg v r b).2.1 || !decide (cg b &&& r = 0), (flS cg v r b).2.2) else (v b, false, (flS cg v r b).2.2 || (!decide ((flS cg v r b).1 < 0) && !decide ((flS cg v r b).1 = v b) && !((flS cg v r b).2.1 || !decide (cg b &&& r = 0))))
def flk (cg : Nat → Int64) (v : Nat → Int32) (r : Int64) (B : Nat) : Bool := (flS cg v r B).2.2
theorem flS_mono {cg : Nat → Int64} {v : Nat → Int32} {r : Int64} {b : Nat} (h : (flS cg v r b).2.2 = true) : ∀ k, (flS cg v r (b + k)).2.2 = true
  | 0 => h
  | k + 1 => by
    have ih := flS_mono h k
    show (flS cg v r ((b + k) + 1)).2.2 = true
    by_cases hv : v (b + k) < 0
    · simp only [flS, hv, if_true]; exact ih
    · simp only [flS, hv, if_false, ih, Bool.true_or]
def lastV (v : Nat → Int32) : Nat → Int32
  | 0 => -9
  | b + 1 => if v b < 0 then lastV v b else v b
def htC (x : Int64) (B : Nat) : Int32 := if B < 2 then 0 else ((if B - 1 < 8 then x <<< ((nI (8 - (B - 1))).toInt64 &&& 63) else (x.toUInt64 >>> ((nI (B - 1 - 8)).toInt64.toUInt64 &&& Int64.toUInt64 63)).toInt64) &&& 255).toInt32
/-- the reference's heat: the first n of the 8 builds ahead -/
def htM (ve : Nat → Int32) (B t : Nat) : Nat → Int32
  | 0 => 0
  | k + 1 => htM ve B t k + (if B < k + 2 then (0 : Int32) else if ve (20 * (B - 1 - (k + 1)) + t) = 1 then one (8 - (k + 1)) else (0 : Int32))
def rbS (bs : Nat → Int32) (t : Nat) : Nat → Int64
  | 0 => 0
  | i + 1 => rbS bs t i ||| ((bs (5 * t + i)).toInt64 <<< ((nI (8 * i)).toInt64 &&& 63))
def raM (ms bs : Nat → Int32) (t : Nat) : Int64 := if ms t = 0 then rbS bs t 5 else 0
/-- what a test needs lies below it -/
def WN (nd : Nat → Int32) (T : Nat) : Prop := ∀ t, t < T → nd t < 0 ∨ ∃ u, u < t ∧ nd t = nI u
def chM (nd : Nat → Int32) : Nat → Int32 → Int32
  | 0, _ => 0
  | f + 1, y => if y < 0 then 0 else one y.toNatClampNeg ||| chM nd f (nd y.toNatClampNeg)
def mbM (kd ms nd : Nat → Int32) : Nat → Int32 → Bool
  | 0, _ => true
  | f + 1, y => if y < 0 then true else (!decide (kd y.toNatClampNeg = 3) && decide (ms y.toNatClampNeg = 0)) && mbM kd ms nd f (nd y.toNatClampNeg)
def soS (may : Nat → Int32) (x : Int32) : Nat → Int32
  | 0 => 0
  | k + 1 => soS may x k ||| (if bt x k then 1 <<< (may k &&& 31) else 0)
def arT (x : Int32) (T : Nat) : Bool := !decide (x < 0) && decide (x >>> (nI T &&& 31) = 0)
abbrev gV (gs : GS) (t : Nat) : Nat → Int32 := fun b => gVe gs (20 * b + t)
abbrev gRe (gs : GS) (t : Nat) : Int64 := raM (gMs gs) (gBy gs) t
abbrev gFk (gs : GS) (t : Nat) : Bool := flk (gCg gs) (gV gs t) (gRe gs t) (gB gs)
abbrev gCh (gs : GS) (t : Nat) : Int32 := chM (gNd gs) 21 (nI t)
abbrev gMb (gs : GS) (t : Nat) : Bool := mbM (gKd gs) (gMs gs) (gNd gs) 21 (nI t)
abbrev gTS (gs : GS) (x : Int32) : Int32 := tmS (gKd gs) (gTi gs) x (gT gs)
abbrev gRS (gs : GS) (x : Int32) : Int64 := paS (gRe gs) x (gT gs)
abbrev gFo (gs : GS) (b : Nat) (x : Int32) : Int32 := orI (fun t => bt x t && decide (gVe gs (20 * b + t) = 1)) (gT gs)
abbrev gCo (gs : GS) : Int32 := orI (fun t => !decide (gKd gs t = 3) && !gFk gs t) (gT gs)
def gTl (gs : GS) (t : Nat) (w : Int32) : Int32 :=
  if w = 0 then gKd gs t else if w = 1 then cTm (gKd gs) (gTi gs) t else if w = 2 then gNd gs t else if w = 3 then htM (gVe gs) (gB gs) t 8 else if w = 4 then bI (gFk gs t) else if w = 5 then bI (decide (lastV (gV gs t) (gB gs) = 1) && !gFk gs t) else bitsN (gCh gs t).toInt64 40
theorem ix20 (b t : Nat) : (20 : Int32) * nI b + nI t = nI (20 * b + t) := by rw [show (20 : Int32) * nI b = nI (20 * b) from pk_mul 20 b, nI_add]
theorem ix5 (t i : Nat) : (5 : Int32) * nI t + nI i = nI (5 * t + i) := by rw [show (5 : Int32) * nI t = nI (5 * t) from pk_mul 5 t, nI_add]
theorem pr_ge : ∀ B, B < 61 → ((1 : Int32) ≤ nI B - 1 ↔ 2 ≤ B) := by decide +kernel
theorem ag_lt : ∀ B, B < 61 → ∀ a, a < 10 → (nI B - 1 - nI a < 0 ↔ B < a + 1) := by decide +kernel
theorem ag_eq {B a : Nat} (h : a + 1 ≤ B) : nI B - 1 - nI a = nI (B - 1 - a) := by rw [pred1 (by omega), pk_sub (by omega)]
theorem rg_inN {x : Int32} {T : Nat} (hT : T < 2147483648) : rg x 0 (nI T - 1) = inN x T := by
  unfold rg inN
  by_cases h0 : x < 0
  · simp [h0]
  · obtain ⟨j, hj, rfl⟩ := nI_of h0
    rw [decide_eq_false h0, decide_eq_true h0]
    cases T with
    | zero =>
      have e : nI 0 - 1 = -1 := by decide
      have h1 : (-1 : Int32) < nI j := by rw [Int32.lt_iff_toInt_lt, nI_toInt hj]; show (-1 : Int) < _; omega
      have h2 : ¬ ¬ nI 0 ≤ nI j := fun z => z (nI_le (by omega) hj)
      rw [e, decide_eq_true h1, decide_eq_false h2]; rfl
    | succ T =>
      rw [nI_pred]
      by_cases h : j < T + 1
      · rw [decide_eq_false (nI_nlt (a := T) (b := j) (by omega) (by omega)), decide_eq_true (nI_ge h hT)]; rfl
      · rw [decide_eq_true (nI_lt (a := T) (b := j) (by omega) hj), decide_eq_false (fun z => z (nI_le (a := T + 1) (b := j) (by omega) hj))]; rfl
theorem sw6 {x : Int32} (h0 : ¬ x = 0) (h1 : ¬ x = 1) (h2 : ¬ x = 2) (h3 : ¬ x = 3) (h4 : ¬ x = 4) (h5 : ¬ x = 5) : x.toInt < 0 ∨ 5 < x.toInt := by
  have a0 := lv_neT h0 (a := 0) rfl
  have a1 := lv_neT h1 (a := 1) rfl
  have a2 := lv_neT h2 (a := 2) rfl
  have a3 := lv_neT h3 (a := 3) rfl
  have a4 := lv_neT h4 (a := 4) rfl
  have a5 := lv_neT h5 (a := 5) rfl
  omega
theorem or0 (x : Int32) : x ||| 0 = x := b_ext fun i _ => by rw [b_or, b_0, Bool.or_false]
theorem zor (x : Int32) : 0 ||| x = x := b_ext fun i _ => by rw [b_or, b_0, Bool.false_or]
theorem orA (x y z : Int32) : x ||| y ||| z = x ||| (y ||| z) := b_ext fun i _ => by rw [b_or, b_or, b_or, b_or, Bool.or_assoc]
theorem cl_nI' {u : Nat} (h : u < 20) : (nI u).toNatClampNeg = u := nI_clamp (by omega)
theorem chM_pos {nd : Nat → Int32} {f u : Nat} (h : u < 20) : chM nd (f + 1) (nI u) = one u ||| chM nd f (nd u) := by
  show (if nI u < 0 then 0 else one (nI u).toNatClampNeg ||| chM nd f (nd (nI u).toNatClampNeg)) = _
  rw [if_neg (nI_pos (by omega)), cl_nI' h]
theorem mbM_pos {kd ms nd : Nat → Int32} {f u : Nat} (h : u < 20) : mbM kd ms nd (f + 1) (nI u) = ((!decide (kd u = 3) && decide (ms u = 0)) && mbM kd ms nd f (nd u)) := by
  show (if nI u < 0 then true else _) = _
  rw [if_neg (nI_pos (by omega)), cl_nI' h]
theorem oneE (t : Nat) : (1 : Int32) <<< (nI t &&& 31) = one t := rfl
