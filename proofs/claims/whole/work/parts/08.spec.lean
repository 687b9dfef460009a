/-! what the readers answer -/
def rg (x a b : Int32) : Bool := !decide (x < a) && !decide (b < x)
def stB (i n : Int32) : Bool := !decide (i < 0) && !decide (5 < i) && !decide (5 - i < n)
def hAll (x : Int32) (T : Nat) : Bool := decide ((x.toUInt32 >>> ((nI T).toUInt32 &&& Int32.toUInt32 31)).toInt32 = 0)
def cTm (kd ot : Nat → Int32) (t : Nat) : Int32 := if kd t = 1 then 3 * ot t else ot t
def tmS (kd ot : Nat → Int32) (x : Int32) : Nat → Int32
  | 0 => 0
  | n + 1 => tmS kd ot x n + (if bt x n then cTm kd ot n else 0)
def paS (pa : Nat → Int64) (x : Int32) : Nat → Int64
  | 0 => 0
  | n + 1 => paS pa x n ||| (if bt x n then pa n else 0)
def vIn (fe ps : Nat → Int64) (t b : Nat) : Int32 := if bl (fe t) b then 1 else if bl (ps t) b then 0 else -9
def byB (x : Int64) (i : Nat) : Int32 := (((x.toUInt64 >>> ((nI (8 * i)).toInt64.toUInt64 &&& Int64.toUInt64 63)).toInt64) &&& 255).toInt32
def pcg (cg : Nat → Int64) (B : Nat) : Int64 := if B = 0 then 0 else cg (B - 1)
def bitsN (x : Int64) : Nat → Int32
  | 0 => 0
  | k + 1 => bitsN x k + bI (bl x k)
theorem mul8 (i : Nat) : (8 : Int32) * nI i = nI (8 * i) := pk_mul 8 i
theorem pred1 {n : Nat} (h : 0 < n) : nI n - 1 = nI (n - 1) := by
  obtain ⟨k, rfl⟩ : ∃ k, n = k + 1 := ⟨n - 1, by omega⟩
  rw [nI_pred]; rfl
