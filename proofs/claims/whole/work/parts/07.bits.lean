/-! bits of an int (bt) and of a long (bl); bt's first rows began as the kit's BITS text -/
def bt (x : Int32) (i : Nat) : Bool := x.toBitVec.getLsbD i
def bl (x : Int64) (i : Nat) : Bool := x.toBitVec.getLsbD i
def bL (b : Bool) : Int64 := if b then 1 else 0
theorem b_ext {x y : Int32} (h : ∀ i, i < 32 → bt x i = bt y i) : x = y := Int32.toBitVec_inj.mp (BitVec.eq_of_getLsbD_eq (fun i hi => h i hi))
theorem b_or (x y : Int32) (i : Nat) : bt (x ||| y) i = (bt x i || bt y i) := by unfold bt; rw [Int32.toBitVec_or, BitVec.getLsbD_or]
theorem b_and (x y : Int32) (i : Nat) : bt (x &&& y) i = (bt x i && bt y i) := by unfold bt; rw [Int32.toBitVec_and, BitVec.getLsbD_and]
theorem b_xor (x y : Int32) (i : Nat) : bt (x ^^^ y) i = (bt x i ^^ bt y i) := by unfold bt; rw [Int32.toBitVec_xor, BitVec.getLsbD_xor]
theorem b_big {x : Int32} {i : Nat} (h : 32 ≤ i) : bt x i = false := BitVec.getLsbD_of_ge _ _ h
theorem b_m1 : ∀ i, i < 32 → bt (-1) i = true := by decide +kernel
theorem b_0 (i : Nat) : bt 0 i = false := BitVec.getLsbD_zero
theorem b_not (x : Int32) {i : Nat} (h : i < 32) : bt (x ^^^ (-1)) i = !bt x i := by rw [b_xor, b_m1 i h]; cases bt x i <;> rfl
theorem b_1 (i : Nat) : bt 1 i = decide (i = 0) := by
  rcases Nat.lt_or_ge i 32 with h | h
  · exact (by decide +kernel : ∀ i, i < 32 → bt 1 i = decide (i = 0)) i h
  · rw [b_big h, decide_eq_false (by omega)]
theorem s_l : ∀ n, n < 32 → ((nI n &&& 31).toBitVec.smod 32).toNat = n := by decide +kernel
theorem s_u : ∀ n, n < 32 → (((nI n).toUInt32 &&& Int32.toUInt32 31).toBitVec % 32).toNat = n := by decide +kernel
theorem b_shl (n : Nat) (hn : n < 32) (x : Int32) {i : Nat} (hi : i < 32) : bt (x <<< (nI n &&& 31)) i = (decide (n ≤ i) && bt x (i - n)) := by
  unfold bt
  rw [Int32.toBitVec_shiftLeft]
  show (x.toBitVec <<< ((nI n &&& 31).toBitVec.smod 32).toNat).getLsbD i = _
  rw [s_l n hn, BitVec.getLsbD_shiftLeft]
  rcases Nat.lt_or_ge i n with h | h
  · simp [h, Nat.not_le.mpr h]
  · simp [hi, h, Nat.not_lt.mpr h]
theorem b_ushr (n : Nat) (hn : n < 32) (x : Int32) (i : Nat) : bt ((x.toUInt32 >>> ((nI n).toUInt32 &&& Int32.toUInt32 31)).toInt32) i = bt x (n + i) := by
  show (x.toUInt32 >>> ((nI n).toUInt32 &&& Int32.toUInt32 31)).toBitVec.getLsbD i = x.toUInt32.toBitVec.getLsbD (n + i)
  rw [UInt32.toBitVec_shiftRight]
  show (x.toUInt32.toBitVec >>> (((nI n).toUInt32 &&& Int32.toUInt32 31).toBitVec % 32).toNat).getLsbD i = _
  rw [s_u n hn, BitVec.getLsbD_ushiftRight]
theorem b_sshr (n : Nat) (hn : n < 32) (x : Int32) {i : Nat} (hi : i < 32) : bt (x >>> (nI n &&& 31)) i = if n + i < 32 then bt x (n + i) else bt x 31 := by
  unfold bt
  rw [Int32.toBitVec_shiftRight]
  show (x.toBitVec.sshiftRight ((nI n &&& 31).toBitVec.smod 32).toNat).getLsbD i = _
  rw [s_l n hn, BitVec.getLsbD_sshiftRight, BitVec.msb_eq_getLsbD_last]
  simp [hi]
/-- the set of one number -/
def one (t : Nat) : Int32 := 1 <<< (nI t &&& 31)
theorem b_one {t i : Nat} (ht : t < 32) (hi : i < 32) : bt (one t) i = decide (i = t) := by
  unfold one
  rw [b_shl t ht 1 hi, b_1]
  rcases Nat.lt_trichotomy i t with h | h | h
  · simp [Nat.not_le.mpr h, Nat.ne_of_lt h]
  · subst h; simp
  · have h1 : ¬ (i - t = 0) := by omega
    have h2 : ¬ (i = t) := by omega
    simp [h1, h2]
theorem and1 (x : Int32) : x &&& 1 = bI (bt x 0) := by
  apply b_ext
  intro i hi
  rw [b_and, b_1]
  by_cases h : i = 0
  · subst h
    cases hb : bt x 0 <;> simp [bI, b_1, b_0]
  · cases hb : bt x 0 <;> simp [bI, b_1, b_0, h]
theorem in_u {t : Nat} (ht : t < 32) (x : Int32) : (x.toUInt32 >>> ((nI t).toUInt32 &&& Int32.toUInt32 31)).toInt32 &&& 1 = bI (bt x t) := by rw [and1, b_ushr t ht]; rfl
theorem in_s {t : Nat} (ht : t < 32) (x : Int32) : (x >>> (nI t &&& 31)) &&& 1 = bI (bt x t) := by rw [and1, b_sshr t ht x (by decide), if_pos (by omega)]; rfl
theorem bI_1 {b : Bool} : bI b = 1 ↔ b = true := by cases b <;> simp [bI]
theorem bI_n1 {b : Bool} : ¬ bI b = 1 ↔ b = false := by cases b <;> simp [bI]
/-! longs -/
theorem l_ext {x y : Int64} (h : ∀ i, i < 64 → bl x i = bl y i) : x = y := Int64.toBitVec_inj.mp (BitVec.eq_of_getLsbD_eq (fun i hi => h i hi))
theorem l_or (x y : Int64) (i : Nat) : bl (x ||| y) i = (bl x i || bl y i) := by unfold bl; rw [Int64.toBitVec_or, BitVec.getLsbD_or]
theorem l_and (x y : Int64) (i : Nat) : bl (x &&& y) i = (bl x i && bl y i) := by unfold bl; rw [Int64.toBitVec_and, BitVec.getLsbD_and]
theorem l_xor (x y : Int64) (i : Nat) : bl (x ^^^ y) i = (bl x i ^^ bl y i) := by unfold bl; rw [Int64.toBitVec_xor, BitVec.getLsbD_xor]
theorem l_big {x : Int64} {i : Nat} (h : 64 ≤ i) : bl x i = false := BitVec.getLsbD_of_ge _ _ h
theorem l_m1 : ∀ i, i < 64 → bl (-1) i = true := by decide +kernel
theorem l_0 (i : Nat) : bl 0 i = false := BitVec.getLsbD_zero
theorem l_not (x : Int64) {i : Nat} (h : i < 64) : bl (x ^^^ (-1)) i = !bl x i := by rw [l_xor, l_m1 i h]; cases bl x i <;> rfl
theorem l_1 (i : Nat) : bl 1 i = decide (i = 0) := by
  rcases Nat.lt_or_ge i 64 with h | h
  · exact (by decide +kernel : ∀ i, i < 64 → bl 1 i = decide (i = 0)) i h
  · rw [l_big h, decide_eq_false (by omega)]
theorem sl_l : ∀ n, n < 64 → (((nI n).toInt64 &&& 63).toBitVec.smod 64).toNat = n := by decide +kernel
theorem sl_u : ∀ n, n < 64 → (((nI n).toInt64.toUInt64 &&& Int64.toUInt64 63).toBitVec % 64).toNat = n := by decide +kernel
theorem l_shl (n : Nat) (hn : n < 64) (x : Int64) {i : Nat} (hi : i < 64) : bl (x <<< ((nI n).toInt64 &&& 63)) i = (decide (n ≤ i) && bl x (i - n)) := by
  unfold bl
  rw [Int64.toBitVec_shiftLeft]
  show (x.toBitVec <<< (((nI n).toInt64 &&& 63).toBitVec.smod 64).toNat).getLsbD i = _
  rw [sl_l n hn, BitVec.getLsbD_shiftLeft]
  rcases Nat.lt_or_ge i n with h | h
  · simp [h, Nat.not_le.mpr h]
  · simp [hi, h, Nat.not_lt.mpr h]
theorem l_ushr (n : Nat) (hn : n < 64) (x : Int64) (i : Nat) : bl ((x.toUInt64 >>> ((nI n).toInt64.toUInt64 &&& Int64.toUInt64 63)).toInt64) i = bl x (n + i) := by
  show (x.toUInt64 >>> ((nI n).toInt64.toUInt64 &&& Int64.toUInt64 63)).toBitVec.getLsbD i = x.toUInt64.toBitVec.getLsbD (n + i)
  rw [UInt64.toBitVec_shiftRight]
  show (x.toUInt64.toBitVec >>> (((nI n).toInt64.toUInt64 &&& Int64.toUInt64 63).toBitVec % 64).toNat).getLsbD i = _
  rw [sl_u n hn, BitVec.getLsbD_ushiftRight]
theorem l_sshr (n : Nat) (hn : n < 64) (x : Int64) {i : Nat} (hi : i < 64) : bl (x >>> ((nI n).toInt64 &&& 63)) i = if n + i < 64 then bl x (n + i) else bl x 63 := by
  unfold bl
  rw [Int64.toBitVec_shiftRight]
  show (x.toBitVec.sshiftRight (((nI n).toInt64 &&& 63).toBitVec.smod 64).toNat).getLsbD i = _
  rw [sl_l n hn, BitVec.getLsbD_sshiftRight, BitVec.msb_eq_getLsbD_last]
  simp [hi]
def oneL (t : Nat) : Int64 := 1 <<< ((nI t).toInt64 &&& 63)
theorem l_one {t i : Nat} (ht : t < 64) (hi : i < 64) : bl (oneL t) i = decide (i = t) := by
  unfold oneL
  rw [l_shl t ht 1 hi, l_1]
  rcases Nat.lt_trichotomy i t with h | h | h
  · simp [Nat.not_le.mpr h, Nat.ne_of_lt h]
  · subst h; simp
  · have h1 : ¬ (i - t = 0) := by omega
    have h2 : ¬ (i = t) := by omega
    simp [h1, h2]
theorem and1L (x : Int64) : x &&& 1 = bL (bl x 0) := by
  apply l_ext
  intro i hi
  rw [l_and, l_1]
  by_cases h : i = 0
  · subst h
    cases hb : bl x 0 <;> simp [bL, l_1, l_0]
  · cases hb : bl x 0 <;> simp [bL, l_1, l_0, h]
theorem in_uL {t : Nat} (ht : t < 64) (x : Int64) : (x.toUInt64 >>> ((nI t).toInt64.toUInt64 &&& Int64.toUInt64 63)).toInt64 &&& 1 = bL (bl x t) := by rw [and1L, l_ushr t ht]; rfl
theorem in_sL {t : Nat} (ht : t < 64) (x : Int64) : (x >>> ((nI t).toInt64 &&& 63)) &&& 1 = bL (bl x t) := by rw [and1L, l_sshr t ht x (by decide), if_pos (by omega)]; rfl
theorem bL_1 {b : Bool} : bL b = 1 ↔ b = true := by cases b <;> simp [bL]
theorem bL_n1 {b : Bool} : ¬ bL b = 1 ↔ b = false := by cases b <;> simp [bL]
theorem bL_i (b : Bool) : (bL b).toInt32 = bI b := by cases b <;> rfl
/-- a number is in 0 .. N - 1 -/
def inN (x : Int32) (N : Nat) : Bool := decide (¬ x < 0) && decide (¬ nI N ≤ x)
theorem inN_ex {x : Int32} {N : Nat} (hN : N < 2147483648) (h : inN x N = true) : ∃ t : Nat, t < N ∧ x = nI t := by
  simp only [inN, Bool.and_eq_true, decide_eq_true_eq] at h
  exact ix_ex hN h.1 h.2
theorem inN_nI {t N : Nat} (hN : N < 2147483648) (h : t < N) : inN (nI t) N = true := by
  simp only [inN, Bool.and_eq_true, decide_eq_true_eq]
  exact ⟨nI_pos (by omega), nI_ge h (by omega)⟩
