/-! the JDK's bit counts and trailing zeros, as their code has them -/
def swL (x : Int64) : Int64 :=
  let a := x - ((x.toUInt64 >>> ((1 : Int32).toInt64.toUInt64 &&& Int64.toUInt64 63)).toInt64 &&& 6148914691236517205)
  let b := (a &&& 3689348814741910323) + ((a.toUInt64 >>> ((2 : Int32).toInt64.toUInt64 &&& Int64.toUInt64 63)).toInt64 &&& 3689348814741910323)
  let c := (b + (b.toUInt64 >>> ((4 : Int32).toInt64.toUInt64 &&& Int64.toUInt64 63)).toInt64) &&& 1085102592571150095
  let d := c + (c.toUInt64 >>> ((8 : Int32).toInt64.toUInt64 &&& Int64.toUInt64 63)).toInt64
  let e := d + (d.toUInt64 >>> ((16 : Int32).toInt64.toUInt64 &&& Int64.toUInt64 63)).toInt64
  e + (e.toUInt64 >>> ((32 : Int32).toInt64.toUInt64 &&& Int64.toUInt64 63)).toInt64
def swI (x : Int32) : Int32 :=
  let a := x - ((x.toUInt32 >>> ((1 : Int32).toUInt32 &&& Int32.toUInt32 31)).toInt32 &&& 1431655765)
  let b := (a &&& 858993459) + ((a.toUInt32 >>> ((2 : Int32).toUInt32 &&& Int32.toUInt32 31)).toInt32 &&& 858993459)
  let c := (b + (b.toUInt32 >>> ((4 : Int32).toUInt32 &&& Int32.toUInt32 31)).toInt32) &&& 252645135
  let d := c + (c.toUInt32 >>> ((8 : Int32).toUInt32 &&& Int32.toUInt32 31)).toInt32
  d + (d.toUInt32 >>> ((16 : Int32).toUInt32 &&& Int32.toUInt32 31)).toInt32
/-- how many bits, counted one by one -/
def pcL (x : Int64) : Nat → Int32
  | 0 => 0
  | k + 1 => pcL x k + bI (bl x k)
def pcI (x : Int32) : Nat → Int32
  | 0 => 0
  | k + 1 => pcI x k + bI (bt x k)
abbrev popL (x : Int64) : Int32 := pcL x 64
abbrev popI (x : Int32) : Int32 := pcI x 32
theorem t_big {k N t : Nat} (hk : k < 2 ^ N) (ht : N ≤ t) : k.testBit t = false := Nat.testBit_lt_two_pow (Nat.lt_of_lt_of_le hk (Nat.pow_le_pow_right (by decide) ht))
/-! digits of w bits -/
def sV (w : Nat) (d : Nat → Nat) : Nat → Nat
  | 0 => 0
  | n + 1 => sV w d n + d n * 2 ^ (w * n)
theorem sV_lt {w : Nat} {d : Nat → Nat} (h : ∀ j, d j < 2 ^ w) : ∀ n, sV w d n < 2 ^ (w * n)
  | 0 => by rw [sV]; exact Nat.two_pow_pos _
  | n + 1 => by
    have ih := sV_lt h n
    have hd := h n
    rw [sV, Nat.mul_succ, Nat.pow_add]
    have hp := Nat.two_pow_pos (w * n)
    have : (d n + 1) * 2 ^ (w * n) ≤ 2 ^ w * 2 ^ (w * n) := Nat.mul_le_mul_right _ hd
    rw [Nat.add_mul, Nat.one_mul] at this
    rw [Nat.mul_comm (2 ^ (w * n)) (2 ^ w)]
    omega
theorem sV_bit {w : Nat} {d : Nat → Nat} (hw : 0 < w) (h : ∀ j, d j < 2 ^ w) (i : Nat) : ∀ n, (sV w d n).testBit i = (decide (i < w * n) && (d (i / w)).testBit (i % w))
  | 0 => by rw [sV, Nat.zero_testBit, Nat.mul_zero, decide_eq_false (Nat.not_lt_zero i)]; rfl
  | n + 1 => by
    have ih := sV_bit hw h i n
    rw [sV, Nat.add_comm, Nat.mul_comm (d n), Nat.testBit_two_pow_mul_add _ (sV_lt h n)]
    by_cases c : i < w * n
    · rw [if_pos c, ih, decide_eq_true c, decide_eq_true (by rw [Nat.mul_succ]; omega)]
    · rw [if_neg c]
      by_cases c2 : i < w * (n + 1)
      · rw [decide_eq_true c2, Bool.true_and]
        have e : i / w = n := by
          rw [Nat.div_eq_iff hw, Nat.mul_comm]
          rw [Nat.mul_succ] at c2
          omega
        have e2 : i % w = i - w * n := by
          have := Nat.div_add_mod i w
          rw [e] at this
          omega
        rw [e, e2]
      · rw [decide_eq_false c2, Bool.false_and]
        apply Nat.testBit_lt_two_pow
        refine Nat.lt_of_lt_of_le (h n) (Nat.pow_le_pow_right (by decide) ?_)
        rw [Nat.mul_succ] at c2
        omega
theorem sV_add (w : Nat) (d e : Nat → Nat) : ∀ n, sV w d n + sV w e n = sV w (fun j => d j + e j) n
  | 0 => rfl
  | n + 1 => by rw [sV, sV, sV, ← sV_add w d e n, Nat.add_mul]; omega
theorem sV_congr {w : Nat} {d e : Nat → Nat} : ∀ {n : Nat}, (∀ j, j < n → d j = e j) → sV w d n = sV w e n
  | 0, _ => rfl
  | n + 1, h => by rw [sV, sV, sV_congr (n := n) (fun j hj => h j (by omega)), h n (by omega)]
theorem sV_shr {w k n : Nat} {d : Nat → Nat} (hw : 0 < w) (h : ∀ j, d j < 2 ^ w) (hz : ∀ j, n ≤ j → d j = 0) : sV w d n / 2 ^ (w * k) = sV w (fun j => d (j + k)) n := by
  apply Nat.eq_of_testBit_eq
  intro i
  rw [Nat.testBit_div_two_pow, sV_bit hw h, sV_bit hw (fun j => h (j + k))]
  have e1 : (i + w * k) / w = i / w + k := by rw [Nat.add_mul_div_left _ _ hw]
  have e2 : (i + w * k) % w = i % w := by rw [Nat.add_mul_mod_self_left]
  rw [e1, e2]
  by_cases c : i + w * k < w * n
  · rw [decide_eq_true c, decide_eq_true (show i < w * n by omega)]
  · rw [decide_eq_false c]
    have : n ≤ i / w + k := by
      rw [← e1, Nat.le_div_iff_mul_le hw, Nat.mul_comm]
      omega
    rw [hz _ this]; simp
def b01 (x i : Nat) : Nat := if x.testBit i then 1 else 0
theorem b01_le (x i : Nat) : b01 x i ≤ 1 := by unfold b01; split <;> omega
theorem b01_bit (x i : Nat) : ∀ j, (b01 x i).testBit j = (decide (j = 0) && x.testBit i) := by
  intro j
  unfold b01
  cases x.testBit i
  · simp
  · cases j with
    | zero => rfl
    | succ j => simp [Nat.testBit_succ]
def sm (f : Nat → Nat) : Nat → Nat
  | 0 => 0
  | n + 1 => sm f n + f n
abbrev pr (f : Nat → Nat) (j : Nat) : Nat := f (2 * j) + f (2 * j + 1)
theorem sm_pr (f : Nat → Nat) : ∀ n, sm f (2 * n) = sm (pr f) n
  | 0 => rfl
  | n + 1 => by
    show sm f (2 * n) + f (2 * n) + f (2 * n + 1) = _
    rw [sm_pr f n]
    show _ = sm (pr f) n + (f (2 * n) + f (2 * n + 1))
    omega
/-- a mask of the lower halves: w bits on, w bits off -/
theorem sV_half {w n : Nat} {d : Nat → Nat} {M k : Nat} (hw : 0 < w) (h : ∀ j, d j < 2 ^ w) (hM : ∀ i, i < 2 * w * n → M.testBit i = decide (i % (2 * w) < w)) (hk : k = 0 ∨ k = 1) : (sV w d (2 * n) / 2 ^ (w * k)) &&& M = sV (2 * w) (fun j => d (2 * j + k)) n ∨ ∃ i, 2 * w * n ≤ i ∧ M.testBit i = true := by
  by_cases hex : ∃ i, 2 * w * n ≤ i ∧ M.testBit i = true
  · exact Or.inr hex
  · left
    apply Nat.eq_of_testBit_eq
    intro i
    have h2 : ∀ j, d j < 2 ^ (2 * w) := fun j => Nat.lt_of_lt_of_le (h j) (Nat.pow_le_pow_right (by decide) (by omega))
    rw [Nat.testBit_and, Nat.testBit_div_two_pow, sV_bit hw h, sV_bit (by omega) (fun j => h2 (2 * j + k))]
    by_cases c : i < 2 * w * n
    · rw [hM i c, decide_eq_true c, Bool.true_and]
      have hdm := Nat.div_add_mod i (2 * w)
      have hml := Nat.mod_lt i (show 2 * w > 0 by omega)
      generalize i / (2 * w) = q at hdm
      generalize i % (2 * w) = r at hdm hml
      have e0 : i + w * k = w * (2 * q + k) + r := by rw [← hdm, Nat.mul_add, ← Nat.mul_assoc, Nat.mul_comm w 2]; omega
      by_cases cr : r < w
      · have e1 : (i + w * k) / w = 2 * q + k := by rw [e0, Nat.mul_add_div hw, Nat.div_eq_of_lt cr, Nat.add_zero]
        have e2 : (i + w * k) % w = r := by rw [e0, Nat.mul_add_mod, Nat.mod_eq_of_lt cr]
        have hlt : i + w * k < w * (2 * n) := by
          have hq : q < n := by
            rcases Nat.lt_or_ge q n with z | z
            · exact z
            · exfalso
              have := Nat.mul_le_mul_left (2 * w) z
              omega
          have h3 : 2 * q + k + 1 ≤ 2 * n := by omega
          have := Nat.mul_le_mul_left w h3
          rw [Nat.mul_succ] at this
          omega
        rw [e1, e2, decide_eq_true hlt, decide_eq_true cr, Bool.and_true, Bool.true_and]
      · rw [decide_eq_false cr, Bool.and_false]
        symm
        apply Nat.testBit_lt_two_pow
        exact Nat.lt_of_lt_of_le (h _) (Nat.pow_le_pow_right (by decide) (by omega))
    · rw [decide_eq_false c, Bool.false_and]
      have : M.testBit i = false := by
        cases e : M.testBit i
        · rfl
        · exact absurd ⟨i, by omega, e⟩ hex
      rw [this, Bool.and_false]
theorem sV_two (w : Nat) (d : Nat → Nat) : ∀ n, sV w d (2 * n) = sV (2 * w) (fun j => d (2 * j) + d (2 * j + 1) * 2 ^ w) n
  | 0 => rfl
  | n + 1 => by
    show sV w d (2 * n) + d (2 * n) * 2 ^ (w * (2 * n)) + d (2 * n + 1) * 2 ^ (w * (2 * n + 1)) = _
    rw [sV_two w d n, sV, Nat.add_mul, Nat.mul_succ w, Nat.pow_add, show w * (2 * n) = 2 * w * n by rw [← Nat.mul_assoc, Nat.mul_comm w 2], Nat.mul_assoc (d (2 * n + 1)), Nat.mul_comm (2 ^ w), Nat.add_assoc]
theorem sV_self {x n : Nat} (hx : x < 2 ^ n) : sV 1 (b01 x) n = x := by
  apply Nat.eq_of_testBit_eq
  intro i
  rw [sV_bit (by decide) (fun j => by have := b01_le x j; omega), Nat.div_one, Nat.mod_one, b01_bit, Nat.one_mul]
  by_cases c : i < n
  · rw [decide_eq_true c]; simp
  · rw [decide_eq_false c, Bool.false_and, t_big hx (by omega)]
theorem m_no {M n : Nat} (h : M < 2 ^ n) : ¬ ∃ i, n ≤ i ∧ M.testBit i = true := by
  rintro ⟨i, h1, h2⟩
  rw [t_big h h1] at h2
  exact absurd h2 Bool.false_ne_true
theorem sw_1 {x n M : Nat} (hx : x < 2 ^ (2 * n)) (hM : ∀ i, i < 2 * n → M.testBit i = decide (i % 2 < 1)) (hM2 : M < 2 ^ (2 * n)) : (x / 2 &&& M) ≤ x ∧ x - (x / 2 &&& M) = sV 2 (pr (b01 x)) n := by
  have e1 := sV_self hx
  have e2 : x / 2 &&& M = sV 2 (fun j => b01 x (2 * j + 1)) n := by
    rcases sV_half (w := 1) (n := n) (d := b01 x) (M := M) (k := 1) (by decide) (fun j => by have := b01_le x j; omega) (fun i hi => by rw [hM i (by omega)]) (Or.inr rfl) with q | q
    · rw [e1] at q; exact q
    · exact absurd q (m_no (by rw [Nat.mul_one]; exact hM2))
  have e3 : x = sV 2 (pr (b01 x)) n + sV 2 (fun j => b01 x (2 * j + 1)) n := by
    rw [sV_add]
    conv => lhs; rw [← e1, sV_two]
    exact sV_congr (fun j _ => by show _ + _ * 2 ^ 1 = _ + _ + _; omega)
  rw [e2]
  omega
theorem sw_2 {n M : Nat} {c : Nat → Nat} (hc : ∀ j, c j ≤ 2) (hM : ∀ i, i < 4 * n → M.testBit i = decide (i % 4 < 2)) (hM2 : M < 2 ^ (4 * n)) : (sV 2 c (2 * n) &&& M) + (sV 2 c (2 * n) / 4 &&& M) = sV 4 (pr c) n := by
  have hc4 : ∀ j, c j < 2 ^ 2 := fun j => by have := hc j; omega
  rcases sV_half (w := 2) (n := n) (d := c) (M := M) (k := 0) (by decide) hc4 hM (Or.inl rfl) with q | q
  · rcases sV_half (w := 2) (n := n) (d := c) (M := M) (k := 1) (by decide) hc4 hM (Or.inr rfl) with r | r
    · rw [Nat.mul_zero, Nat.pow_zero, Nat.div_one] at q
      rw [q, show (4 : Nat) = 2 ^ (2 * 1) from rfl, r]
      exact sV_add 4 _ _ n
    · exact absurd r (m_no hM2)
  · exact absurd q (m_no hM2)
theorem sw_3 {n M : Nat} {d : Nat → Nat} (hd : ∀ j, d j ≤ 4) (hz : ∀ j, 2 * n ≤ j → d j = 0) (hM : ∀ i, i < 8 * n → M.testBit i = decide (i % 8 < 4)) (hM2 : M < 2 ^ (8 * n)) : sV 4 d (2 * n) + sV 4 d (2 * n) / 16 < 2 ^ (8 * n) ∧ (sV 4 d (2 * n) + sV 4 d (2 * n) / 16 &&& M) = sV 8 (pr d) n := by
  have hs := sV_shr (w := 4) (k := 1) (n := 2 * n) (d := d) (by decide) (fun j => by have := hd j; omega) hz
  have h16 : ∀ j, d j + d (j + 1) < 2 ^ 4 := fun j => by have := hd j; have := hd (j + 1); omega
  rw [show (16 : Nat) = 2 ^ (4 * 1) from rfl, hs, sV_add]
  refine ⟨by have := sV_lt h16 (2 * n); rwa [show 4 * (2 * n) = 8 * n by omega] at this, ?_⟩
  rcases sV_half (w := 4) (n := n) (d := fun j => d j + d (j + 1)) (M := M) (k := 0) (by decide) h16 hM (Or.inl rfl) with q | q
  · rw [Nat.mul_zero, Nat.pow_zero, Nat.div_one] at q
    exact q
  · exact absurd q (m_no hM2)
theorem sw_4 {n k : Nat} {e : Nat → Nat} (he : ∀ j, e j + e (j + k) < 256) (hz : ∀ j, n ≤ j → e j = 0) : sV 8 e n + sV 8 e n / 2 ^ (8 * k) = sV 8 (fun j => e j + e (j + k)) n ∧ sV 8 (fun j => e j + e (j + k)) n < 2 ^ (8 * n) := by
  rw [sV_shr (w := 8) (k := k) (by decide) (fun j => by have := he j; omega) hz, sV_add]
  exact ⟨rfl, sV_lt (fun j => he j) n⟩
theorem sV_low (h : Nat → Nat) : ∀ n, sV 8 h (n + 1) % 256 = h 0 % 256
  | 0 => by rw [sV, sV]; simp
  | n + 1 => by
    rw [sV, Nat.add_mod, sV_low h n, Nat.mul_succ, Nat.pow_add]
    have : h (n + 1) * (2 ^ (8 * n) * 2 ^ 8) % 256 = 0 := by rw [← Nat.mul_assoc]; exact Nat.mul_mod_left _ _
    rw [this, Nat.add_zero, Nat.mod_mod]
theorem m5_64 : ∀ i, i < 64 → (6148914691236517205 : Nat).testBit i = decide (i % 2 < 1) := by decide
theorem m3_64 : ∀ i, i < 64 → (3689348814741910323 : Nat).testBit i = decide (i % 4 < 2) := by decide
theorem mf_64 : ∀ i, i < 64 → (1085102592571150095 : Nat).testBit i = decide (i % 8 < 4) := by decide
theorem m5_32 : ∀ i, i < 32 → (1431655765 : Nat).testBit i = decide (i % 2 < 1) := by decide
theorem m3_32 : ∀ i, i < 32 → (858993459 : Nat).testBit i = decide (i % 4 < 2) := by decide
theorem mf_32 : ∀ i, i < 32 → (252645135 : Nat).testBit i = decide (i % 8 < 4) := by decide
theorem tnL_shr (n : Nat) (hn : n < 64) (x : Int64) : ((x.toUInt64 >>> ((nI n).toInt64.toUInt64 &&& Int64.toUInt64 63)).toInt64).toBitVec.toNat = x.toBitVec.toNat / 2 ^ n := by
  apply Nat.eq_of_testBit_eq
  intro i
  rw [Nat.testBit_div_two_pow]
  have := l_ushr n hn x i
  rw [Nat.add_comm n i] at this
  exact this
theorem tnI_shr (n : Nat) (hn : n < 32) (x : Int32) : ((x.toUInt32 >>> ((nI n).toUInt32 &&& Int32.toUInt32 31)).toInt32).toBitVec.toNat = x.toBitVec.toNat / 2 ^ n := by
  apply Nat.eq_of_testBit_eq
  intro i
  rw [Nat.testBit_div_two_pow]
  have := b_ushr n hn x i
  rw [Nat.add_comm n i] at this
  exact this
theorem tnL_and (x y : Int64) : (x &&& y).toBitVec.toNat = x.toBitVec.toNat &&& y.toBitVec.toNat := by rw [Int64.toBitVec_and, BitVec.toNat_and]
theorem tnI_and (x y : Int32) : (x &&& y).toBitVec.toNat = x.toBitVec.toNat &&& y.toBitVec.toNat := by rw [Int32.toBitVec_and, BitVec.toNat_and]
theorem tnL_add {x y : Int64} (h : x.toBitVec.toNat + y.toBitVec.toNat < 2 ^ 64) : (x + y).toBitVec.toNat = x.toBitVec.toNat + y.toBitVec.toNat := by rw [Int64.toBitVec_add, BitVec.toNat_add, Nat.mod_eq_of_lt h]
theorem tnI_add {x y : Int32} (h : x.toBitVec.toNat + y.toBitVec.toNat < 2 ^ 32) : (x + y).toBitVec.toNat = x.toBitVec.toNat + y.toBitVec.toNat := by rw [Int32.toBitVec_add, BitVec.toNat_add, Nat.mod_eq_of_lt h]
theorem tnL_sub {x y : Int64} (h : y.toBitVec.toNat ≤ x.toBitVec.toNat) : (x - y).toBitVec.toNat = x.toBitVec.toNat - y.toBitVec.toNat := by rw [Int64.toBitVec_sub]; exact BitVec.toNat_sub_of_le h
theorem tnI_sub {x y : Int32} (h : y.toBitVec.toNat ≤ x.toBitVec.toNat) : (x - y).toBitVec.toNat = x.toBitVec.toNat - y.toBitVec.toNat := by rw [Int32.toBitVec_sub]; exact BitVec.toNat_sub_of_le h
theorem b01_z {x n j : Nat} (hx : x < 2 ^ n) (hj : n ≤ j) : b01 x j = 0 := by unfold b01; rw [t_big hx hj]; rfl
theorem pcL_sm (x : Int64) : ∀ n, pcL x n = nI (sm (b01 x.toBitVec.toNat) n)
  | 0 => rfl
  | n + 1 => by
    have e : bI (bl x n) = nI (b01 x.toBitVec.toNat n) := by
      unfold b01
      show bI (x.toBitVec.toNat.testBit n) = _
      cases x.toBitVec.toNat.testBit n <;> rfl
    rw [pcL, sm, pcL_sm x n, e, nI_add]
theorem pcI_sm (x : Int32) : ∀ n, pcI x n = nI (sm (b01 x.toBitVec.toNat) n)
  | 0 => rfl
  | n + 1 => by
    have e : bI (bt x n) = nI (b01 x.toBitVec.toNat n) := by
      unfold b01
      show bI (x.toBitVec.toNat.testBit n) = _
      cases x.toBitVec.toNat.testBit n <;> rfl
    rw [pcI, sm, pcI_sm x n, e, nI_add]
theorem swL_nat (x : Int64) : (swL x).toBitVec.toNat % 256 = sm (b01 x.toBitVec.toNat) 64 ∧ sm (b01 x.toBitVec.toNat) 64 ≤ 64 := by
  have hX : x.toBitVec.toNat < 2 ^ 64 := x.toBitVec.isLt
  obtain ⟨a, ha⟩ : ∃ a, a = x - ((x.toUInt64 >>> ((1 : Int32).toInt64.toUInt64 &&& Int64.toUInt64 63)).toInt64 &&& 6148914691236517205) := ⟨_, rfl⟩
  obtain ⟨b, hb⟩ : ∃ b, b = (a &&& 3689348814741910323) + ((a.toUInt64 >>> ((2 : Int32).toInt64.toUInt64 &&& Int64.toUInt64 63)).toInt64 &&& 3689348814741910323) := ⟨_, rfl⟩
  obtain ⟨c, hc⟩ : ∃ c, c = (b + (b.toUInt64 >>> ((4 : Int32).toInt64.toUInt64 &&& Int64.toUInt64 63)).toInt64) &&& 1085102592571150095 := ⟨_, rfl⟩
  obtain ⟨d, hd⟩ : ∃ d, d = c + (c.toUInt64 >>> ((8 : Int32).toInt64.toUInt64 &&& Int64.toUInt64 63)).toInt64 := ⟨_, rfl⟩
  obtain ⟨e, he⟩ : ∃ e, e = d + (d.toUInt64 >>> ((16 : Int32).toInt64.toUInt64 &&& Int64.toUInt64 63)).toInt64 := ⟨_, rfl⟩
  obtain ⟨f, hf⟩ : ∃ f, f = e + (e.toUInt64 >>> ((32 : Int32).toInt64.toUInt64 &&& Int64.toUInt64 63)).toInt64 := ⟨_, rfl⟩
  have hs : swL x = f := by rw [hf, he, hd, hc, hb, ha]; rfl
  rw [hs]
  generalize hB : b01 x.toBitVec.toNat = β
  have β1 : ∀ j, β j ≤ 1 := fun j => by rw [← hB]; exact b01_le _ j
  have βz : ∀ j, 64 ≤ j → β j = 0 := fun j hj => by rw [← hB]; exact b01_z hX hj
  have h1 := sw_1 (n := 32) (M := 6148914691236517205) hX (fun i hi => m5_64 i hi) (by decide)
  have A : a.toBitVec.toNat = sV 2 (pr β) 32 := by
    have q : ((x.toUInt64 >>> ((1 : Int32).toInt64.toUInt64 &&& Int64.toUInt64 63)).toInt64 &&& 6148914691236517205).toBitVec.toNat = x.toBitVec.toNat / 2 &&& 6148914691236517205 := by
      rw [tnL_and, show ((x.toUInt64 >>> ((1 : Int32).toInt64.toUInt64 &&& Int64.toUInt64 63)).toInt64).toBitVec.toNat = x.toBitVec.toNat / 2 ^ 1 from tnL_shr 1 (by decide) x]; rfl
    rw [ha, tnL_sub (by rw [q]; exact h1.1), q, h1.2, hB]
  have c1 : ∀ j, pr β j ≤ 2 := fun j => by have := β1 (2 * j); have := β1 (2 * j + 1); show β _ + β _ ≤ 2; omega
  have h2 := sw_2 (n := 16) (M := 3689348814741910323) c1 (fun i hi => m3_64 i hi) (by decide)
  have d1 : ∀ j, pr (pr β) j ≤ 4 := fun j => by have := c1 (2 * j); have := c1 (2 * j + 1); show pr β _ + pr β _ ≤ 4; omega
  have dz : ∀ j, 16 ≤ j → pr (pr β) j = 0 := fun j hj => by
    show β _ + β _ + (β _ + β _) = 0
    rw [βz _ (by omega), βz _ (by omega), βz _ (by omega), βz _ (by omega)]
  have B : b.toBitVec.toNat = sV 4 (pr (pr β)) 16 := by
    have q1 : (a &&& 3689348814741910323).toBitVec.toNat = sV 2 (pr β) 32 &&& 3689348814741910323 := by rw [tnL_and, A]; rfl
    have q2 : ((a.toUInt64 >>> ((2 : Int32).toInt64.toUInt64 &&& Int64.toUInt64 63)).toInt64 &&& 3689348814741910323).toBitVec.toNat = sV 2 (pr β) 32 / 4 &&& 3689348814741910323 := by
      rw [tnL_and, show ((a.toUInt64 >>> ((2 : Int32).toInt64.toUInt64 &&& Int64.toUInt64 63)).toInt64).toBitVec.toNat = a.toBitVec.toNat / 2 ^ 2 from tnL_shr 2 (by decide) a, A]; rfl
    have hl : sV 4 (pr (pr β)) 16 < 2 ^ 64 := sV_lt (fun j => by have := d1 j; show _ < 16; omega) 16
    rw [hb, tnL_add (by rw [q1, q2, h2]; exact hl), q1, q2, h2]
  have h3 := sw_3 (n := 8) (M := 1085102592571150095) d1 (fun j hj => dz j hj) (fun i hi => mf_64 i hi) (by decide)
  have C : c.toBitVec.toNat = sV 8 (pr (pr (pr β))) 8 := by
    have q2 : ((b.toUInt64 >>> ((4 : Int32).toInt64.toUInt64 &&& Int64.toUInt64 63)).toInt64).toBitVec.toNat = sV 4 (pr (pr β)) 16 / 16 := by rw [show ((b.toUInt64 >>> ((4 : Int32).toInt64.toUInt64 &&& Int64.toUInt64 63)).toInt64).toBitVec.toNat = b.toBitVec.toNat / 2 ^ 4 from tnL_shr 4 (by decide) b, B]
    rw [hc, tnL_and, tnL_add (by rw [q2, B]; exact h3.1), q2, B]
    exact h3.2
  generalize hE : pr (pr (pr β)) = E at C
  have e1 : ∀ j, E j ≤ 8 := fun j => by rw [← hE]; have := d1 (2 * j); have := d1 (2 * j + 1); show pr (pr β) _ + pr (pr β) _ ≤ 8; omega
  have ez : ∀ j, 8 ≤ j → E j = 0 := fun j hj => by
    rw [← hE]
    show pr (pr β) _ + pr (pr β) _ = 0
    rw [dz _ (by omega), dz _ (by omega)]
  have h4 := sw_4 (n := 8) (k := 1) (e := E) (fun j => by have := e1 j; have := e1 (j + 1); omega) ez
  have D : d.toBitVec.toNat = sV 8 (fun j => E j + E (j + 1)) 8 := by
    have q2 : ((c.toUInt64 >>> ((8 : Int32).toInt64.toUInt64 &&& Int64.toUInt64 63)).toInt64).toBitVec.toNat = sV 8 E 8 / 2 ^ (8 * 1) := by rw [show ((c.toUInt64 >>> ((8 : Int32).toInt64.toUInt64 &&& Int64.toUInt64 63)).toInt64).toBitVec.toNat = c.toBitVec.toNat / 2 ^ 8 from tnL_shr 8 (by decide) c, C]
    rw [hd, tnL_add (by rw [q2, C, h4.1]; exact h4.2), q2, C, h4.1]
  have h5 := sw_4 (n := 8) (k := 2) (e := fun j => E j + E (j + 1)) (fun j => by have := e1 j; have := e1 (j + 1); have := e1 (j + 2); have := e1 (j + 2 + 1); show E j + E (j + 1) + (E (j + 2) + E (j + 2 + 1)) < 256; omega) (fun j hj => by show E j + E (j + 1) = 0; rw [ez j hj, ez (j + 1) (by omega)])
  have EE : e.toBitVec.toNat = sV 8 (fun j => E j + E (j + 1) + (E (j + 2) + E (j + 2 + 1))) 8 := by
    have q2 : ((d.toUInt64 >>> ((16 : Int32).toInt64.toUInt64 &&& Int64.toUInt64 63)).toInt64).toBitVec.toNat = sV 8 (fun j => E j + E (j + 1)) 8 / 2 ^ (8 * 2) := by rw [show ((d.toUInt64 >>> ((16 : Int32).toInt64.toUInt64 &&& Int64.toUInt64 63)).toInt64).toBitVec.toNat = d.toBitVec.toNat / 2 ^ 16 from tnL_shr 16 (by decide) d, D]
    rw [he, tnL_add (by rw [q2, D, h5.1]; exact h5.2), q2, D, h5.1]
  have h6 := sw_4 (n := 8) (k := 4) (e := fun j => E j + E (j + 1) + (E (j + 2) + E (j + 2 + 1))) (fun j => by
    have := e1 j; have := e1 (j + 1); have := e1 (j + 2); have := e1 (j + 2 + 1); have := e1 (j + 4); have := e1 (j + 4 + 1); have := e1 (j + 4 + 2); have := e1 (j + 4 + 2 + 1)
    show E j + E (j + 1) + (E (j + 2) + E (j + 2 + 1)) + (E (j + 4) + E (j + 4 + 1) + (E (j + 4 + 2) + E (j + 4 + 2 + 1))) < 256; omega) (fun j hj => by show E j + E (j + 1) + (E (j + 2) + E (j + 2 + 1)) = 0; rw [ez j hj, ez (j + 1) (by omega), ez (j + 2) (by omega), ez (j + 2 + 1) (by omega)])
  have F : f.toBitVec.toNat % 256 = E 0 + E 1 + (E 2 + E 3) + (E 4 + E 5 + (E 6 + E 7)) := by
    have q2 : ((e.toUInt64 >>> ((32 : Int32).toInt64.toUInt64 &&& Int64.toUInt64 63)).toInt64).toBitVec.toNat = sV 8 (fun j => E j + E (j + 1) + (E (j + 2) + E (j + 2 + 1))) 8 / 2 ^ (8 * 4) := by rw [show ((e.toUInt64 >>> ((32 : Int32).toInt64.toUInt64 &&& Int64.toUInt64 63)).toInt64).toBitVec.toNat = e.toBitVec.toNat / 2 ^ 32 from tnL_shr 32 (by decide) e, EE]
    rw [hf, tnL_add (by rw [q2, EE, h6.1]; exact h6.2), q2, EE, h6.1, sV_low _ 7]
    apply Nat.mod_eq_of_lt
    show E 0 + E 1 + (E 2 + E 3) + (E 4 + E 5 + (E 6 + E 7)) < 256
    have := e1 0; have := e1 1; have := e1 2; have := e1 3; have := e1 4; have := e1 5; have := e1 6; have := e1 7
    omega
  have S : sm β 64 = sm E 8 := by
    rw [← hE, show (64 : Nat) = 2 * (2 * (2 * 8)) from rfl, sm_pr, sm_pr, sm_pr]
  have S8 : sm E 8 = E 0 + E 1 + (E 2 + E 3) + (E 4 + E 5 + (E 6 + E 7)) := by
    show 0 + E 0 + E 1 + E 2 + E 3 + E 4 + E 5 + E 6 + E 7 = _
    omega
  rw [F, S, S8]
  have := e1 0; have := e1 1; have := e1 2; have := e1 3; have := e1 4; have := e1 5; have := e1 6; have := e1 7
  exact ⟨rfl, by omega⟩
theorem sw_l2i (x : Int64) {j : Nat} (hj : j < 32) : bt x.toInt32 j = bl x j := by
  show (x.toBitVec.signExtend 32).getLsbD j = x.toBitVec.getLsbD j
  rw [BitVec.getLsbD_signExtend]
  simp [hj, show j < 64 by omega]
theorem swL_pop (x : Int64) : (swL x).toInt32 &&& 127 = popL x := by
  obtain ⟨h1, h2⟩ := swL_nat x
  show _ = pcL x 64
  rw [pk_and _ 7 rfl, pcL_sm]
  congr 1
  have e : (swL x).toInt32.toBitVec.toNat % 2 ^ 7 = (swL x).toBitVec.toNat % 2 ^ 7 := by
    apply Nat.eq_of_testBit_eq
    intro i
    rw [Nat.testBit_mod_two_pow, Nat.testBit_mod_two_pow]
    by_cases c : i < 7
    · have := sw_l2i (swL x) (j := i) (by omega)
      rw [show (swL x).toInt32.toBitVec.toNat.testBit i = (swL x).toBitVec.toNat.testBit i from this]
    · rw [decide_eq_false c]; rfl
  rw [e]
  omega
theorem swI_nat (x : Int32) : (swI x).toBitVec.toNat % 256 = sm (b01 x.toBitVec.toNat) 32 ∧ sm (b01 x.toBitVec.toNat) 32 ≤ 32 := by
  have hX : x.toBitVec.toNat < 2 ^ 32 := x.toBitVec.isLt
  obtain ⟨a, ha⟩ : ∃ a, a = x - ((x.toUInt32 >>> ((1 : Int32).toUInt32 &&& Int32.toUInt32 31)).toInt32 &&& 1431655765) := ⟨_, rfl⟩
  obtain ⟨b, hb⟩ : ∃ b, b = (a &&& 858993459) + ((a.toUInt32 >>> ((2 : Int32).toUInt32 &&& Int32.toUInt32 31)).toInt32 &&& 858993459) := ⟨_, rfl⟩
  obtain ⟨c, hc⟩ : ∃ c, c = (b + (b.toUInt32 >>> ((4 : Int32).toUInt32 &&& Int32.toUInt32 31)).toInt32) &&& 252645135 := ⟨_, rfl⟩
  obtain ⟨d, hd⟩ : ∃ d, d = c + (c.toUInt32 >>> ((8 : Int32).toUInt32 &&& Int32.toUInt32 31)).toInt32 := ⟨_, rfl⟩
  obtain ⟨f, hf⟩ : ∃ f, f = d + (d.toUInt32 >>> ((16 : Int32).toUInt32 &&& Int32.toUInt32 31)).toInt32 := ⟨_, rfl⟩
  have hs : swI x = f := by rw [hf, hd, hc, hb, ha]; rfl
  rw [hs]
  generalize hB : b01 x.toBitVec.toNat = β
  have β1 : ∀ j, β j ≤ 1 := fun j => by rw [← hB]; exact b01_le _ j
  have βz : ∀ j, 32 ≤ j → β j = 0 := fun j hj => by rw [← hB]; exact b01_z hX hj
  have h1 := sw_1 (n := 16) (M := 1431655765) hX (fun i hi => m5_32 i hi) (by decide)
  have A : a.toBitVec.toNat = sV 2 (pr β) 16 := by
    have q : ((x.toUInt32 >>> ((1 : Int32).toUInt32 &&& Int32.toUInt32 31)).toInt32 &&& 1431655765).toBitVec.toNat = x.toBitVec.toNat / 2 &&& 1431655765 := by
      rw [tnI_and, show ((x.toUInt32 >>> ((1 : Int32).toUInt32 &&& Int32.toUInt32 31)).toInt32).toBitVec.toNat = x.toBitVec.toNat / 2 ^ 1 from tnI_shr 1 (by decide) x]; rfl
    rw [ha, tnI_sub (by rw [q]; exact h1.1), q, h1.2, hB]
  have c1 : ∀ j, pr β j ≤ 2 := fun j => by have := β1 (2 * j); have := β1 (2 * j + 1); show β _ + β _ ≤ 2; omega
  have h2 := sw_2 (n := 8) (M := 858993459) c1 (fun i hi => m3_32 i hi) (by decide)
  have d1 : ∀ j, pr (pr β) j ≤ 4 := fun j => by have := c1 (2 * j); have := c1 (2 * j + 1); show pr β _ + pr β _ ≤ 4; omega
  have dz : ∀ j, 8 ≤ j → pr (pr β) j = 0 := fun j hj => by
    show β _ + β _ + (β _ + β _) = 0
    rw [βz _ (by omega), βz _ (by omega), βz _ (by omega), βz _ (by omega)]
  have B : b.toBitVec.toNat = sV 4 (pr (pr β)) 8 := by
    have q1 : (a &&& 858993459).toBitVec.toNat = sV 2 (pr β) 16 &&& 858993459 := by rw [tnI_and, A]; rfl
    have q2 : ((a.toUInt32 >>> ((2 : Int32).toUInt32 &&& Int32.toUInt32 31)).toInt32 &&& 858993459).toBitVec.toNat = sV 2 (pr β) 16 / 4 &&& 858993459 := by
      rw [tnI_and, show ((a.toUInt32 >>> ((2 : Int32).toUInt32 &&& Int32.toUInt32 31)).toInt32).toBitVec.toNat = a.toBitVec.toNat / 2 ^ 2 from tnI_shr 2 (by decide) a, A]; rfl
    have hl : sV 4 (pr (pr β)) 8 < 2 ^ 32 := sV_lt (fun j => by have := d1 j; show _ < 16; omega) 8
    rw [hb, tnI_add (by rw [q1, q2, h2]; exact hl), q1, q2, h2]
  have h3 := sw_3 (n := 4) (M := 252645135) d1 (fun j hj => dz j hj) (fun i hi => mf_32 i hi) (by decide)
  have C : c.toBitVec.toNat = sV 8 (pr (pr (pr β))) 4 := by
    have q2 : ((b.toUInt32 >>> ((4 : Int32).toUInt32 &&& Int32.toUInt32 31)).toInt32).toBitVec.toNat = sV 4 (pr (pr β)) 8 / 16 := by rw [show ((b.toUInt32 >>> ((4 : Int32).toUInt32 &&& Int32.toUInt32 31)).toInt32).toBitVec.toNat = b.toBitVec.toNat / 2 ^ 4 from tnI_shr 4 (by decide) b, B]
    rw [hc, tnI_and, tnI_add (by rw [q2, B]; exact h3.1), q2, B]
    exact h3.2
  generalize hE : pr (pr (pr β)) = E at C
  have e1 : ∀ j, E j ≤ 8 := fun j => by rw [← hE]; have := d1 (2 * j); have := d1 (2 * j + 1); show pr (pr β) _ + pr (pr β) _ ≤ 8; omega
  have ez : ∀ j, 4 ≤ j → E j = 0 := fun j hj => by
    rw [← hE]
    show pr (pr β) _ + pr (pr β) _ = 0
    rw [dz _ (by omega), dz _ (by omega)]
  have h4 := sw_4 (n := 4) (k := 1) (e := E) (fun j => by have := e1 j; have := e1 (j + 1); omega) ez
  have D : d.toBitVec.toNat = sV 8 (fun j => E j + E (j + 1)) 4 := by
    have q2 : ((c.toUInt32 >>> ((8 : Int32).toUInt32 &&& Int32.toUInt32 31)).toInt32).toBitVec.toNat = sV 8 E 4 / 2 ^ (8 * 1) := by rw [show ((c.toUInt32 >>> ((8 : Int32).toUInt32 &&& Int32.toUInt32 31)).toInt32).toBitVec.toNat = c.toBitVec.toNat / 2 ^ 8 from tnI_shr 8 (by decide) c, C]
    rw [hd, tnI_add (by rw [q2, C, h4.1]; exact h4.2), q2, C, h4.1]
  have h5 := sw_4 (n := 4) (k := 2) (e := fun j => E j + E (j + 1)) (fun j => by have := e1 j; have := e1 (j + 1); have := e1 (j + 2); have := e1 (j + 2 + 1); show E j + E (j + 1) + (E (j + 2) + E (j + 2 + 1)) < 256; omega) (fun j hj => by show E j + E (j + 1) = 0; rw [ez j hj, ez (j + 1) (by omega)])
  have F : f.toBitVec.toNat % 256 = E 0 + E 1 + (E 2 + E 3) := by
    have q2 : ((d.toUInt32 >>> ((16 : Int32).toUInt32 &&& Int32.toUInt32 31)).toInt32).toBitVec.toNat = sV 8 (fun j => E j + E (j + 1)) 4 / 2 ^ (8 * 2) := by rw [show ((d.toUInt32 >>> ((16 : Int32).toUInt32 &&& Int32.toUInt32 31)).toInt32).toBitVec.toNat = d.toBitVec.toNat / 2 ^ 16 from tnI_shr 16 (by decide) d, D]
    rw [hf, tnI_add (by rw [q2, D, h5.1]; exact h5.2), q2, D, h5.1, sV_low _ 3]
    apply Nat.mod_eq_of_lt
    show E 0 + E 1 + (E 2 + E 3) < 256
    have := e1 0; have := e1 1; have := e1 2; have := e1 3
    omega
  have S : sm β 32 = sm E 4 := by
    rw [← hE, show (32 : Nat) = 2 * (2 * (2 * 4)) from rfl, sm_pr, sm_pr, sm_pr]
  have S8 : sm E 4 = E 0 + E 1 + (E 2 + E 3) := by
    show 0 + E 0 + E 1 + E 2 + E 3 = _
    omega
  rw [F, S, S8]
  have := e1 0; have := e1 1; have := e1 2; have := e1 3
  exact ⟨rfl, by omega⟩
theorem swI_pop (x : Int32) : swI x &&& 63 = popI x := by
  obtain ⟨h1, h2⟩ := swI_nat x
  show _ = pcI x 32
  rw [pk_and _ 6 rfl, pcI_sm]
  congr 1
  omega
def tz1 (m : Int32) (k : Int32) (s : Int32) : Int32 := if m ≤ k then m else (m.toUInt32 >>> (s.toUInt32 &&& Int32.toUInt32 31)).toInt32
def tzI (x : Int32) : Int32 :=
  let m := (x ^^^ (-1)) &&& (x - 1)
  if 0 < m then
    let a := tz1 m 65536 16
    let b := tz1 a 256 8
    let c := tz1 b 16 4
    let d := tz1 c 4 2
    (((1 + (if m ≤ 65536 then 0 else 16)) + (if a ≤ 256 then 0 else 8)) + (if b ≤ 16 then 0 else 4)) + (if c ≤ 4 then 0 else 2) + (d.toUInt32 >>> ((1 : Int32).toUInt32 &&& Int32.toUInt32 31)).toInt32
  else m &&& 32
def tzL (x : Int64) : Int32 := if x.toInt32 = 0 then 32 + tzI ((x.toUInt64 >>> ((32 : Int32).toInt64.toUInt64 &&& Int64.toUInt64 63)).toInt64).toInt32 else tzI x.toInt32
