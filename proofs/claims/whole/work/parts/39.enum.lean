/-! sets of members: numbered one by one, summed up by their lowest -/
def ct (f : Nat → Bool) : Nat → Nat
  | 0 => 0
  | n + 1 => ct f n + (if f n then 1 else 0)
theorem ct_step {f : Nat → Bool} {n : Nat} (h : f n = true) : ct f (n + 1) = ct f n + 1 := by rw [ct, if_pos h]
theorem ct_same {f : Nat → Bool} {n : Nat} (h : f n = false) : ct f (n + 1) = ct f n := by rw [ct, h]; rfl
theorem ct_mono {f : Nat → Bool} {a b : Nat} (h : a ≤ b) : ct f a ≤ ct f b := by
  induction b with
  | zero => rw [show a = 0 by omega]; exact Nat.le_refl _
  | succ b ih =>
    rcases Nat.lt_or_ge a (b + 1) with q | q
    · exact Nat.le_trans (ih (by omega)) (Nat.le_add_right _ _)
    · rw [show a = b + 1 by omega]; exact Nat.le_refl _
theorem ct_lt {f : Nat → Bool} {a b : Nat} (h : a < b) (hf : f a = true) : ct f a < ct f b := by
  have := ct_mono (f := f) (show a + 1 ≤ b by omega)
  rw [ct_step hf] at this
  omega
theorem ct_le (f : Nat → Bool) : ∀ n, ct f n ≤ n
  | 0 => Nat.le_refl _
  | n + 1 => by
    have := ct_le f n
    rw [ct]
    split <;> omega
theorem ct_congr {f f' : Nat → Bool} : ∀ {n : Nat}, (∀ t, t < n → f t = f' t) → ct f n = ct f' n
  | 0, _ => rfl
  | n + 1, h => by rw [ct, ct, ct_congr (n := n) (fun t ht => h t (by omega)), h n (by omega)]
theorem ct_cN (x : Int32) : ∀ n, ct (fun t => bt x t) n = cN x n
  | 0 => rfl
  | n + 1 => by rw [ct, cN, ct_cN x n]
theorem pkF_2 (f : Nat → Bool) (pk : Nat → Int32) : ∀ n, (pkF f pk n).2 = ct f n
  | 0 => rfl
  | n + 1 => by
    rw [pkF]
    cases h : f n
    · rw [if_neg Bool.false_ne_true, pkF_2 f pk n, ct_same h]
    · rw [if_pos rfl, ct_step h, ← pkF_2 f pk n]
theorem pkF_at {f : Nat → Bool} {pk : Nat → Int32} {t : Nat} (hf : f t = true) : ∀ n, t < n → (pkF f pk n).1 (ct f t) = nI t
  | 0, h => absurd h (Nat.not_lt_zero t)
  | n + 1, h => by
    rw [pkF]
    by_cases e : t = n
    · subst e
      rw [if_pos hf]
      show upd _ (pkF f pk t).2 (nI t) (ct f t) = nI t
      rw [pkF_2, pk_us]
    · have ih := pkF_at (pk := pk) hf n (by omega)
      cases hn : f n
      · rw [if_neg Bool.false_ne_true]; exact ih
      · rw [if_pos rfl]
        show upd _ (pkF f pk n).2 (nI n) (ct f t) = nI t
        rw [pkF_2, pk_un (Nat.ne_of_lt (ct_lt (show t < n by omega) hf))]; exact ih
theorem nI_bit (k : Nat) {p : Nat} (hp : p < 32) : bt (nI k) p = k.testBit p := by
  show (BitVec.ofNat 32 k).getLsbD p = _
  rw [BitVec.getLsbD_ofNat]; simp [hp]
/-- what a set of places comes to -/
def sS (a : Nat → Int32) (k : Nat) : Nat → Int32
  | 0 => 0
  | n + 1 => sS a k n + (if k.testBit n then a n else 0)
def oS (a : Nat → Int32) (k : Nat) : Nat → Int32
  | 0 => 0
  | n + 1 => oS a k n ||| (if k.testBit n then a n else 0)
def oL (a : Nat → Int64) (k : Nat) : Nat → Int64
  | 0 => 0
  | n + 1 => oL a k n ||| (if k.testBit n then a n else 0)
theorem so_bit {f : Nat → Bool} {mv : Nat → Int32} {k T : Nat} (hT : T ≤ 20) (hmv : ∀ t, t < T → f t = true → mv (ct f t) = nI t) : ∀ n, n ≤ T → ∀ i, i < 32 → bt (soS mv (nI k) (ct f n)) i = (decide (i < n) && f i && k.testBit (ct f i))
  | 0, _, i, _ => by rw [ct, soS, b_0, decide_eq_false (Nat.not_lt_zero i)]; rfl
  | n + 1, hn, i, hi => by
    have ih := so_bit (k := k) hT hmv n (by omega) i hi
    have hcl := ct_le f n
    cases hf : f n
    · rw [ct_same hf, ih]
      by_cases e : i = n
      · subst e; rw [hf]; simp
      · by_cases q : i < n
        · rw [decide_eq_true q, decide_eq_true (show i < n + 1 by omega)]
        · rw [decide_eq_false q, decide_eq_false (show ¬ i < n + 1 by omega)]
    · rw [ct_step hf, soS, b_or, ih, hmv n (by omega) hf, nI_bit k (by omega)]
      by_cases e : i = n
      · subst e
        rw [decide_eq_false (Nat.lt_irrefl i), decide_eq_true (show i < i + 1 by omega), hf]
        cases k.testBit (ct f i)
        · rw [if_neg Bool.false_ne_true, b_0]; rfl
        · rw [if_pos rfl, oneE, b_one (by omega) hi]; simp
      · have hz : bt (if k.testBit (ct f n) = true then (1 : Int32) <<< (nI n &&& 31) else 0) i = false := by
          cases k.testBit (ct f n)
          · rw [if_neg Bool.false_ne_true, b_0]
          · rw [if_pos rfl, oneE, b_one (by omega) hi, decide_eq_false e]
        rw [hz, Bool.or_false]
        by_cases q : i < n
        · rw [decide_eq_true q, decide_eq_true (show i < n + 1 by omega)]
        · rw [decide_eq_false q, decide_eq_false (show ¬ i < n + 1 by omega)]
theorem lw_bit : ∀ (f k : Nat), 0 < k → k < 2 ^ f → k.testBit (lo k f) = true ∧ (∀ i, i < lo k f → k.testBit i = false) ∧ k % 2 ^ lo k f = 0
  | 0, k, h, h2 => by omega
  | f + 1, k, h, h2 => by
    unfold lo
    by_cases c : k % 2 = 1
    · rw [if_pos c]
      refine ⟨by rw [Nat.testBit_zero]; exact decide_eq_true c, fun i hi => absurd hi (Nat.not_lt_zero i), Nat.mod_one k⟩
    · rw [if_neg c]
      obtain ⟨i1, i2, i3⟩ := lw_bit f (k / 2) (by omega) (by rw [Nat.pow_succ] at h2; omega)
      refine ⟨by rw [Nat.add_comm, Nat.testBit_succ]; exact i1, fun i hi => ?_, ?_⟩
      · cases i with
        | zero => rw [Nat.testBit_zero]; exact decide_eq_false c
        | succ i => rw [Nat.testBit_succ]; exact i2 i (by omega)
      · rw [Nat.add_comm, Nat.pow_succ]
        have h3 : k = 2 * (k / 2) := by omega
        have h4 := Nat.div_add_mod (k / 2) (2 ^ lo (k / 2) f)
        rw [i3, Nat.add_zero] at h4
        rw [h3, ← h4, show 2 * (2 ^ lo (k / 2) f * (k / 2 / 2 ^ lo (k / 2) f)) = 2 ^ lo (k / 2) f * 2 * (k / 2 / 2 ^ lo (k / 2) f) by rw [Nat.mul_comm (2 ^ lo (k / 2) f) 2, Nat.mul_assoc]]
        exact Nat.mul_mod_right _ _
/-- a set without its lowest member -/
theorem rest_bit {k : Nat} (h : 0 < k) (h2 : k < 4096) (i : Nat) : (k &&& (k - 1)).testBit i = (k.testBit i && !decide (i = lw k)) := by
  obtain ⟨b1, b2, b3⟩ := lw_bit 12 k h h2
  have hk : k = 2 ^ lw k * (k / 2 ^ lw k) := by have := Nat.div_add_mod k (2 ^ lw k); omega
  have hp := Nat.two_pow_pos (lw k)
  have hq : 0 < k / 2 ^ lw k := Nat.pos_of_ne_zero (fun e => by rw [e, Nat.mul_zero] at hk; omega)
  rw [Nat.testBit_and]
  rcases Nat.lt_or_ge i (lw k) with q | q
  · rw [b2 i q]; rfl
  · have e1 : (k - 1) / 2 ^ lw k = k / 2 ^ lw k - 1 := by
      generalize k / 2 ^ lw k = y at hk hq
      obtain ⟨y', rfl⟩ : ∃ y', y = y' + 1 := ⟨y - 1, by omega⟩
      rw [Nat.mul_add, Nat.mul_one] at hk
      rw [hk, show 2 ^ lw k * y' + 2 ^ lw k - 1 = (2 ^ lw k - 1) + 2 ^ lw k * y' by omega, Nat.add_mul_div_left _ _ hp, Nat.div_eq_of_lt (by omega)]
      omega
    have odd : (k / 2 ^ lw k) % 2 = 1 := by
      have := b1
      rw [Nat.testBit_eq_decide_div_mod_eq, decide_eq_true_eq] at this
      exact this
    have e2 : ∀ j, (k - 1).testBit (lw k + j) = ((k / 2 ^ lw k) - 1).testBit j := fun j => by rw [← e1, Nat.testBit_div_two_pow, Nat.add_comm]
    have e3 : ∀ j, k.testBit (lw k + j) = (k / 2 ^ lw k).testBit j := fun j => by rw [Nat.testBit_div_two_pow, Nat.add_comm]
    obtain ⟨j, rfl⟩ : ∃ j, i = lw k + j := ⟨i - lw k, by omega⟩
    rw [e2, e3]
    cases j with
    | zero =>
      rw [Nat.testBit_zero, Nat.testBit_zero, decide_eq_true odd, decide_eq_false (by omega)]; simp
    | succ j =>
      rw [decide_eq_false (show ¬ lw k + (j + 1) = lw k by omega), Nat.testBit_succ, Nat.testBit_succ, show (k / 2 ^ lw k - 1) / 2 = k / 2 ^ lw k / 2 by omega]; simp
