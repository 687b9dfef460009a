/-! numbers below 4096 as sets -/
set_option maxRecDepth 100000 in
theorem fRs : ∀ k, k < 4096 → 0 < k → k.testBit (lw k) = true ∧ (rs k = 12 ∧ k = 2 ^ lw k ∨ (rs k < 12 ∧ k.testBit (rs k) = true ∧ rs k ≠ lw k ∧ k / 2 ^ rs k * 2 ^ rs k = k - 2 ^ lw k)) := by decide +kernel
set_option maxRecDepth 100000 in
theorem fLo : ∀ k, k < 4096 → 0 < k → ∀ q, q < 12 → (k - 2 ^ lw k).testBit q = (k.testBit q && !decide (q = lw k)) := by decide +kernel
set_option maxRecDepth 100000 in
theorem fMd : ∀ k, k < 4096 → 0 < k → k % 2 ^ lw k = 0 := by decide +kernel
theorem fUp {k j : Nat} (hk : k < 4096) (h0 : 0 < k) (h1 : k ≤ j) (h2 : j < k + 2 ^ lw k) (i : Nat) (hb : k.testBit i = true) : j.testBit i = true := by
  have hm := fMd k hk h0
  generalize lw k = l at hm h2
  have hp := Nat.two_pow_pos l
  have hd : j / 2 ^ l = k / 2 ^ l := by
    have hkd := Nat.div_add_mod k (2 ^ l)
    rw [hm, Nat.add_zero] at hkd
    generalize k / 2 ^ l = y at hkd
    rw [Nat.div_eq_iff hp, Nat.mul_comm y]
    omega
  rcases Nat.lt_or_ge i l with q | q
  · exfalso
    have := Nat.testBit_mod_two_pow k l i
    rw [hm, hb, decide_eq_true q, Nat.zero_testBit] at this
    simp at this
  · have e : ∀ x : Nat, x.testBit i = (x / 2 ^ l).testBit (i - l) := fun x => by rw [Nat.testBit_div_two_pow, show i - l + l = i by omega]
    rw [e, hd, ← e]; exact hb
