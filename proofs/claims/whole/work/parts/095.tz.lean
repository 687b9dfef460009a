/-! the lowest bit -/
def lo (k : Nat) : Nat → Nat
  | 0 => 0
  | f + 1 => if k % 2 = 1 then 0 else 1 + lo (k / 2) f
abbrev lw (k : Nat) : Nat := lo k 12
abbrev rs (k : Nat) : Nat := lo (k &&& (k - 1)) 12
theorem lw_le : ∀ (f k : Nat), lo k f ≤ f
  | 0, _ => Nat.le_refl _
  | f + 1, k => by
    unfold lo
    split
    · omega
    · have := lw_le f (k / 2); omega
theorem lw_lt : ∀ (f k : Nat), 0 < k → k < 2 ^ f → lo k f < f
  | 0, k, h, h2 => by omega
  | f + 1, k, h, h2 => by
    unfold lo
    split
    · omega
    · have := lw_lt f (k / 2) (by omega) (by rw [Nat.pow_succ] at h2; omega); omega
theorem lw_add : ∀ (f k N : Nat), 0 < k → N ≤ f → k < 2 ^ N → k + 2 ^ lo k f ≤ 2 ^ N
  | 0, k, N, h, hN, h2 => by
    have : N = 0 := by omega
    subst this; omega
  | f + 1, k, N, h, hN, h2 => by
    unfold lo
    cases N with
    | zero => omega
    | succ N =>
      rw [Nat.pow_succ] at h2 ⊢
      split
      · omega
      · have := lw_add f (k / 2) N (by omega) (by omega) (by omega)
        rw [Nat.add_comm 1, Nat.pow_succ]; omega
set_option maxRecDepth 100000 in
theorem tz_lo : ∀ k, k < 4096 → 0 < k → (if (11 : Int32) < tzI (nI k) then 11 else tzI (nI k)) = nI (lw k) := by decide +kernel
set_option maxRecDepth 100000 in
theorem tz_rs : ∀ k, k < 4096 → 0 < k → (if (12 : Int32) < tzI (nI k &&& (nI k - 1)) then 12 else tzI (nI k &&& (nI k - 1))) = nI (rs k) := by decide +kernel
