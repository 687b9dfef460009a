/-! copy -/
theorem mv_at {bs mv : Nat → Int32} {a : Nat} : ∀ n p, mvR bs a mv n p = if p < n then bs (a + p) else mv p
  | 0, p => by rw [mvR, if_neg (by omega)]
  | n + 1, p => by
    rw [mvR]
    by_cases e : p = n
    · subst e; rw [pk_us, if_pos (by omega)]
    · rw [pk_un e, mv_at n p]
      by_cases q : p < n
      · rw [if_pos q, if_pos (by omega)]
      · rw [if_neg q, if_neg (by omega)]
theorem cp_at {mv bs : Nat → Int32} {b : Nat} : ∀ n p, cpR mv b bs n p = if b ≤ p ∧ p < b + n then mv (p - b) else bs p
  | 0, p => by rw [cpR, if_neg (by omega)]
  | n + 1, p => by
    rw [cpR]
    by_cases e : p = b + n
    · subst e; rw [pk_us, if_pos (by omega), show b + n - b = n by omega]
    · rw [pk_un e, cp_at n p]
      by_cases q : b ≤ p ∧ p < b + n
      · rw [if_pos q, if_pos (by omega)]
      · rw [if_neg q, if_neg (by omega)]
theorem cpy_at (bs mv : Nat → Int32) (a b n p : Nat) : cpR (mvR bs a mv n) b bs n p = if b ≤ p ∧ p < b + n then bs (a + (p - b)) else bs p := by
  rw [cp_at]
  by_cases q : b ≤ p ∧ p < b + n
  · rw [if_pos q, if_pos q, mv_at, if_pos (by omega)]
  · rw [if_neg q, if_neg q]
theorem msk_bit : ∀ n, n < 6 → ∀ i, i < 64 → bl (mskB n) i = decide (i < 8 * n) := by decide +kernel
theorem cpB_eq {bs mv : Nat → Int32} {t o i j n : Nat} (hb : ByOk bs) (ht : t < 20) (ho : o < 20) (hi : i + n ≤ 5) (hj : j + n ≤ 5) : cpB (rbS bs t 5) (rbS bs o 5) i j n = rbS (cpR (mvR bs (5 * t + i) mv n) (5 * o + j) bs n) o 5 := by
  have hb' : ByOk (cpR (mvR bs (5 * t + i) mv n) (5 * o + j) bs n) := fun p hp => by
    rw [cpy_at]
    by_cases q : 5 * o + j ≤ p ∧ p < 5 * o + j + n
    · rw [if_pos q]; exact hb _ (by omega)
    · rw [if_neg q]; exact hb p hp
  apply l_ext
  intro p hp
  rw [cpB, l_or, l_and, l_not _ hp, l_shl (8 * j) (by omega) _ hp, l_shl (8 * j) (by omega) _ hp, l_and, l_ushr (8 * i) (by omega), msk_bit n (by omega) _ (by omega), rb5 hb ho hp, rb5 hb' ho hp, cpy_at]
  rcases Nat.lt_or_ge p (8 * j) with q | q
  · rw [decide_eq_false (show ¬ 8 * j ≤ p by omega), if_neg (by omega)]
    simp
  · rw [decide_eq_true q]
    rcases Nat.lt_or_ge p (8 * j + 8 * n) with q2 | q2
    · rw [decide_eq_true (show p - 8 * j < 8 * n by omega), decide_eq_true (show p < 40 by omega), if_pos (by omega), rb5 hb ht (by omega), decide_eq_true (show 8 * i + (p - 8 * j) < 40 by omega), show (8 * i + (p - 8 * j)) / 8 = i + (p / 8 - j) by omega, show (8 * i + (p - 8 * j)) % 8 = p % 8 by omega, show 5 * t + i + (5 * o + p / 8 - (5 * o + j)) = 5 * t + (i + (p / 8 - j)) by omega]
      simp
    · rw [decide_eq_false (show ¬ p - 8 * j < 8 * n by omega), if_neg (by omega)]
      simp
theorem stT {a b : Nat} (h : a + b ≤ 5) : stB (nI a) (nI b) = true := by
  have h1 : ¬ nI a < 0 := nI_pos (by omega)
  have h2 : ¬ (5 : Int32) < nI a := nI_nlt (a := 5) (b := a) (by omega) (by omega)
  have e : (5 : Int32) - nI a = nI (5 - a) := pk_sub (a := 5) (by omega)
  have h3 : ¬ nI (5 - a) < nI b := nI_nlt (by omega) (by omega)
  simp [stB, h1, h2, e, h3]
theorem st_iff {i n : Int32} (hn : 0 ≤ n) : stB i n = false ↔ (i < 0 ∨ 5 < i.toInt64 + n.toInt64) := by
  constructor
  · intro h
    by_cases h1 : i < 0
    · exact Or.inl h1
    · by_cases h2 : i.toInt64 + n.toInt64 ≤ 5
      · obtain ⟨a, b, hab, rfl, rfl⟩ := cp_ex hn h1 h2
        rw [stT hab] at h
        cases h
      · exact Or.inr (Int64.not_le.mp h2)
  · intro h
    cases e : stB i n with
    | false => rfl
    | true =>
      obtain ⟨a, b, hab, rfl, rfl⟩ := st_ex hn e
      rcases h with h | h
      · exact absurd h (nI_pos (by omega))
      · rw [nI_l (by omega), nI_l (by omega), lN_add] at h
        exact absurd ((pk_lLT (a := 5) (by omega) (by omega)).mp h) (by omega)
section RELD
variable {s : CS} {g : GS}
theorem st_copy (h : Rel s g) (x i o j n : Int32) : Sim (xCopy x i o j n s) (gCopy x i o j n g) := by
  unfold xCopy gCopy
  have h20 := h.T20
  refine bis (by rw [h.T]) (fun _ => ⟨rfl, h⟩) (fun c1 => ?_)
  refine bis (by rw [h.T]) (fun _ => ⟨rfl, h⟩) (fun c2 => ?_)
  refine bis Iff.rfl (fun _ => sim_ref h 4) (fun c3 => ?_)
  obtain ⟨t, ht, rfl⟩ := inN_ex (by omega) (nofalse c1)
  obtain ⟨u, hu, rfl⟩ := inN_ex (by omega) (nofalse c2)
  have c3 : 0 ≤ n := Classical.byContradiction c3
  rw [nI_clamp (show t < 2 ^ 31 by omega), nI_clamp (show u < 2 ^ 31 by omega), h.tn (show t < 20 by omega), h.tn (show u < 20 by omega)]
  refine bis Iff.rfl (fun _ => sim_ref h 1) (fun c4 => ?_)
  refine bis Iff.rfl (fun _ => sim_ref h 1) (fun c5 => ?_)
  have c4 : gMs g t = 0 := Classical.byContradiction c4
  have c5 : gMs g u = 0 := Classical.byContradiction c5
  by_cases c6 : stB i n = false
  · rw [if_pos c6, if_pos (by rcases (st_iff c3).mp c6 with y | y; exact Or.inl y; exact Or.inr (Or.inr (Or.inl y)))]
    exact sim_ref h 2
  by_cases c7 : stB j n = false
  · rw [if_neg c6, if_pos c7, if_pos (by rcases (st_iff c3).mp c7 with y | y; exact Or.inr (Or.inl y); exact Or.inr (Or.inr (Or.inr y)))]
    exact sim_ref h 2
  rw [if_neg c6, if_neg c7, if_neg (fun y => by
    rcases y with y | y | y | y
    · exact c6 ((st_iff c3).mpr (Or.inl y))
    · exact c7 ((st_iff c3).mpr (Or.inl y))
    · exact c6 ((st_iff c3).mpr (Or.inr y))
    · exact c7 ((st_iff c3).mpr (Or.inr y)))]
  obtain ⟨a, b, hab, rfl, rfl⟩ := st_ex c3 (nofalse c6)
  obtain ⟨a2, b2, hab2, rfl, hbb⟩ := st_ex c3 (nofalse c7)
  have hbe : b = b2 := (nI_eq (by omega) (by omega)).mp hbb
  subst hbe
  rw [nI_clamp (show a < 2 ^ 31 by omega), nI_clamp (show a2 < 2 ^ 31 by omega), nI_clamp (show b < 2 ^ 31 by omega)]
  have e1 : tPa s.2.1 t = rbS (gBy g) t 5 := by rw [h.pa (show t < 20 by omega), gRe, raM, if_pos c4]
  have e2 : tPa s.2.1 u = rbS (gBy g) u 5 := by rw [h.pa (show u < 20 by omega), gRe, raM, if_pos c5]
  refine ⟨rfl, h.1, h.2.1, ⟨fun w hw => ⟨h.tn hw, ?_⟩, fun p hp => ?_⟩, h.2.2.2.1, h.2.2.2.2.1, h.2.2.2.2.2⟩
  · show vp_updL (tPa s.2.1) u (cpB (tPa s.2.1 t) (tPa s.2.1 u) a a2 b) w = raM (gMs g) (cpR (mvR (gBy g) (5 * t + a) (gMv g) b) (5 * u + a2) (gBy g) b) w
    by_cases e : w = u
    · subst e
      rw [pk_uLs, e1, e2, cpB_eq (mv := gMv g) h.by (by omega) (by omega) hab hab2, raM, if_pos c5]
    · rw [pk_uLn e, h.pa hw, gRe, raM, raM, rb_same (bs := gBy g) (bs' := cpR (mvR (gBy g) (5 * t + a) (gMv g) b) (5 * u + a2) (gBy g) b) (fun i hi => by rw [cpy_at, if_neg (by omega)]) 5 (Nat.le_refl 5)]
  · show ∃ c, c < 256 ∧ cpR (mvR (gBy g) (5 * t + a) (gMv g) b) (5 * u + a2) (gBy g) b p = nI c
    rw [cpy_at]
    by_cases q : 5 * u + a2 ≤ p ∧ p < 5 * u + a2 + b
    · rw [if_pos q]; exact h.by _ (by omega)
    · rw [if_neg q]; exact h.by p hp
end RELD
