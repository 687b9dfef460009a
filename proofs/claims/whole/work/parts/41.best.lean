/-! best -/
theorem tm_mono {kd ot : Nat → Int32} {x y : Int32} : ∀ {n : Nat}, (∀ t, t < n → ∃ m, 1 ≤ m ∧ m ≤ 1000 ∧ ot t = nI m) → (∀ t, t < n → bt x t = true → bt y t = true) → ∃ a b, a ≤ b ∧ b ≤ 3000 * n ∧ tmS kd ot x n = nI a ∧ tmS kd ot y n = nI b
  | 0, _, _ => ⟨0, 0, by omega, by omega, rfl, rfl⟩
  | n + 1, h, hs => by
    obtain ⟨a, b, h1, h2, h3, h4⟩ := tm_mono (kd := kd) (ot := ot) (x := x) (y := y) (n := n) (fun t ht => h t (by omega)) (fun t ht => hs t (by omega))
    obtain ⟨m, m1, m2, m3⟩ := h n (by omega)
    obtain ⟨c, c1, c2⟩ : ∃ c, c ≤ 3000 ∧ cTm kd ot n = nI c := by
      unfold cTm
      rw [m3]
      by_cases e : kd n = 1
      · rw [if_pos e, show (3 : Int32) * nI m = nI (3 * m) from pk_mul 3 m]; exact ⟨3 * m, by omega, rfl⟩
      · rw [if_neg e]; exact ⟨m, by omega, rfl⟩
    have hn := hs n (by omega)
    rw [tmS, tmS, h3, h4, c2]
    cases hx : bt x n
    · cases hy : bt y n
      · exact ⟨a, b, h1, by omega, by simp, by simp⟩
      · exact ⟨a, b + c, by omega, by omega, by simp, by rw [if_pos rfl, nI_add]⟩
    · rw [hn hx, if_pos rfl, nI_add, nI_add]
      exact ⟨a + c, b + c, by omega, by omega, rfl, rfl⟩
theorem pop_is (x : Int64) : ∃ m, m ≤ 64 ∧ popL x = nI m := by
  obtain ⟨m, h1, h2⟩ := bits_is x 64
  exact ⟨m, h1, (pc_bits x 64).symm.trans h2⟩
theorem cmp65 : ∀ u, u < 65 → ∀ v, v < 65 → ((0 < nI u - nI v ↔ nI v < nI u) ∧ (nI u - nI v = 0 ↔ nI u = nI v)) := by decide +kernel
theorem paS_mask (f : Nat → Int64) (P : Int64) (x : Int32) : ∀ n, paS (fun t => f t &&& P) x n = paS f x n &&& P
  | 0 => by rw [paS, paS, lAnd0]
  | n + 1 => by
    rw [paS, paS, paS_mask f P x n]
    apply l_ext
    intro i _
    cases bt x n
    · simp only [if_neg Bool.false_ne_true, l_or, l_and, l_0]; cases bl (paS f x n) i <;> cases bl P i <;> rfl
    · simp only [if_true, l_or, l_and]; cases bl (paS f x n) i <;> cases bl P i <;> cases bl (f n) i <;> rfl
/-- the class's found set is the reference's -/
def FR (ss : SS) (r : Int32 × Int32 × Int32) : Prop := sFb ss = r.1 ∧ popL (sFc ss) = r.2.1 ∧ sFt ss = r.2.2
/-- what a search needs to know of its sets -/
def EK (g : GS) (a : Nat → Q4) (mv : Nat → Int32) (N : Nat) (C : Nat → Int32) (V : Nat → Int64) : Prop := ∀ k, k < 2 ^ N → G4 a k = (soS mv (nI k) N, orC C (soS mv (nI k) N) (gT g), gTS g (soS mv (nI k) N), paS V (soS mv (nI k) N) (gT g)) ∧ (∀ i, gT g ≤ i → bt (soS mv (nI k) N) i = false) ∧ ∀ j, j < 2 ^ N → (∀ i, k.testBit i = true → j.testBit i = true) → ∀ i, bt (soS mv (nI k) N) i = true → bt (soS mv (nI j) N) i = true
theorem ek_of {g : GS} {f : Nat → Bool} {a : Nat → Q4} {mv : Nat → Int32} {C : Nat → Int32} {V : Nat → Int64} (hT : gT g ≤ 20) (hN : ct f (gT g) ≤ 12) (ha : ∀ t, t < gT g → f t = true → a (ct f t) = (one t, C t, cTm (gKd g) (gTi g) t, V t)) (hmv : ∀ t, t < gT g → f t = true → mv (ct f t) = nI t) : EK g a mv (ct f (gT g)) C V := by
  intro k hk
  have hb := fun k => so_bit (k := k) hT hmv (gT g) (Nat.le_refl _)
  have hbig : ∀ k i, gT g ≤ i → bt (soS mv (nI k) (ct f (gT g))) i = false := fun k i hi => by
    rcases Nat.lt_or_ge i 32 with c | c
    · rw [hb k i c, decide_eq_false (by omega)]; rfl
    · exact b_big c
  refine ⟨?_, hbig k, fun j hj hs i hi => ?_⟩
  · have e1 : G4 a k = gS op4 z4 a k.testBit (ct f (gT g)) := by
      have := gS_more (op := op4) (z := z4) (a := a) (b := k.testBit) (n := ct f (gT g)) (fun t ht => t_big hk ht) (12 - ct f (gT g))
      rw [show ct f (gT g) + (12 - ct f (gT g)) = 12 by omega] at this
      exact this
    have e2 := gS_ct (op := op4) (z := z4) (f := f) (a := a) (a' := fun t => (one t, C t, cTm (gKd g) (gTi g) t, V t)) (b := k.testBit) (b' := fun t => bt (soS mv (nI k) (ct f (gT g))) t) (n := gT g) ha (fun t ht => by rw [hb k t (by omega), decide_eq_true ht, Bool.true_and])
    rw [e1, ← e2, c4, orI_self (by omega) (hbig k)]
  · rcases Nat.lt_or_ge i 32 with c | c
    · rw [hb k i c] at hi
      rw [hb j i c]
      simp only [Bool.and_eq_true] at hi ⊢
      exact ⟨hi.1, hs _ hi.2⟩
    · rw [b_big c] at hi; exact absurd hi Bool.false_ne_true
section BEST
variable {s : CS} {g : GS}
theorem Rel.ti (h : Rel s g) : ∀ t, t < gT g → ∃ m, 1 ≤ m ∧ m ≤ 1000 ∧ gTi g t = nI m := h.2.1.2.2.2.2.2
theorem bs_same {tm : Int32} {mv : Nat → Int32} {m j : Nat} (h : tm < gTS g (soS mv (nI (j + 1)) m)) : bsM g tm mv m (j + 1) = bsM g tm mv m j := by
  rw [bsM, if_neg]
  intro ⟨h1, _⟩
  have := (whB_iff.mp h1).1
  rw [decide_eq_true h] at this
  exact absurd this (by decide)
theorem bs_skip {tm : Int32} {mv : Nat → Int32} {m k : Nat} : ∀ d, (∀ j, k < j → j ≤ k + d → tm < gTS g (soS mv (nI j) m)) → bsM g tm mv m (k + d) = bsM g tm mv m k
  | 0, _ => rfl
  | d + 1, h => by
    show bsM g tm mv m (k + d + 1) = _
    rw [bs_same (h (k + d + 1) (by omega) (by omega)), bs_skip d (fun j h1 h2 => h j h1 (by omega))]
theorem sk_rel (h : Rel s g) (h0 : ¬ gB g = 0) {M : Nat} (hM : M ≤ 30000) {a : Nat → Q4} {mv : Nat → Int32} {N : Nat} (hN : N ≤ 12) (he : EK g a mv N (gCh g) (fun t => gRe g t &&& gCg g (gB g - 1))) : ∀ (f : Nat) (ss : SS) (k : Nat), it4 ss = a → sN ss = N → SI ss k → 0 < k → k ≤ 2 ^ N → 2 ^ N < k + f → FR ss (bsM g (nI M) mv N (k - 1)) → FR (skW (nI M) f ss k) (bsM g (nI M) mv N (2 ^ N - 1)) ∧ en4 (skW (nI M) f ss k) 12 = z4
  | 0, ss, k, _, _, _, _, h5, h6, _ => by omega
  | f + 1, ss, k, h1, h2, h3, h4, h5, h6, h7 => by
    have hp := pow_le12 hN
    rw [skW, h2]
    by_cases c : k < 2 ^ N
    · rw [if_pos c]
      have hk : k < 4096 := by omega
      have hat := sum_at hk h4 h3
      have hall := sum_all hk h4 h3
      obtain ⟨e1, e2, e3⟩ := he k c
      rw [h1, e1] at hat
      have hB : sBf (sumS ss k) (lw k) = soS mv (nI k) N := congrArg (·.1) hat
      have hC : sCf (sumS ss k) (lw k) = orC (gCh g) (soS mv (nI k) N) (gT g) := congrArg (·.2.1) hat
      have hT : sTf (sumS ss k) (lw k) = gTS g (soS mv (nI k) N) := congrArg (·.2.2.1) hat
      have hV : sVf (sumS ss k) (lw k) = gRS g (soS mv (nI k) N) &&& gCg g (gB g - 1) := (congrArg (·.2.2.2) hat).trans (paS_mask _ _ _ _)
      have hl2 : k + 2 ^ lw k ≤ 2 ^ N := lw_add 12 k N h4 hN c
      have hpos := Nat.two_pow_pos (lw k)
      obtain ⟨f1, f2, f3⟩ := h7
      by_cases ct : sTf (sumS ss k) (lw k) ≤ nI M
      · rw [if_pos ct]
        have si1 : ∀ ss' : SS, en4 ss' = en4 (sumS ss k) → it4 ss' = it4 ss → SI ss' (k + 1) := fun ss' q1 q2 => SI_next (k := k) (by omega) (by omega) (fun _ => by have := Nat.two_pow_pos (lw (k + 1)); omega) (by rw [q1, q2]; exact hall)
        obtain ⟨k', rfl⟩ : ∃ k', k = k' + 1 := ⟨k - 1, by omega⟩
        have hcond : (sCf (sumS ss (k' + 1)) (lw (k' + 1)) = sBf (sumS ss (k' + 1)) (lw (k' + 1)) ∧ wdr (sumS ss (k' + 1)) (lw (k' + 1)) = true) ↔ (bsW g (nI M) (soS mv (nI (k' + 1)) N) (gT g) = true ∧ ((bsM g (nI M) mv N k').2.1 < bsP g (soS mv (nI (k' + 1)) N) ∨ (bsP g (soS mv (nI (k' + 1)) N) = (bsM g (nI M) mv N k').2.1 ∧ ¬ (bsM g (nI M) mv N k').2.2 ≤ gTS g (soS mv (nI (k' + 1)) N)))) := by
          refine and_congr ?_ ?_
          · rw [hC, hB, closed_iff h.T20 (fun t ht => ch_self g (by have := h.T20; omega)) e2, whB_iff]
            rw [hT] at ct
            constructor
            · intro q
              refine ⟨by rw [decide_eq_false (Int32.not_lt.mpr ct)]; rfl, fun t ht => ?_⟩
              cases hb : bt (soS mv (nI (k' + 1)) N) t
              · rfl
              · rw [decide_eq_true (q t ht hb)]; rfl
            · intro q t ht hb
              have := q.2 t ht
              rw [hb] at this
              simpa using this
          · have e4 : popL (sVf (sumS ss (k' + 1)) (lw (k' + 1))) = bsP g (soS mv (nI (k' + 1)) N) := by
              rw [hV]; exact pop40 (fun i hi => by rw [l_and, h.cg40 h0 i hi, Bool.and_false])
            have e5 : popL (sFc (sumS ss (k' + 1))) = (bsM g (nI M) mv N k').2.1 := f2
            have e6 : sFt (sumS ss (k' + 1)) = (bsM g (nI M) mv N k').2.2 := f3
            unfold wdr
            obtain ⟨u, u1, u2⟩ := pop_is (sVf (sumS ss (k' + 1)) (lw (k' + 1)))
            obtain ⟨v, v1, v2⟩ := pop_is (sFc (sumS ss (k' + 1)))
            have hc := cmp65 u (by omega) v (by omega)
            rw [← e4, ← e5, ← e6, ← hT, u2, v2, Bool.or_eq_true, Bool.and_eq_true, decide_eq_true_eq, decide_eq_true_eq, decide_eq_true_eq, hc.1, hc.2, Int32.not_le]
        by_cases cc : sCf (sumS ss (k' + 1)) (lw (k' + 1)) = sBf (sumS ss (k' + 1)) (lw (k' + 1)) ∧ wdr (sumS ss (k' + 1)) (lw (k' + 1)) = true
        · rw [if_pos cc]
          refine sk_rel h h0 hM hN he f _ _ h1 h2 (si1 _ rfl rfl) (by omega) (by omega) (by omega) ?_
          show FR _ (bsM g (nI M) mv N (k' + 1))
          rw [bsM, if_pos (hcond.mp cc)]
          refine ⟨hB, ?_, hT⟩
          show popL (sVf (sumS ss (k' + 1)) (lw (k' + 1))) = _
          rw [hV]; exact pop40 (fun i hi => by rw [l_and, h.cg40 h0 i hi, Bool.and_false])
        · rw [if_neg cc]
          refine sk_rel h h0 hM hN he f _ _ h1 h2 (si1 _ rfl rfl) (by omega) (by omega) (by omega) ?_
          show FR _ (bsM g (nI M) mv N (k' + 1))
          rw [bsM, if_neg (fun z => cc (hcond.mpr z))]
          exact ⟨f1, f2, f3⟩
      · rw [if_neg ct]
        refine sk_rel h h0 hM hN he f _ _ h1 h2 (SI_next (by omega) (by omega) (fun q => ?_) hall) (by omega) (by omega) (by omega) ?_
        · have := fN2 hk h4 q
          have := Nat.pow_le_pow_right (n := 2) (by decide) this
          omega
        · have : bsM g (nI M) mv N (k - 1 + 2 ^ lw k) = bsM g (nI M) mv N (k - 1) := by
            refine bs_skip _ (fun j j1 j2 => ?_)
            have hj : j < 2 ^ N := by omega
            have hsub := e3 j hj (fun i hi => fUp hk h4 (by omega) (by omega) i hi)
            obtain ⟨x, y, q1, q2, q3, q4⟩ := tm_mono (kd := gKd g) (ot := gTi g) (x := soS mv (nI k) N) (y := soS mv (nI j) N) (n := gT g) h.ti (fun t _ => hsub t)
            have h20 := h.T20
            rw [hT, show gTS g (soS mv (nI k) N) = nI x from q3, Int32.not_le] at ct
            rw [show gTS g (soS mv (nI j) N) = nI y from q4]
            have := (nI_ltI (by omega) (by omega)).mp ct
            exact (nI_ltI (by omega) (by omega)).mpr (by omega)
          rw [show k + 2 ^ lw k - 1 = k - 1 + 2 ^ lw k by omega, this]
          exact ⟨f1, f2, f3⟩
    · rw [if_neg c]
      have : k = 2 ^ N := by omega
      rw [← this]
      exact ⟨h7, h3.1⟩
theorem Rel.mayN (h : Rel s g) : ct (fun t => bt (cPk s.2.1) t) (gT g) = (byM g).2 := by
  rw [pkF_2]; exact ct_congr (fun t ht => h.may ht)
theorem orI_hi {f : Nat → Bool} {n : Nat} (hn : n ≤ 32) {i : Nat} (hi : n ≤ i) : bt (orI f n) i = false := by
  rcases Nat.lt_or_ge i 32 with c | c
  · rw [orI_bit f n hn i c, decide_eq_false (by omega)]; rfl
  · exact b_big c
theorem st_best (h : Rel s g) (tm : Int32) : Sim (xBest tm s) (gBest tm g) := by
  have h20 := h.T20
  unfold xBest gBest
  refine bis Iff.rfl (fun _ => ⟨rfl, h⟩) (fun c1 => ?_)
  refine bis (by rw [h.B]) (fun _ => ⟨rfl, h⟩) (fun c2 => ?_)
  have hm := h.mayN
  have hle := ct_le (fun t => bt (cPk s.2.1) t) (gT g)
  have hpop : popI (cPk s.2.1) = nI (byM g).2 := by
    rw [← hm, ct_cN]
    exact popI_cN (by omega) (fun i hi => orI_hi (by rw [h.T]; omega) (by rw [h.T]; exact hi))
  refine bis ?_ (fun _ => ⟨rfl, h⟩) (fun c3 => ?_)
  · rw [hpop, Int32.not_le]
    exact nI_ltI (a := 12) (by omega) (by omega)
  obtain ⟨M, hM, rfl⟩ := rg_ex (N := 30000) rfl (nofalse c1)
  have had := ad_at (ts := s.2.1) (al := cPk s.2.1) (co := fun t => tPa s.2.1 t &&& pcg (hCg s.2.2.1) (hB s.2.2.1)) (ss := s.2.2.2.2) (gT g) (by omega)
  obtain ⟨a1, a2, a3, a4, a5, a6⟩ := had
  have hE : EK g (it4 (adS s.2.1 (cPk s.2.1) (fun t => tPa s.2.1 t &&& pcg (hCg s.2.2.1) (hB s.2.2.1)) s.2.2.2.2 (gT g))) (byM g).1 (ct (fun t => bt (cPk s.2.1) t) (gT g)) (gCh g) (fun t => gRe g t &&& gCg g (gB g - 1)) := by
    refine ek_of h20 (by omega) (fun t ht hf => ?_) (fun t ht hf => ?_)
    · rw [a2 t ht hf, h.ch ht, h.ctm (by omega), h.pa (by omega), h.pcg c2]
    · have e : ct (fun t => bt (cPk s.2.1) t) t = ct (gMb g) t := ct_congr (fun u hu => h.may (by omega))
      rw [e]
      exact pkF_at (by rw [← h.may ht]; exact hf) (gT g) ht
  rw [hm] at hE a1
  have hen : en4 (adS s.2.1 (cPk s.2.1) (fun t => tPa s.2.1 t &&& pcg (hCg s.2.2.1) (hB s.2.2.1)) s.2.2.2.2 (gT g)) 12 = z4 := by
    rw [a3]
    obtain ⟨r1, r2, r3, r4⟩ := h.2.2.2.2.2
    show (_, _, _, _) = _
    rw [r1, r2, r3, r4]; rfl
  have hpw := Nat.two_pow_pos (byM g).2
  have hpl := pow_le12 (N := (byM g).2) (by omega)
  have hf0 : popL 0 = 0 := by decide +kernel
  have := sk_rel h c2 hM (by omega) hE 4097 _ 1 rfl a1 (SI_1 hen) (by omega) (by omega) (by omega) ⟨a4, by rw [a6]; exact hf0, a5⟩
  rw [← h.T] at this
  obtain ⟨⟨q1, q2, q3⟩, q4⟩ := this
  refine ⟨q2, ⟨h.1.1, h.1.2.1, ?_⟩, h.2.1, h.2.2.1, h.2.2.2.1, h.2.2.2.2.1, ?_⟩
  · show (sFb _).toInt64 = (bsG (nI M) g).1.toInt64
    rw [q1]
  · exact ⟨congrArg (·.1) q4, congrArg (·.2.1) q4, congrArg (·.2.2.1) q4, congrArg (·.2.2.2) q4⟩
end BEST
