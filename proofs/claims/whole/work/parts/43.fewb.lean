/-! fewest, the end -/
section FEWB
variable {s : CS} {g : GS}
theorem evS_bit (g : GS) (x : Int32) {i : Nat} (hT : gT g ≤ 20) (hi : i < 32) : ∀ b, bt (evS g x b) i = anyB (fun b => decide (i < gT g) && (bt x i && decide (gVe g (20 * b + i) = 1))) b
  | 0 => by rw [evS, anyB, b_0]
  | b + 1 => by rw [evS, anyB, b_or, evS_bit g x hT hi b, gFo, orI_bit _ _ (by omega) i hi]
theorem fe_nz (h : Rel s g) {t : Nat} (ht : t < 20) : (¬ hFe s.2.2.1 t = 0) ↔ ∃ b, b < gB g ∧ gVe g (20 * b + t) = 1 := by
  have h60 := h.B60
  constructor
  · intro hn
    rcases Classical.em (∃ b, b < gB g ∧ gVe g (20 * b + t) = 1) with q | q
    · exact q
    · exfalso
      apply hn
      apply l_ext
      intro b _
      rw [l_0]
      rcases Nat.lt_or_ge b (gB g) with c | c
      · cases e : bl (hFe s.2.2.1 t) b
        · rfl
        · exact absurd ⟨b, c, (h.one ht (by omega)).mp e⟩ q
      · exact (h.2.2.2.1.2.2.2.2.2.2 t b ht (by rw [h.B]; exact c)).1
  · rintro ⟨b, hb, hv⟩ e
    have := (h.one ht (show b < 60 by omega)).mpr hv
    rw [e, l_0] at this
    exact absurd this Bool.false_ne_true
theorem Rel.ev (h : Rel s g) : cWit s.2.1 s.2.2.1 = gEv g := by
  have h20 := h.T20
  apply b_ext
  intro i hi
  rw [orI_bit _ _ (by rw [h.T]; omega) i hi, evS_bit g _ h20 hi, h.T]
  by_cases c : i < gT g
  · rw [decide_eq_true c, Bool.true_and, (h.fact (show i < 20 by omega)).1, h.fk (show i < 20 by omega)]
    have hc : bt (gCo g) i = (!decide (gKd g i = 3) && !gFk g i) := by rw [orI_bit _ _ (by omega) i hi, decide_eq_true c, Bool.true_and]
    have hz := fe_nz h (show i < 20 by omega)
    cases e : anyB (fun b => true && (bt (gCo g) i && decide (gVe g (20 * b + i) = 1))) (gB g)
    · cases e2 : (!decide (gKd g i = 3) && !gFk g i)
      · revert e2
        cases decide (gKd g i = 3) <;> cases gFk g i <;> simp
      · have : hFe s.2.2.1 i = 0 := Classical.byContradiction fun z => by
          obtain ⟨b, q1, q2⟩ := hz.mp z
          have : anyB (fun b => true && (bt (gCo g) i && decide (gVe g (20 * b + i) = 1))) (gB g) = true := any_iff.mpr ⟨b, q1, by rw [hc, e2, decide_eq_true q2]; rfl⟩
          rw [e] at this
          exact absurd this Bool.false_ne_true
        rw [decide_eq_true this]; simp
    · obtain ⟨b, q1, q2⟩ := any_iff.mp e
      simp only [Bool.and_eq_true, Bool.true_and, decide_eq_true_eq] at q2
      rw [hc, Bool.and_eq_true] at q2
      rw [decide_eq_false (hz.mpr ⟨b, q1, q2.2⟩), q2.1.1, q2.1.2]; rfl
  · rw [decide_eq_false c, Bool.false_and]
    cases e : anyB (fun b => false && (bt (gCo g) i && decide (gVe g (20 * b + i) = 1))) (gB g)
    · rfl
    · obtain ⟨b, _, q2⟩ := any_iff.mp e
      exact absurd q2 Bool.false_ne_true
theorem paS_sub {f : Nat → Int64} {x y : Int32} {n i : Nat} (h : ∀ t, t < n → bt x t = true → bt y t = true) (hb : bl (paS f x n) i = true) : bl (paS f y n) i = true := by
  rw [paS_bit] at hb ⊢
  obtain ⟨t, h1, h2⟩ := any_iff.mp hb
  rw [Bool.and_eq_true] at h2
  exact any_iff.mpr ⟨t, h1, by rw [h t h1 h2.1, h2.2]; rfl⟩
theorem Rel.evHi (h : Rel s g) {i : Nat} (hi : gT g ≤ i) : bt (gEv g) i = false := by
  rw [← h.ev]
  have h20 := h.T20
  exact orI_hi (by rw [h.T]; omega) (by rw [h.T]; exact hi)
theorem few_k (h : Rel s g) {a : Nat → Q4} {mv : Nat → Int32} (hN : ct (fun t => bt (gEv g) t) (gT g) ≤ 12) (ha : ∀ t, t < gT g → bt (gEv g) t = true → a (ct (fun t => bt (gEv g) t) t) = (one t, gCh g t, cTm (gKd g) (gTi g) t, hFe s.2.2.1 t)) (hmv : ∀ t, t < gT g → bt (gEv g) t = true → mv (ct (fun t => bt (gEv g) t) t) = nI t) (hgo : ¬ paS (hFe s.2.2.1) (gEv g) (gT g) = 0) : FK g a mv (ct (fun t => bt (gEv g) t) (gT g)) (hFe s.2.2.1) (paS (hFe s.2.2.1) (gEv g) (gT g)) := by
  have h20 := h.T20
  have h60 := h.B60
  have hb := fun k => so_bit (f := fun t => bt (gEv g) t) (k := k) h20 hmv (gT g) (Nat.le_refl _)
  have hE := ek_of (f := fun t => bt (gEv g) t) h20 hN ha hmv
  have hsub : ∀ k t, t < gT g → bt (sK mv (ct (fun t => bt (gEv g) t) (gT g)) k) t = true → bt (gEv g) t = true := fun k t ht q => by
    rw [hb k t (by omega)] at q
    simp only [Bool.and_eq_true] at q
    exact q.1.2
  have hhi : ∀ k i, gT g ≤ i → bt (sK mv (ct (fun t => bt (gEv g) t) (gT g)) k) i = false := fun k i hi => by
    rcases Nat.lt_or_ge i 32 with c | c
    · rw [hb k i c, decide_eq_false (by omega)]; rfl
    · exact b_big c
  have hlast : sK mv (ct (fun t => bt (gEv g) t) (gT g)) (2 ^ ct (fun t => bt (gEv g) t) (gT g) - 1) = gEv g := by
    apply b_ext
    intro i hi
    rw [hb _ i hi]
    rcases Nat.lt_or_ge i (gT g) with c | c
    · rw [decide_eq_true c, Bool.true_and]
      cases e : bt (gEv g) i
      · rfl
      · rw [Nat.testBit_two_pow_sub_one, decide_eq_true (ct_lt c e)]; rfl
    · rw [decide_eq_false (by omega), h.evHi c]; rfl
  refine ⟨hE, hN, fun k hk => ?_, fun k hk => ?_, hlast, fun j k hjk hk => ?_, by rw [hlast], ?_⟩
  · rw [whB_iff]
    constructor
    · rintro ⟨-, q⟩
      apply l_ext
      intro i _
      rcases Nat.lt_or_ge i (gB g) with c | c
      · have hq := q i c
        have e1 := h.fo (show i < 60 by omega) (gCo g)
        have e2 := h.fo (show i < 60 by omega) (sK mv (ct (fun t => bt (gEv g) t) (gT g)) k)
        have hw := h.wit i
        rw [h.ev] at hw
        cases e3 : bl (paS (hFe s.2.2.1) (sK mv (ct (fun t => bt (gEv g) t) (gT g)) k) (gT g)) i
        · rw [e2.mpr e3] at hq
          simp at hq
          rw [hw, e1.mp hq]
        · exact (paS_sub (hsub k) e3).symm
      · rw [h.feHi _ c, h.feHi _ c]
    · intro q
      refine ⟨rfl, fun b hbB => ?_⟩
      have e1 := h.fo (show b < 60 by omega) (gCo g)
      have e2 := h.fo (show b < 60 by omega) (sK mv (ct (fun t => bt (gEv g) t) (gT g)) k)
      have hw := h.wit b
      rw [h.ev, ← q] at hw
      cases e3 : bl (paS (hFe s.2.2.1) (sK mv (ct (fun t => bt (gEv g) t) (gT g)) k) (gT g)) b
      · rw [decide_eq_true (e1.mpr (hw ▸ e3))]; rfl
      · have e4 : ¬ gFo g b (sK mv (ct (fun t => bt (gEv g) t) (gT g)) k) = 0 := fun z => by rw [e2.mp z] at e3; exact absurd e3 Bool.false_ne_true
        rw [decide_eq_false e4]; simp
  · rw [← popI_eq (fun i hi => hhi k i (by omega)), popI_cN (n := gT g) (by omega) (hhi k), ← ct_cN]
    congr 1
    rw [ct_ct (f := fun t => bt (gEv g) t) (b := k.testBit) (n := gT g) (fun t ht => by rw [hb k t (by omega), decide_eq_true ht, Bool.true_and])]
    have := ct_more (b := k.testBit) (n := ct (fun t => bt (gEv g) t) (gT g)) (fun i hi => t_big hk hi) (12 - ct (fun t => bt (gEv g) t) (gT g))
    rw [show ct (fun t => bt (gEv g) t) (gT g) + (12 - ct (fun t => bt (gEv g) t) (gT g)) = 12 by omega] at this
    exact this.symm
  · have l1 := i_lt (hhi j)
    have l2 := i_lt (hhi k)
    have hp : 2 ^ gT g ≤ 2 ^ 20 := Nat.pow_le_pow_right (by decide) h20
    have := st_le (f := fun t => bt (gEv g) t) (k0 := j) (k := k) (x := (sK mv (ct (fun t => bt (gEv g) t) (gT g)) j).toBitVec.toNat) (y := (sK mv (ct (fun t => bt (gEv g) t) (gT g)) k).toBitVec.toNat) (T := gT g) (fun i hi => (hb j i (by omega)).trans (by rw [decide_eq_true hi, Bool.true_and])) (fun i hi => (hb k i (by omega)).trans (by rw [decide_eq_true hi, Bool.true_and])) (gT g) (Nat.le_refl _) (by rw [Nat.mod_eq_of_lt (by omega), Nat.mod_eq_of_lt hk]; omega)
    rw [Nat.mod_eq_of_lt l1, Nat.mod_eq_of_lt l2] at this
    rw [i_nat (sK mv _ j), i_nat (sK mv _ k)]
    exact (nI_leI (by omega) (by omega)).mpr this
  · have : sK mv (ct (fun t => bt (gEv g) t) (gT g)) 0 = 0 := b_ext fun i hi => by rw [hb 0 i hi, Nat.zero_testBit, Bool.and_false, b_0]
    rw [this, paS_0]
    exact fun z => hgo z.symm
theorem st_fewest (h : Rel s g) : Sim (xFewest s) (gFewest g) := by
  have h20 := h.T20
  unfold xFewest gFewest
  have hm : (fyM g).2 = ct (fun t => bt (gEv g) t) (gT g) := pkF_2 _ _ _
  have hle := ct_le (fun t => bt (gEv g) t) (gT g)
  have hpop : popI (cWit s.2.1 s.2.2.1) = nI (fyM g).2 := by
    rw [h.ev, hm, ct_cN]
    exact popI_cN (by omega) (fun i hi => h.evHi hi)
  refine bis ?_ (fun _ => ⟨rfl, h⟩) (fun c3 => ?_)
  · rw [hpop, Int32.not_le]
    exact nI_ltI (a := 12) (by omega) (by omega)
  rw [hm] at c3
  have had := ad_at (ts := s.2.1) (al := cWit s.2.1 s.2.2.1) (co := hFe s.2.2.1) (ss := s.2.2.2.2) (gT g) (by rw [h.ev]; omega)
  rw [h.ev] at had
  obtain ⟨a1, a2, a3, a4, a5, a6⟩ := had
  have hfA : fwA s = adS s.2.1 (gEv g) (hFe s.2.2.1) s.2.2.2.2 (gT g) := by show adS _ _ _ _ _ = _; rw [h.ev, h.T]
  have hfG : fwG s = paS (hFe s.2.2.1) (gEv g) (gT g) := by show paS _ _ _ = _; rw [h.ev, h.T]
  have hen : en4 (adS s.2.1 (gEv g) (hFe s.2.2.1) s.2.2.2.2 (gT g)) 12 = z4 := by
    rw [a3]
    obtain ⟨r1, r2, r3, r4⟩ := h.2.2.2.2.2
    show (_, _, _, _) = _
    rw [r1, r2, r3, r4]; rfl
  have key : sFb (fwZ s) = fwH g ∧ en4 (fwZ s) 12 = z4 := by
    show sFb (skF (fwG s) (enF (fwG s) (sN (fwA s))) 4097 (fwA s) 1 13) = fwM g (fyM g).1 (fyM g).2 (2 ^ (fyM g).2) ∧ en4 (skF (fwG s) (enF (fwG s) (sN (fwA s))) 4097 (fwA s) 1 13) 12 = z4
    rw [hfA, hfG, hm, a1]
    by_cases hgo : paS (hFe s.2.2.1) (gEv g) (gT g) = 0
    · rw [enF, if_pos hgo, skF, if_neg (by omega), a4]
      refine ⟨?_, hen⟩
      have hev : gEv g = 0 := by
        apply b_ext
        intro i hi
        rw [b_0]
        rcases Nat.lt_or_ge i (gT g) with c | c
        · cases e : bt (gEv g) i
          · rfl
          · exfalso
            have hz : ¬ hFe s.2.2.1 i = 0 := by
              intro z
              rw [← h.ev, orI_bit _ _ (by rw [h.T]; omega) i hi, z] at e
              simp at e
            apply hz
            apply l_ext
            intro b _
            rw [l_0]
            cases e2 : bl (hFe s.2.2.1 i) b
            · rfl
            · have : bl (paS (hFe s.2.2.1) (gEv g) (gT g)) b = true := by
                rw [paS_bit]; exact any_iff.mpr ⟨i, c, by rw [e, e2]; rfl⟩
              rw [hgo, l_0] at this
              exact absurd this Bool.false_ne_true
        · exact h.evHi c
      have hc0 : ct (fun t => bt (gEv g) t) (gT g) = 0 := by
        have : ∀ n, ct (fun t => bt (0 : Int32) t) n = 0 := fun n => by
          induction n with
          | zero => rfl
          | succ n ih => rw [ct, ih, b_0]; rfl
        rw [hev]; exact this _
      rw [hc0]
      show 0 = fwM g (fyM g).1 0 (0 + 1)
      rw [fwM, fwM, hev]
      split <;> rfl
    · rw [enF, if_neg hgo]
      have hF := few_k h (a := it4 (adS s.2.1 (gEv g) (hFe s.2.2.1) s.2.2.2.2 (gT g))) (mv := (fyM g).1) (by omega) (fun t ht hf => by rw [a2 t ht hf, h.ch ht, h.ctm (by omega)]) (fun t ht hf => pkF_at (f := fun t => bt (gEv g) t) hf (gT g) ht) hgo
      have hpw := Nat.two_pow_pos (ct (fun t => bt (gEv g) t) (gT g))
      have hpl := pow_le12 (N := ct (fun t => bt (gEv g) t) (gT g)) (by omega)
      have h1 : fwM g (fyM g).1 (ct (fun t => bt (gEv g) t) (gT g)) 1 = gEv g := by
        rw [fwM, fwM, if_neg]
        intro z
        exact hF.2.2.2.2.2.2.2 ((hF.2.2.1 0 (by omega)).mp z.1)
      obtain ⟨⟨fy', q⟩, q4⟩ := skf_rel h hF 4097 _ 1 13 rfl (SI_1 hen) (by omega) (by omega) (by omega) (Or.inl ⟨rfl, fun j hj => by rw [show j = 0 by omega]; exact hF.2.2.2.2.2.2.2, h1⟩)
      refine ⟨?_, q4⟩
      rcases q with ⟨_, p2, _⟩ | ⟨k0, p1, p2, p3, p4, p5, p6⟩
      · exact absurd hF.2.2.2.2.2.2.1 (p2 _ (by omega))
      · rw [p5, p3]
  obtain ⟨k1, k2⟩ := key
  refine ⟨?_, ⟨h.1.1, h.1.2.1, ?_⟩, h.2.1, h.2.2.1, h.2.2.2.1, h.2.2.2.2.1, ?_⟩
  · show popI (sFb (fwZ s)) = bitsN (fwH g).toInt64 40
    rw [k1]
    refine popI_eq (fun i hi => ?_)
    have hmv : ∀ t, t < gT g → bt (gEv g) t = true → (fyM g).1 (ct (fun t => bt (gEv g) t) t) = nI t := fun t ht hf => pkF_at (f := fun t => bt (gEv g) t) hf (gT g) ht
    have hall : ∀ k, bt (fwM g (fyM g).1 (fyM g).2 k) i = false := by
      intro k
      induction k with
      | zero => exact h.evHi (by omega)
      | succ k ih =>
        rw [fwM]
        split
        · rcases Nat.lt_or_ge i 32 with c | c
          · rw [hm, so_bit (f := fun t => bt (gEv g) t) h20 hmv (gT g) (Nat.le_refl _) i c, decide_eq_false (by omega)]; rfl
          · exact b_big c
        · exact ih
    exact hall _
  · show (sFb (fwZ s)).toInt64 = (fwH g).toInt64
    rw [k1]
  · exact ⟨congrArg (·.1) k2, congrArg (·.2.1) k2, congrArg (·.2.2.1) k2, congrArg (·.2.2.2) k2⟩
end FEWB
