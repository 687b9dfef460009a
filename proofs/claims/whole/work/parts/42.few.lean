/-! fewest -/
theorem ct_ct {f b b' : Nat → Bool} : ∀ {n : Nat}, (∀ t, t < n → b' t = (f t && b (ct f t))) → ct b' n = ct b (ct f n)
  | 0, _ => rfl
  | n + 1, h => by
    rw [ct, ct_ct (n := n) (fun t ht => h t (by omega)), h n (by omega)]
    cases hf : f n
    · rw [ct_same hf]; rfl
    · rw [ct_step hf, ct]; rfl
theorem ct_more {b : Nat → Bool} {n : Nat} (h : ∀ i, n ≤ i → b i = false) : ∀ k, ct b (n + k) = ct b n
  | 0 => rfl
  | k + 1 => by
    show ct b (n + k) + (if b (n + k) then 1 else 0) = _
    rw [h (n + k) (by omega), ct_more h k]; rfl
theorem ct_sub {b b' : Nat → Bool} : ∀ {n : Nat}, (∀ i, i < n → b i = true → b' i = true) → ct b n ≤ ct b' n ∧ (ct b n = ct b' n → ∀ i, i < n → b i = b' i)
  | 0, _ => ⟨Nat.le_refl _, fun _ i hi => absurd hi (Nat.not_lt_zero i)⟩
  | n + 1, h => by
    obtain ⟨h1, h2⟩ := ct_sub (n := n) (fun i hi => h i (by omega))
    have hn := h n (by omega)
    cases hb : b n
    · cases hb' : b' n
      · rw [ct_same hb, ct_same hb']
        refine ⟨h1, fun e i hi => ?_⟩
        rcases Nat.lt_or_ge i n with c | c
        · exact h2 e i c
        · rw [show i = n by omega, hb, hb']
      · rw [ct_same hb, ct_step hb']
        exact ⟨by omega, fun e => by omega⟩
    · have hb' := hn hb
      rw [ct_step hb, ct_step hb']
      refine ⟨by omega, fun e i hi => ?_⟩
      rcases Nat.lt_or_ge i n with c | c
      · exact h2 (by omega) i c
      · rw [show i = n by omega, hb, hb']
/-- how many members -/
abbrev nb (k : Nat) : Nat := ct k.testBit 12
theorem nb_le (k : Nat) : nb k ≤ 12 := ct_le _ 12
theorem nb_pop {k : Nat} (hk : k < 4096) : popI (nI k) = nI (nb k) := by
  rw [popI_cN (n := 12) (by omega) (fun i hi => ?_), ← ct_cN]
  · exact congrArg nI (ct_congr (fun t ht => nI_bit k (by omega)))
  · rcases Nat.lt_or_ge i 32 with c | c
    · rw [nI_bit k c]; exact t_big (N := 12) hk hi
    · exact b_big c
theorem nb_lt {k j : Nat} (hk : k < 4096) (h0 : 0 < k) (h1 : k < j) (h2 : j < k + 2 ^ lw k) (hj : j < 4096) : nb k < nb j := by
  have hs := ct_sub (b := k.testBit) (b' := j.testBit) (n := 12) (fun i _ hb => fUp hk h0 (by omega) h2 i hb)
  rcases Nat.lt_or_ge (nb k) (nb j) with c | c
  · exact c
  · exfalso
    have he := hs.2 (Nat.le_antisymm hs.1 c)
    have : k = j := by
      apply Nat.eq_of_testBit_eq
      intro i
      rcases Nat.lt_or_ge i 12 with c | c
      · exact he i c
      · rw [t_big (N := 12) hk c, t_big (N := 12) hj c]
    omega
/-- sets in the order of their numbers -/
theorem st_le {f : Nat → Bool} {k0 k : Nat} {x y : Nat} {T : Nat} (hx : ∀ i, i < T → x.testBit i = (f i && k0.testBit (ct f i))) (hy : ∀ i, i < T → y.testBit i = (f i && k.testBit (ct f i))) : ∀ n, n ≤ T → k0 % 2 ^ ct f n ≤ k % 2 ^ ct f n → x % 2 ^ n ≤ y % 2 ^ n
  | 0, _, _ => by rw [Nat.mod_one, Nat.mod_one]; exact Nat.le_refl _
  | n + 1, hn, h => by
    have ih := st_le hx hy n (by omega)
    have b1 : x % 2 ^ n < 2 ^ n := Nat.mod_lt _ (Nat.two_pow_pos n)
    have b2 : k % 2 ^ ct f n < 2 ^ ct f n := Nat.mod_lt _ (Nat.two_pow_pos _)
    rw [md_succ, md_succ, hx n (by omega), hy n (by omega)]
    cases hf : f n
    · rw [ct_same hf] at h
      have := ih h
      simpa using this
    · rw [ct_step hf, md_succ, md_succ] at h
      cases h1 : k0.testBit (ct f n) <;> cases h2 : k.testBit (ct f n) <;> rw [h1, h2] at h <;> simp at h ⊢
      · exact ih h
      · omega
      · omega
      · exact ih h
theorem i_nat (x : Int32) : x = nI x.toBitVec.toNat := b_ext fun i hi => by rw [nI_bit _ hi]; rfl
theorem i_lt {x : Int32} {n : Nat} (h : ∀ i, n ≤ i → bt x i = false) : x.toBitVec.toNat < 2 ^ n := Nat.lt_pow_two_of_testBit _ (fun i hi => h i hi)
theorem cmp41 : ∀ u, u < 41 → ∀ v, v < 41 → ((nI u - nI v < 0 ↔ u < v) ∧ (nI u - nI v = 0 ↔ u = v)) := by decide +kernel
abbrev sK (mv : Nat → Int32) (N k : Nat) : Int32 := soS mv (nI k) N
/-- what the search for the fewest needs to know of its sets -/
def FK (g : GS) (a : Nat → Q4) (mv : Nat → Int32) (N : Nat) (V : Nat → Int64) (go : Int64) : Prop := EK g a mv N (gCh g) V ∧ N ≤ 12 ∧ (∀ k, k < 2 ^ N → (shB g (sK mv N k) (gB g) = true ↔ paS V (sK mv N k) (gT g) = go)) ∧ (∀ k, k < 2 ^ N → bitsN (sK mv N k).toInt64 40 = nI (nb k)) ∧ sK mv N (2 ^ N - 1) = gEv g ∧ (∀ j k, j < k → k < 2 ^ N → sK mv N j ≤ sK mv N k) ∧ paS V (sK mv N (2 ^ N - 1)) (gT g) = go ∧ ¬ paS V (sK mv N 0) (gT g) = go
def FW (g : GS) (mv : Nat → Int32) (N : Nat) (V : Nat → Int64) (go : Int64) (ss : SS) (fy : Int32) (k : Nat) : Prop :=
  (fy = 13 ∧ (∀ j, j < k → ¬ paS V (sK mv N j) (gT g) = go) ∧ fwM g mv N k = gEv g) ∨ ∃ k0, k0 < k ∧ k0 < 2 ^ N ∧ fwM g mv N k = sK mv N k0 ∧ fy = nI (nb k0) ∧ sFb ss = sK mv N k0 ∧ sFt ss = gTS g (sK mv N k0)
section FEW
variable {s : CS} {g : GS}
theorem few_skip {a : Nat → Q4} {mv : Nat → Int32} {N : Nat} {V : Nat → Int64} {go : Int64} (hf : FK g a mv N V go) {k k0 : Nat} (hk0 : k0 < 2 ^ N) (he : fwM g mv N k = sK mv N k0) : ∀ d, (∀ j, k ≤ j → j < k + d → j < 2 ^ N ∧ nb k0 < nb j) → fwM g mv N (k + d) = sK mv N k0
  | 0, _ => he
  | d + 1, h => by
    have ih := few_skip hf hk0 he d (fun j h1 h2 => h j h1 (by omega))
    obtain ⟨h1, h2⟩ := h (k + d) (by omega) (by omega)
    show fwM g mv N (k + d + 1) = _
    rw [fwM, ih, if_neg]
    intro ⟨_, q⟩
    have n1 := nb_le k0
    have n2 := nb_le (k + d)
    have hc := cmp41 (nb (k + d)) (by omega) (nb k0) (by omega)
    unfold fwB at q
    rw [hf.2.2.2.1 _ h1, hf.2.2.2.1 _ hk0, decide_eq_false (fun z => by have := hc.1.mp z; omega), decide_eq_false (fun z => by have := hc.2.mp z; omega)] at q
    exact Bool.false_ne_true q
theorem skf_rel (h : Rel s g) {a : Nat → Q4} {mv : Nat → Int32} {N : Nat} {V : Nat → Int64} {go : Int64} (hf : FK g a mv N V go) : ∀ (f : Nat) (ss : SS) (k : Nat) (fy : Int32), it4 ss = a → SI ss k → 0 < k → k ≤ 2 ^ N → 2 ^ N < k + f → FW g mv N V go ss fy k → (∃ fy', FW g mv N V go (skF go (2 ^ N) f ss k fy) fy' (2 ^ N)) ∧ en4 (skF go (2 ^ N) f ss k fy) 12 = z4
  | 0, ss, k, fy, _, _, _, h5, h6, _ => by omega
  | f + 1, ss, k, fy, h1, h3, h4, h5, h6, h7 => by
    obtain ⟨he, hN, hcov, hcn, hlast, hmono, hclast, hc0⟩ := id hf
    have hp := pow_le12 hN
    rw [skF]
    by_cases c : k < 2 ^ N
    · rw [if_pos c]
      have hk : k < 4096 := by omega
      have hat := sum_at hk h4 h3
      have hall := sum_all hk h4 h3
      obtain ⟨e1, e2, e3⟩ := he k c
      rw [h1, e1] at hat
      have hB : sBf (sumS ss k) (lw k) = sK mv N k := congrArg (·.1) hat
      have hT : sTf (sumS ss k) (lw k) = gTS g (sK mv N k) := congrArg (·.2.2.1) hat
      have hV : sVf (sumS ss k) (lw k) = paS V (sK mv N k) (gT g) := congrArg (·.2.2.2) hat
      have hl2 : k + 2 ^ lw k ≤ 2 ^ N := lw_add 12 k N h4 hN c
      have hpos := Nat.two_pow_pos (lw k)
      have hen : en4 (fwS go ss k fy) = en4 (sumS ss k) := by unfold fwS; split <;> rfl
      have hit : it4 (fwS go ss k fy) = a := by unfold fwS; split <;> exact h1
      have hpk := nb_pop hk
      have n12 := nb_le k
      have hsk : ∀ k', k' = k + 1 ∨ k' = k + 2 ^ lw k → SI (fwS go ss k fy) k' := by
        intro k' q
        refine SI_next (k := k) (by rcases q with q | q <;> omega) (by rcases q with q | q <;> omega) (fun q' => ?_) (by rw [hen, hit, ← h1]; exact hall)
        rcases q with q | q
        · have := Nat.two_pow_pos (lw k'); omega
        · subst q
          have := fN2 hk h4 q'
          have := Nat.pow_le_pow_right (n := 2) (by decide) this
          omega
      have hFt : sFt (sumS ss k) = sFt ss := rfl
      -- one step
      have step : FW g mv N V go (fwS go ss k fy) (fwY go ss k fy) (k + 1) ∧ (paS V (sK mv N k) (gT g) = go → ∃ k0, k0 < k + 1 ∧ k0 < 2 ^ N ∧ fwM g mv N (k + 1) = sK mv N k0 ∧ fwY go ss k fy = nI (nb k0) ∧ sFb (fwS go ss k fy) = sK mv N k0 ∧ sFt (fwS go ss k fy) = gTS g (sK mv N k0) ∧ nb k0 ≤ nb k) := by
        unfold fwS fwY fwR
        rw [hV, hT, hFt, hpk]
        by_cases cv : paS V (sK mv N k) (gT g) = go
        · rw [decide_eq_true cv, Bool.true_and]
          have hsh := (hcov k c).mpr cv
          have kept : ∀ (hq : fwM g mv N (k + 1) = sK mv N k), ∃ k0, k0 < k + 1 ∧ k0 < 2 ^ N ∧ fwM g mv N (k + 1) = sK mv N k0 ∧ nI (nb k) = nI (nb k0) ∧ sFb (keepS (sumS ss k) (lw k)) = sK mv N k0 ∧ sFt (keepS (sumS ss k) (lw k)) = gTS g (sK mv N k0) ∧ nb k0 ≤ nb k := fun hq => ⟨k, by omega, c, hq, rfl, hB, hT, Nat.le_refl _⟩
          rcases h7 with ⟨p1, p2, p3⟩ | ⟨k0, p1, p2, p3, p4, p5, p6⟩
          · have hlt : nI (nb k) < fy := by rw [p1]; exact (nI_ltI (b := 13) (by omega) (by omega)).mpr (by omega)
            rw [decide_eq_true hlt, Bool.true_or, if_pos rfl, if_pos rfl]
            have hq : fwM g mv N (k + 1) = sK mv N k := by
              rw [fwM, p3]
              by_cases e : k = 2 ^ N - 1
              · rw [← hlast, ← e]; split <;> rfl
              · rw [if_pos]
                refine ⟨hsh, ?_⟩
                unfold fwB
                have hpw := Nat.two_pow_pos N
                rw [← hlast, hcn k c, hcn _ (by omega)]
                have hs := ct_sub (b := k.testBit) (b' := (2 ^ N - 1).testBit) (n := 12) (fun i _ hb => by
                  rw [Nat.testBit_two_pow_sub_one]
                  rcases Nat.lt_or_ge i N with q | q
                  · exact decide_eq_true q
                  · rw [t_big c q] at hb; exact absurd hb Bool.false_ne_true)
                have hlt2 : nb k < nb (2 ^ N - 1) := by
                  rcases Nat.lt_or_ge (nb k) (nb (2 ^ N - 1)) with q | q
                  · exact q
                  · exfalso
                    apply e
                    have he := hs.2 (Nat.le_antisymm hs.1 q)
                    apply Nat.eq_of_testBit_eq
                    intro i
                    rcases Nat.lt_or_ge i 12 with q | q
                    · exact he i q
                    · rw [t_big (N := 12) hk q, t_big (N := 12) (by omega) q]
                have n2 := nb_le (2 ^ N - 1)
                rw [decide_eq_true ((cmp41 (nb k) (by omega) (nb (2 ^ N - 1)) (by omega)).1.mpr hlt2), Bool.true_or]
            obtain ⟨k0, q1, q2, q3, q4, q5, q6, q7⟩ := kept hq
            exact ⟨Or.inr ⟨k0, q1, q2, q3, q4, q5, q6⟩, fun _ => ⟨k0, q1, q2, q3, q4, q5, q6, q7⟩⟩
          · have n0 := nb_le k0
            have hcm := cmp41 (nb k) (by omega) (nb k0) (by omega)
            have hB2 : fwB g (sK mv N k) (fwM g mv N k) = (decide (nI (nb k) < fy) || (decide (nI (nb k) = fy) && !decide (sFt ss ≤ gTS g (sK mv N k)))) := by
              unfold fwB
              rw [p3, hcn k c, hcn k0 p2, p4, p6, decide_eq_decide.mpr (hcm.1.trans (nI_ltI (by omega) (by omega)).symm), decide_eq_decide.mpr (hcm.2.trans (nI_eq (by omega) (by omega)).symm), decide_eq_true (hmono k0 k p1 c), Bool.not_true, Bool.and_false, Bool.or_false]
              congr 2
              by_cases q : gTS g (sK mv N k) < gTS g (sK mv N k0)
              · rw [decide_eq_true q, decide_eq_false (Int32.not_le.mpr q)]; rfl
              · rw [decide_eq_false q, decide_eq_true (Int32.not_lt.mp q)]; rfl
            have hM : fwM g mv N (k + 1) = if (decide (nI (nb k) < fy) || (decide (nI (nb k) = fy) && !decide (sFt ss ≤ gTS g (sK mv N k)))) = true then sK mv N k else fwM g mv N k := by
              rw [fwM, ← hB2]
              by_cases q : fwB g (sK mv N k) (fwM g mv N k) = true
              · rw [if_pos ⟨hsh, q⟩, if_pos q]
              · rw [if_neg (fun z => q z.2), if_neg q]
            cases hr : (decide (nI (nb k) < fy) || (decide (nI (nb k) = fy) && !decide (sFt ss ≤ gTS g (sK mv N k))))
            · rw [hr, if_neg Bool.false_ne_true, p3] at hM
              rw [if_neg Bool.false_ne_true, if_neg Bool.false_ne_true]
              have hge : nb k0 ≤ nb k := by
                rcases Nat.lt_or_ge (nb k) (nb k0) with q | q
                · rw [p4, decide_eq_true ((nI_ltI (by omega) (by omega)).mpr q)] at hr; exact absurd hr (by simp)
                · exact q
              exact ⟨Or.inr ⟨k0, by omega, p2, hM, p4, p5, p6⟩, fun _ => ⟨k0, by omega, p2, hM, p4, p5, p6, hge⟩⟩
            · rw [hr, if_pos rfl] at hM
              rw [if_pos rfl, if_pos rfl]
              obtain ⟨k0, q1, q2, q3, q4, q5, q6, q7⟩ := kept hM
              exact ⟨Or.inr ⟨k0, q1, q2, q3, q4, q5, q6⟩, fun _ => ⟨k0, q1, q2, q3, q4, q5, q6, q7⟩⟩
        · rw [decide_eq_false cv, Bool.false_and, if_neg Bool.false_ne_true, if_neg Bool.false_ne_true]
          have hM : fwM g mv N (k + 1) = fwM g mv N k := by
            rw [fwM, if_neg]
            exact fun z => cv ((hcov k c).mp z.1)
          refine ⟨?_, fun z => absurd z cv⟩
          rcases h7 with ⟨p1, p2, p3⟩ | ⟨k0, p1, p2, p3, p4, p5, p6⟩
          · refine Or.inl ⟨p1, fun j hj => ?_, hM.trans p3⟩
            rcases Nat.lt_or_ge j k with q | q
            · exact p2 j q
            · rw [show j = k by omega]; exact cv
          · exact Or.inr ⟨k0, by omega, p2, hM.trans p3, p4, p5, p6⟩
      obtain ⟨st1, st2⟩ := step
      unfold fwK
      rw [hV, hpk]
      by_cases cs : paS V (sK mv N k) (gT g) = go ∨ ¬ nI (nb k) < fwY go ss k fy
      · rw [if_pos cs]
        have hfd : ∃ k0, k0 < k + 1 ∧ k0 < 2 ^ N ∧ fwM g mv N (k + 1) = sK mv N k0 ∧ fwY go ss k fy = nI (nb k0) ∧ sFb (fwS go ss k fy) = sK mv N k0 ∧ sFt (fwS go ss k fy) = gTS g (sK mv N k0) ∧ nb k0 ≤ nb k := by
          rcases cs with q | q
          · exact st2 q
          · rcases st1 with ⟨p1, p2, p3⟩ | ⟨k0, p1, p2, p3, p4, p5, p6⟩
            · exfalso
              rw [p1] at q
              exact q ((nI_ltI (b := 13) (by omega) (by omega)).mpr (by omega))
            · have n0 := nb_le k0
              refine ⟨k0, p1, p2, p3, p4, p5, p6, ?_⟩
              rw [p4] at q
              exact Nat.not_lt.mp (fun z => q ((nI_ltI (by omega) (by omega)).mpr z))
        obtain ⟨k0, p1, p2, p3, p4, p5, p6, p7⟩ := hfd
        refine skf_rel h hf f _ _ _ hit (hsk _ (Or.inr rfl)) (by omega) (by omega) (by omega) (Or.inr ⟨k0, by omega, p2, ?_, p4, p5, p6⟩)
        have := few_skip hf p2 p3 (2 ^ lw k - 1) (fun j j1 j2 => ⟨by omega, Nat.lt_of_le_of_lt p7 (nb_lt hk h4 (by omega) (by omega) (by omega))⟩)
        rw [show k + 1 + (2 ^ lw k - 1) = k + 2 ^ lw k by omega] at this
        exact this
      · rw [if_neg cs]
        exact skf_rel h hf f _ _ _ hit (hsk _ (Or.inl rfl)) (by omega) (by omega) (by omega) st1
    · rw [if_neg c]
      have : k = 2 ^ N := by omega
      rw [← this]
      exact ⟨⟨fy, h7⟩, h3.1⟩
end FEW
