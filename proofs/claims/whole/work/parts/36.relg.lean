/-! missed, run -/
theorem neg_bit (x : Int32) : x < 0 ↔ bt x 31 = true := by
  rw [Int32.lt_iff_toInt_lt]
  show x.toBitVec.toInt < 0 ↔ x.toBitVec.getLsbD 31 = true
  have h1 : x.toBitVec.msb = x.toBitVec.getLsbD 31 := BitVec.msb_eq_getLsbD_last _
  rw [← h1, BitVec.msb_eq_toInt]
  simp
theorem hAll_iff (x : Int32) {T : Nat} (hT : T ≤ 20) : hAll x T = true ↔ ∀ j, T ≤ j → bt x j = false := by
  unfold hAll
  rw [decide_eq_true_eq]
  constructor
  · intro h j hj
    have := b_ushr T (by omega) x (j - T)
    rw [h, b_0, show T + (j - T) = j by omega] at this
    exact this.symm
  · intro h
    apply b_ext
    intro i _
    rw [b_ushr T (by omega), b_0, h _ (by omega)]
theorem arT_iff (x : Int32) {T : Nat} (hT : T ≤ 20) : arT x T = true ↔ ∀ j, T ≤ j → bt x j = false := by
  unfold arT
  rw [Bool.and_eq_true, Bool.not_eq_true', decide_eq_false_iff_not, decide_eq_true_eq, neg_bit]
  constructor
  · intro ⟨h1, h2⟩ j hj
    rcases Nat.lt_or_ge j 32 with q | q
    · have := b_sshr T (by omega) x (i := j - T) (by omega)
      rw [h2, b_0, if_pos (by omega), show T + (j - T) = j by omega] at this
      exact this.symm
    · exact b_big q
  · intro h
    refine ⟨by rw [h 31 (by omega)]; decide, ?_⟩
    apply b_ext
    intro i hi
    rw [b_sshr T (by omega) x hi, b_0]
    split
    · exact h _ (by omega)
    · exact h 31 (by omega)
theorem hA_ar (x : Int32) {T : Nat} (hT : T ≤ 20) : hAll x T = arT x T := by
  have h := (hAll_iff x hT).trans (arT_iff x hT).symm
  cases e : hAll x T <;> cases e2 : arT x T <;> simp_all
theorem paS_bit (f : Nat → Int64) (x : Int32) (b : Nat) : ∀ n, bl (paS f x n) b = anyB (fun t => bt x t && bl (f t) b) n
  | 0 => l_0 b
  | n + 1 => by
    rw [paS, l_or, paS_bit f x b n, anyB]
    cases bt x n
    · rw [if_neg Bool.false_ne_true, l_0]; rfl
    · rw [if_pos rfl]; rfl
theorem orI_bit (f : Nat → Bool) : ∀ n, n ≤ 32 → ∀ i, i < 32 → bt (orI f n) i = (decide (i < n) && f i)
  | 0, _, i, _ => by rw [orI, b_0, decide_eq_false (by omega)]; rfl
  | n + 1, hn, i, hi => by
    rw [orI, b_or, orI_bit f n (by omega) i hi]
    by_cases e : i = n
    · subst e
      rw [decide_eq_false (Nat.lt_irrefl i), decide_eq_true (show i < i + 1 by omega)]
      cases f i
      · rw [if_neg Bool.false_ne_true, b_0]; rfl
      · rw [if_pos rfl, b_one (by omega) hi, decide_eq_true rfl]; rfl
    · have hz : bt (if f n then one n else 0) i = false := by
        cases f n
        · rw [if_neg Bool.false_ne_true, b_0]
        · rw [if_pos rfl, b_one (by omega) hi, decide_eq_false e]
      rw [hz, Bool.or_false]
      by_cases q : i < n
      · rw [decide_eq_true q, decide_eq_true (show i < n + 1 by omega)]
      · rw [decide_eq_false q, decide_eq_false (show ¬ i < n + 1 by omega)]
theorem any_iff {f : Nat → Bool} : ∀ {n : Nat}, anyB f n = true ↔ ∃ t, t < n ∧ f t = true
  | 0 => ⟨fun h => absurd h Bool.false_ne_true, fun ⟨t, h, _⟩ => absurd h (Nat.not_lt_zero t)⟩
  | n + 1 => by
    constructor
    · intro h
      rw [anyB, Bool.or_eq_true] at h
      rcases h with h | h
      · obtain ⟨t, h1, h2⟩ := any_iff.mp h
        exact ⟨t, by omega, h2⟩
      · exact ⟨n, by omega, h⟩
    · intro ⟨t, h1, h2⟩
      exact any_t h1 h2
theorem orI_zero {f : Nat → Bool} {n : Nat} (hn : n ≤ 32) : orI f n = 0 ↔ anyB f n = false := by
  constructor
  · intro h
    cases e : anyB f n
    · rfl
    · obtain ⟨t, h1, h2⟩ := any_iff.mp e
      have := orI_bit f n hn t (by omega)
      rw [h, b_0, decide_eq_true h1, h2] at this
      cases this
  · intro h
    apply b_ext
    intro i hi
    rw [orI_bit f n hn i hi, b_0]
    by_cases q : i < n
    · cases e : f i
      · simp
      · rw [any_t q e] at h; cases h
    · rw [decide_eq_false q]; rfl
def mkB (k : Nat) : Int32 := nI (2 ^ k - 1)
theorem mk_bit : ∀ k, k < 32 → ∀ i, i < 32 → bt (mkB k) i = decide (i < k) := by decide +kernel
theorem one_mk : ∀ k, k < 32 → one k - 1 = mkB k := by decide +kernel
theorem tz_at {x : Int32} {k : Nat} (hk : k < 32) (h1 : bt x k = true) (h0 : ∀ i, i < k → bt x i = false) : tzI x = nI k := by
  have ey : x = (x &&& (one k ^^^ (-1))) + one k := by
    rw [add_or (fun i hi => by rw [b_and, b_not _ hi, b_one hk hi]; cases decide (i = k) <;> simp)]
    apply b_ext
    intro i hi
    rw [b_or, b_and, b_not _ hi, b_one hk hi]
    by_cases e : i = k
    · subst e; rw [h1]; simp
    · rw [decide_eq_false e]; simp
  have ex : x - 1 = (x &&& (one k ^^^ (-1))) ||| mkB k := by
    have e2 : x - 1 = (x &&& (one k ^^^ (-1))) + mkB k := by rw [← one_mk k hk]; generalize hy : x &&& (one k ^^^ (-1)) = y at ey; rw [ey]; grind
    rw [e2]
    apply add_or
    intro i hi hh
    rw [b_and, mk_bit k hk i hi] at hh
    have hi2 : i < k := by simpa using hh.2
    rw [h0 i hi2] at hh
    simp at hh
  have em : (x ^^^ (-1)) &&& (x - 1) = mkB k := by
    apply b_ext
    intro i hi
    rw [b_and, b_not _ hi, ex, b_or, b_and, b_not _ hi, b_one hk hi, mk_bit k hk i hi]
    rcases Nat.lt_trichotomy i k with q | q | q
    · rw [h0 i q, decide_eq_true q]; simp
    · subst q; rw [h1]; simp
    · rw [decide_eq_false (show ¬ i = k by omega), decide_eq_false (show ¬ i < k by omega)]
      cases bt x i <;> rfl
  have fin : ∀ k, k < 32 → (if 0 < mkB k then (((1 + (if mkB k ≤ 65536 then 0 else 16)) + (if tz1 (mkB k) 65536 16 ≤ 256 then 0 else 8)) + (if tz1 (tz1 (mkB k) 65536 16) 256 8 ≤ 16 then 0 else 4)) + (if tz1 (tz1 (tz1 (mkB k) 65536 16) 256 8) 16 4 ≤ 4 then 0 else 2) + ((tz1 (tz1 (tz1 (tz1 (mkB k) 65536 16) 256 8) 16 4) 4 2).toUInt32 >>> ((1 : Int32).toUInt32 &&& Int32.toUInt32 31)).toInt32 else mkB k &&& 32) = nI k := by decide +kernel
  rw [tzI, em]
  exact fin k hk
theorem hi32 (x : Int64) {i : Nat} (hi : i < 32) : bt ((x.toUInt64 >>> ((32 : Int32).toInt64.toUInt64 &&& Int64.toUInt64 63)).toInt64).toInt32 i = bl x (32 + i) := by
  rw [l2i_bit _ hi]
  exact l_ushr 32 (by decide) x i
theorem tzL_at {x : Int64} {k : Nat} (hk : k < 64) (h1 : bl x k = true) (h0 : ∀ i, i < k → bl x i = false) : tzL x = nI k := by
  unfold tzL
  rcases Nat.lt_or_ge k 32 with q | q
  · have b1 : bt x.toInt32 k = true := by rw [l2i_bit _ q]; exact h1
    rw [if_neg (fun y => by rw [y, b_0] at b1; cases b1)]
    exact tz_at q b1 (fun i hi => by rw [l2i_bit _ (by omega)]; exact h0 i hi)
  · have e : x.toInt32 = 0 := b_ext (fun i hi => by rw [l2i_bit _ hi, b_0]; exact h0 i (by omega))
    rw [if_pos e, tz_at (k := k - 32) (by omega) (by rw [hi32 _ (by omega), show 32 + (k - 32) = k by omega]; exact h1) (fun i hi => by rw [hi32 _ (by omega)]; exact h0 _ (by omega))]
    rw [show (32 : Int32) = nI 32 from rfl, nI_add, show 32 + (k - 32) = k by omega]
section RELG
variable {s : CS} {g : GS}
theorem Rel.fo (h : Rel s g) {b : Nat} (hb : b < 60) (x : Int32) : gFo g b x = 0 ↔ bl (paS (hFe s.2.2.1) x (gT g)) b = false := by
  have h20 := h.T20
  rw [gFo, orI_zero (by omega), paS_bit, anyB_congr (f' := fun t => bt x t && bl (hFe s.2.2.1 t) b) (fun t ht => by
    have := h.one (show t < 20 by omega) hb
    cases e : bl (hFe s.2.2.1 t) b
    · rw [decide_eq_false (fun y => by rw [this.mpr y] at e; cases e)]
    · rw [decide_eq_true (this.mp e)])]
theorem Rel.wit (h : Rel s g) (b : Nat) : bl (paS (hFe s.2.2.1) (cWit s.2.1 s.2.2.1) (gT g)) b = bl (paS (hFe s.2.2.1) (gCo g) (gT g)) b := by
  have h20 := h.T20
  rw [paS_bit, paS_bit]
  apply anyB_congr
  intro t ht
  rw [orI_bit _ _ (by rw [h.T]; omega) t (by omega), orI_bit _ _ (by omega) t (by omega), h.T, decide_eq_true ht, (h.fact (show t < 20 by omega)).1, h.fk (show t < 20 by omega)]
  by_cases e : hFe s.2.2.1 t = 0
  · rw [e, l_0, Bool.and_false, Bool.and_false]
  · rw [decide_eq_false e]; simp
theorem Rel.feHi (h : Rel s g) (x : Int32) {b : Nat} (hb : gB g ≤ b) : bl (paS (hFe s.2.2.1) x (gT g)) b = false := by
  have h20 := h.T20
  rw [paS_bit]
  cases e : anyB (fun t => bt x t && bl (hFe s.2.2.1 t) b) (gT g)
  · rfl
  · obtain ⟨t, h1, h2⟩ := any_iff.mp e
    rw [(h.2.2.2.1.2.2.2.2.2.2 t b (by omega) (by rw [h.B]; exact hb)).1, Bool.and_false] at h2
    cases h2
theorem Rel.unsB (h : Rel s g) (x : Int32) {b : Nat} (hb : b < gB g) : bl (uns x s) b = gMi g x b := by
  have h60 := h.B60
  show bl (paS _ _ (tT s.2.1) &&& (paS _ x (tT s.2.1) ^^^ (-1))) b = _
  rw [h.T, l_and, l_not _ (by omega), h.wit b]
  have e1 := h.fo (show b < 60 by omega) (gCo g)
  have e2 := h.fo (show b < 60 by omega) x
  show _ = (!decide (gFo g b (gCo g) = 0) && decide (gFo g b x = 0))
  cases a1 : bl (paS (hFe s.2.2.1) (gCo g) (gT g)) b
  · rw [decide_eq_true (e1.mpr a1)]; rfl
  · rw [decide_eq_false (fun y => by rw [e1.mp y] at a1; cases a1)]
    cases a2 : bl (paS (hFe s.2.2.1) x (gT g)) b
    · rw [decide_eq_true (e2.mpr a2)]; rfl
    · rw [decide_eq_false (fun y => by rw [e2.mp y] at a2; cases a2)]; rfl
theorem Rel.unsHi (h : Rel s g) (x : Int32) {b : Nat} (hb : gB g ≤ b) : bl (uns x s) b = false := by
  show bl (paS _ _ (tT s.2.1) &&& (paS _ x (tT s.2.1) ^^^ (-1))) b = _
  rw [h.T, l_and, h.wit b, h.feHi _ hb]; rfl
theorem fsN_lt {f : Nat → Bool} {B : Nat} (hlt : fsN f B < B) : f (fsN f B) = true ∧ ∀ i, i < fsN f B → f i = false := by
  rcases Classical.em (∃ i, i < B ∧ f i = true) with h | h
  · obtain ⟨i, h1, h2⟩ := pk_least _ h
    have hno : ∀ j, j < i → f j = false := fun j hj => by
      cases e : f j
      · rfl
      · exact absurd ⟨by omega, e⟩ (h2 j hj)
    have := fsN_eq hno h1.2 h1.1
    rw [this]
    exact ⟨h1.2, hno⟩
  · have := fsN_no (f := f) (n := B) (fun i hi => by
      cases e : f i
      · rfl
      · exact absurd ⟨i, hi, e⟩ h)
    omega
theorem fsN_ge {f : Nat → Bool} {B : Nat} (hge : ¬ fsN f B < B) : ∀ i, i < B → f i = false := by
  intro i hi
  cases e : f i
  · rfl
  · obtain ⟨k, h1, h2⟩ := pk_least (fun i => i < B ∧ f i = true) ⟨i, hi, e⟩
    have hno : ∀ j, j < k → f j = false := fun j hj => by
      cases e : f j
      · rfl
      · exact absurd ⟨by omega, e⟩ (h2 j hj)
    have := fsN_eq hno h1.2 h1.1
    omega
theorem st_missed (h : Rel s g) (x : Int32) : xMissed x s = gMissed x g := by
  unfold xMissed gMissed
  have h20 := h.T20
  have h60 := h.B60
  refine bie (by rw [h.T, hA_ar x h20]) (fun _ => rfl) (fun _ => ?_)
  by_cases c : fsN (gMi g x) (gB g) < gB g
  · obtain ⟨f1, f2⟩ := fsN_lt c
    have b1 : bl (uns x s) (fsN (gMi g x) (gB g)) = true := by rw [h.unsB x c]; exact f1
    rw [if_pos c, if_neg (fun y => by rw [y, l_0] at b1; cases b1), tzL_at (by omega) b1 (fun i hi => by rw [h.unsB x (by omega)]; exact f2 i hi)]
  · rw [if_neg c, if_pos]
    apply l_ext
    intro i hi
    rw [l_0]
    rcases Nat.lt_or_ge i (gB g) with q | q
    · rw [h.unsB x q]; exact fsN_ge c i q
    · exact h.unsHi x q
abbrev gW (g : GS) (ve : Nat → Int32) : GS := (gFi g, gFs g, gT g, gKd g, gTi g, gNd g, gMs g, gBy g, gB g, gCg g, ve, gAs g, gMv g, gPm g, gPk g, gPt g, gPp g, gPs g, gMay g)
theorem run_rel (h : Rel s g) (x : Int32) (hth : ¬ pTh s.2.2.2.1 = 0) : ∀ n, n ≤ pN s.2.2.2.1 → (rnS s.2.1 s.2.2.2.1 x s.2.2.1 n).1 = (rnM g x n).1 ∧ (rnS s.2.1 s.2.2.2.1 x s.2.2.1 n).2.1 = (rnM g x n).2.1 ∧ RHi (rnS s.2.1 s.2.2.2.1 x s.2.2.1 n).2.2 (gW g (rnM g x n).2.2)
  | 0, _ => ⟨rfl, rfl, h.2.2.2.1⟩
  | n + 1, hn => by
    obtain ⟨i1, i2, i3⟩ := run_rel h x hth n (by omega)
    obtain ⟨q1, q2, q3, q4, q5, q6⟩ := h.2.2.2.2.1.2.2 hth
    obtain ⟨e1, u, hu, e2⟩ := q2 n (by omega)
    have h20 := h.T20
    rw [rnS, rnM, ← e1, e2, cl_nI' (show u < 20 by omega), i1, i2, h.ch hu]
    by_cases c : gCh g u &&& (rnM g x n).1 = 0
    · rw [if_pos c, if_pos c]
      exact ⟨rfl, rfl, jud_rel i3 (by omega) q6 (bt x u)⟩
    · rw [if_neg c, if_neg c]
      exact ⟨i1, i2, i3⟩
theorem st_run (h : Rel s g) (x : Int32) : Sim (xRun x s) (gRun x (pN s.2.2.2.1) g) := by
  unfold xRun gRun
  have h20 := h.T20
  refine bis (by rw [h.T, hA_ar x h20]) (fun _ => ⟨rfl, h⟩) (fun _ => ?_)
  by_cases c : pTh s.2.2.2.1 = 0
  · rw [if_pos c, if_pos (by rw [(h.2.2.2.2.1.2.1 c).1]; decide)]; exact ⟨rfl, h⟩
  · have q1 := (h.2.2.2.2.1.2.2 c).1
    have q0 := h.2.2.2.2.1.1
    rw [if_neg c, if_neg (show ¬ ¬ 0 ≤ gPm g from fun y => y (by rw [q1]; exact nI_pos' (by omega)))]
    obtain ⟨i1, i2, i3⟩ := run_rel h x c _ (Nat.le_refl _)
    exact ⟨i2, h.1, h.2.1, h.2.2.1, i3, h.2.2.2.2.1, h.2.2.2.2.2⟩
end RELG
