/-! the reach: a long on the one side, five bytes on the other -/
set_option maxRecDepth 100000 in
theorem by_l : ∀ k, k < 256 → ∀ i, i < 64 → bl (nI k).toInt64 i = (decide (i < 8) && bt (nI k) i) := by decide +kernel
set_option maxRecDepth 100000 in
theorem by_hi : ∀ k, k < 256 → ∀ j, j < 32 → 8 ≤ j → bt (nI k) j = false := by decide +kernel
def ByOk (bs : Nat → Int32) : Prop := ∀ p, p < 100 → ∃ b, b < 256 ∧ bs p = nI b
theorem rb_bit {bs : Nat → Int32} {t : Nat} (hb : ByOk bs) (ht : t < 20) : ∀ n, n ≤ 5 → ∀ i, i < 64 → bl (rbS bs t n) i = (decide (i < 8 * n) && bt (bs (5 * t + i / 8)) (i % 8))
  | 0, _, i, _ => by rw [rbS, l_0, decide_eq_false (by omega), Bool.false_and]
  | n + 1, hn, i, hi => by
    rw [rbS, l_or, rb_bit hb ht n (by omega) i hi, l_shl (8 * n) (by omega) _ hi]
    obtain ⟨k, hk, e⟩ := hb (5 * t + n) (by omega)
    rcases Nat.lt_or_ge i (8 * n) with q | q
    · rw [decide_eq_true q, decide_eq_false (show ¬ 8 * n ≤ i by omega), decide_eq_true (show i < 8 * (n + 1) by omega), Bool.false_and, Bool.or_false]
    · rw [decide_eq_false (show ¬ i < 8 * n by omega), decide_eq_true q, Bool.false_and, Bool.false_or, Bool.true_and, e, by_l k hk _ (by omega)]
      rcases Nat.lt_or_ge i (8 * (n + 1)) with q2 | q2
      · rw [decide_eq_true (show i - 8 * n < 8 by omega), decide_eq_true q2, show i / 8 = n by omega, show i % 8 = i - 8 * n by omega, e]
      · rw [decide_eq_false (show ¬ i - 8 * n < 8 by omega), decide_eq_false (show ¬ i < 8 * (n + 1) by omega), Bool.false_and, Bool.false_and]
theorem rb5 {bs : Nat → Int32} {t : Nat} (hb : ByOk bs) (ht : t < 20) {i : Nat} (hi : i < 64) : bl (rbS bs t 5) i = (decide (i < 40) && bt (bs (5 * t + i / 8)) (i % 8)) := rb_bit hb ht 5 (Nat.le_refl 5) i hi
theorem rb_same {bs bs' : Nat → Int32} {t : Nat} (h : ∀ i, i < 5 → bs' (5 * t + i) = bs (5 * t + i)) : ∀ n, n ≤ 5 → rbS bs' t n = rbS bs t n
  | 0, _ => rfl
  | n + 1, hn => by rw [rbS, rbS, rb_same h n (by omega), h n (by omega)]
theorem l2i_bit (x : Int64) {j : Nat} (hj : j < 32) : bt x.toInt32 j = bl x j := by
  show (x.toBitVec.signExtend 32).getLsbD j = x.toBitVec.getLsbD j
  rw [BitVec.getLsbD_signExtend]; simp [hj, show j < 64 by omega]
theorem m255 : ∀ i, i < 64 → bl 255 i = decide (i < 8) := by decide +kernel
theorem byB_bit (x : Int64) {i j : Nat} (hi : i < 5) (hj : j < 32) : bt (byB x i) j = (bl x (8 * i + j) && decide (j < 8)) := by
  rw [byB, l2i_bit _ hj, l_and, l_ushr (8 * i) (by omega), m255 j (by omega)]
theorem byB_eq {bs : Nat → Int32} {t i : Nat} (hb : ByOk bs) (ht : t < 20) (hi : i < 5) : byB (rbS bs t 5) i = bs (5 * t + i) := by
  apply b_ext
  intro j hj
  rw [byB_bit _ hi hj]
  obtain ⟨k, hk, e⟩ := hb (5 * t + i) (by omega)
  rcases Nat.lt_or_ge j 8 with q | q
  · rw [rb5 hb ht (by omega), decide_eq_true (show 8 * i + j < 40 by omega), decide_eq_true q, Bool.and_true, Bool.true_and, show (8 * i + j) / 8 = i by omega, show (8 * i + j) % 8 = j by omega]
  · rw [decide_eq_false (show ¬ j < 8 by omega), Bool.and_false, e, by_hi k hk j hj q]
theorem setB_eq {bs : Nat → Int32} {t i k : Nat} (hb : ByOk bs) (ht : t < 20) (hi : i < 5) (hk : k < 256) : setB (rbS bs t 5) i (nI k) = rbS (upd bs (5 * t + i) (nI k)) t 5 := by
  have hb' : ByOk (upd bs (5 * t + i) (nI k)) := fun p hp => by
    by_cases e : p = 5 * t + i
    · exact ⟨k, hk, by rw [e, pk_us]⟩
    · rw [pk_un e]; exact hb p hp
  apply l_ext
  intro p hp
  rw [setB, l_or, l_and, l_not _ hp, l_shl (8 * i) (by omega) _ hp, l_shl (8 * i) (by omega) _ hp, rb5 hb ht hp, rb5 hb' ht hp, by_l k hk _ (by omega), m255 _ (by omega)]
  rcases Nat.lt_or_ge p (8 * i) with q | q
  · rw [decide_eq_false (show ¬ 8 * i ≤ p by omega), pk_un (show 5 * t + p / 8 ≠ 5 * t + i by omega)]
    simp
  · rw [decide_eq_true q]
    rcases Nat.lt_or_ge p (8 * i + 8) with q2 | q2
    · rw [decide_eq_true (show p - 8 * i < 8 by omega), decide_eq_true (show p < 40 by omega), show p / 8 = i by omega, pk_us, show p % 8 = p - 8 * i by omega]
      simp
    · rw [decide_eq_false (show ¬ p - 8 * i < 8 by omega), pk_un (show 5 * t + p / 8 ≠ 5 * t + i by omega)]
      simp
theorem rb_zero {bs : Nat → Int32} {t : Nat} (h : ∀ i, i < 5 → bs (5 * t + i) = 0) : rbS bs t 5 = 0 := by
  have : ∀ n, n ≤ 5 → rbS bs t n = 0 := by
    intro n
    induction n with
    | zero => intro _; rfl
    | succ n ih =>
      intro hn
      rw [rbS, ih (by omega), h n (by omega)]
      apply l_ext
      intro i hi
      rw [l_or, l_0, l_shl (8 * n) (by omega) _ hi, show (0 : Int32).toInt64 = 0 from rfl, l_0]; simp
  exact this 5 (Nat.le_refl 5)
theorem zr_at {bs : Nat → Int32} {a : Nat} : ∀ n p, zrR bs a n p = if a ≤ p ∧ p < a + n then 0 else bs p
  | 0, p => by rw [zrR, if_neg (by omega)]
  | n + 1, p => by
    rw [zrR]
    by_cases e : p = a + n
    · subst e; rw [pk_us, if_pos (by omega)]
    · rw [pk_un e, zr_at n p]
      by_cases q : a ≤ p ∧ p < a + n
      · rw [if_pos q, if_pos (by omega)]
      · rw [if_neg q, if_neg (by omega)]
section RELC
variable {s : CS} {g : GS}
theorem Rel.by (h : Rel s g) : ByOk (gBy g) := h.2.2.1.2
theorem pl_same {ps : PS} {g' : GS} (h : RPl ps g) (e1 : gPm g' = gPm g) (e2 : gPk g' = gPk g) (e3 : gPs g' = gPs g) (e4 : gPt g' = gPt g) (e5 : gPp g' = gPp g) (e6 : gT g' = gT g) (e7 : gB g' = gB g) : RPl ps g' := by
  unfold RPl
  rw [e1, e2, e3, e4, e5, e6, e7]
  exact h
theorem i5 {i : Int32} : inN i 5 = false ↔ rg i 0 4 = false := by
  rw [← rg_inN (x := i) (T := 5) (by omega)]
  exact Iff.rfl
theorem st_byteOf (h : Rel s g) (x i : Int32) : Sim (xByteOf x i s) (gByteOf x i g) := by
  unfold xByteOf gByteOf
  have h20 := h.T20
  refine bis (by rw [h.T]) (fun _ => ⟨rfl, h⟩) (fun c1 => ?_)
  obtain ⟨t, ht, rfl⟩ := inN_ex (by omega) (nofalse c1)
  rw [nI_clamp (show t < 2 ^ 31 by omega), h.tn (show t < 20 by omega)]
  refine bis Iff.rfl (fun _ => sim_ref h 1) (fun c2 => bis i5 (fun _ => sim_ref h 2) (fun c3 => ⟨?_, h⟩))
  obtain ⟨j, hj, rfl⟩ := inN_ex (N := 5) (by omega) (nofalse (fun y => c3 (i5.mp y)))
  rw [nI_clamp (by omega)]
  show byB (tPa s.2.1 t) j = gBy g (5 * t + j)
  rw [h.pa (show t < 20 by omega), gRe, raM, if_pos (Classical.byContradiction c2), byB_eq h.by (by omega) hj]
theorem st_reach (h : Rel s g) (x i b : Int32) : Sim (xReach x i b s) (gReach x i b g) := by
  unfold xReach gReach
  have h20 := h.T20
  refine bis (by rw [h.T]) (fun _ => ⟨rfl, h⟩) (fun c1 => ?_)
  by_cases c2 : b < 0
  · rw [if_pos c2, if_pos (rgE.mpr (Or.inl c2))]; exact ⟨rfl, h⟩
  by_cases c3 : b ≤ 255
  case neg => rw [if_neg c2, if_pos c3, if_pos (rgE.mpr (Or.inr (Int32.not_le.mp c3)))]; exact ⟨rfl, h⟩
  rw [if_neg c2, if_neg (fun y => y c3), if_neg (fun y => (rgE.mp y).elim c2 (Int32.not_lt.mpr c3))]
  obtain ⟨t, ht, rfl⟩ := inN_ex (by omega) (nofalse c1)
  rw [nI_clamp (show t < 2 ^ 31 by omega), h.tn (show t < 20 by omega)]
  refine bis Iff.rfl (fun _ => sim_ref h 1) (fun c4 => bis i5 (fun _ => sim_ref h 2) (fun c5 => ?_))
  obtain ⟨j, hj, rfl⟩ := inN_ex (N := 5) (by omega) (nofalse (fun y => c5 (i5.mp y)))
  obtain ⟨k, hk, rfl⟩ := nI_of2 (M := 255) (n := 255) rfl c2 c3
  have c4 : gMs g t = 0 := Classical.byContradiction c4
  rw [nI_clamp (show j < 2 ^ 31 by omega)]
  have e0 : tPa s.2.1 t = rbS (gBy g) t 5 := by rw [h.pa (show t < 20 by omega), gRe, raM, if_pos c4]
  refine ⟨by show byB (tPa s.2.1 t) j = gBy g (5 * t + j); rw [e0, byB_eq h.by (by omega) hj], h.1, h.2.1, ⟨fun u hu => ⟨h.tn hu, ?_⟩, fun p hp => ?_⟩, h.2.2.2.1, h.2.2.2.2.1, h.2.2.2.2.2⟩
  · show vp_updL (tPa s.2.1) t (setB (tPa s.2.1 t) j (nI k)) u = raM (gMs g) (upd (gBy g) (5 * t + j) (nI k)) u
    by_cases e : u = t
    · subst e
      rw [pk_uLs, e0, setB_eq h.by (by omega) hj (by omega), raM, if_pos c4]
    · rw [pk_uLn e, h.pa hu, gRe, raM, raM, rb_same (bs := gBy g) (bs' := upd (gBy g) (5 * t + j) (nI k)) (fun i hi => pk_un (by omega)) 5 (Nat.le_refl 5)]
  · show ∃ b, b < 256 ∧ upd (gBy g) (5 * t + j) (nI k) p = nI b
    by_cases e : p = 5 * t + j
    · exact ⟨k, by omega, by rw [e, pk_us]⟩
    · rw [pk_un e]; exact h.by p hp
theorem st_anew (h : Rel s g) (x : Int32) : Sim (xAnew x s) (gAnew x g) := by
  unfold xAnew gAnew
  have h20 := h.T20
  refine bis (by rw [h.T]) (fun _ => ⟨rfl, h⟩) (fun c1 => ?_)
  obtain ⟨t, ht, rfl⟩ := inN_ex (by omega) (nofalse c1)
  rw [nI_clamp (show t < 2 ^ 31 by omega), h.tn (show t < 20 by omega)]
  refine ⟨rfl, h.1, h.2.1, ⟨fun u hu => ⟨?_, ?_⟩, fun p hp => ?_⟩, h.2.2.2.1, h.2.2.2.2.1, h.2.2.2.2.2⟩
  · show upd (tTn s.2.1) t 0 u = upd (gMs g) t 0 u
    by_cases e : u = t
    · subst e; rw [pk_us, pk_us]
    · rw [pk_un e, pk_un e, h.tn hu]
  · show vp_updL (tPa s.2.1) t 0 u = raM (upd (gMs g) t 0) (zrR (gBy g) (5 * t) 5) u
    by_cases e : u = t
    · subst e
      rw [pk_uLs, raM, pk_us, if_pos rfl, rb_zero (fun i hi => by rw [zr_at, if_pos (by omega)])]
    · rw [pk_uLn e, h.pa hu, gRe, raM, raM, pk_un e, rb_same (bs := gBy g) (bs' := zrR (gBy g) (5 * t) 5) (fun i hi => by rw [zr_at, if_neg (by omega)]) 5 (Nat.le_refl 5)]
  · show ∃ b, b < 256 ∧ zrR (gBy g) (5 * t) 5 p = nI b
    rw [zr_at]
    by_cases q : 5 * t ≤ p ∧ p < 5 * t + 5
    · rw [if_pos q]; exact ⟨0, by omega, rfl⟩
    · rw [if_neg q]; exact h.by p hp
end RELC
