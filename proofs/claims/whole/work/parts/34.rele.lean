/-! counts, flaky, heat, broken -/
theorem pc_bits (x : Int64) : ∀ n, bitsN x n = pcL x n
  | 0 => rfl
  | n + 1 => by rw [bitsN, pcL, pc_bits x n]
theorem pcL_more {x : Int64} {n : Nat} (h : ∀ i, n ≤ i → bl x i = false) : ∀ k, pcL x (n + k) = pcL x n
  | 0 => rfl
  | k + 1 => by
    show pcL x (n + k) + bI (bl x (n + k)) = _
    rw [pcL_more h k, h _ (by omega)]
    simp [bI]
theorem pcL_stop {x : Int64} {n m : Nat} (h : ∀ i, n ≤ i → bl x i = false) (hm : n ≤ m) : pcL x m = pcL x n := by
  have := pcL_more h (m - n)
  rwa [show n + (m - n) = m by omega] at this
theorem pop40 {x : Int64} (h : ∀ i, 40 ≤ i → bl x i = false) : popL x = bitsN x 40 := by rw [pc_bits]; exact pcL_stop h (by omega)
theorem i2l_bit (x : Int32) {i : Nat} (hi : i < 64) : bl x.toInt64 i = if i < 32 then bt x i else bt x 31 := by
  show (x.toBitVec.signExtend 64).getLsbD i = _
  rw [BitVec.getLsbD_signExtend, BitVec.msb_eq_getLsbD_last]
  simp [hi, bt]
theorem pc_i2l {x : Int32} : ∀ n, n ≤ 32 → pcL x.toInt64 n = pcI x n
  | 0, _ => rfl
  | n + 1, h => by rw [pcL, pcI, pc_i2l n (by omega), i2l_bit x (by omega), if_pos (by omega)]
theorem pcI_more {x : Int32} {n : Nat} (h : ∀ i, n ≤ i → bt x i = false) : ∀ k, pcI x (n + k) = pcI x n
  | 0 => rfl
  | k + 1 => by
    show pcI x (n + k) + bI (bt x (n + k)) = _
    rw [pcI_more h k, h _ (by omega)]
    simp [bI]
theorem i2l_hi {x : Int32} (h : ∀ i, 20 ≤ i → bt x i = false) : ∀ i, 20 ≤ i → bl x.toInt64 i = false := by
  intro i hi
  rcases Nat.lt_or_ge i 64 with q | q
  · rw [i2l_bit x q]
    split
    · exact h i hi
    · exact h 31 (by omega)
  · exact l_big q
theorem popI_eq {x : Int32} (h : ∀ i, 20 ≤ i → bt x i = false) : popI x = bitsN x.toInt64 40 := by
  rw [pc_bits, pcL_stop (n := 20) (i2l_hi h) (by omega), pc_i2l 20 (by omega)]
  exact pcI_more h 12
theorem flS_congr {cg cg' : Nat → Int64} {v v' : Nat → Int32} {r : Int64} : ∀ {n : Nat}, (∀ b, b < n → cg b = cg' b ∧ v b = v' b) → flS cg v r n = flS cg' v' r n
  | 0, _ => rfl
  | n + 1, h => by
    have ih := flS_congr (r := r) (n := n) (fun b hb => h b (by omega))
    obtain ⟨e1, e2⟩ := h n (by omega)
    rw [flS, flS, ih, e1, e2]
theorem lastV_congr {v v' : Nat → Int32} : ∀ {n : Nat}, (∀ b, b < n → v b = v' b) → lastV v n = lastV v' n
  | 0, _ => rfl
  | n + 1, h => by rw [lastV, lastV, lastV_congr (n := n) (fun b hb => h b (by omega)), h n (by omega)]
theorem md_succ (x n : Nat) : x % 2 ^ (n + 1) = x % 2 ^ n + (if x.testBit n then 2 ^ n else 0) := by
  rw [Nat.mod_pow_succ, Nat.testBit_eq_decide_div_mod_eq]
  rcases Nat.mod_two_eq_zero_or_one (x / 2 ^ n) with h | h <;> simp [h]
theorem last_nat {a b : Nat} (hd : ∀ i, a.testBit i = true → b.testBit i = false) : ∀ n, (b % 2 ^ n < a % 2 ^ n ↔ lastV (fun i => if a.testBit i then 1 else if b.testBit i then 0 else -9) n = 1)
  | 0 => by simp [lastV, Nat.mod_one]
  | n + 1 => by
    have ih := last_nat hd n
    have h1 : a % 2 ^ n < 2 ^ n := Nat.mod_lt _ (Nat.two_pow_pos n)
    have h2 : b % 2 ^ n < 2 ^ n := Nat.mod_lt _ (Nat.two_pow_pos n)
    rw [md_succ, md_succ, lastV]
    cases ha : a.testBit n
    · cases hb : b.testBit n
      · simpa [ha, hb] using ih
      · simp [ha, hb]; omega
    · have hb := hd n ha
      simp [ha, hb]; omega
theorem nat_lt {x : Int64} {n : Nat} (h : ∀ i, n ≤ i → bl x i = false) : x.toBitVec.toNat < 2 ^ n := Nat.lt_pow_two_of_testBit _ (fun i hi => h i hi)
theorem lt_nat {x y : Int64} (hx : ∀ i, 60 ≤ i → bl x i = false) (hy : ∀ i, 60 ≤ i → bl y i = false) : x < y ↔ x.toBitVec.toNat < y.toBitVec.toNat := by
  have h1 := nat_lt hx
  have h2 := nat_lt hy
  rw [Int64.lt_iff_toInt_lt]
  show x.toBitVec.toInt < y.toBitVec.toInt ↔ _
  rw [BitVec.toInt_eq_toNat_of_lt (by omega), BitVec.toInt_eq_toNat_of_lt (by omega)]
  omega
theorem fell_last {fe ps : Nat → Int64} {t B : Nat} (hB : B ≤ 60) (hd : ∀ b, bl (fe t) b = true → bl (ps t) b = false) (h1 : ∀ b, B ≤ b → bl (fe t) b = false) (h2 : ∀ b, B ≤ b → bl (ps t) b = false) : (ps t < fe t) ↔ lastV (fun b => vIn fe ps t b) B = 1 := by
  rw [lt_nat (fun i hi => h2 i (by omega)) (fun i hi => h1 i (by omega))]
  have := last_nat (a := (fe t).toBitVec.toNat) (b := (ps t).toBitVec.toNat) hd B
  rw [Nat.mod_eq_of_lt (nat_lt h1), Nat.mod_eq_of_lt (nat_lt h2)] at this
  exact this
theorem add_or {x y : Int32} (h : ∀ i, i < 32 → ¬ (bt x i = true ∧ bt y i = true)) : x + y = x ||| y := by
  apply Int32.toBitVec_inj.mp
  rw [Int32.toBitVec_add, Int32.toBitVec_or]
  apply BitVec.add_eq_or_of_and_eq_zero
  apply BitVec.eq_of_getLsbD_eq
  intro i hi
  rw [BitVec.getLsbD_and, BitVec.getLsbD_zero]
  have := h i hi
  unfold bt at this
  revert this
  cases x.toBitVec.getLsbD i <;> cases y.toBitVec.getLsbD i <;> simp
abbrev htP (ve : Nat → Int32) (B t i : Nat) : Bool := decide (9 ≤ B + i) && decide (ve (20 * (B + i - 9) + t) = 1)
theorem ht_bit (ve : Nat → Int32) (B t : Nat) : ∀ k, k ≤ 8 → ∀ i, i < 32 → bt (htM ve B t k) i = (decide (8 - k ≤ i) && decide (i < 8) && htP ve B t i)
  | 0, _, i, hi => by
    rw [htM, b_0]
    rcases Nat.lt_or_ge i 8 with q | q
    · rw [decide_eq_false (show ¬ 8 - 0 ≤ i by omega)]; simp
    · rw [decide_eq_false (show ¬ i < 8 by omega)]; simp
  | k + 1, hk, i, hi => by
    have ih := ht_bit ve B t k (by omega)
    have key : bt (if B < k + 2 then (0 : Int32) else if ve (20 * (B - 1 - (k + 1)) + t) = 1 then one (8 - (k + 1)) else 0) = fun j => if j < 32 then decide (j = 7 - k) && htP ve B t j else false := by
      funext j
      rcases Nat.lt_or_ge j 32 with q | q
      · rw [if_pos q]
        by_cases c1 : B < k + 2
        · rw [if_pos c1, b_0]
          by_cases e : j = 7 - k
          · rw [htP, decide_eq_false (show ¬ 9 ≤ B + j by omega)]; simp
          · rw [decide_eq_false e]; simp
        · rw [if_neg c1]
          by_cases e : j = 7 - k
          · rw [htP, decide_eq_true e, decide_eq_true (show 9 ≤ B + j by omega), show B + j - 9 = B - 1 - (k + 1) by omega]
            by_cases c2 : ve (20 * (B - 1 - (k + 1)) + t) = 1
            · rw [if_pos c2, b_one (by omega) q, decide_eq_true (show j = 8 - (k + 1) by omega), decide_eq_true c2]; rfl
            · rw [if_neg c2, b_0, decide_eq_false c2]; rfl
          · rw [decide_eq_false e]
            by_cases c2 : ve (20 * (B - 1 - (k + 1)) + t) = 1
            · rw [if_pos c2, b_one (by omega) q, decide_eq_false (show ¬ j = 8 - (k + 1) by omega)]; rfl
            · rw [if_neg c2, b_0]; rfl
      · rw [b_big q]; exact (if_neg (Nat.not_lt.mpr q)).symm
    have hdis : ∀ j, j < 32 → ¬ (bt (htM ve B t k) j = true ∧ bt (if B < k + 2 then (0 : Int32) else if ve (20 * (B - 1 - (k + 1)) + t) = 1 then one (8 - (k + 1)) else 0) j = true) := by
      intro j hj hh
      rw [ih j hj, key] at hh
      simp only [if_pos hj, Bool.and_eq_true, decide_eq_true_eq] at hh
      omega
    rw [htM, add_or hdis, b_or, ih i hi, key]
    simp only [if_pos hi]
    by_cases e : i = 7 - k
    · rw [decide_eq_true e, decide_eq_false (show ¬ 8 - k ≤ i by omega), decide_eq_true (show 8 - (k + 1) ≤ i by omega), decide_eq_true (show i < 8 by omega)]; simp
    · rw [decide_eq_false e]
      by_cases e2 : 8 - k ≤ i
      · rw [decide_eq_true e2, decide_eq_true (show 8 - (k + 1) ≤ i by omega)]; simp
      · rw [decide_eq_false e2, decide_eq_false (show ¬ 8 - (k + 1) ≤ i by omega)]; simp
theorem ht_eq {fe : Nat → Int64} {ve : Nat → Int32} {B t : Nat} (hB : B ≤ 60) (h : ∀ b, b < 60 → (bl (fe t) b = true ↔ ve (20 * b + t) = 1)) : htC (fe t) B = htM ve B t 8 := by
  apply b_ext
  intro i hi
  rw [ht_bit ve B t 8 (Nat.le_refl 8) i hi, decide_eq_true (show 8 - 8 ≤ i by omega), Bool.true_and, htC]
  by_cases c1 : B < 2
  · rw [if_pos c1, b_0]
    rcases Nat.lt_or_ge i 8 with q | q
    · rw [htP, decide_eq_false (show ¬ 9 ≤ B + i by omega)]; simp
    · rw [decide_eq_false (show ¬ i < 8 by omega)]; simp
  · rw [if_neg c1, l2i_bit _ hi, l_and, m255 i (by omega)]
    rcases Nat.lt_or_ge i 8 with q | q
    · rw [decide_eq_true q, Bool.and_true, Bool.true_and]
      by_cases c2 : B - 1 < 8
      · rw [if_pos c2, l_shl _ (by omega) _ (by omega)]
        by_cases c3 : 9 ≤ B + i
        · rw [decide_eq_true (show 8 - (B - 1) ≤ i by omega), htP, decide_eq_true c3, Bool.true_and, Bool.true_and, show i - (8 - (B - 1)) = B + i - 9 by omega]
          have := h (B + i - 9) (by omega)
          cases e : bl (fe t) (B + i - 9)
          · rw [decide_eq_false (fun y => by rw [this.mpr y] at e; cases e)]
          · rw [decide_eq_true (this.mp e)]
        · rw [decide_eq_false (show ¬ 8 - (B - 1) ≤ i by omega), htP, decide_eq_false c3]; rfl
      · rw [if_neg c2, l_ushr _ (by omega), htP, decide_eq_true (show 9 ≤ B + i by omega), Bool.true_and, show B - 1 - 8 + i = B + i - 9 by omega]
        have := h (B + i - 9) (by omega)
        cases e : bl (fe t) (B + i - 9)
        · rw [decide_eq_false (fun y => by rw [this.mpr y] at e; cases e)]
        · rw [decide_eq_true (this.mp e)]
    · rw [decide_eq_false (show ¬ i < 8 by omega), Bool.and_false, Bool.false_and]
theorem ch_bits {nd : Nat → Int32} {T : Nat} (hN : WN nd T) (hT : T ≤ 20) : ∀ (f u i : Nat), u < T → i < 32 → bt (chM nd f (nI u)) i = true → i ≤ u
  | 0, u, i, _, _, h => by rw [chM, b_0] at h; cases h
  | f + 1, u, i, hu, hi, h => by
    rw [chM_pos (by omega), b_or, b_one (by omega) hi] at h
    by_cases e : i = u
    · omega
    · rw [decide_eq_false e, Bool.false_or] at h
      rcases hN u hu with q | ⟨v, h1, h2⟩
      · cases f with
        | zero => rw [chM, b_0] at h; cases h
        | succ f => rw [chM_neg q, b_0] at h; cases h
      · rw [h2] at h
        have := ch_bits hN hT f v i (by omega) hi h
        omega
section RELE
variable {s : CS} {g : GS}
theorem Rel.fk (h : Rel s g) {t : Nat} (ht : t < 20) : cFk s.2.1 s.2.2.1 t = gFk g t := by
  have h60 := h.B60
  show (flS (hCg s.2.2.1) (cV s.2.2.1 t) (tPa s.2.1 t) (hB s.2.2.1)).2.2 = (flS (gCg g) (gV g t) (gRe g t) (gB g)).2.2
  rw [h.pa ht, h.B, flS_congr (cg' := gCg g) (v' := gV g t) (fun b hb => ⟨h.cg (by omega), h.v ht (by omega)⟩)]
theorem Rel.one (h : Rel s g) {t b : Nat} (ht : t < 20) (hb : b < 60) : bl (hFe s.2.2.1 t) b = true ↔ gVe g (20 * b + t) = 1 := by
  rw [← h.v ht hb, vIn]
  cases bl (hFe s.2.2.1 t) b <;> cases bl (hPs s.2.2.1 t) b <;> decide
theorem Rel.zero (h : Rel s g) {t b : Nat} (ht : t < 20) (hb : b < 60) : bl (hPs s.2.2.1 t) b = true ↔ gVe g (20 * b + t) = 0 := by
  rw [← h.v ht hb, vIn]
  have := h.2.2.2.1.2.2.2.2.2.1 t b ht
  revert this
  cases bl (hFe s.2.2.1 t) b <;> cases bl (hPs s.2.2.1 t) b <;> decide
theorem Rel.heat (h : Rel s g) {t : Nat} (ht : t < 20) : htC (hFe s.2.2.1 t) (hB s.2.2.1) = htM (gVe g) (gB g) t 8 := by
  rw [h.B]
  exact ht_eq h.B60 (fun b hb => h.one ht hb)
theorem Rel.last (h : Rel s g) {t : Nat} (ht : t < 20) : (hPs s.2.2.1 t < hFe s.2.2.1 t) ↔ lastV (gV g t) (gB g) = 1 := by
  have h60 := h.B60
  have r7 := h.2.2.2.1.2.2.2.2.2.2
  rw [fell_last (B := gB g) h60 (fun b => h.2.2.2.1.2.2.2.2.2.1 t b ht) (fun b hb => (r7 t b ht (by rw [h.B]; exact hb)).1) (fun b hb => (r7 t b ht (by rw [h.B]; exact hb)).2), lastV_congr (v' := gV g t) (fun b hb => h.v ht (by omega))]
theorem Rel.hi20 (h : Rel s g) {t : Nat} (ht : t < gT g) : ∀ i, 20 ≤ i → bt (gCh g t) i = false := by
  intro i hi
  have h20 := h.T20
  rcases Nat.lt_or_ge i 32 with q | q
  · cases e : bt (gCh g t) i
    · rfl
    · have := ch_bits h.2.1.2.2.2.2.1 h20 21 t i ht q e
      omega
  · exact b_big q
theorem Rel.ctm (h : Rel s g) {t : Nat} (ht : t < 20) : cTm (tKd s.2.1) (tOt s.2.1) t = cTm (gKd g) (gTi g) t := by rw [cTm, cTm, (h.fact ht).1, (h.fact ht).2.1]
theorem Rel.tl (h : Rel s g) {t : Nat} (ht : t < gT g) (w : Int32) : cTl s.2.1 s.2.2.1 t w = gTl g t w := by
  have h20 := h.T20
  have ht2 : t < 20 := by omega
  unfold cTl gTl
  rw [(h.fact ht2).1, h.ctm ht2, (h.fact ht2).2.2, h.heat ht2, h.fk ht2, h.ch ht, popI_eq (h.hi20 ht)]
  have e : decide (hPs s.2.2.1 t < hFe s.2.2.1 t) = decide (lastV (gV g t) (gB g) = 1) := decide_eq_decide.mpr (h.last ht2)
  rw [e]
theorem st_told (h : Rel s g) (x w : Int32) : xTold x w s = gTold x w g := by
  unfold xTold gTold
  have h20 := h.T20
  refine bie (by rw [h.T]) (fun _ => rfl) (fun c1 => ?_)
  obtain ⟨t, ht, rfl⟩ := inN_ex (by omega) (nofalse c1)
  by_cases c2 : w < 0
  · rw [if_pos c2, if_pos (rgE.mpr (Or.inl c2))]
  by_cases c3 : w ≤ 6
  case neg => rw [if_neg c2, if_pos c3, if_pos (rgE.mpr (Or.inr (Int32.not_le.mp c3)))]
  rw [if_neg c2, if_neg (fun y => y c3), if_neg (fun y => (rgE.mp y).elim c2 (Int32.not_lt.mpr c3)), nI_clamp (by omega)]
  exact h.tl ht w
end RELE
