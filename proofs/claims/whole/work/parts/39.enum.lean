/-! sets of members: numbered one by one, summed up by their lowest -/
def ct (f : Nat → Bool) : Nat → Nat
  | 0 => 0
  | n + 1 => ct f n + (if f n then 1 else 0)
theorem ct_step {f : Nat → Bool} {n : Nat} (h : f n = true) : ct f (n + 1) = ct f n + 1 := by rw [ct, if_pos h]
theorem ct_same {f : Nat → Bool} {n : Nat} (h : f n = false) : ct f (n + 1) = ct f n := by rw [ct, h]; rfl
theorem ct_mono {f : Nat → Bool} {a b : Nat} (h : a ≤ b) : ct f a ≤ ct f b := by
  induction b with
  | zero => rw [show a = 0 by omega]; exact Nat.le_refl _
  | succ b ih =>
    rcases Nat.lt_or_ge a (b + 1) with q | q
    · exact Nat.le_trans (ih (by omega)) (Nat.le_add_right _ _)
    · rw [show a = b + 1 by omega]; exact Nat.le_refl _
theorem ct_lt {f : Nat → Bool} {a b : Nat} (h : a < b) (hf : f a = true) : ct f a < ct f b := by
  have := ct_mono (f := f) (show a + 1 ≤ b by omega)
  rw [ct_step hf] at this
  omega
theorem ct_le (f : Nat → Bool) : ∀ n, ct f n ≤ n
  | 0 => Nat.le_refl _
  | n + 1 => by
    have := ct_le f n
    rw [ct]
    split <;> omega
theorem ct_congr {f f' : Nat → Bool} : ∀ {n : Nat}, (∀ t, t < n → f t = f' t) → ct f n = ct f' n
  | 0, _ => rfl
  | n + 1, h => by rw [ct, ct, ct_congr (n := n) (fun t ht => h t (by omega)), h n (by omega)]
theorem ct_cN (x : Int32) : ∀ n, ct (fun t => bt x t) n = cN x n
  | 0 => rfl
  | n + 1 => by rw [ct, cN, ct_cN x n]
theorem pkF_2 (f : Nat → Bool) (pk : Nat → Int32) : ∀ n, (pkF f pk n).2 = ct f n
  | 0 => rfl
  | n + 1 => by
    rw [pkF]
    cases h : f n
    · rw [if_neg Bool.false_ne_true, pkF_2 f pk n, ct_same h]
    · rw [if_pos rfl, ct_step h, ← pkF_2 f pk n]
theorem pkF_at {f : Nat → Bool} {pk : Nat → Int32} {t : Nat} (hf : f t = true) : ∀ n, t < n → (pkF f pk n).1 (ct f t) = nI t
  | 0, h => absurd h (Nat.not_lt_zero t)
  | n + 1, h => by
    rw [pkF]
    by_cases e : t = n
    · subst e
      rw [if_pos hf]
      show upd _ (pkF f pk t).2 (nI t) (ct f t) = nI t
      rw [pkF_2, pk_us]
    · have ih := pkF_at (pk := pk) hf n (by omega)
      cases hn : f n
      · rw [if_neg Bool.false_ne_true]; exact ih
      · rw [if_pos rfl]
        show upd _ (pkF f pk n).2 (nI n) (ct f t) = nI t
        rw [pkF_2, pk_un (Nat.ne_of_lt (ct_lt (show t < n by omega) hf))]; exact ih
theorem nI_bit (k : Nat) {p : Nat} (hp : p < 32) : bt (nI k) p = k.testBit p := by
  show (BitVec.ofNat 32 k).getLsbD p = _
  rw [BitVec.getLsbD_ofNat]; simp [hp]
/-- what the members of a set come to -/
def gS {α : Type} (op : α → α → α) (z : α) (a : Nat → α) (b : Nat → Bool) : Nat → α
  | 0 => z
  | n + 1 => if b n then op (gS op z a b n) (a n) else gS op z a b n
theorem gS_congr {α : Type} {op : α → α → α} {z : α} {a a' : Nat → α} {b b' : Nat → Bool} : ∀ {n : Nat}, (∀ t, t < n → b t = b' t) → (∀ t, t < n → b t = true → a t = a' t) → gS op z a b n = gS op z a' b' n
  | 0, _, _ => rfl
  | n + 1, h, h2 => by
    have ih := gS_congr (op := op) (z := z) (n := n) (fun t ht => h t (by omega)) (fun t ht => h2 t (by omega))
    rw [gS, gS, ih, ← h n (by omega)]
    cases hb : b n
    · rfl
    · rw [h2 n (by omega) hb]
theorem gS_ct {α : Type} {op : α → α → α} {z : α} {f : Nat → Bool} {a a' : Nat → α} {b b' : Nat → Bool} : ∀ {n : Nat}, (∀ t, t < n → f t = true → a (ct f t) = a' t) → (∀ t, t < n → b' t = (f t && b (ct f t))) → gS op z a' b' n = gS op z a b (ct f n)
  | 0, _, _ => rfl
  | n + 1, h, h2 => by
    have ih := gS_ct (op := op) (z := z) (n := n) (fun t ht => h t (by omega)) (fun t ht => h2 t (by omega))
    rw [gS, ih, h2 n (by omega)]
    cases hf : f n
    · rw [ct_same hf]; rfl
    · rw [ct_step hf, gS, ← h n (by omega) hf]; rfl
theorem gS_rest {α : Type} {op : α → α → α} {z : α} (hc : ∀ x y, op x y = op y x) (ha : ∀ x y w, op (op x y) w = op x (op y w)) {a : Nat → α} {b b' : Nat → Bool} {l : Nat} (hl : b l = true) : ∀ n, (∀ i, i < n → b' i = (b i && !decide (i = l))) → gS op z a b n = if l < n then op (gS op z a b' n) (a l) else gS op z a b' n
  | 0, _ => rfl
  | n + 1, h => by
    have ih := gS_rest (z := z) hc ha (a := a) hl n (fun i hi => h i (by omega))
    rw [gS, gS, ih, h n (by omega)]
    by_cases e : n = l
    · subst e
      rw [if_pos hl, if_neg (Nat.lt_irrefl n), decide_eq_true rfl, if_pos (Nat.lt_succ_self n), hl]
      rfl
    · rw [decide_eq_false e]
      by_cases q : l < n
      · rw [if_pos q, if_pos (show l < n + 1 by omega)]
        cases b n
        · rfl
        · show op (op _ _) _ = op (op _ _) _
          rw [ha, ha, hc (a l)]
      · rw [if_neg q, if_neg (show ¬ l < n + 1 by omega)]
        cases b n <;> rfl
theorem so_bit {f : Nat → Bool} {mv : Nat → Int32} {k T : Nat} (hT : T ≤ 20) (hmv : ∀ t, t < T → f t = true → mv (ct f t) = nI t) : ∀ n, n ≤ T → ∀ i, i < 32 → bt (soS mv (nI k) (ct f n)) i = (decide (i < n) && f i && k.testBit (ct f i))
  | 0, _, i, _ => by rw [ct, soS, b_0, decide_eq_false (Nat.not_lt_zero i)]; rfl
  | n + 1, hn, i, hi => by
    have ih := so_bit (k := k) hT hmv n (by omega) i hi
    have hcl := ct_le f n
    cases hf : f n
    · rw [ct_same hf, ih]
      by_cases e : i = n
      · subst e; rw [hf]; simp
      · by_cases q : i < n
        · rw [decide_eq_true q, decide_eq_true (show i < n + 1 by omega)]
        · rw [decide_eq_false q, decide_eq_false (show ¬ i < n + 1 by omega)]
    · rw [ct_step hf, soS, b_or, ih, hmv n (by omega) hf, nI_bit k (by omega)]
      by_cases e : i = n
      · subst e
        rw [decide_eq_false (Nat.lt_irrefl i), decide_eq_true (show i < i + 1 by omega), hf]
        cases k.testBit (ct f i)
        · rw [if_neg Bool.false_ne_true, b_0]; rfl
        · rw [if_pos rfl, oneE, b_one (by omega) hi]; simp
      · have hz : bt (if k.testBit (ct f n) = true then (1 : Int32) <<< (nI n &&& 31) else 0) i = false := by
          cases k.testBit (ct f n)
          · rw [if_neg Bool.false_ne_true, b_0]
          · rw [if_pos rfl, oneE, b_one (by omega) hi, decide_eq_false e]
        rw [hz, Bool.or_false]
        by_cases q : i < n
        · rw [decide_eq_true q, decide_eq_true (show i < n + 1 by omega)]
        · rw [decide_eq_false q, decide_eq_false (show ¬ i < n + 1 by omega)]
theorem fNx {k k' p q : Nat} (h1 : k < k') (h2 : k' ≤ k + 2 ^ p) (hm : k' % 2 ^ p = 0) (hb : k'.testBit p = true) (hq : p < q) : k' / 2 ^ q = k / 2 ^ q := by
  have hp := Nat.two_pow_pos p
  have e : k' / 2 ^ (p + 1) = k / 2 ^ (p + 1) := by
    rw [Nat.testBit_eq_decide_div_mod_eq, decide_eq_true_eq] at hb
    have hkd := Nat.div_add_mod k' (2 ^ p)
    rw [hm, Nat.add_zero] at hkd
    obtain ⟨z, hz⟩ : ∃ z, k' / 2 ^ p = 2 * z + 1 := ⟨k' / 2 ^ p / 2, by omega⟩
    rw [hz, Nat.mul_add, Nat.mul_one] at hkd
    have e1 : k' / 2 ^ (p + 1) = z := by rw [Nat.pow_succ, ← Nat.div_div_eq_div_mul, hz]; omega
    have e2 : k / 2 ^ (p + 1) = z := by
      rw [Nat.div_eq_iff (Nat.two_pow_pos _), Nat.pow_succ]
      rw [← Nat.mul_assoc] at hkd
      have : z * (2 ^ p * 2) = 2 ^ p * 2 * z := Nat.mul_comm _ _
      omega
    rw [e1, e2]
  obtain ⟨d, rfl⟩ : ∃ d, q = p + 1 + d := ⟨q - (p + 1), by omega⟩
  rw [Nat.pow_add 2 (p + 1) d, ← Nat.div_div_eq_div_mul, ← Nat.div_div_eq_div_mul, e]
/-- what stays written when the next set is taken -/
theorem fNy {k k' : Nat} (h0 : 0 < k') (hk : k' < 4096) (h1 : k < k') (h2 : k' ≤ k + 2 ^ lw k') {q : Nat} (hb : k'.testBit q = true) (hq : q ≠ lw k') : k.testBit q = true ∧ k' / 2 ^ q = k / 2 ^ q := by
  have hm := fMd k' hk h0
  have hl := (fRs k' hk h0).1
  have hlt : lw k' < q := by
    rcases Nat.lt_trichotomy q (lw k') with c | c | c
    · exfalso
      have := Nat.testBit_mod_two_pow k' (lw k') q
      rw [hm, hb, decide_eq_true c, Nat.zero_testBit] at this
      simp at this
    · exact absurd c hq
    · exact c
  have e := fNx h1 h2 hm hl hlt
  refine ⟨?_, e⟩
  rw [Nat.testBit_eq_decide_div_mod_eq] at hb ⊢
  rw [← e]; exact hb
theorem fN2 {k : Nat} (hk : k < 4096) (h0 : 0 < k) (h4 : k + 2 ^ lw k < 4096) : lw k ≤ lw (k + 2 ^ lw k) := by
  have hp := Nat.two_pow_pos (lw k)
  rcases Nat.lt_or_ge (lw (k + 2 ^ lw k)) (lw k) with c | c
  · exfalso
    have hb := (fRs (k + 2 ^ lw k) h4 (by omega)).1
    have hm := fMd k hk h0
    have hm2 : (k + 2 ^ lw k) % 2 ^ lw k = 0 := by rw [Nat.add_mod_right]; exact hm
    have := Nat.testBit_mod_two_pow (k + 2 ^ lw k) (lw k) (lw (k + 2 ^ lw k))
    rw [hm2, hb, decide_eq_true c, Nat.zero_testBit] at this
    simp at this
  · exact c
