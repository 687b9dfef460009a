/-! the sets, summed up -/
abbrev Q4 : Type := Int32 × Int32 × Int32 × Int64
def op4 (x y : Q4) : Q4 := (x.1 ||| y.1, x.2.1 ||| y.2.1, x.2.2.1 + y.2.2.1, x.2.2.2 ||| y.2.2.2)
def z4 : Q4 := (0, 0, 0, 0)
theorem iOr0 (x : Int32) : 0 ||| x = x := b_ext fun i _ => by rw [b_or, b_0, Bool.false_or]
theorem iOr0r (x : Int32) : x ||| 0 = x := b_ext fun i _ => by rw [b_or, b_0, Bool.or_false]
theorem lOr0l (x : Int64) : 0 ||| x = x := l_ext fun i _ => by rw [l_or, l_0, Bool.false_or]
theorem op4_c (x y : Q4) : op4 x y = op4 y x := by
  unfold op4
  rw [Int32.or_comm x.1, Int32.or_comm x.2.1, Int32.add_comm x.2.2.1, Int64.or_comm x.2.2.2]
theorem op4_a (x y w : Q4) : op4 (op4 x y) w = op4 x (op4 y w) := by
  unfold op4
  show (x.1 ||| y.1 ||| w.1, x.2.1 ||| y.2.1 ||| w.2.1, x.2.2.1 + y.2.2.1 + w.2.2.1, x.2.2.2 ||| y.2.2.2 ||| w.2.2.2) = (x.1 ||| (y.1 ||| w.1), x.2.1 ||| (y.2.1 ||| w.2.1), x.2.2.1 + (y.2.2.1 + w.2.2.1), x.2.2.2 ||| (y.2.2.2 ||| w.2.2.2))
  rw [Int32.or_assoc, Int32.or_assoc, Int32.add_assoc, Int64.or_assoc]
theorem op4_z (x : Q4) : op4 z4 x = x := by
  unfold op4 z4
  show ((0 : Int32) ||| x.1, (0 : Int32) ||| x.2.1, (0 : Int32) + x.2.2.1, (0 : Int64) ||| x.2.2.2) = x
  rw [iOr0, iOr0, Int32.zero_add, lOr0l]
def it4 (ss : SS) (p : Nat) : Q4 := (sTb ss p, sCh ss p, sTi ss p, sCo ss p)
def en4 (ss : SS) (p : Nat) : Q4 := (sBf ss p, sCf ss p, sTf ss p, sVf ss p)
abbrev G4 (a : Nat → Q4) (k : Nat) : Q4 := gS op4 z4 a k.testBit 12
def SI (ss : SS) (k : Nat) : Prop := en4 ss 12 = z4 ∧ ∀ q, q < 12 → k.testBit q = true → q ≠ lw k → en4 ss q = G4 (it4 ss) (k / 2 ^ q * 2 ^ q)
theorem gS_none {α : Type} {op : α → α → α} {z : α} {a : Nat → α} {b : Nat → Bool} : ∀ {n : Nat}, (∀ t, t < n → b t = false) → gS op z a b n = z
  | 0, _ => rfl
  | n + 1, h => by rw [gS, h n (by omega), if_neg Bool.false_ne_true]; exact gS_none (fun t ht => h t (by omega))
theorem gS_more {α : Type} {op : α → α → α} {z : α} {a : Nat → α} {b : Nat → Bool} {n : Nat} (h : ∀ t, n ≤ t → b t = false) : ∀ k, gS op z a b (n + k) = gS op z a b n
  | 0 => rfl
  | k + 1 => by
    show (if b (n + k) then _ else gS op z a b (n + k)) = _
    rw [h (n + k) (by omega), if_neg Bool.false_ne_true]; exact gS_more h k
theorem G4_0 (a : Nat → Q4) : G4 a 0 = z4 := gS_none fun t _ => Nat.zero_testBit t
theorem G4_rest (a : Nat → Q4) {k : Nat} (hk : k < 4096) (h0 : 0 < k) : G4 a k = op4 (G4 a (k - 2 ^ lw k)) (a (lw k)) := by
  have hl := lw_lt 12 k h0 hk
  have := gS_rest (z := z4) op4_c op4_a (a := a) (b := k.testBit) (b' := (k - 2 ^ lw k).testBit) (fRs k hk h0).1 12 (fun i hi => fLo k hk h0 i hi)
  rw [if_pos hl] at this
  exact this
theorem it_sum (ss : SS) (k : Nat) : it4 (sumS ss k) = it4 ss := rfl
theorem it_keep (ss : SS) (p : Nat) : it4 (keepS ss p) = it4 ss := rfl
theorem en_keep (ss : SS) (p : Nat) : en4 (keepS ss p) = en4 ss := rfl
theorem en_sum_s (ss : SS) (k : Nat) : en4 (sumS ss k) (lw k) = op4 (en4 ss (rs k)) (it4 ss (lw k)) := by
  show (upd _ (lw k) _ (lw k), upd _ (lw k) _ (lw k), upd _ (lw k) _ (lw k), vp_updL _ (lw k) _ (lw k)) = _
  rw [pk_us, pk_us, pk_us, pk_uLs]; rfl
theorem en_sum_n (ss : SS) {k q : Nat} (h : q ≠ lw k) : en4 (sumS ss k) q = en4 ss q := by
  show (upd _ (lw k) _ q, upd _ (lw k) _ q, upd _ (lw k) _ q, vp_updL _ (lw k) _ q) = _
  rw [pk_un h, pk_un h, pk_un h, pk_uLn h]; rfl
theorem sum_at {ss : SS} {k : Nat} (hk : k < 4096) (h0 : 0 < k) (h : SI ss k) : en4 (sumS ss k) (lw k) = G4 (it4 ss) k := by
  rw [en_sum_s, G4_rest _ hk h0]
  congr 1
  rcases (fRs k hk h0).2 with ⟨c1, c2⟩ | ⟨c1, c2, c3, c4⟩
  · rw [c1, h.1, show k - 2 ^ lw k = 0 by omega, G4_0]
  · rw [h.2 (rs k) c1 c2 c3, c4]
theorem sum_all {ss : SS} {k : Nat} (hk : k < 4096) (h0 : 0 < k) (h : SI ss k) : en4 (sumS ss k) 12 = z4 ∧ ∀ q, q < 12 → k.testBit q = true → en4 (sumS ss k) q = G4 (it4 ss) (k / 2 ^ q * 2 ^ q) := by
  have hl := lw_lt 12 k h0 hk
  refine ⟨by rw [en_sum_n ss (Nat.ne_of_gt hl)]; exact h.1, fun q hq hb => ?_⟩
  by_cases e : q = lw k
  · subst e
    rw [sum_at hk h0 h]
    have := Nat.div_add_mod k (2 ^ lw k)
    rw [fMd k hk h0, Nat.add_zero, Nat.mul_comm] at this
    rw [this]
  · rw [en_sum_n ss e]; exact h.2 q hq hb e
theorem t4096 : ∀ q, q < 12 → (4096 : Nat).testBit q = false := by decide
theorem SI_next {ss : SS} {k k' : Nat} (hk' : k' ≤ 4096) (h1 : k < k') (h2 : k' < 4096 → k' ≤ k + 2 ^ lw k') (h : en4 ss 12 = z4 ∧ ∀ q, q < 12 → k.testBit q = true → en4 ss q = G4 (it4 ss) (k / 2 ^ q * 2 ^ q)) : SI ss k' := by
  refine ⟨h.1, fun q hq hb hn => ?_⟩
  rcases Nat.lt_or_ge k' 4096 with c | c
  · obtain ⟨e1, e2⟩ := fNy (by omega) c h1 (h2 c) hb hn
    rw [h.2 q hq e1, e2]
  · have : k' = 4096 := by omega
    subst this
    rw [t4096 q hq] at hb
    exact absurd hb Bool.false_ne_true
theorem SI_1 {ss : SS} (h : en4 ss 12 = z4) : SI ss 1 := by
  refine ⟨h, fun q hq hb hn => ?_⟩
  exfalso
  have : ∀ q, q < 12 → Nat.testBit 1 q = true → q = lw 1 := by decide
  exact hn (this q hq hb)
/-! what a set's members come to, test by test -/
def orC (C : Nat → Int32) (x : Int32) : Nat → Int32
  | 0 => 0
  | n + 1 => orC C x n ||| (if bt x n then C n else 0)
theorem c4 {kd ot C : Nat → Int32} {V : Nat → Int64} {x : Int32} : ∀ n, gS op4 z4 (fun t => (one t, C t, cTm kd ot t, V t)) (fun t => bt x t) n = (orI (fun t => bt x t) n, orC C x n, tmS kd ot x n, paS V x n)
  | 0 => rfl
  | n + 1 => by
    rw [gS, orI, orC, tmS, paS, c4 n]
    cases bt x n
    · show (_, _, _, _) = (orI (fun t => bt x t) n ||| (0 : Int32), orC C x n ||| (0 : Int32), tmS kd ot x n + (0 : Int32), paS V x n ||| (0 : Int64))
      rw [iOr0r, iOr0r, Int32.add_zero, lOr0]
    · rfl
theorem orC_bit (C : Nat → Int32) (x : Int32) (i : Nat) : ∀ n, bt (orC C x n) i = true ↔ ∃ t, t < n ∧ bt x t = true ∧ bt (C t) i = true
  | 0 => ⟨fun h => by rw [orC, b_0] at h; exact absurd h Bool.false_ne_true, fun ⟨t, h, _⟩ => absurd h (Nat.not_lt_zero t)⟩
  | n + 1 => by
    rw [orC, b_or, Bool.or_eq_true, orC_bit C x i n]
    constructor
    · rintro (⟨t, h1, h2⟩ | h)
      · exact ⟨t, by omega, h2⟩
      · cases hx : bt x n
        · rw [hx, if_neg Bool.false_ne_true, b_0] at h; exact absurd h Bool.false_ne_true
        · rw [hx, if_pos rfl] at h; exact ⟨n, by omega, hx, h⟩
    · rintro ⟨t, h1, h2, h3⟩
      rcases Nat.lt_or_ge t n with c | c
      · exact Or.inl ⟨t, c, h2, h3⟩
      · have : t = n := by omega
        subst this
        right; rw [h2, if_pos rfl]; exact h3
theorem closed_iff {C : Nat → Int32} {x : Int32} {T : Nat} (hT : T ≤ 20) (hself : ∀ t, t < T → bt (C t) t = true) (hx : ∀ i, T ≤ i → bt x i = false) : orC C x T = x ↔ ∀ t, t < T → bt x t = true → C t &&& (x ^^^ (-1)) = 0 := by
  constructor
  · intro h t ht hb
    apply b_ext
    intro i hi
    rw [b_and, b_not _ hi, b_0]
    cases hc : bt (C t) i
    · rfl
    · have := (orC_bit C x i T).mpr ⟨t, ht, hb, hc⟩
      rw [h] at this
      rw [this]; rfl
  · intro h
    apply b_ext
    intro i hi
    cases hc : bt x i
    · cases ho : bt (orC C x T) i
      · rfl
      · obtain ⟨t, h1, h2, h3⟩ := (orC_bit C x i T).mp ho
        have : bt (C t &&& (x ^^^ (-1))) i = false := by rw [h t h1 h2, b_0]
        rw [b_and, b_not _ hi, h3, hc] at this
        exact absurd this (by decide)
    · have hiT : i < T := by
        rcases Nat.lt_or_ge i T with c | c
        · exact c
        · rw [hx i c] at hc; exact absurd hc Bool.false_ne_true
      exact (orC_bit C x i T).mpr ⟨i, hiT, hc, hself i hiT⟩
theorem whB_iff {f : Nat → Bool} {b : Bool} : ∀ {n : Nat}, whB f b n = true ↔ b = true ∧ ∀ t, t < n → f t = true
  | 0 => ⟨fun h => ⟨h, fun t ht => absurd ht (Nat.not_lt_zero t)⟩, fun h => h.1⟩
  | n + 1 => by
    rw [whB, Bool.and_eq_true, whB_iff (n := n)]
    constructor
    · rintro ⟨⟨h1, h2⟩, h3⟩
      refine ⟨h1, fun t ht => ?_⟩
      rcases Nat.lt_or_ge t n with c | c
      · exact h2 t c
      · rw [show t = n by omega]; exact h3
    · rintro ⟨h1, h2⟩
      exact ⟨⟨h1, fun t ht => h2 t (by omega)⟩, h2 n (by omega)⟩
/-- the rows as they are filled -/
theorem ad_at {ts : TS} {al : Int32} {co : Nat → Int64} {ss : SS} : ∀ n, ct (fun t => bt al t) n ≤ 12 → sN (adS ts al co ss n) = ct (fun t => bt al t) n ∧ (∀ t, t < n → bt al t = true → it4 (adS ts al co ss n) (ct (fun t => bt al t) t) = (one t, tCh ts t, cTm (tKd ts) (tOt ts) t, co t)) ∧ en4 (adS ts al co ss n) = en4 ss ∧ sFb (adS ts al co ss n) = 0 ∧ sFt (adS ts al co ss n) = 0 ∧ sFc (adS ts al co ss n) = 0
  | 0, _ => ⟨rfl, fun t ht => absurd ht (Nat.not_lt_zero t), rfl, rfl, rfl, rfl⟩
  | n + 1, h => by
    have hm : ct (fun t => bt al t) n ≤ ct (fun t => bt al t) (n + 1) := ct_mono (by omega)
    obtain ⟨h1, h2, h3, h4, h5, h6⟩ := ad_at (ts := ts) (al := al) (co := co) (ss := ss) n (by omega)
    rw [adS]
    cases hb : bt al n
    · have e : ct (fun t => bt al t) (n + 1) = ct (fun t => bt al t) n := ct_same hb
      rw [if_neg Bool.false_ne_true, e]
      refine ⟨h1, fun t ht hbt => ?_, h3, h4, h5, h6⟩
      rcases Nat.lt_or_ge t n with c | c
      · exact h2 t c hbt
      · rw [show t = n by omega, hb] at hbt; exact absurd hbt Bool.false_ne_true
    · have e : ct (fun t => bt al t) (n + 1) = ct (fun t => bt al t) n + 1 := ct_step hb
      rw [if_pos rfl, e, addS, if_pos (by omega)]
      refine ⟨by show sN _ + 1 = _; rw [h1], fun t ht hbt => ?_, h3, h4, h5, h6⟩
      show (upd (sTb _) (sN _) _ _, upd (sCh _) (sN _) _ _, upd (sTi _) (sN _) _ _, vp_updL (sCo _) (sN _) _ _) = _
      rw [h1]
      rcases Nat.lt_or_ge t n with c | c
      · have hlt : ct (fun t => bt al t) t < ct (fun t => bt al t) n := ct_lt c hbt
        have hne := Nat.ne_of_lt hlt
        rw [pk_un hne, pk_un hne, pk_un hne, pk_uLn hne]
        exact h2 t c hbt
      · have : t = n := by omega
        subst this
        rw [pk_us, pk_us, pk_us, pk_uLs]
theorem pcI_cN (x : Int32) : ∀ n, pcI x n = nI (cN x n)
  | 0 => rfl
  | n + 1 => by
    rw [pcI, cN, pcI_cN x n]
    cases bt x n
    · rw [bI_f rfl]; simp
    · rw [bI_t rfl, if_pos rfl]; exact nI_1 _
theorem cN_more {x : Int32} {n : Nat} (h : ∀ i, n ≤ i → bt x i = false) : ∀ k, cN x (n + k) = cN x n
  | 0 => rfl
  | k + 1 => by
    show cN x (n + k) + (if bt x (n + k) then 1 else 0) = _
    rw [h (n + k) (by omega), cN_more h k]; rfl
theorem popI_cN {x : Int32} {n : Nat} (hn : n ≤ 32) (h : ∀ i, n ≤ i → bt x i = false) : popI x = nI (cN x n) := by
  show pcI x 32 = _
  have := cN_more h (32 - n)
  rw [show n + (32 - n) = 32 by omega] at this
  rw [pcI_cN, this]
