/-! pick -/
theorem and_one_zero {u : Nat} (hu : u < 32) (x b : Int32) : (one u ||| x) &&& b = 0 ↔ (bt b u = false ∧ x &&& b = 0) := by
  constructor
  · intro h
    have hb : ∀ i, bt ((one u ||| x) &&& b) i = false := fun i => by rw [h, b_0]
    constructor
    · have := hb u
      rw [b_and, b_or, b_one hu hu] at this
      simpa using this
    · apply b_ext
      intro i hi
      have := hb i
      rw [b_and, b_or] at this
      rw [b_and, b_0]
      revert this
      cases bt (one u) i <;> cases bt x i <;> cases bt b i <;> simp
  · intro ⟨h1, h2⟩
    apply b_ext
    intro i hi
    have h3 : bt (x &&& b) i = false := by rw [h2, b_0]
    rw [b_and] at h3
    rw [b_and, b_or, b_one hu hi, b_0]
    by_cases e : i = u
    · subst e; rw [h1]; simp
    · rw [decide_eq_false e, Bool.false_or]; exact h3
theorem zand0 (b : Int32) : (0 : Int32) &&& b = 0 := b_ext fun i _ => by rw [b_and, b_0, Bool.false_and]
theorem mb_iff {kd ms nd : Nat → Int32} {T : Nat} {bar : Int32} (hN : WN nd T) (hT : T ≤ 20) (hbar : ∀ u, u < T → bt bar u = (decide (kd u = 3) || !decide (ms u = 0))) : ∀ (f u : Nat), u < T → (chM nd f (nI u) &&& bar = 0 ↔ mbM kd ms nd f (nI u) = true)
  | 0, u, _ => by rw [chM, mbM]; exact ⟨fun _ => rfl, fun _ => zand0 _⟩
  | f + 1, u, hu => by
    rw [chM_pos (by omega), mbM_pos (by omega), and_one_zero (by omega), hbar u hu, Bool.and_eq_true]
    have hr : (chM nd f (nd u) &&& bar = 0) ↔ mbM kd ms nd f (nd u) = true := by
      rcases hN u hu with q | ⟨v, h1, h2⟩
      · cases f with
        | zero => rw [chM, mbM]; exact ⟨fun _ => rfl, fun _ => zand0 _⟩
        | succ f => rw [chM_neg q, show mbM kd ms nd (f + 1) (nd u) = true from if_pos q]; exact ⟨fun _ => rfl, fun _ => zand0 _⟩
      · rw [h2]; exact mb_iff hN hT hbar f v (by omega)
    rw [hr]
    by_cases c1 : kd u = 3 <;> by_cases c2 : ms u = 0 <;> simp [c1, c2]
theorem tmS_congr {kd ot kd' ot' : Nat → Int32} {x : Int32} : ∀ {n : Nat}, (∀ t, t < n → cTm kd ot t = cTm kd' ot' t) → tmS kd ot x n = tmS kd' ot' x n
  | 0, _ => rfl
  | n + 1, h => by rw [tmS, tmS, tmS_congr (n := n) (fun t ht => h t (by omega)), h n (by omega)]
theorem paS_congr {f f' : Nat → Int64} {x : Int32} : ∀ {n : Nat}, (∀ t, t < n → f t = f' t) → paS f x n = paS f' x n
  | 0, _ => rfl
  | n + 1, h => by rw [paS, paS, paS_congr (n := n) (fun t ht => h t (by omega)), h n (by omega)]
theorem paS_or (f : Nat → Int64) (x y : Int32) : ∀ n, paS f (x ||| y) n = paS f x n ||| paS f y n
  | 0 => by rw [paS, paS, paS, lOr0]
  | n + 1 => by
    rw [paS, paS, paS, paS_or f x y n, b_or]
    apply l_ext
    intro i _
    cases bt x n <;> cases bt y n <;> simp [l_or, l_0] <;> (cases bl (paS f x n) i <;> cases bl (paS f y n) i <;> cases bl (f n) i <;> rfl)
theorem paS_0 (f : Nat → Int64) : ∀ n, paS f 0 n = 0
  | 0 => rfl
  | n + 1 => by rw [paS, paS_0 f n, b_0, if_neg Bool.false_ne_true, lOr0]
theorem bits_is (x : Int64) : ∀ n, ∃ m, m ≤ n ∧ bitsN x n = nI m
  | 0 => ⟨0, Nat.le_refl _, rfl⟩
  | n + 1 => by
    obtain ⟨m, h1, h2⟩ := bits_is x n
    rw [bitsN, h2]
    cases bl x n
    · exact ⟨m, by omega, by simp [bI]⟩
    · exact ⟨m + 1, by omega, nI_1 m⟩
theorem tm_is {kd ot : Nat → Int32} {x : Int32} : ∀ {n : Nat}, (∀ t, t < n → ∃ m, 1 ≤ m ∧ m ≤ 1000 ∧ ot t = nI m) → ∃ m, m ≤ 3000 * n ∧ tmS kd ot x n = nI m
  | 0, _ => ⟨0, by omega, rfl⟩
  | n + 1, h => by
    obtain ⟨a, h1, h2⟩ := tm_is (kd := kd) (x := x) (n := n) (fun t ht => h t (by omega))
    obtain ⟨m, m1, m2, m3⟩ := h n (by omega)
    rw [tmS, h2]
    cases bt x n
    · exact ⟨a, by omega, by simp⟩
    · rw [if_pos rfl, cTm, m3]
      by_cases c : kd n = 1
      · rw [if_pos c, show (3 : Int32) * nI m = nI (3 * m) from pk_mul 3 m, nI_add]; exact ⟨a + 3 * m, by omega, rfl⟩
      · rw [if_neg c, nI_add]; exact ⟨a + m, by omega, rfl⟩
theorem ht_is (ve : Nat → Int32) (B t : Nat) : ∃ m, m ≤ 255 ∧ htM ve B t 8 = nI m := by
  have h : htM ve B t 8 &&& 255 = htM ve B t 8 := by
    apply b_ext
    intro i hi
    rw [b_and, ht_bit ve B t 8 (Nat.le_refl 8) i hi]
    have e : bt 255 i = decide (i < 8) := (by decide +kernel : ∀ i, i < 32 → bt 255 i = decide (i < 8)) i hi
    rw [e]
    cases decide (i < 8) <;> simp
  obtain ⟨j, h1, h2⟩ := pk_andE (htM ve B t 8) (m := 255) 8 rfl
  exact ⟨j, by omega, by rw [← h]; exact h2⟩
theorem i2l2i (x : Int32) : x.toInt64.toInt32 = x := b_ext fun i hi => by rw [l2i_bit _ hi, i2l_bit _ (by omega), if_pos hi]
theorem and4 (a c p : Int64) : a &&& p &&& (c ^^^ (-1)) = a &&& (p &&& (c ^^^ (-1))) := by
  apply l_ext
  intro i hi
  rw [l_and, l_and, l_and, l_and, Bool.and_assoc]
theorem pkR_agree {x : Int32} {pk pk' : Nat → Int32} {k : Nat} (h : ∀ i, i < k → pk i = pk' i) : ∀ n i, i < (pkR x pk k n).2 → (pkR x pk k n).1 i = (pkR x pk' k n).1 i
  | 0, i, hi => h i hi
  | n + 1, i, hi => by
    have e2 : (pkR x pk k n).2 = (pkR x pk' k n).2 := by rw [pkR_2, pkR_2]
    have ih := pkR_agree (x := x) h n
    rw [pkR] at hi ⊢
    rw [pkR]
    cases hx : bt x n
    · rw [hx, if_neg Bool.false_ne_true] at hi
      rw [if_neg Bool.false_ne_true, if_neg Bool.false_ne_true]
      exact ih i hi
    · rw [hx, if_pos rfl] at hi
      rw [if_pos rfl, if_pos rfl]
      show upd (pkR x pk k n).1 (pkR x pk k n).2 (nI n) i = upd (pkR x pk' k n).1 (pkR x pk' k n).2 (nI n) i
      have hi2 : i < (pkR x pk k n).2 + 1 := hi
      rw [← e2]
      by_cases e : i = (pkR x pk k n).2
      · rw [e, pk_us, pk_us]
      · rw [pk_un e, pk_un e]; exact ih i (by omega)
theorem pkR_mem {x : Int32} {pk : Nat → Int32} {k T : Nat} (h : ∀ i, i < k → ∃ u, u < T ∧ pk i = nI u) : ∀ n, n ≤ T → ∀ i, i < (pkR x pk k n).2 → ∃ u, u < T ∧ (pkR x pk k n).1 i = nI u
  | 0, _, i, hi => h i hi
  | n + 1, hn, i, hi => by
    have ih := pkR_mem (x := x) h n (by omega)
    rw [pkR] at hi ⊢
    cases hx : bt x n
    · rw [hx, if_neg Bool.false_ne_true] at hi
      rw [if_neg Bool.false_ne_true]
      exact ih i hi
    · rw [hx, if_pos rfl] at hi
      rw [if_pos rfl]
      have hi2 : i < (pkR x pk k n).2 + 1 := hi
      show ∃ u, u < T ∧ upd (pkR x pk k n).1 (pkR x pk k n).2 (nI n) i = nI u
      by_cases e : i = (pkR x pk k n).2
      · exact ⟨n, by omega, by rw [e, pk_us]⟩
      · rw [pk_un e]; exact ih i (by omega)
theorem tk_eq {ts : TS} {x : Int32} {ps : PS} : ∀ n, (∀ i, i < n → bt x i = true → (pkR x (pRow ps) (pN ps) i).2 < 20) → tkS ts x ps n = ((pkR x (pRow ps) (pN ps) n).1, (pkR x (pRow ps) (pN ps) n).2, pBits ps ||| orI (fun t => bt x t) n, pSpan ps + tmS (tKd ts) (tOt ts) x n, pSeen ps ||| paS (tPa ts) x n, pChg ps, pTh ps)
  | 0, _ => by
    show ps = (pRow ps, pN ps, pBits ps ||| 0, pSpan ps + 0, pSeen ps ||| 0, pChg ps, pTh ps)
    rw [or0, lOr0, Int32.add_zero]
  | n + 1, h => by
    have ih := tk_eq (ts := ts) (ps := ps) n (fun i hi => h i (by omega))
    rw [tkS, ih, pkR, orI, tmS, paS]
    cases hx : bt x n
    · simp only [if_neg Bool.false_ne_true, or0, lOr0, Int32.add_zero]
    · have hc : (pkR x (pRow ps) (pN ps) n).2 < 20 := h n (by omega) hx
      simp only [if_pos]
      rw [takeP, if_pos hc]
      simp only [Prod.mk.injEq, true_and, and_true]
      refine ⟨by rw [orA], by rw [Int32.add_assoc], ?_⟩
      apply l_ext
      intro i _
      rw [l_or, l_or, l_or, l_or, Bool.or_assoc]
theorem orI_self {x : Int32} {n : Nat} (hn : n ≤ 32) (h : ∀ i, n ≤ i → bt x i = false) : orI (fun t => bt x t) n = x := by
  apply b_ext
  intro i hi
  rw [orI_bit _ n hn i hi]
  by_cases q : i < n
  · rw [decide_eq_true q]; rfl
  · rw [decide_eq_false q, h i (by omega)]; rfl
/-- the two picks side by side, in the middle of their rounds -/
def PR (s : CS) (g : GS) (tm : Int32) (p : PS) (m : Int32 × (Nat → Int32) × Nat × Int32) : Prop :=
  pBits p = m.2.2.2 ∧ pN p = m.2.2.1 ∧ m.2.2.1 = cN m.2.2.2 (gT g) ∧ m.1 = tm - pSpan p ∧ (∀ i, i < pN p → pRow p i = m.2.1 i ∧ ∃ u, u < gT g ∧ pRow p i = nI u) ∧ pSeen p = gRS g m.2.2.2 ∧ pChg p = gCg g (gB g - 1) ∧ pTh p = 1 ∧ (∀ i, gT g ≤ i → bt m.2.2.2 i = false)
section RELH
variable {s : CS} {g : GS}
theorem Rel.bar (h : Rel s g) {u : Nat} (hu : u < gT g) : bt (cBar s.2.1) u = (decide (gKd g u = 3) || !decide (gMs g u = 0)) := by
  have h20 := h.T20
  rw [cBar, orI_bit _ _ (by rw [h.T]; omega) u (by omega), h.T, decide_eq_true hu, (h.fact (show u < 20 by omega)).1, h.tn (show u < 20 by omega), Bool.true_and]
theorem Rel.may (h : Rel s g) {t : Nat} (ht : t < gT g) : bt (cPk s.2.1) t = gMb g t := by
  have h20 := h.T20
  rw [cPk, orI_bit _ _ (by rw [h.T]; omega) t (by omega), h.T, decide_eq_true ht, h.ch ht, Bool.true_and]
  have := mb_iff (kd := gKd g) (ms := gMs g) h.2.1.2.2.2.2.1 h20 (fun u hu => h.bar hu) 21 t ht
  cases e : gMb g t
  · exact decide_eq_false (fun y => Bool.noConfusion (e.symm.trans (this.mp y)))
  · exact decide_eq_true (this.mpr e)
theorem Rel.tms (h : Rel s g) (x : Int32) : tmS (tKd s.2.1) (tOt s.2.1) x (tT s.2.1) = gTS g x := by
  have h20 := h.T20
  rw [h.T]
  exact tmS_congr (fun t ht => h.ctm (by omega))
theorem Rel.pas (h : Rel s g) (x : Int32) : paS (tPa s.2.1) x (tT s.2.1) = gRS g x := by
  have h20 := h.T20
  rw [h.T]
  exact paS_congr (fun t ht => h.pa (by omega))
theorem Rel.tmb (h : Rel s g) (x : Int32) : ∃ m, m ≤ 60000 ∧ gTS g x = nI m := by
  have h20 := h.T20
  obtain ⟨m, h1, h2⟩ := tm_is (kd := gKd g) (ot := gTi g) (x := x) (n := gT g) h.2.1.2.2.2.2.2
  exact ⟨m, by omega, h2⟩
/-- gain and chosen gain stay small -/
theorem wr_eq (h : Rel s g) (h0 : ¬ gB g = 0) {tm : Int32} {p : PS} {m : Int32 × (Nat → Int32) × Nat × Int32} (hp : PR s g tm p m) : ∀ n, n ≤ gT g → wrS s.2.1 s.2.2.1 p (cPk s.2.1 &&& (pBits p ^^^ (-1))) (tm - pSpan p) n = wrM g m.2.2.2 (gOp g m.2.2.2) m.1 n ∧ ∃ a, a ≤ 20000 ∧ (wrM g m.2.2.2 (gOp g m.2.2.2) m.1 n).2.1 = lN a
  | 0, _ => ⟨rfl, 0, by omega, rfl⟩
  | n + 1, hn => by
    obtain ⟨ih, a, ha1, ha2⟩ := wr_eq h h0 hp n (by omega)
    obtain ⟨r1, r2, r3, r4, r5, r6, r7, r8, r9⟩ := hp
    have h20 := h.T20
    have hn2 : n < gT g := by omega
    obtain ⟨hc, hc1, hc2⟩ := h.tmb (gCh g n &&& (m.2.2.2 ^^^ (-1)))
    obtain ⟨hh, hh1, hh2⟩ := ht_is (gVe g) (gB g) n
    obtain ⟨bb, bb1, bb2⟩ := bits_is (gRS g (gCh g n &&& (m.2.2.2 ^^^ (-1))) &&& gOp g m.2.2.2) 40
    have eg : (bitsN (gRS g (gCh g n &&& (m.2.2.2 ^^^ (-1))) &&& gOp g m.2.2.2) 40).toInt64 * (16 + htM (gVe g) (gB g) n 8).toInt64 = lN (bb * (16 + hh)) := by
      rw [bb2, hh2, show (16 : Int32) = nI 16 from rfl, nI_add, nI_l (by omega), nI_l (by omega), lN_mul]
    have hprod : bb * (16 + hh) ≤ 40 * 271 := Nat.mul_le_mul bb1 (by omega)
    have ecost : (gTS g (gCh g n &&& (m.2.2.2 ^^^ (-1)))).toInt64 = lN hc := by rw [hc2, nI_l (by omega)]
    have eb : bt (cPk s.2.1 &&& (pBits p ^^^ (-1))) n = (gMb g n && !bt m.2.2.2 n) := by rw [b_and, b_not _ (by omega), h.may hn2, r1]
    have epop : popL (paS (tPa s.2.1) (tCh s.2.1 n &&& (pBits p ^^^ (-1))) (tT s.2.1) &&& pChg p &&& (pSeen p ^^^ (-1))) = bitsN (gRS g (gCh g n &&& (m.2.2.2 ^^^ (-1))) &&& gOp g m.2.2.2) 40 := by
      rw [h.pas, h.ch hn2, r1, r6, r7, and4]
      exact pop40 (fun i hi => by rw [l_and, l_and, h.cg40 h0 i hi]; simp)
    rw [wrS, wrM, eb, ih, epop, h.tms, h.ch hn2, r1, h.heat (show n < 20 by omega), ← r4]
    cases e1 : gMb g n
    · rw [Bool.false_and, if_neg Bool.false_ne_true, if_pos rfl]; exact ⟨rfl, a, ha1, ha2⟩
    · cases e2 : bt m.2.2.2 n
      · rw [Bool.not_false, Bool.and_true, if_pos rfl, if_neg (by decide : ¬ (true = false)), if_neg Bool.false_ne_true, eg, ecost]
        by_cases c1 : lN (bb * (16 + hh)) ≤ 0
        · have hz : bb * (16 + hh) = 0 := by
            have := (pk_lLE (b := 0) (by omega) (by omega)).mp (show lN (bb * (16 + hh)) ≤ lN 0 from c1)
            omega
          rw [if_pos c1]
          refine ⟨?_, a, ha1, ha2⟩
          by_cases c2 : m.1.toInt64 < lN hc
          · rw [if_pos c2]
          · rw [if_neg c2, if_pos]
            rw [hz, ha2, lN_mul, show lN 0 = 0 from rfl, Int64.zero_mul]
            have hmm : a * hc ≤ 20000 * 60000 := Nat.mul_le_mul ha1 hc1
            exact (pk_lLE (a := 0) (by omega) (by omega)).mpr (Nat.zero_le _)
        · rw [if_neg c1]
          by_cases c2 : m.1.toInt64 < lN hc
          · rw [if_pos c2]; exact ⟨rfl, a, ha1, ha2⟩
          · rw [if_neg c2]
            by_cases c3 : lN (bb * (16 + hh)) * (wrM g m.2.2.2 (gOp g m.2.2.2) m.1 n).2.2 ≤ (wrM g m.2.2.2 (gOp g m.2.2.2) m.1 n).2.1 * lN hc
            · rw [if_pos c3]; exact ⟨rfl, a, ha1, ha2⟩
            · rw [if_neg c3]; exact ⟨rfl, bb * (16 + hh), by omega, rfl⟩
      · rw [Bool.not_true, Bool.and_false, if_neg Bool.false_ne_true, if_neg (by decide : ¬ (true = false)), if_pos rfl]; exact ⟨rfl, a, ha1, ha2⟩
theorem wrt_eq (h : Rel s g) (h0 : ¬ gB g = 0) {tm : Int32} {p : PS} {m : Int32 × (Nat → Int32) × Nat × Int32} (hp : PR s g tm p m) : wrS s.2.1 s.2.2.1 p (cPk s.2.1 &&& (pBits p ^^^ (-1))) (tm - pSpan p) (tT s.2.1) = wrN g m.2.2.2 m.1 := by
  rw [h.T]; exact (wr_eq h h0 hp _ (Nat.le_refl _)).1
theorem wrM_cost (g : GS) (ps : Int32) (op : Int64) (lf : Int32) : ∀ n w, n ≤ 20 → (wrM g ps op lf n).1 = nI w → w < 20 → (wrM g ps op lf n).2.2 = (gTS g (gCh g w &&& (ps ^^^ (-1)))).toInt64 := by
  intro n
  induction n with
  | zero => intro w _ h hw; exact absurd (show nI w < 0 by rw [← h]; show (-9 : Int32) < 0; decide) (nI_pos (by omega))
  | succ n ih =>
    intro w hn h hw
    unfold wrM at h ⊢
    split at h
    · rename_i c; rw [if_pos c]; exact ih w (by omega) h hw
    · rename_i c; rw [if_neg c]
      split at h
      · rename_i c; rw [if_pos c]; exact ih w (by omega) h hw
      · rename_i c; rw [if_neg c]
        split at h
        · rename_i c; rw [if_pos c]; exact ih w (by omega) h hw
        · rename_i c; rw [if_neg c]
          split at h
          · rename_i c; rw [if_pos c]; exact ih w (by omega) h hw
          · rename_i c; rw [if_neg c]
            split at h
            · rename_i c; rw [if_pos c]; exact ih w (by omega) h hw
            · rename_i c; rw [if_neg c]
              have e : n = w := (nI_eq (by omega) (by omega)).mp h
              subst e
              rfl
end RELH
