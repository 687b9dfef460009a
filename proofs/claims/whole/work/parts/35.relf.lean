/-! often, count, badWork, suspects, digest -/
theorem cnt_eq {x : Int64} {v : Nat → Int32} {d : Int32} : ∀ {n : Nat}, (∀ b, b < n → (bl x b = true ↔ v b = d)) → pcL x n = cnV v d n
  | 0, _ => rfl
  | n + 1, h => by
    have e := h n (by omega)
    rw [pcL, cnV, cnt_eq (n := n) (fun b hb => h b (by omega))]
    cases hx : bl x n
    · rw [if_neg (fun y => by rw [e.mpr y] at hx; cases hx)]; rfl
    · rw [if_pos (e.mp hx)]; rfl
theorem cn_sum {v : Nat → Int32} : ∀ {n : Nat}, (∀ b, b < n → v b = 1 ∨ v b = 0 ∨ v b = -9) → cnV v 1 n + cnV v 0 n + cnV v (-9) n = nI n
  | 0, _ => rfl
  | n + 1, h => by
    have ih := cn_sum (n := n) (fun b hb => h b (by omega))
    rw [cnV, cnV, cnV, nI_succ, ← ih]
    rcases h n (by omega) with e | e | e <;> rw [e] <;> simp <;> grind
theorem sumI_add (f f' : Nat → Int32) : ∀ n, sumI (fun t => f t + f' t) n = sumI f n + sumI f' n
  | 0 => rfl
  | n + 1 => by rw [sumI, sumI, sumI, sumI_add f f' n]; grind
theorem sumI_congr {f f' : Nat → Int32} : ∀ {n : Nat}, (∀ t, t < n → f t = f' t) → sumI f n = sumI f' n
  | 0, _ => rfl
  | n + 1, h => by rw [sumI, sumI, sumI_congr (n := n) (fun t ht => h t (by omega)), h n (by omega)]
theorem vcM_add (ve : Nat → Int32) (a : Nat) : ∀ m, vcM ve (a + m) = vcM ve a + sumI (fun t => if ve (a + t) < 0 then 0 else 1) m
  | 0 => by simp [sumI]
  | m + 1 => by
    show vcM ve (a + m) + _ = _
    rw [vcM_add ve a m, sumI]; grind
abbrev vA (hs : HS) (n : Nat) : Nat → Int32 := sumI (fun t => pcL (hFe hs t) n + pcL (hPs hs t) n)
theorem vAll_eq (hs : HS) : ∀ m, vAll hs m = vA hs 64 m
  | 0 => rfl
  | m + 1 => by rw [vAll, vAll_eq hs m]; rfl
theorem orL_congr {f f' : Nat → Int64} : ∀ {n : Nat}, (∀ t, t < n → f t = f' t) → orL f n = orL f' n
  | 0, _ => rfl
  | n + 1, h => by rw [orL, orL, orL_congr (n := n) (fun t ht => h t (by omega)), h n (by omega)]
theorem anyB_congr {f f' : Nat → Bool} : ∀ {n : Nat}, (∀ t, t < n → f t = f' t) → anyB f n = anyB f' n
  | 0, _ => rfl
  | n + 1, h => by rw [anyB, anyB, anyB_congr (n := n) (fun t ht => h t (by omega)), h n (by omega)]
theorem dgF_congr {f f' : Nat → Int32} {x : Int64} : ∀ {n : Nat}, (∀ t, t < n → f t = f' t) → dgF f x n = dgF f' x n
  | 0, _ => rfl
  | n + 1, h => by rw [dgF, dgF, dgF_congr (n := n) (fun t ht => h t (by omega)), h n (by omega)]
theorem and3 (a c p : Int64) : a &&& (c ^^^ (-1)) &&& p = p &&& a &&& (c ^^^ (-1)) := by
  apply l_ext
  intro i hi
  rw [l_and, l_and, l_and, l_and]
  cases bl a i <;> cases bl (c ^^^ (-1)) i <;> cases bl p i <;> rfl
section RELF
variable {s : CS} {g : GS}
theorem Rel.pcFe (h : Rel s g) {t n : Nat} (ht : t < 20) (hn : gB g ≤ n) : pcL (hFe s.2.2.1 t) n = pcL (hFe s.2.2.1 t) (gB g) := pcL_stop (fun i hi => (h.2.2.2.1.2.2.2.2.2.2 t i ht (by rw [h.B]; exact hi)).1) hn
theorem Rel.pcPs (h : Rel s g) {t n : Nat} (ht : t < 20) (hn : gB g ≤ n) : pcL (hPs s.2.2.1 t) n = pcL (hPs s.2.2.1 t) (gB g) := pcL_stop (fun i hi => (h.2.2.2.1.2.2.2.2.2.2 t i ht (by rw [h.B]; exact hi)).2) hn
theorem Rel.three (h : Rel s g) {t b : Nat} (ht : t < 20) (hb : b < 60) : gV g t b = 1 ∨ gV g t b = 0 ∨ gV g t b = -9 := by
  show gVe g (20 * b + t) = 1 ∨ gVe g (20 * b + t) = 0 ∨ gVe g (20 * b + t) = -9
  rw [← h.v ht hb]
  unfold vIn
  cases bl (hFe s.2.2.1 t) b <;> cases bl (hPs s.2.2.1 t) b <;> simp
theorem st_often (h : Rel s g) (x w : Int32) : xOften x w s = gOften x w g := by
  unfold xOften gOften
  have h20 := h.T20
  have h60 := h.B60
  refine bie (by rw [h.T]) (fun _ => rfl) (fun c1 => ?_)
  obtain ⟨t, ht, rfl⟩ := inN_ex (by omega) (nofalse c1)
  have ht2 : t < 20 := by omega
  by_cases c2 : w < 0
  · rw [if_pos c2, if_pos (rgE.mpr (Or.inl c2))]
  by_cases c3 : w ≤ 2
  case neg => rw [if_neg c2, if_pos c3, if_pos (rgE.mpr (Or.inr (Int32.not_le.mp c3)))]
  rw [if_neg c2, if_neg (fun y => y c3), if_neg (fun y => (rgE.mp y).elim c2 (Int32.not_lt.mpr c3)), nI_clamp (by omega)]
  have e1 : popL (hFe s.2.2.1 t) = cnV (gV g t) 1 (gB g) := by rw [popL, h.pcFe ht2 (by omega)]; exact cnt_eq (fun b hb => h.one ht2 (by omega))
  have e0 : popL (hPs s.2.2.1 t) = cnV (gV g t) 0 (gB g) := by rw [popL, h.pcPs ht2 (by omega)]; exact cnt_eq (fun b hb => h.zero ht2 (by omega))
  rw [e1, e0, h.B]
  by_cases w0 : w = 0
  · rw [if_pos w0, if_pos w0]
  by_cases w1 : w = 1
  · rw [if_neg w0, if_neg w0, if_pos w1, if_pos w1]
  rw [if_neg w0, if_neg w0, if_neg w1, if_neg w1, ← cn_sum (v := gV g t) (n := gB g) (fun b hb => h.three ht2 (by omega))]
  grind
theorem Rel.row (h : Rel s g) {b : Nat} (hb : b < 60) : sumI (fun t => bI (bl (hFe s.2.2.1 t) b) + bI (bl (hPs s.2.2.1 t) b)) 20 = sumI (fun t => if gVe g (20 * b + t) < 0 then 0 else 1) 20 := by
  apply sumI_congr
  intro t ht
  have h1 := h.v ht hb
  have h2 := h.2.2.2.1.2.2.2.2.2.1 t b ht
  rw [← h1]
  unfold vIn
  revert h2
  cases bl (hFe s.2.2.1 t) b <;> cases bl (hPs s.2.2.1 t) b <;> decide
theorem Rel.vcount (h : Rel s g) : ∀ n, n ≤ gB g → vA s.2.2.1 n 20 = vcM (gVe g) (20 * n)
  | 0, _ => by show sumI (fun t => (0 : Int32) + 0) 20 = 0; decide
  | n + 1, hn => by
    have h60 := h.B60
    show sumI (fun t => (pcL (hFe s.2.2.1 t) n + bI (bl (hFe s.2.2.1 t) n)) + (pcL (hPs s.2.2.1 t) n + bI (bl (hPs s.2.2.1 t) n))) 20 = _
    rw [show 20 * (n + 1) = 20 * n + 20 by omega, vcM_add, ← h.vcount n (by omega), ← h.row (by omega), ← sumI_add]
    apply sumI_congr
    intro t _
    grind
theorem st_count (h : Rel s g) (w : Int32) : xCount w s = gCount w g := by
  unfold xCount gCount
  have h60 := h.B60
  refine bie Iff.rfl (fun _ => by rw [h.T]) (fun _ => bie Iff.rfl (fun _ => by rw [h.B]) (fun _ => bie Iff.rfl (fun _ => ?_) (fun _ => rfl)))
  rw [vAll_eq, ← h.vcount (gB g) (Nat.le_refl _)]
  exact sumI_congr (fun t ht => by rw [h.pcFe ht (by omega), h.pcPs ht (by omega)])
theorem st_badWork (h : Rel s g) : xBadWork s = gBadWork g := by
  unfold xBadWork gBadWork
  have h20 := h.T20
  have h60 := h.B60
  refine bie (by rw [h.B]) (fun _ => rfl) (fun c => ?_)
  rw [h.T, anyB_congr (fun t ht => by rw [h.B, h.v (show t < 20 by omega) (show gB g - 1 < 60 by omega), h.fk (show t < 20 by omega)])]
theorem Rel.pcg (h : Rel s g) (h0 : ¬ gB g = 0) : pcg (hCg s.2.2.1) (hB s.2.2.1) = gCg g (gB g - 1) := by
  have h60 := h.B60
  rw [_root_.Jvm.Pilot.@@N@@.pcg, h.B, if_neg h0, h.cg (by omega)]
theorem Rel.cg40 (h : Rel s g) (h0 : ¬ gB g = 0) : ∀ i, 40 ≤ i → bl (gCg g (gB g - 1)) i = false := by
  have h60 := h.B60
  intro i hi
  rw [← h.cg (show gB g - 1 < 60 by omega)]
  exact h.2.2.2.1.2.2.2.1 _ i (by omega) hi
theorem Rel.sus (h : Rel s g) (h0 : ¬ gB g = 0) : sus s.2.1 s.2.2.1 = gSus g := by
  have h20 := h.T20
  have h60 := h.B60
  show sAc s.2.1 s.2.2.1 (tT s.2.1) &&& (sCl s.2.1 s.2.2.1 (tT s.2.1) ^^^ (-1)) &&& _ = _
  rw [h.pcg h0, and3, h.T]
  have e1 : sAc s.2.1 s.2.2.1 (gT g) = gAc g (gT g) := orL_congr (fun t ht => by rw [h.B, h.v (show t < 20 by omega) (show gB g - 1 < 60 by omega), h.fk (show t < 20 by omega), h.pa (show t < 20 by omega)])
  have e2 : sCl s.2.1 s.2.2.1 (gT g) = gCl g (gT g) := orL_congr (fun t ht => by rw [h.B, h.v (show t < 20 by omega) (show gB g - 1 < 60 by omega), h.pa (show t < 20 by omega)])
  rw [e1, e2]
theorem st_suspects (h : Rel s g) : Sim (xSuspects s) (gSuspects g) := by
  unfold xSuspects gSuspects
  refine bis (by rw [h.B]) (fun _ => ⟨rfl, h⟩) (fun c => ?_)
  rw [h.sus c]
  refine ⟨pop40 (fun i hi => ?_), ⟨h.1.1, h.1.2.1, rfl⟩, h.2.1, h.2.2.1, h.2.2.2.1, h.2.2.2.2.1, h.2.2.2.2.2⟩
  show bl (gCg g (gB g - 1) &&& gAc g (gT g) &&& _) i = false
  rw [l_and, l_and, h.cg40 c i hi]; rfl
theorem Rel.dgT (h : Rel s g) {t : Nat} (ht : t < gT g) (x : Int64) : dgT s.2.1 s.2.2.1 x t = dgU g x t := by
  have h20 := h.T20
  have ht2 : t < 20 := by omega
  unfold _root_.Jvm.Pilot.@@N@@.dgT dgU
  rw [h.tn ht2, dgF_congr (f := fun w => cTl s.2.1 s.2.2.1 t (nI w)) (f' := fun w => gTl g t (nI w)) (fun w _ => h.tl ht (nI w))]
  by_cases c : gMs g t = 0
  · rw [if_pos c, if_pos c]
    refine dgF_congr (fun i hi => ?_)
    rw [h.pa ht2, gRe, raM, if_pos c, byB_eq h.by ht2 hi]
  · rw [if_neg c, if_neg c]
theorem Rel.dgA (h : Rel s g) : ∀ n, n ≤ gT g → dgA s.2.1 s.2.2.1 n = dgX g n
  | 0, _ => rfl
  | n + 1, hn => by rw [_root_.Jvm.Pilot.@@N@@.dgA, dgX, h.dgA n (by omega), h.dgT (by omega)]
theorem st_digest (h : Rel s g) : xDigest s = gDigest g := by
  have h20 := h.T20
  have h60 := h.B60
  unfold xDigest gDigest
  rw [h.T, h.B, h.dgA _ (Nat.le_refl _)]
  have : ∀ n, n ≤ gB g → dgB (hCg s.2.2.1) (vIn (hFe s.2.2.1) (hPs s.2.2.1)) (gT g) (dgX g (gT g)) n = dgB (gCg g) (fun t b => gVe g (20 * b + t)) (gT g) (dgX g (gT g)) n := by
    intro n
    induction n with
    | zero => intro _; rfl
    | succ n ih =>
      intro hn
      rw [dgB, dgB, ih (by omega), h.cg (by omega), dgF_congr (fun t ht => h.v (by omega) (by omega))]
  exact this _ (Nat.le_refl _)
end RELF
