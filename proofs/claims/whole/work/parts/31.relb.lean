/-! chains over a new test; builds and verdicts -/
theorem chM_neg {nd : Nat → Int32} {f : Nat} {y : Int32} (h : y < 0) : chM nd (f + 1) y = 0 := if_pos h
theorem chM_fuel {nd : Nat → Int32} {T : Nat} (hN : WN nd T) (hT : T ≤ 20) : ∀ (f u : Nat), u < T → u + 1 < f → chM nd f (nI u) = chM nd (f + 1) (nI u)
  | 0, u, _, h => by omega
  | f + 1, u, hu, h => by
    rw [chM_pos (by omega), chM_pos (by omega)]
    rcases hN u hu with q | ⟨v, h1, h2⟩
    · obtain ⟨f', rfl⟩ : ∃ f', f = f' + 1 := ⟨f - 1, by omega⟩
      rw [chM_neg q, chM_neg q]
    · rw [h2, chM_fuel hN hT f v (by omega) (by omega)]
theorem chM_congr {nd nd' : Nat → Int32} {T : Nat} (hN : WN nd T) (hT : T ≤ 20) (he : ∀ t, t < T → nd' t = nd t) : ∀ (f u : Nat), u < T → chM nd' f (nI u) = chM nd f (nI u)
  | 0, u, _ => rfl
  | f + 1, u, hu => by
    rw [chM_pos (by omega), chM_pos (by omega), he u hu]
    rcases hN u hu with q | ⟨v, h1, h2⟩
    · cases f with
      | zero => rfl
      | succ f => rw [chM_neg q, chM_neg q]
    · rw [h2, chM_congr hN hT he f v (by omega)]
theorem tm_ex {x : Int32} (h : ¬ x < 1) (h4 : x ≤ 1000) : ∃ m, 1 ≤ m ∧ m ≤ 1000 ∧ x = nI m := by
  have h0 : ¬ x < 0 := fun y => h (by rw [Int32.lt_iff_toInt_lt] at y ⊢; have : (0 : Int32).toInt = 0 := rfl; have : (1 : Int32).toInt = 1 := rfl; omega)
  obtain ⟨j, h1, rfl⟩ := nI_of2 (M := 1000) (n := 1000) rfl h0 h4
  refine ⟨j, ?_, h1, rfl⟩
  rcases Nat.eq_zero_or_pos j with q | q
  · subst q; exact absurd (show nI 0 < 1 by decide) h
  · exact q
section RELB
variable {s : CS} {g : GS}
theorem st_test (h : Rel s g) (k tm nd : Int32) : Sim (xTest k tm nd s) (gTest k tm nd g) := by
  unfold xTest gTest
  refine bis Iff.rfl (fun _ => ⟨rfl, h⟩) (fun c1 => ?_)
  have h20 := h.T20
  by_cases c2 : tm < 1
  · rw [if_pos c2, if_pos (rgE.mpr (Or.inl c2))]; exact ⟨rfl, h⟩
  by_cases c3 : tm ≤ 1000
  case neg => rw [if_neg c2, if_pos c3, if_pos (rgE.mpr (Or.inr (Int32.not_le.mp c3)))]; exact ⟨rfl, h⟩
  rw [if_neg c2, if_neg (fun y => y c3), if_neg (fun y => (rgE.mp y).elim c2 (Int32.not_lt.mpr c3))]
  refine bis (by rw [h.T]) (fun _ => ⟨rfl, h⟩) (fun c4 => ?_)
  refine bis (by rw [h.T]; omega) (fun _ => ⟨rfl, h⟩) (fun c5 => ?_)
  rw [h.T]
  have hlt : gT g < 20 := by omega
  refine ⟨rfl, h.1, ⟨by show tT s.2.1 + 1 = gT g + 1; rw [h.T], by show gT g + 1 ≤ 20; omega, fun u hu => ?_, fun u hu => ?_, fun u hu => ?_, fun u hu => ?_⟩, h.2.2.1, h.2.2.2.1, ?_, h.2.2.2.2.2⟩
  · show upd (tKd s.2.1) (tT s.2.1) k u = upd (gKd g) (gT g) k u ∧ upd (tOt s.2.1) (tT s.2.1) tm u = upd (gTi g) (gT g) tm u ∧ upd (tNd s.2.1) (tT s.2.1) _ u = upd (gNd g) (gT g) _ u
    rw [h.T]
    obtain ⟨a1, a2, a3⟩ := h.fact hu
    by_cases e : u = gT g
    · subst e; simp [pk_us]
    · rw [pk_un e, pk_un e, pk_un e, pk_un e, pk_un e, pk_un e]; exact ⟨a1, a2, a3⟩
  · show upd (tCh s.2.1) (tT s.2.1) _ u = chM (upd (gNd g) (gT g) (if k = 2 then nd else -9)) 21 (nI u)
    have hu2 : u < gT g + 1 := hu
    have hN := h.2.1.2.2.2.2.1
    have he : ∀ t, t < gT g → upd (gNd g) (gT g) (if k = 2 then nd else -9) t = gNd g t := fun t ht => pk_un (by omega)
    rw [h.T]
    by_cases e : u = gT g
    · subst e
      rw [pk_us, chM_pos (by omega), pk_us]
      by_cases e2 : k = 2
      · rw [if_pos e2, if_pos e2]
        have hin : inN nd (gT g) = true := nofalse (fun y => c4 ⟨e2, y⟩)
        obtain ⟨w, hw, rfl⟩ := inN_ex (by omega) hin
        rw [nI_clamp (by omega), h.ch hw, chM_congr hN h20 (fun t ht => pk_un (by omega)) 20 w hw, chM_fuel hN h20 20 w hw (by omega)]
      · rw [if_neg e2, if_neg e2, chM_neg (by decide)]
    · rw [pk_un e, h.ch (by omega), chM_congr hN h20 he 21 u (by omega)]
  · have hu2 : u < gT g + 1 := hu
    show upd (gNd g) (gT g) (if k = 2 then nd else -9) u < 0 ∨ ∃ w, w < u ∧ upd (gNd g) (gT g) (if k = 2 then nd else -9) u = nI w
    by_cases e : u = gT g
    · subst e
      rw [pk_us]
      by_cases e2 : k = 2
      · rw [if_pos e2]
        have hin : inN nd (gT g) = true := nofalse (fun y => c4 ⟨e2, y⟩)
        obtain ⟨w, hw, rfl⟩ := inN_ex (by omega) hin
        exact Or.inr ⟨w, hw, rfl⟩
      · rw [if_neg e2]; exact Or.inl (by decide)
    · rw [pk_un e]; exact h.2.1.2.2.2.2.1 u (by omega)
  · have hu2 : u < gT g + 1 := hu
    show ∃ m, 1 ≤ m ∧ m ≤ 1000 ∧ upd (gTi g) (gT g) tm u = nI m
    by_cases e : u = gT g
    · subst e; rw [pk_us]; exact tm_ex c2 c3
    · rw [pk_un e]; exact h.2.1.2.2.2.2.2 u (by omega)
  · obtain ⟨p1, p2, p3⟩ := h.2.2.2.2.1
    refine ⟨p1, p2, fun y => ?_⟩
    obtain ⟨q1, q2, q3⟩ := p3 y
    refine ⟨q1, fun i hi => ⟨(q2 i hi).1, ?_⟩, q3⟩
    obtain ⟨w, hw, e⟩ := (q2 i hi).2
    exact ⟨w, by show w < gT g + 1; omega, e⟩
theorem hi40_iff (x : Int64) : hi40 x = 0 ↔ ∀ i, 40 ≤ i → bl x i = false := by
  constructor
  · intro h i hi
    have := l_ushr 40 (by decide) x (i - 40)
    have e : ((x.toUInt64 >>> ((nI 40).toInt64.toUInt64 &&& Int64.toUInt64 63)).toInt64) = hi40 x := rfl
    rw [e, h, l_0, show 40 + (i - 40) = i by omega] at this
    exact this.symm
  · intro h
    apply l_ext
    intro i _
    have := l_ushr 40 (by decide) x i
    have e : ((x.toUInt64 >>> ((nI 40).toInt64.toUInt64 &&& Int64.toUInt64 63)).toInt64) = hi40 x := rfl
    rw [e] at this
    rw [this, l_0, h _ (by omega)]
theorem m40 : ∀ i, i < 64 → bl (-1099511627776) i = decide (40 ≤ i) := by decide +kernel
theorem and40_iff (x : Int64) : x &&& (-1099511627776) = 0 ↔ ∀ i, 40 ≤ i → bl x i = false := by
  constructor
  · intro h i hi
    rcases Nat.lt_or_ge i 64 with q | q
    · have e : bl (x &&& (-1099511627776)) i = false := by rw [h, l_0]
      rw [l_and, m40 i q, decide_eq_true hi, Bool.and_true] at e
      exact e
    · exact l_big q
  · intro h
    apply l_ext
    intro i hi
    rw [l_and, m40 i hi, l_0]
    by_cases q : 40 ≤ i
    · rw [h i q]; rfl
    · rw [decide_eq_false q, Bool.and_false]
theorem st_build (h : Rel s g) (x : Int64) : Sim (xBuild x s) (gBuild x g) := by
  unfold xBuild gBuild
  have h60 := h.B60
  refine bis (by rw [hi40_iff, and40_iff]) (fun _ => ⟨rfl, h⟩) (fun c1 => ?_)
  refine bis (by rw [h.B]; omega) (fun _ => ⟨rfl, h⟩) (fun c2 => ?_)
  have hx : ∀ i, 40 ≤ i → bl x i = false := (and40_iff x).mp (Classical.byContradiction c1)
  obtain ⟨r1, r2, r3, r4, r5, r6, r7⟩ := h.2.2.2.1
  refine ⟨by show nI (hB s.2.2.1) = nI (gB g); rw [h.B], h.1, h.2.1, h.2.2.1, ⟨by show hB s.2.2.1 + 1 = gB g + 1; rw [h.B], by show gB g + 1 ≤ 60; omega, fun b hb => ?_, fun b i hb hi => ?_, r5, r6, fun t b ht hb => r7 t b ht (by have : hB s.2.2.1 + 1 ≤ b := hb; omega)⟩, ⟨Nat.zero_le _, fun _ => ⟨rfl, rfl⟩, fun y => absurd rfl y⟩, h.2.2.2.2.2⟩
  · show vp_updL (hCg s.2.2.1) (hB s.2.2.1) x b = vp_updL (gCg g) (gB g) x b
    rw [h.B]
    by_cases e : b = gB g
    · subst e; rw [pk_uLs, pk_uLs]
    · rw [pk_uLn e, pk_uLn e]; exact r3 b hb
  · show bl (vp_updL (hCg s.2.2.1) (hB s.2.2.1) x b) i = false
    by_cases e : b = hB s.2.2.1
    · subst e; rw [pk_uLs]; exact hx i hi
    · rw [pk_uLn e]; exact r4 b i hb hi
theorem jud_rel {hs : HS} (h : RHi hs g) {t : Nat} (ht : t < 20) (h0 : 0 < gB g) (f : Bool) : RHi (judH hs t f) (judG g t f) := by
  obtain ⟨r1, r2, r3, r4, r5, r6, r7⟩ := h
  have hone : ∀ b, b < 60 → bl (oneL (hB hs - 1)) b = decide (b = gB g - 1) := fun b hb => by rw [r1]; exact l_one (by omega) (by omega)
  have hnot : ∀ b, b < 60 → bl (oneL (hB hs - 1) ^^^ (-1)) b = !decide (b = gB g - 1) := fun b hb => by rw [l_not _ (by omega), hone b hb]
  have hbig : ∀ b, hB hs ≤ b → bl (oneL (hB hs - 1)) b = false := fun b hb => by
    rcases Nat.lt_or_ge b 64 with q | q
    · rw [l_one (by omega) q]; exact decide_eq_false (by omega)
    · exact l_big q
  refine ⟨r1, r2, r3, r4, fun u b hu hb => ?_, fun u b hu => ?_, fun u b hu hb => ?_⟩
  · show vIn (vp_updL (hFe hs) t _) (vp_updL (hPs hs) t _) u b = upd (gVe g) (20 * (gB g - 1) + t) (bI f) (20 * b + u)
    have r := r5 u b hu hb
    by_cases e : u = t
    · subst e
      rw [vIn, pk_uLs, pk_uLs]
      by_cases e2 : b = gB g - 1
      · rw [show 20 * b + u = 20 * (gB g - 1) + u by rw [e2], pk_us]
        cases f
        · rw [if_neg Bool.false_ne_true, if_neg Bool.false_ne_true, l_and, hnot b hb, l_or, hone b hb, decide_eq_true e2]; simp [bI]
        · rw [if_pos rfl, if_pos rfl, l_or, hone b hb, l_and, hnot b hb, decide_eq_true e2]; simp [bI]
      · rw [pk_un (by omega), ← r, vIn]
        cases f
        · rw [if_neg Bool.false_ne_true, if_neg Bool.false_ne_true, l_and, hnot b hb, l_or, hone b hb, decide_eq_false e2]; simp
        · rw [if_pos rfl, if_pos rfl, l_or, hone b hb, l_and, hnot b hb, decide_eq_false e2]; simp
    · rw [vIn, pk_uLn e, pk_uLn e, pk_un (by omega), ← r, vIn]
  · intro hf
    have hf : bl (vp_updL (hFe hs) t (if f then hFe hs t ||| oneL (hB hs - 1) else hFe hs t &&& (oneL (hB hs - 1) ^^^ (-1))) u) b = true := hf
    show bl (vp_updL (hPs hs) t (if f then hPs hs t &&& (oneL (hB hs - 1) ^^^ (-1)) else hPs hs t ||| oneL (hB hs - 1)) u) b = false
    by_cases e : u = t
    · subst e
      rw [pk_uLs] at hf ⊢
      rcases Nat.lt_or_ge b 64 with q | q
      · have hn : bl (oneL (hB hs - 1) ^^^ (-1)) b = !bl (oneL (hB hs - 1)) b := l_not _ q
        cases f
        · rw [if_neg (by decide), l_and, hn] at hf
          rw [if_neg (by decide), l_or]
          have a := r6 u b hu
          revert hf a
          cases bl (hFe hs u) b <;> cases bl (oneL (hB hs - 1)) b <;> simp
        · rw [if_pos rfl, l_or] at hf
          rw [if_pos rfl, l_and, hn]
          have a := r6 u b hu
          revert hf a
          cases bl (hFe hs u) b <;> cases bl (oneL (hB hs - 1)) b <;> simp
      · exact l_big q
    · rw [pk_uLn e] at hf ⊢; exact r6 u b hu hf
  · show bl (vp_updL (hFe hs) t _ u) b = false ∧ bl (vp_updL (hPs hs) t _ u) b = false
    have hb2 : hB hs ≤ b := hb
    obtain ⟨a1, a2⟩ := r7 u b hu hb2
    by_cases e : u = t
    · subst e
      rw [pk_uLs, pk_uLs]
      cases f
      · simp [l_or, l_and, a1, a2, hbig b hb2]
      · simp [l_or, l_and, a1, a2, hbig b hb2]
    · rw [pk_uLn e, pk_uLn e]; exact ⟨a1, a2⟩
theorem st_verdict (h : Rel s g) (x : Int32) (f : Bool) : Sim (xVerdict x f s) (gVerdict x f g) := by
  unfold xVerdict gVerdict
  have h20 := h.T20
  have h60 := h.B60
  refine bis (by rw [h.T]) (fun _ => ⟨rfl, h⟩) (fun c1 => ?_)
  refine bis (by rw [h.B]) (fun _ => ⟨rfl, h⟩) (fun c2 => ?_)
  obtain ⟨t, ht, rfl⟩ := inN_ex (by omega) (nofalse c1)
  rw [nI_clamp (by omega)]
  refine ⟨?_, h.1, h.2.1, h.2.2.1, jud_rel h.2.2.2.1 (by omega) (by omega) f, h.2.2.2.2.1, h.2.2.2.2.2⟩
  show (if vIn (hFe s.2.2.1) (hPs s.2.2.1) t (hB s.2.2.1 - 1) = -9 then (0 : Int32) else 1) = bI (!decide (gVe g (20 * (gB g - 1) + t) < 0))
  rw [← h.v (show t < 20 by omega) (show gB g - 1 < 60 by omega), h.B]
  have q := vIn_neg (hFe s.2.2.1) (hPs s.2.2.1) t (gB g - 1)
  by_cases e : vIn (hFe s.2.2.1) (hPs s.2.2.1) t (gB g - 1) = -9
  · rw [if_pos e, decide_eq_true (q.mpr e)]; rfl
  · rw [if_neg e, decide_eq_false (fun y => e (q.mp y))]; rfl
end RELB
