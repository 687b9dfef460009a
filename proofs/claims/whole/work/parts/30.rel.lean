/-! the class and the reference side by side -/
def RTs (ts : TS) (g : GS) : Prop := tT ts = gT g ∧ gT g ≤ 20 ∧ (∀ t, t < 20 → tKd ts t = gKd g t ∧ tOt ts t = gTi g t ∧ tNd ts t = gNd g t) ∧ (∀ t, t < gT g → tCh ts t = gCh g t) ∧ WN (gNd g) (gT g) ∧ (∀ t, t < gT g → ∃ m, 1 ≤ m ∧ m ≤ 1000 ∧ gTi g t = nI m)
def RRe (ts : TS) (g : GS) : Prop := (∀ t, t < 20 → tTn ts t = gMs g t ∧ tPa ts t = gRe g t) ∧ ∀ p, p < 100 → ∃ b, b < 256 ∧ gBy g p = nI b
def RHi (hs : HS) (g : GS) : Prop := hB hs = gB g ∧ gB g ≤ 60 ∧ (∀ b, b < 60 → hCg hs b = gCg g b) ∧ (∀ b i, b < 60 → 40 ≤ i → bl (hCg hs b) i = false) ∧ (∀ t b, t < 20 → b < 60 → vIn (hFe hs) (hPs hs) t b = gVe g (20 * b + t)) ∧ (∀ t b, t < 20 → bl (hFe hs t) b = true → bl (hPs hs t) b = false) ∧ (∀ t b, t < 20 → hB hs ≤ b → bl (hFe hs t) b = false ∧ bl (hPs hs t) b = false)
def RPl (ps : PS) (g : GS) : Prop := pN ps ≤ 20 ∧ (pTh ps = 0 → gPm g = -9 ∧ pN ps = 0) ∧ (¬ pTh ps = 0 → gPm g = nI (pN ps) ∧ (∀ i, i < pN ps → pRow ps i = gPk g i ∧ ∃ u, u < gT g ∧ pRow ps i = nI u) ∧ pBits ps = gPs g ∧ pSpan ps = gPt g ∧ popL (pSeen ps &&& pChg ps) = gPp g ∧ 0 < gB g)
def RMa (ms : MS) (g : GS) : Prop := (∀ k, k < 5 → mFc ms k = gFs g k) ∧ mLf ms = gFi g ∧ mLa ms = gAs g
def RSe (ss : SS) : Prop := sBf ss 12 = 0 ∧ sCf ss 12 = 0 ∧ sTf ss 12 = 0 ∧ sVf ss 12 = 0
def Rel (s : CS) (g : GS) : Prop := RMa s.1 g ∧ RTs s.2.1 g ∧ RRe s.2.1 g ∧ RHi s.2.2.1 g ∧ RPl s.2.2.2.1 g ∧ RSe s.2.2.2.2
def Sim (a : Int32 × CS) (b : Int32 × GS) : Prop := a.1 = b.1 ∧ Rel a.2 b.2
theorem bis {P Q : Prop} [Decidable P] [Decidable Q] {a b : Int32 × CS} {a' b' : Int32 × GS} (e : P ↔ Q) (h1 : Q → Sim a a') (h2 : ¬ Q → Sim b b') : Sim (if P then a else b) (if Q then a' else b') := by
  by_cases h : Q
  · rw [if_pos h, if_pos (e.mpr h)]; exact h1 h
  · rw [if_neg h, if_neg (fun z => h (e.mp z))]; exact h2 h
theorem bie {P Q : Prop} [Decidable P] [Decidable Q] {a b a' b' : Int32} (e : P ↔ Q) (h1 : Q → a = a') (h2 : ¬ Q → b = b') : (if P then a else b) = (if Q then a' else b') := by
  by_cases h : Q
  · rw [if_pos h, if_pos (e.mpr h)]; exact h1 h
  · rw [if_neg h, if_neg (fun z => h (e.mp z))]; exact h2 h
section REL
variable {s : CS} {g : GS}
theorem Rel.T (h : Rel s g) : tT s.2.1 = gT g := h.2.1.1
theorem Rel.T20 (h : Rel s g) : gT g ≤ 20 := h.2.1.2.1
theorem Rel.B (h : Rel s g) : hB s.2.2.1 = gB g := h.2.2.2.1.1
theorem Rel.B60 (h : Rel s g) : gB g ≤ 60 := h.2.2.2.1.2.1
theorem Rel.fact (h : Rel s g) {t : Nat} (ht : t < 20) : tKd s.2.1 t = gKd g t ∧ tOt s.2.1 t = gTi g t ∧ tNd s.2.1 t = gNd g t := h.2.1.2.2.1 t ht
theorem Rel.ch (h : Rel s g) {t : Nat} (ht : t < gT g) : tCh s.2.1 t = gCh g t := h.2.1.2.2.2.1 t ht
theorem Rel.tn (h : Rel s g) {t : Nat} (ht : t < 20) : tTn s.2.1 t = gMs g t := (h.2.2.1.1 t ht).1
theorem Rel.pa (h : Rel s g) {t : Nat} (ht : t < 20) : tPa s.2.1 t = gRe g t := (h.2.2.1.1 t ht).2
theorem Rel.v (h : Rel s g) {t b : Nat} (ht : t < 20) (hb : b < 60) : vIn (hFe s.2.2.1) (hPs s.2.2.1) t b = gVe g (20 * b + t) := h.2.2.2.1.2.2.2.2.1 t b ht hb
theorem Rel.cg (h : Rel s g) {b : Nat} (hb : b < 60) : hCg s.2.2.1 b = gCg g b := h.2.2.2.1.2.2.1 b hb
theorem nofalse {b : Bool} (h : ¬ b = false) : b = true := by cases b <;> simp_all
theorem ref_rel (h : Rel s g) (k : Nat) : Rel (refM s.1 k, s.2.1, s.2.2.1, s.2.2.2.1, s.2.2.2.2) (metG g k) := by
  refine ⟨⟨fun j hj => ?_, rfl, h.1.2.2⟩, h.2.1, h.2.2.1, h.2.2.2.1, h.2.2.2.2.1, h.2.2.2.2.2⟩
  show upd (mFc s.1) k (mFc s.1 k + 1) j = upd (gFs g) k (gFs g k + 1) j
  unfold upd
  by_cases hjk : j = k
  · subst hjk; rw [if_pos rfl, if_pos rfl, h.1.1 j hj]
  · rw [if_neg hjk, if_neg hjk, h.1.1 j hj]
theorem sim_ref (h : Rel s g) (k : Nat) : Sim (-3, (refM s.1 k, s.2.1, s.2.2.1, s.2.2.2.1, s.2.2.2.2)) (-3, metG g k) := ⟨rfl, ref_rel h k⟩
theorem st_finding (h : Rel s g) : mLf s.1 = gFi g := h.1.2.1
theorem st_asked (h : Rel s g) : mLa s.1 = gAs g := h.1.2.2
theorem rgE {x a b : Int32} : rg x a b = false ↔ (x < a ∨ b < x) := by
  unfold rg
  by_cases h1 : x < a <;> by_cases h2 : b < x <;> simp [h1, h2]
theorem st_findings (h : Rel s g) (f : Int32) : xFindings f s = gFindings f g := by
  unfold xFindings gFindings
  by_cases c1 : f < 1
  · rw [if_pos c1, if_pos (rgE.mpr (Or.inl c1))]
  · by_cases c2 : f ≤ 4
    · rw [if_neg c1, if_neg (fun y => y c2), if_neg (fun y => (rgE.mp y).elim c1 (Int32.not_lt.mpr c2))]
      obtain ⟨k, hk, rfl⟩ := fin_ix c1 c2
      rw [nI_clamp (by omega)]
      exact h.1.1 k hk
    · rw [if_neg c1, if_pos c2, if_pos (rgE.mpr (Or.inr (Int32.not_le.mp c2)))]
theorem tT_fb (h : Rel s g) (x : Int32) : inN x (tT s.2.1) = inN x (gT g) := by rw [h.T]
theorem st_turn (h : Rel s g) (x k : Int32) : Sim (xTurn x k s) (gTurn x k g) := by
  unfold xTurn gTurn
  refine bis (by rw [h.T]) (fun _ => ⟨rfl, h⟩) (fun c1 => ?_)
  refine bis Iff.rfl (fun _ => ⟨rfl, h⟩) (fun c2 => ?_)
  refine bis Iff.rfl (fun _ => ⟨rfl, h⟩) (fun c3 => ?_)
  have h20 := h.T20
  obtain ⟨t, ht, rfl⟩ := inN_ex (by omega) (nofalse c1)
  rw [nI_clamp (by omega), (h.fact (show t < 20 by omega)).1]
  refine bis Iff.rfl (fun _ => sim_ref h 3) (fun c4 => ⟨rfl, h.1, ⟨h.T, h20, fun u hu => ?_, h.2.1.2.2.2.1, h.2.1.2.2.2.2.1, h.2.1.2.2.2.2.2⟩, h.2.2.1, h.2.2.2.1, h.2.2.2.2.1, h.2.2.2.2.2⟩)
  refine ⟨?_, (h.fact hu).2⟩
  show upd (tKd s.2.1) t k u = upd (gKd g) t k u
  unfold upd
  by_cases hut : u = t
  · rw [if_pos hut, if_pos hut]
  · rw [if_neg hut, if_neg hut, (h.fact hu).1]
theorem st_time (h : Rel s g) (x k : Int32) : Sim (xTime x k s) (gTime x k g) := by
  unfold xTime gTime
  refine bis (by rw [h.T]) (fun _ => ⟨rfl, h⟩) (fun c1 => ?_)
  refine bis Iff.rfl (fun _ => ⟨rfl, h⟩) (fun c2 => ?_)
  have h20 := h.T20
  obtain ⟨t, ht, rfl⟩ := inN_ex (by omega) (nofalse c1)
  rw [nI_clamp (by omega), (h.fact (show t < 20 by omega)).1, (h.fact (show t < 20 by omega)).2.1]
  exact bis Iff.rfl (fun _ => sim_ref h 3) (fun _ => ⟨rfl, h⟩)
theorem st_change (h : Rel s g) (b : Int32) : Sim (xChange b s) (gChange b g) := by
  unfold xChange gChange
  refine bis (by rw [h.B]) (fun _ => ⟨rfl, h⟩) (fun c1 => ?_)
  have h60 := h.B60
  obtain ⟨t, ht, rfl⟩ := inN_ex (by omega) (nofalse c1)
  rw [nI_clamp (by omega)]
  exact ⟨rfl, ⟨h.1.1, h.1.2.1, h.cg (by omega)⟩, h.2.1, h.2.2.1, h.2.2.2.1, h.2.2.2.2.1, h.2.2.2.2.2⟩
theorem st_was (h : Rel s g) (x b : Int32) : xWas x b s = gWas x b g := by
  unfold xWas gWas
  refine bie (by rw [h.T]) (fun _ => rfl) (fun c1 => bie (by rw [h.B]) (fun _ => rfl) (fun c2 => ?_))
  have h20 := h.T20
  have h60 := h.B60
  obtain ⟨t, ht, rfl⟩ := inN_ex (by omega) (nofalse c1)
  obtain ⟨u, hu, rfl⟩ := inN_ex (by omega) (nofalse c2)
  rw [nI_clamp (by omega), nI_clamp (by omega)]
  exact h.v (by omega) (by omega)
theorem st_about (h : Rel s g) (w : Int32) : xAbout w s = gAbout w g := by
  unfold xAbout gAbout
  by_cases c1 : w < 0
  · rw [if_pos c1, if_pos (rgE.mpr (Or.inl c1))]
  · by_cases c2 : w ≤ 2
    · rw [if_neg c1, if_neg (fun y => y c2), if_neg (fun y => (rgE.mp y).elim c1 (Int32.not_lt.mpr c2))]
      by_cases c3 : pTh s.2.2.2.1 = 0
      · rw [if_pos c3, if_pos (by rw [(h.2.2.2.2.1.2.1 c3).1]; decide)]
      · obtain ⟨q1, q2, q3, q4, q5, q6⟩ := h.2.2.2.2.1.2.2 c3
        have q0 := h.2.2.2.2.1.1
        rw [if_neg c3, q3, q4, q5, if_neg (show ¬ ¬ 0 ≤ gPm g from fun y => y (by rw [q1]; exact nI_pos' (by omega)))]
    · rw [if_neg c1, if_pos c2, if_pos (rgE.mpr (Or.inr (Int32.not_le.mp c2)))]
theorem st_picked (h : Rel s g) (i : Int32) : xPicked i s = gPicked i g := by
  unfold xPicked gPicked
  have q0 := h.2.2.2.2.1.1
  by_cases c3 : pTh s.2.2.2.1 = 0
  · rw [if_pos c3, (h.2.2.2.2.1.2.1 c3).1]
    by_cases c1 : i < 0
    · rw [if_pos (rgE.mpr (Or.inl c1))]
    · rw [if_pos (rgE.mpr (Or.inr ?_))]
      obtain ⟨j, hj, rfl⟩ := nI_of c1
      rw [Int32.lt_iff_toInt_lt, nI_toInt hj]
      show (-10 : Int) < _
      omega
  · obtain ⟨q1, q2, -⟩ := h.2.2.2.2.1.2.2 c3
    rw [if_neg c3, q1, rg_inN (by omega)]
    by_cases c1 : i < 0
    · rw [if_pos c1, if_pos (by simp [inN, c1])]
    · by_cases c2 : i < nI (pN s.2.2.2.1)
      · obtain ⟨j, hj, rfl⟩ := ix_ex (N := pN s.2.2.2.1) (by omega) c1 (Int32.not_le.mpr c2)
        rw [if_neg c1, if_neg (fun y => y c2), if_neg (by rw [inN_nI (by omega) hj]; decide), nI_clamp (by omega), (q2 j hj).1]
      · rw [if_neg c1, if_pos c2, if_pos (by simp [inN, Int32.not_lt.mp c2])]
theorem st_tear (h : Rel s g) (x : Int32) : Sim (xTear x s) (gTear x g) := by
  unfold xTear gTear
  refine bis (by rw [h.T]) (fun _ => ⟨rfl, h⟩) (fun c1 => ?_)
  have h20 := h.T20
  obtain ⟨t, ht, rfl⟩ := inN_ex (by omega) (nofalse c1)
  rw [nI_clamp (by omega), h.tn (show t < 20 by omega)]
  refine bis Iff.rfl (fun _ => sim_ref h 1) (fun c4 => ⟨rfl, h.1, h.2.1, ⟨fun u hu => ?_, h.2.2.1.2⟩, h.2.2.2.1, h.2.2.2.2.1, h.2.2.2.2.2⟩)
  by_cases hut : u = t
  · subst hut
    refine ⟨by show upd _ u 1 u = upd _ u 1 u; simp [upd], ?_⟩
    show vp_updL (tPa s.2.1) u 0 u = raM (upd (gMs g) u 1) (gBy g) u
    rw [pk_uLs, raM, pk_us, if_neg (by decide)]
  · refine ⟨by show upd _ t 1 u = upd _ t 1 u; rw [pk_un hut, pk_un hut, h.tn hu], ?_⟩
    show vp_updL (tPa s.2.1) t 0 u = raM (upd (gMs g) t 1) (gBy g) u
    rw [pk_uLn hut, raM, pk_un hut, h.pa hu]; rfl
end REL
