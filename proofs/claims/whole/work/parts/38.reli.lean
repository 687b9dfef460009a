/-! pick, to its end -/
section RELI
variable {s : CS} {g : GS}
theorem pr_step (h : Rel s g) {tm lf ps : Int32} {p : PS} {pk : Nat → Int32} {k w : Nat} {g2 c2 : Int64} (hp : PR s g tm p (lf, pk, k, ps)) (hw : w < gT g) (hf : wrN g ps lf = (nI w, g2, c2)) :
    PR s g tm (tkS s.2.1 (tCh s.2.1 w &&& (pBits p ^^^ (-1))) p (tT s.2.1)) (lf - c2.toInt32, (pkR (gCh g w &&& (ps ^^^ (-1))) pk k (gT g)).1, (pkR (gCh g w &&& (ps ^^^ (-1))) pk k (gT g)).2, ps ||| (gCh g w &&& (ps ^^^ (-1)))) := by
  obtain ⟨r1, r2, r3, r4, r5, r6, r7, r8, r9⟩ := hp
  have h20 := h.T20
  have r1 : pBits p = ps := r1
  have r2 : pN p = k := r2
  have r3 : k = cN ps (gT g) := r3
  have r4 : lf = tm - pSpan p := r4
  have r9 : ∀ i, gT g ≤ i → bt ps i = false := r9
  have hR : ∀ i, gT g ≤ i → bt (gCh g w &&& (ps ^^^ (-1))) i = false := by
    intro i hi
    rcases Nat.lt_or_ge i 32 with q | q
    · cases e : bt (gCh g w &&& (ps ^^^ (-1))) i
      · rfl
      · rw [b_and, Bool.and_eq_true] at e
        have := ch_bits h.2.1.2.2.2.2.1 h20 21 w i hw q e.1
        omega
    · exact b_big q
  have ec : c2.toInt32 = gTS g (gCh g w &&& (ps ^^^ (-1))) := by
    have := wrM_cost g ps (gOp g ps) lf (gT g) w h20 (by rw [show wrM g ps (gOp g ps) lf (gT g) = (nI w, g2, c2) from hf]) (by omega)
    rw [show wrM g ps (gOp g ps) lf (gT g) = (nI w, g2, c2) from hf] at this
    rw [show c2 = _ from this, i2l2i]
  rw [h.ch hw, r1, tk_eq (tT s.2.1) (fun i hi hb => by rw [h.T] at hi; exact cap_ok (r2.trans r3) h20 hi hb), h.tms, h.pas, h.T]
  have en : (pkR (gCh g w &&& (ps ^^^ (-1))) (pRow p) (pN p) (gT g)).2 = (pkR (gCh g w &&& (ps ^^^ (-1))) pk k (gT g)).2 := by rw [pkR_2, pkR_2, r2]
  refine ⟨?_, en, ?_, ?_, fun i hi => ⟨?_, ?_⟩, ?_, r7, r8, fun i hi => ?_⟩
  · show pBits p ||| orI _ (gT g) = _
    rw [orI_self (by omega) hR, r1]
  · show (pkR (gCh g w &&& (ps ^^^ (-1))) pk k (gT g)).2 = cN (ps ||| (gCh g w &&& (ps ^^^ (-1)))) (gT g)
    rw [pkR_2, cN_or (dj (gCh g w) ps (by omega)), ← r3]
  · show lf - c2.toInt32 = tm - (pSpan p + gTS g (gCh g w &&& (ps ^^^ (-1))))
    rw [ec, r4]
    generalize gTS g (gCh g w &&& (ps ^^^ (-1))) = a
    generalize pSpan p = b
    grind
  · have := pkR_agree (x := gCh g w &&& (ps ^^^ (-1))) (pk := pRow p) (pk' := pk) (k := pN p) (fun i hi => (r5 i hi).1) (gT g) i hi
    rw [r2] at this
    show (pkR (gCh g w &&& (ps ^^^ (-1))) (pRow p) (pN p) (gT g)).1 i = (pkR (gCh g w &&& (ps ^^^ (-1))) pk k (gT g)).1 i
    rw [r2]
    exact this
  · exact pkR_mem (fun i hi => (r5 i hi).2) (gT g) (Nat.le_refl _) i hi
  · show pSeen p ||| gRS g (gCh g w &&& (ps ^^^ (-1))) = gRS g (ps ||| (gCh g w &&& (ps ^^^ (-1))))
    rw [show gRS g (ps ||| (gCh g w &&& (ps ^^^ (-1)))) = gRS g ps ||| gRS g (gCh g w &&& (ps ^^^ (-1))) from paS_or _ _ _ _, show pSeen p = gRS g ps from r6]
  · show bt (ps ||| (gCh g w &&& (ps ^^^ (-1)))) i = false
    rw [b_or, r9 i hi, hR i hi]; rfl
theorem cN_full {x : Int32} : ∀ {n : Nat}, n ≤ cN x n → ∀ t, t < n → bt x t = true
  | 0, _, t, ht => absurd ht (Nat.not_lt_zero t)
  | n + 1, h, t, ht => by
    have h1 := cN_le x n
    unfold cN at h
    cases e : bt x n
    · rw [e, if_neg Bool.false_ne_true] at h; omega
    · rw [e, if_pos rfl] at h
      rcases Nat.lt_or_ge t n with q | q
      · exact cN_full (by omega) t q
      · rw [show t = n by omega]; exact e
theorem pick_rel (h : Rel s g) (h0 : ¬ gB g = 0) {tm : Int32} : ∀ (r f : Nat) (p : PS) (m : Int32 × (Nat → Int32) × Nat × Int32), PR s g tm p m → gT g ≤ cN m.2.2.2 (gT g) + r → r < f → PR s g tm (pkL s.2.1 s.2.2.1 (cPk s.2.1) tm r p) (pkM g f m)
  | r, 0, p, m, _, _, hf => by omega
  | 0, f + 1, p, m, hp, hr, _ => by
    rw [pkL, pkM]
    rcases wrM_is g m.2.2.2 (gOp g m.2.2.2) m.1 (gT g) with e | ⟨w, h1, _, h3⟩
    · rw [if_pos (by rw [show (wrN g m.2.2.2 m.1).1 = -9 from e]; decide)]; exact hp
    · have := cN_full (show gT g ≤ cN m.2.2.2 (gT g) by omega) w h1
      rw [h3] at this; cases this
  | r + 1, f + 1, p, m, hp, hr, hf => by
    have h20 := h.T20
    have ew := wrt_eq h h0 hp
    rw [pkL, pkM]
    rcases wrM_is g m.2.2.2 (gOp g m.2.2.2) m.1 (gT g) with e | ⟨w, h1, h2, h3⟩
    · have e : (wrN g m.2.2.2 m.1).1 = -9 := e
      rw [if_pos (show wrt s.2.1 s.2.2.1 (cPk s.2.1) tm p = -9 by show (wrS _ _ _ _ _ _).1 = -9; rw [ew]; exact e), if_pos (by rw [e]; decide)]; exact hp
    · have h2 : (wrN g m.2.2.2 m.1).1 = nI w := h2
      have hwt : wrt s.2.1 s.2.2.1 (cPk s.2.1) tm p = nI w := by show (wrS _ _ _ _ _ _).1 = nI w; rw [ew]; exact h2
      have hpos : ¬ nI w < 0 := nI_pos (by omega)
      rw [if_neg (show ¬ wrt s.2.1 s.2.2.1 (cPk s.2.1) tm p = -9 from fun y => hpos (by rw [← hwt, y]; decide)), if_neg (by rw [h2]; exact hpos), hwt, h2, cl_nI' (by omega)]
      have hst := pr_step h (p := p) (lf := m.1) (pk := m.2.1) (k := m.2.2.1) (ps := m.2.2.2) hp h1 (g2 := (wrN g m.2.2.2 m.1).2.1) (c2 := (wrN g m.2.2.2 m.1).2.2) (by rw [← h2])
      refine pick_rel h h0 r f _ _ hst ?_ (by omega)
      show gT g ≤ cN (m.2.2.2 ||| (gCh g w &&& (m.2.2.2 ^^^ (-1)))) (gT g) + r
      rw [cN_or (dj (gCh g w) m.2.2.2 (by omega))]
      have := cN_pos h1 (rest_self g (ps := m.2.2.2) (by omega) h3)
      omega
theorem st_pick (h : Rel s g) (tm : Int32) : Sim (xPick tm s) (gPick tm g) := by
  unfold xPick gPick
  have h20 := h.T20
  refine bis Iff.rfl (fun _ => ⟨rfl, h⟩) (fun _ => ?_)
  refine bis (by rw [h.B]) (fun _ => ⟨rfl, h⟩) (fun c => ?_)
  have hp0 : PR s g tm (pk0 s.2.2.1 s.2.2.2.1) (tm, gPk g, 0, 0) := by
    refine ⟨rfl, rfl, (cN_zero _).symm, ?_, fun i hi => absurd hi (Nat.not_lt_zero i), (paS_0 _ _).symm, h.pcg c, rfl, fun i _ => b_0 i⟩
    show tm = tm - 0
    grind
  have hp := pick_rel h c (gT g) 21 _ _ hp0 (by omega) (by omega)
  rw [h.T]
  obtain ⟨r1, r2, r3, r4, r5, r6, r7, r8, r9⟩ := hp
  have hk : (pkG tm g).2.2.1 ≤ 20 := Nat.le_trans (Nat.le_of_eq r3) (Nat.le_trans (cN_le _ _) h20)
  refine ⟨by rw [r2], h.1, h.2.1, h.2.2.1, h.2.2.2.1, ⟨by rw [r2]; exact hk, fun y => ?_, fun _ => ⟨by rw [r2], r5, r1, ?_, ?_, by show 0 < gB g; omega⟩⟩, h.2.2.2.2.2⟩
  · rw [r8] at y; exact absurd y (by decide)
  · show pSpan (pkL s.2.1 s.2.2.1 (cPk s.2.1) tm (gT g) (pk0 s.2.2.1 s.2.2.2.1)) = tm - (pkG tm g).1
    rw [show (pkG tm g).1 = _ from r4]
    generalize pSpan _ = b
    grind
  · show popL (pSeen _ &&& pChg _) = bitsN (gRS g (pkG tm g).2.2.2 &&& gCg g (gB g - 1)) 40
    rw [r6, r7]
    exact pop40 (fun i hi => by rw [l_and, h.cg40 c i hi, Bool.and_false])
end RELI
