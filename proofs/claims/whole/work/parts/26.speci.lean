/-! counting a set's members; what the reference's pick needs -/
theorem cN_le (x : Int32) : ∀ n, cN x n ≤ n
  | 0 => Nat.le_refl _
  | n + 1 => by
    have := cN_le x n
    unfold cN
    split <;> omega
theorem cN_mono (x : Int32) {a b : Nat} (h : a ≤ b) : cN x a ≤ cN x b := by
  induction b with
  | zero => rw [show a = 0 by omega]; exact Nat.le_refl _
  | succ b ih =>
    rcases Nat.lt_or_ge a (b + 1) with q | q
    · exact Nat.le_trans (ih (by omega)) (Nat.le_add_right _ _)
    · rw [show a = b + 1 by omega]; exact Nat.le_refl _
theorem cN_or {x y : Int32} : ∀ {n : Nat}, (∀ t, t < n → ¬ (bt x t = true ∧ bt y t = true)) → cN (x ||| y) n = cN x n + cN y n
  | 0, _ => rfl
  | n + 1, h => by
    have ih := cN_or (n := n) (fun t ht => h t (by omega))
    have hn := h n (by omega)
    unfold cN
    rw [ih, b_or]
    cases hx : bt x n <;> cases hy : bt y n <;> simp_all <;> omega
theorem pkR_2 (x : Int32) (pk : Nat → Int32) (m : Nat) : ∀ i, (pkR x pk m i).2 = m + cN x i
  | 0 => rfl
  | i + 1 => by
    unfold pkR cN
    have ih := pkR_2 x pk m i
    split
    · show (pkR x pk m i).2 + 1 = _; omega
    · omega
theorem dj (y ps : Int32) {n : Nat} (hn : n ≤ 32) : ∀ t, t < n → ¬ (bt ps t = true ∧ bt (y &&& (ps ^^^ (-1))) t = true) := by
  intro t ht h
  rw [b_and, b_not _ (by omega), h.1] at h
  simp at h
theorem cap_ok {y ps : Int32} {T k i : Nat} {pk : Nat → Int32} (hk : k = cN ps T) (hT : T ≤ 20) (hi : i < T) (hb : bt (y &&& (ps ^^^ (-1))) i = true) : (pkR (y &&& (ps ^^^ (-1))) pk k i).2 < 20 := by
  rw [pkR_2, hk]
  have h1 := cN_or (dj y ps (n := T) (by omega))
  have h2 := cN_le (ps ||| (y &&& (ps ^^^ (-1)))) T
  have h3 : cN (y &&& (ps ^^^ (-1))) (i + 1) = cN (y &&& (ps ^^^ (-1))) i + 1 := by show cN _ i + _ = _; rw [if_pos hb]
  have h4 := cN_mono (y &&& (ps ^^^ (-1))) (show i + 1 ≤ T by omega)
  omega
theorem cN_pos {x : Int32} {w T : Nat} (hw : w < T) (hb : bt x w = true) : 0 < cN x T := by
  have h3 : cN x (w + 1) = cN x w + 1 := by show cN _ w + _ = _; rw [if_pos hb]
  have h4 := cN_mono x (show w + 1 ≤ T by omega)
  omega
theorem wrM_is (g : GS) (ps : Int32) (op : Int64) (lf : Int32) : ∀ n, (wrM g ps op lf n).1 = -9 ∨ ∃ w, w < n ∧ (wrM g ps op lf n).1 = nI w ∧ bt ps w = false
  | 0 => Or.inl rfl
  | n + 1 => by
    have ih : (wrM g ps op lf n).1 = -9 ∨ ∃ w, w < n + 1 ∧ (wrM g ps op lf n).1 = nI w ∧ bt ps w = false := by
      rcases wrM_is g ps op lf n with h | ⟨w, h1, h2⟩
      · exact Or.inl h
      · exact Or.inr ⟨w, by omega, h2⟩
    unfold wrM
    split
    · exact ih
    · split
      · exact ih
      · split
        · exact ih
        · split
          · exact ih
          · split
            · exact ih
            · refine Or.inr ⟨n, by omega, rfl, ?_⟩
              rename_i h _ _ _
              exact Bool.not_eq_true _ ▸ h
theorem ch_self (g : GS) {w : Nat} (h : w < 20) : bt (gCh g w) w = true := by
  show bt (chM (gNd g) (20 + 1) (nI w)) w = true
  rw [chM_pos h, b_or, b_one (by omega) (by omega)]
  simp
theorem rest_self (g : GS) {w : Nat} {ps : Int32} (h : w < 20) (hb : bt ps w = false) : bt (gCh g w &&& (ps ^^^ (-1))) w = true := by
  rw [b_and, b_not _ (by omega), ch_self g h, hb]; rfl
theorem pk_step {g : GS} {n : Nat} {lf ps : Int32} {pk : Nat → Int32} {k w : Nat} {g2 c2 : Int64} {z : Int32 × (Nat → Int32) × Nat × Int32} (hq : pkM g (n + 1) (lf, pk, k, ps) = z) (hf : wrN g ps lf = (nI w, g2, c2)) (hw : w < 20) :
    pkM g n (lf - c2.toInt32, (pkR (gCh g w &&& (ps ^^^ (-1))) pk k (gT g)).1, (pkR (gCh g w &&& (ps ^^^ (-1))) pk k (gT g)).2, ps ||| (gCh g w &&& (ps ^^^ (-1)))) = z := by
  rw [← hq]
  show _ = if (wrN g ps lf).1 < 0 then _ else _
  rw [hf]
  show _ = if nI w < 0 then _ else _
  rw [if_neg (nI_pos (by omega))]
  show _ = pkM g n (lf - c2.toInt32, (pkR (gCh g (nI w).toNatClampNeg &&& (ps ^^^ (-1))) pk k (gT g)).1, (pkR (gCh g (nI w).toNatClampNeg &&& (ps ^^^ (-1))) pk k (gT g)).2, ps ||| (gCh g (nI w).toNatClampNeg &&& (ps ^^^ (-1))))
  rw [cl_nI' hw]
theorem pk_stop {g : GS} {n : Nat} {lf ps : Int32} {pk : Nat → Int32} {k : Nat} {b2 : Int32} {g2 c2 : Int64} {z : Int32 × (Nat → Int32) × Nat × Int32} (hq : pkM g (n + 1) (lf, pk, k, ps) = z) (hf : wrN g ps lf = (b2, g2, c2)) (hb : b2 < 0) : (lf, pk, k, ps) = z := by
  rw [← hq]
  show _ = if (wrN g ps lf).1 < 0 then _ else _
  rw [hf, if_pos hb]
