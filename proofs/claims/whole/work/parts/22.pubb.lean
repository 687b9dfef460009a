theorem any_t {f : Nat → Bool} : ∀ {n i : Nat}, i < n → f i = true → anyB f n = true
  | 0, i, h, _ => absurd h (Nat.not_lt_zero i)
  | n + 1, i, h, hf => by
    rw [anyB]
    rcases Nat.lt_or_ge i n with q | q
    · rw [any_t q hf]; rfl
    · have : i = n := by omega
      subst this
      rw [hf, Bool.or_true]
set_option maxHeartbeats 4000000 in
set_option maxRecDepth 100000 in
theorem c_X4_pick (l : Launch) (D : va_G) (q : Nat → Nat) (c : CT) (ms : MS) (ts : TS) (hs : HS) (ps : PS) (ss : SS) (tm : Int32) (hT : tT ts ≤ 20) (hb60 : hB hs ≤ 60) : MUi l yX4_pick wsX4_pick ({ frames := 3, cells := 0, slots := 0, locals := 80 } : Room) [.ref (q 0), .int tm] D c (wC q c (ms, ts, hs, ps, ss)) (wC q c (xPick tm (ms, ts, hs, ps, ss)).2) ((xPick tm (ms, ts, hs, ps, ss)).1) := by
  refine mu_start (cc := cX4_pick) (maxL := 5) (ret := some .int) (by decide) rfl (Nat.le_of_ble_eq_true rfl) ?_
  intro p e s m args below meth c0 ls hx hb hr hml hown hts hlk hnm hP hK hD hS hA hl
  have hown : s.vm.findClass RX4 = some m.cls := hown
  have hl : lv_has ls 5 [(0, .ref (q 0)), (1, .int tm)] := hl
  have hin0 : ∀ w ∈ wsX00, w ∈ wsX4_pick := by decide +kernel
  have hin1 : ∀ w ∈ wsX10, w ∈ wsX4_pick := by decide +kernel
  have hin3 : ∀ w ∈ wsX30, w ∈ wsX4_pick := by decide +kernel
  have hin4 : ∀ w ∈ wsX40, w ∈ wsX4_pick := by decide +kernel
  refine lv_iload_n hx hb dX4_pick_0 rfl (lv_at hl 1 rfl) ?_
  refine ro_Si (As := [.int tm]) (rest := []) ⟨hx, hb, hml, hown, hts⟩ (c_X4_isSpan l D c tm) (va_cwS 1 hts gX4_pick_X4_isSpan rfl rfl rfl (by decide +kernel) ⟨Nat.le_of_ble_eq_true rfl, Nat.le_of_ble_eq_true rfl⟩) va_P0 hK rfl hl.1 rfl (Nat.le_of_ble_eq_true rfl) dX4_pick_1 ⟨Nat.le_of_ble_eq_true rfl, Nat.le_of_ble_eq_true rfl⟩ ?_
  refine lv_if_ne (tgt := 9) hx hb dX4_pick_4 (by decide) (fun c4 => ?_) (fun c4 => ?_)
  · -- 4 True
    have c4 := bI_nz.mp c4
    refine lv_aload_n hx hb dX4_pick_9 rfl (lv_at hl 0 rfl) ?_
    refine va_get (D := D) (ci := 4) (v := .ref (q 9)) (C := RX4) (T := TX4) (N := 7) hx hb hts hin4 hown hK.1 hP 0 rfl rfl 1 (by decide) (hts (.fieldLink RX4 19 "TestPicker" "history" "LTestPicker$History;") (by decide +kernel)) (fun _ h9 => h9) rfl dX4_pick_10 ?_
    refine va_get (D := D) (ci := 0) (v := .int (nI (hB hs))) (C := RX0) (T := TX0) (N := 4) hx hb hts hin0 hown hK.1 hP 9 rfl rfl 3 (by decide) (hts (.fieldLink RX4 103 "TestPicker$History" "size" "I") (by decide +kernel)) (fun _ h9 => h9) rfl dX4_pick_13 ?_
    refine lv_if_ne (tgt := 22) hx hb dX4_pick_16 (by decide) (fun c16 => ?_) (fun c16 => ?_)
    · -- 16 True
      have c16 : ¬ (hB hs) = 0 := fun z => c16 ((nI_eq (b := 0) (by omega) (by omega)).mpr z)
      refine lv_aload_n hx hb dX4_pick_22 rfl (lv_at hl 0 rfl) ?_
      refine va_get (D := D) (ci := 4) (v := .ref (q 13)) (C := RX4) (T := TX4) (N := 7) hx hb hts hin4 hown hK.1 hP 0 rfl rfl 2 (by decide) (hts (.fieldLink RX4 26 "TestPicker" "plan" "LTestPicker$Plan;") (by decide +kernel)) (fun _ h9 => h9) rfl dX4_pick_23 ?_
      refine lv_aload_n hx hb dX4_pick_26 rfl (lv_at hl 0 rfl) ?_
      refine va_get (D := D) (ci := 4) (v := .ref (q 9)) (C := RX4) (T := TX4) (N := 7) hx hb hts hin4 hown hK.1 hP 0 rfl rfl 1 (by decide) (hts (.fieldLink RX4 19 "TestPicker" "history" "LTestPicker$History;") (by decide +kernel)) (fun _ h9 => h9) rfl dX4_pick_27 ?_
      refine ro_Vl (post := (pcg (hCg hs) (hB hs))) (As := []) (rest := [.ref (q 13)]) ⟨hx, hb, hml, hown, hts⟩ (c_X0_presentChange l D q c hs (by omega)) (cwV 0 hts gX4_pick_X0_presentChange rfl rfl rfl (by decide +kernel) ⟨Nat.le_of_ble_eq_true rfl, Nat.le_of_ble_eq_true rfl⟩) (hP.sub (ws' := wH q c hs) [9, 10, 11, 12] rfl) hK (va_recv hK.1 hP (ci := 0) (q0 := 9) rfl rfl) rfl hl.1 rfl (Nat.le_of_ble_eq_true rfl) dX4_pick_30 ⟨Nat.le_of_ble_eq_true rfl, Nat.le_of_ble_eq_true rfl⟩ ?_
      refine mu_Vv (As := [.long (pcg (hCg hs) (hB hs))]) (rest := []) (wr := wM q c ms ++ wT q c ts ++ wH q c hs ++ wS q c ss) (wk := wC q c (ms, ts, hs, (pRow ps, 0, 0, 0, 0, (pcg (hCg hs) (hB hs)), 1), ss)) [13, 14] [0, 1, 2, 3, 4, 5, 6, 7, 8, 9, 10, 11, 12, 15, 16, 17, 18, 19, 20, 21, 22, 23] [0, 1, 2, 3, 4, 5, 6, 7, 8, 9, 10, 11, 12, 22, 23, 13, 14, 15, 16, 17, 18, 19, 20, 21] ⟨hx, hb, hml, hown, hts⟩ (c_X1_begin l D q c ps (pcg (hCg hs) (hB hs))) (cwV 1 hts gX4_pick_X1_begin rfl rfl rfl (by decide +kernel) ⟨Nat.le_of_ble_eq_true rfl, Nat.le_of_ble_eq_true rfl⟩) hP hK hD hS hA (va_recv hK.1 hP (ci := 1) (q0 := 13) rfl rfl) rfl rfl (by decide) (by decide) (by decide) (by decide) rfl rfl hl.1 rfl (Nat.le_of_ble_eq_true rfl) dX4_pick_33 ⟨Nat.le_of_ble_eq_true rfl, Nat.le_of_ble_eq_true rfl⟩ (fun H locs hP hD hS => ?_)
      refine lv_aload_n hx hb dX4_pick_36 rfl (lv_at hl 0 rfl) ?_
      refine va_get (D := D) (ci := 4) (v := .ref (q 2)) (C := RX4) (T := TX4) (N := 7) hx hb hts hin4 hown hK.1 hP 0 rfl rfl 0 (by decide) (hts (.fieldLink RX4 10 "TestPicker" "tests" "LTestPicker$Tests;") (by decide +kernel)) (fun _ h9 => h9) rfl dX4_pick_37 ?_
      refine ro_Vi (post := (cPk ts)) (As := []) (rest := []) ⟨hx, hb, hml, hown, hts⟩ (c_X3_pickable l D q c ts (by omega)) (cwV 0 hts gX4_pick_X3_pickable rfl rfl rfl (by decide +kernel) ⟨Nat.le_of_ble_eq_true rfl, Nat.le_of_ble_eq_true rfl⟩) (hP.sub (ws' := wT q c ts) [2, 3, 4, 5, 6, 7, 8] rfl) hK (va_recv hK.1 hP (ci := 3) (q0 := 2) rfl rfl) rfl hl.1 rfl (Nat.le_of_ble_eq_true rfl) dX4_pick_40 ⟨Nat.le_of_ble_eq_true rfl, Nat.le_of_ble_eq_true rfl⟩ ?_
      refine lv_istore_n (lv' := [(2, .int (cPk ts)), (0, .ref (q 0)), (1, .int tm)]) hx hb dX4_pick_43 rfl hl (by decide) rfl (fun ls hl => ?_)
      refine lv_iconst (v := 0) hx hb dX4_pick_44 (by decide) ?_
      refine lv_istore_n (lv' := [(3, .int 0), (2, .int (cPk ts)), (0, .ref (q 0)), (1, .int tm)]) hx hb dX4_pick_45 rfl hl (by decide) rfl (fun ls hl => ?_)
      have L46 : ∀ (n : Nat) (i : Nat) (p2 : PS), (i ≤ tT ts) → (tT ts < i + n) → (pN p2 ≤ 20) → (pkL ts hs (cPk ts) tm (tT ts - i) p2 = pkL ts hs (cPk ts) tm (tT ts) (pk0 hs ps)) → ∀ (H : Heap) (locs : List Loc), va_P D vwCl (wC q c (ms, ts, hs, p2, ss)) H → va_D (va_A (wC q c (ms, ts, hs, ps, ss)) s.heap.size) (wC q c (ms, ts, hs, p2, ss)) → va_S (va_A (wC q c (ms, ts, hs, ps, ss)) s.heap.size) s.heap H locs → ∀ ls : Array Slot, lv_has ls 5 [(3, .int (nI i)), (2, .int (cPk ts)), (0, .ref (q 0)), (1, .int tm)] → W p l e ({ frames := 3, cells := 0, slots := 0, locals := 80 } : Room) s m args below meth c0 H locs 0 0 (QMi below args s D c (wC q c (ms, ts, hs, ps, ss)) (wC q c (xPick tm (ms, ts, hs, ps, ss)).2) ((xPick tm (ms, ts, hs, ps, ss)).1)) (F0 m 46 ls []) := by
        intro n
        induction n with
        | zero => intro i p2 hi hn h20 hq H locs hP hD hS ls hl; exact absurd hn (by omega)
        | succ n ih46 =>
          intro i p2 hi hn h20 hq H locs hP hD hS ls hl
          refine lv_iload_n hx hb dX4_pick_46 rfl (lv_at hl 0 rfl) ?_
          refine lv_aload_n hx hb dX4_pick_47 rfl (lv_at hl 2 rfl) ?_
          refine va_get (D := D) (ci := 4) (v := .ref (q 2)) (C := RX4) (T := TX4) (N := 7) hx hb hts hin4 hown hK.1 hP 0 rfl rfl 0 (by decide) (hts (.fieldLink RX4 10 "TestPicker" "tests" "LTestPicker$Tests;") (by decide +kernel)) (fun _ h9 => h9) rfl dX4_pick_48 ?_
          refine va_get (D := D) (ci := 3) (v := .int (nI (tT ts))) (C := RX3) (T := TX3) (N := 7) hx hb hts hin3 hown hK.1 hP 2 rfl rfl 6 (by decide) (hts (.fieldLink RX4 56 "TestPicker$Tests" "size" "I") (by decide +kernel)) (fun _ h9 => h9) rfl dX4_pick_51 ?_
          refine lv_icmp_ge (tgt := 105) hx hb dX4_pick_54 (by decide) (fun c54 => ?_) (fun c54 => ?_)
          · -- 54 True
            have c54 : (tT ts) ≤ i := (nI_leI (a := (tT ts)) (b := i) (by omega) (by omega)).mp c54
            refine lv_aload_n hx hb dX4_pick_105 rfl (lv_at hl 2 rfl) ?_
            refine va_get (D := D) (ci := 4) (v := .ref (q 13)) (C := RX4) (T := TX4) (N := 7) hx hb hts hin4 hown hK.1 hP 0 rfl rfl 2 (by decide) (hts (.fieldLink RX4 26 "TestPicker" "plan" "LTestPicker$Plan;") (by decide +kernel)) (fun _ h9 => h9) rfl dX4_pick_106 ?_
            refine va_get (D := D) (ci := 1) (v := .int (nI (pN p2))) (C := RX1) (T := TX1) (N := 7) hx hb hts hin1 hown hK.1 hP 13 rfl rfl 1 (by decide) (hts (.fieldLink RX4 160 "TestPicker$Plan" "size" "I") (by decide +kernel)) (fun _ h9 => h9) rfl dX4_pick_109 ?_
            have e8 : pkL ts hs (cPk ts) tm (tT ts) (pk0 hs ps) = p2 := by rw [← hq]; rw [show tT ts - i = 0 by omega]; rfl
            have e9 : xPick tm (ms, ts, hs, ps, ss) = (nI (pN p2), (ms, ts, hs, p2, ss)) := by rw [xPick, if_neg (by rw [c4]; decide), if_neg c16]; show (nI (pN (pkL ts hs (cPk ts) tm (tT ts) (pk0 hs ps))), (ms, ts, hs, pkL ts hs (cPk ts) tm (tT ts) (pk0 hs ps), ss)) = _; rw [e8]
            rw [e9]
            exact mu_reti hx hb hr hlk hP hD hS (rfl) dX4_pick_112
          · -- 54 False
            have c54 : i < (tT ts) := (Nat.not_le.mp (fun z => c54 ((nI_leI (a := (tT ts)) (b := i) (by omega) (by omega)).mpr z)))
            refine lv_aload_n hx hb dX4_pick_57 rfl (lv_at hl 2 rfl) ?_
            refine lv_iload_n hx hb dX4_pick_58 rfl (lv_at hl 1 rfl) ?_
            refine lv_aload_n hx hb dX4_pick_59 rfl (lv_at hl 2 rfl) ?_
            refine va_get (D := D) (ci := 4) (v := .ref (q 13)) (C := RX4) (T := TX4) (N := 7) hx hb hts hin4 hown hK.1 hP 0 rfl rfl 2 (by decide) (hts (.fieldLink RX4 26 "TestPicker" "plan" "LTestPicker$Plan;") (by decide +kernel)) (fun _ h9 => h9) rfl dX4_pick_60 ?_
            refine va_get (D := D) (ci := 1) (v := .int (pBits p2)) (C := RX1) (T := TX1) (N := 7) hx hb hts hin1 hown hK.1 hP 13 rfl rfl 2 (by decide) (hts (.fieldLink RX4 147 "TestPicker$Plan" "bits" "I") (by decide +kernel)) (fun _ h9 => h9) rfl dX4_pick_63 ?_
            refine lv_iconst (v := (-1)) hx hb dX4_pick_66 (by decide) ?_
            refine lv_ixor hx hb dX4_pick_67 ?_
            refine lv_iand hx hb dX4_pick_68 ?_
            refine lv_iload_n hx hb dX4_pick_69 rfl (lv_at hl 3 rfl) ?_
            refine lv_aload_n hx hb dX4_pick_70 rfl (lv_at hl 2 rfl) ?_
            refine va_get (D := D) (ci := 4) (v := .ref (q 13)) (C := RX4) (T := TX4) (N := 7) hx hb hts hin4 hown hK.1 hP 0 rfl rfl 2 (by decide) (hts (.fieldLink RX4 26 "TestPicker" "plan" "LTestPicker$Plan;") (by decide +kernel)) (fun _ h9 => h9) rfl dX4_pick_71 ?_
            refine va_get (D := D) (ci := 1) (v := .int (pSpan p2)) (C := RX1) (T := TX1) (N := 7) hx hb hts hin1 hown hK.1 hP 13 rfl rfl 3 (by decide) (hts (.fieldLink RX4 150 "TestPicker$Plan" "span" "I") (by decide +kernel)) (fun _ h9 => h9) rfl dX4_pick_74 ?_
            refine lv_isub hx hb dX4_pick_77 ?_
            refine ro_Vi (post := (wrS ts hs p2 ((cPk ts) &&& (pBits p2 ^^^ (-1))) (tm - pSpan p2) (tT ts)).1) (As := [.int ((cPk ts) &&& (pBits p2 ^^^ (-1))), .int (tm - pSpan p2)]) (rest := []) ⟨hx, hb, hml, hown, hts⟩ (c_X4_worthiest l D q c ms ts hs p2 ss ((cPk ts) &&& (pBits p2 ^^^ (-1))) (tm - pSpan p2) (by omega) (by omega)) (cwV 2 hts gX4_pick_X4_worthiest rfl rfl rfl (by decide +kernel) ⟨Nat.le_of_ble_eq_true rfl, Nat.le_of_ble_eq_true rfl⟩) hP hK (va_recv hK.1 hP (ci := 4) (q0 := 0) rfl rfl) rfl hl.1 rfl (Nat.le_of_ble_eq_true rfl) dX4_pick_78 ⟨Nat.le_of_ble_eq_true rfl, Nat.le_of_ble_eq_true rfl⟩ ?_
            refine lv_istore (lv' := [(4, .int ((wrS ts hs p2 ((cPk ts) &&& (pBits p2 ^^^ (-1))) (tm - pSpan p2) (tT ts)).1)), (3, .int (nI i)), (2, .int (cPk ts)), (0, .ref (q 0)), (1, .int tm)]) hx hb dX4_pick_81 hl (by decide) rfl (fun ls hl => ?_)
            refine lv_iload hx hb dX4_pick_83 (lv_at hl 0 rfl) ?_
            refine lv_bipush (v := (-9)) hx hb dX4_pick_85 (by decide) ?_
            refine lv_icmp_ne (tgt := 93) hx hb dX4_pick_87 (by decide) (fun c87 => ?_) (fun c87 => ?_)
            · -- 87 True
              obtain ⟨w, hw1, hw2⟩ : ∃ w, w < tT ts ∧ wrt ts hs (cPk ts) tm p2 = nI w := (wr_is ts hs p2 _ _ (tT ts)).resolve_left c87
              rw [show (wrS ts hs p2 ((cPk ts) &&& (pBits p2 ^^^ (-1))) (tm - pSpan p2) (tT ts)).1 = nI w from hw2] at hl
              refine lv_aload_n hx hb dX4_pick_93 rfl (lv_at hl 3 rfl) ?_
              refine lv_iload hx hb dX4_pick_94 (lv_at hl 0 rfl) ?_
              refine mu_Vv (As := [.int (nI w)]) (rest := []) (wr := []) (wk := wC q c (ms, ts, hs, (tkS ts (tCh ts w &&& (pBits p2 ^^^ (-1))) p2 (tT ts)), ss)) [0, 1, 2, 3, 4, 5, 6, 7, 8, 9, 10, 11, 12, 13, 14, 15, 16, 17, 18, 19, 20, 21, 22, 23] [] [0, 1, 2, 3, 4, 5, 6, 7, 8, 9, 10, 11, 12, 13, 14, 15, 16, 17, 18, 19, 20, 21, 22, 23] ⟨hx, hb, hml, hown, hts⟩ (c_X4_takeChain l D q c ms ts hs p2 ss w (by omega) (by omega) (by omega)) (cwV 1 hts gX4_pick_X4_takeChain rfl rfl rfl (by decide +kernel) ⟨Nat.le_of_ble_eq_true rfl, Nat.le_of_ble_eq_true rfl⟩) hP hK hD hS hA (va_recv hK.1 hP (ci := 4) (q0 := 0) rfl rfl) rfl rfl (by decide) (by decide) (by decide) (by decide) rfl rfl hl.1 rfl (Nat.le_of_ble_eq_true rfl) dX4_pick_96 ⟨Nat.le_of_ble_eq_true rfl, Nat.le_of_ble_eq_true rfl⟩ (fun H locs hP hD hS => ?_)
              refine lv_iinc (v := nI (i + 1)) (lv' := [(3, .int (nI (i + 1))), (4, .int (nI w)), (2, .int (cPk ts)), (0, .ref (q 0)), (1, .int tm)]) hx hb dX4_pick_99 hl (k := 1) rfl (nI_inc _) (by decide) rfl (fun ls hl => ?_)
              refine lv_goto (tgt := 46) hx hb dX4_pick_102 (by decide) ?_
              exact ih46 (i + 1) (tkS ts (tCh ts w &&& (pBits p2 ^^^ (-1))) p2 (tT ts)) (by omega) (by omega) (tk20 h20 _) (by rw [← hq, show tT ts - i = (tT ts - (i + 1)) + 1 by omega, pkL, if_neg c87]; simp only [hw2, cl_nI' (show w < 20 by omega)]) _ _ hP hD hS ls (lv_sub hl [0, 2, 3, 4] rfl)
            · -- 87 False
              refine lv_goto (tgt := 105) hx hb dX4_pick_90 (by decide) ?_
              refine lv_aload_n hx hb dX4_pick_105 rfl (lv_at hl 3 rfl) ?_
              refine va_get (D := D) (ci := 4) (v := .ref (q 13)) (C := RX4) (T := TX4) (N := 7) hx hb hts hin4 hown hK.1 hP 0 rfl rfl 2 (by decide) (hts (.fieldLink RX4 26 "TestPicker" "plan" "LTestPicker$Plan;") (by decide +kernel)) (fun _ h9 => h9) rfl dX4_pick_106 ?_
              refine va_get (D := D) (ci := 1) (v := .int (nI (pN p2))) (C := RX1) (T := TX1) (N := 7) hx hb hts hin1 hown hK.1 hP 13 rfl rfl 1 (by decide) (hts (.fieldLink RX4 160 "TestPicker$Plan" "size" "I") (by decide +kernel)) (fun _ h9 => h9) rfl dX4_pick_109 ?_
              have e8 : pkL ts hs (cPk ts) tm (tT ts) (pk0 hs ps) = p2 := by rw [← hq]; rw [show tT ts - i = (tT ts - (i + 1)) + 1 by omega, pkL, if_pos c87]
              have e9 : xPick tm (ms, ts, hs, ps, ss) = (nI (pN p2), (ms, ts, hs, p2, ss)) := by rw [xPick, if_neg (by rw [c4]; decide), if_neg c16]; show (nI (pN (pkL ts hs (cPk ts) tm (tT ts) (pk0 hs ps))), (ms, ts, hs, pkL ts hs (cPk ts) tm (tT ts) (pk0 hs ps), ss)) = _; rw [e8]
              rw [e9]
              exact mu_reti hx hb hr hlk hP hD hS (rfl) dX4_pick_112
      exact L46 (tT ts + 1) 0 (pRow ps, 0, 0, 0, 0, (pcg (hCg hs) (hB hs)), 1) (by omega) (by omega) (Nat.zero_le _) (rfl) _ _ hP hD hS ls (lv_sub hl [0, 1, 2, 3] rfl)
    · -- 16 False
      have c16 : (hB hs) = 0 := (nI_eq (b := 0) (by omega) (by omega)).mp c16
      refine lv_bipush (v := (-4)) hx hb dX4_pick_19 (by decide) ?_
      have e9 : xPick tm (ms, ts, hs, ps, ss) = ((-4), (ms, ts, hs, ps, ss)) := by simp [xPick, c4, eq_true c16]
      rw [e9]
      exact mu_reti hx hb hr hlk hP hD hS (rfl) dX4_pick_21
  · -- 4 False
    have c4 := bI_z.mp c4
    refine lv_iconst (v := (-1)) hx hb dX4_pick_7 (by decide) ?_
    have e9 : xPick tm (ms, ts, hs, ps, ss) = ((-1), (ms, ts, hs, ps, ss)) := by simp [xPick, c4]
    rw [e9]
    exact mu_reti hx hb hr hlk hP hD hS (rfl) dX4_pick_8

set_option maxHeartbeats 4000000 in
set_option maxRecDepth 100000 in
theorem c_X4_best (l : Launch) (D : va_G) (q : Nat → Nat) (c : CT) (ms : MS) (ts : TS) (hs : HS) (ps : PS) (ss : SS) (tm : Int32) (hT : tT ts ≤ 20) (hb60 : hB hs ≤ 60) : MUi l yX4_best wsX4_best ({ frames := 3, cells := 0, slots := 0, locals := 68 } : Room) [.ref (q 0), .int tm] D c (wC q c (ms, ts, hs, ps, ss)) (wC q c (xBest tm (ms, ts, hs, ps, ss)).2) ((xBest tm (ms, ts, hs, ps, ss)).1) := by
  refine mu_start (cc := cX4_best) (maxL := 6) (ret := some .int) (by decide) rfl (Nat.le_of_ble_eq_true rfl) ?_
  intro p e s m args below meth c0 ls hx hb hr hml hown hts hlk hnm hP hK hD hS hA hl
  have hown : s.vm.findClass RX4 = some m.cls := hown
  have hl : lv_has ls 6 [(0, .ref (q 0)), (1, .int tm)] := hl
  have hin0 : ∀ w ∈ wsX00, w ∈ wsX4_best := by decide +kernel
  have hin2 : ∀ w ∈ wsX20, w ∈ wsX4_best := by decide +kernel
  have hin3 : ∀ w ∈ wsX30, w ∈ wsX4_best := by decide +kernel
  have hin4 : ∀ w ∈ wsX40, w ∈ wsX4_best := by decide +kernel
  refine lv_iload_n hx hb dX4_best_0 rfl (lv_at hl 1 rfl) ?_
  refine ro_Si (As := [.int tm]) (rest := []) ⟨hx, hb, hml, hown, hts⟩ (c_X4_isSpan l D c tm) (va_cwS 1 hts gX4_best_X4_isSpan rfl rfl rfl (by decide +kernel) ⟨Nat.le_of_ble_eq_true rfl, Nat.le_of_ble_eq_true rfl⟩) va_P0 hK rfl hl.1 rfl (Nat.le_of_ble_eq_true rfl) dX4_best_1 ⟨Nat.le_of_ble_eq_true rfl, Nat.le_of_ble_eq_true rfl⟩ ?_
  refine lv_if_ne (tgt := 9) hx hb dX4_best_4 (by decide) (fun c4 => ?_) (fun c4 => ?_)
  · -- 4 True
    have c4 := bI_nz.mp c4
    refine lv_aload_n hx hb dX4_best_9 rfl (lv_at hl 0 rfl) ?_
    refine va_get (D := D) (ci := 4) (v := .ref (q 9)) (C := RX4) (T := TX4) (N := 7) hx hb hts hin4 hown hK.1 hP 0 rfl rfl 1 (by decide) (hts (.fieldLink RX4 19 "TestPicker" "history" "LTestPicker$History;") (by decide +kernel)) (fun _ h9 => h9) rfl dX4_best_10 ?_
    refine va_get (D := D) (ci := 0) (v := .int (nI (hB hs))) (C := RX0) (T := TX0) (N := 4) hx hb hts hin0 hown hK.1 hP 9 rfl rfl 3 (by decide) (hts (.fieldLink RX4 103 "TestPicker$History" "size" "I") (by decide +kernel)) (fun _ h9 => h9) rfl dX4_best_13 ?_
    refine lv_if_ne (tgt := 22) hx hb dX4_best_16 (by decide) (fun c16 => ?_) (fun c16 => ?_)
    · -- 16 True
      have c16 : ¬ (hB hs) = 0 := fun z => c16 ((nI_eq (b := 0) (by omega) (by omega)).mpr z)
      refine lv_aload_n hx hb dX4_best_22 rfl (lv_at hl 0 rfl) ?_
      refine va_get (D := D) (ci := 4) (v := .ref (q 2)) (C := RX4) (T := TX4) (N := 7) hx hb hts hin4 hown hK.1 hP 0 rfl rfl 0 (by decide) (hts (.fieldLink RX4 10 "TestPicker" "tests" "LTestPicker$Tests;") (by decide +kernel)) (fun _ h9 => h9) rfl dX4_best_23 ?_
      refine ro_Vi (post := (cPk ts)) (As := []) (rest := []) ⟨hx, hb, hml, hown, hts⟩ (c_X3_pickable l D q c ts (by omega)) (cwV 0 hts gX4_best_X3_pickable rfl rfl rfl (by decide +kernel) ⟨Nat.le_of_ble_eq_true rfl, Nat.le_of_ble_eq_true rfl⟩) (hP.sub (ws' := wT q c ts) [2, 3, 4, 5, 6, 7, 8] rfl) hK (va_recv hK.1 hP (ci := 3) (q0 := 2) rfl rfl) rfl hl.1 rfl (Nat.le_of_ble_eq_true rfl) dX4_best_26 ⟨Nat.le_of_ble_eq_true rfl, Nat.le_of_ble_eq_true rfl⟩ ?_
      refine lv_istore_n (lv' := [(2, .int (cPk ts)), (0, .ref (q 0)), (1, .int tm)]) hx hb dX4_best_29 rfl hl (by decide) rfl (fun ls hl => ?_)
      refine lv_iload_n hx hb dX4_best_30 rfl (lv_at hl 0 rfl) ?_
      refine ro_Si (As := [.int (cPk ts)]) (rest := []) ⟨hx, hb, hml, hown, hts⟩ (c_J6_bitCount_0f7a4 l D c (cPk ts)) (va_cwS 1 hts gX4_best_J6_bitCount_0f7a4 rfl rfl rfl (by decide +kernel) ⟨Nat.le_of_ble_eq_true rfl, Nat.le_of_ble_eq_true rfl⟩) va_P0 hK rfl hl.1 rfl (Nat.le_of_ble_eq_true rfl) dX4_best_31 ⟨Nat.le_of_ble_eq_true rfl, Nat.le_of_ble_eq_true rfl⟩ ?_
      refine lv_bipush (v := 12) hx hb dX4_best_34 (by decide) ?_
      refine lv_icmp_le (tgt := 42) hx hb dX4_best_36 (by decide) (fun c36 => ?_) (fun c36 => ?_)
      · -- 36 True
        refine lv_aload_n hx hb dX4_best_42 rfl (lv_at hl 1 rfl) ?_
        refine va_get (D := D) (ci := 4) (v := .ref (q 9)) (C := RX4) (T := TX4) (N := 7) hx hb hts hin4 hown hK.1 hP 0 rfl rfl 1 (by decide) (hts (.fieldLink RX4 19 "TestPicker" "history" "LTestPicker$History;") (by decide +kernel)) (fun _ h9 => h9) rfl dX4_best_43 ?_
        refine ro_Vl (post := (pcg (hCg hs) (hB hs))) (As := []) (rest := []) ⟨hx, hb, hml, hown, hts⟩ (c_X0_presentChange l D q c hs (by omega)) (cwV 0 hts gX4_best_X0_presentChange rfl rfl rfl (by decide +kernel) ⟨Nat.le_of_ble_eq_true rfl, Nat.le_of_ble_eq_true rfl⟩) (hP.sub (ws' := wH q c hs) [9, 10, 11, 12] rfl) hK (va_recv hK.1 hP (ci := 0) (q0 := 9) rfl rfl) rfl hl.1 rfl (Nat.le_of_ble_eq_true rfl) dX4_best_46 ⟨Nat.le_of_ble_eq_true rfl, Nat.le_of_ble_eq_true rfl⟩ ?_
        refine lv_lstore_n (lv' := [(3, .long (pcg (hCg hs) (hB hs))), (2, .int (cPk ts)), (0, .ref (q 0)), (1, .int tm)]) hx hb dX4_best_49 rfl hl (by decide) rfl (fun ls hl => ?_)
        refine lv_aload_n hx hb dX4_best_50 rfl (lv_at hl 2 rfl) ?_
        refine va_get (D := D) (ci := 4) (v := .ref (q 15)) (C := RX4) (T := TX4) (N := 7) hx hb hts hin4 hown hK.1 hP 0 rfl rfl 3 (by decide) (hts (.fieldLink RX4 33 "TestPicker" "sets" "LTestPicker$Sets;") (by decide +kernel)) (fun _ h9 => h9) rfl dX4_best_51 ?_
        refine mu_Vv (As := []) (rest := []) (wr := wM q c ms ++ wT q c ts ++ wH q c hs ++ wP q c ps) (wk := wC q c (ms, ts, hs, ps, (sTb ss, sCh ss, sTi ss, sCo ss, 0, sBf ss, sCf ss, sTf ss, sVf ss, 0, 0, 0))) [15, 16, 17, 18, 19, 20, 21, 22, 23] [0, 1, 2, 3, 4, 5, 6, 7, 8, 9, 10, 11, 12, 13, 14] [0, 1, 2, 3, 4, 5, 6, 7, 8, 9, 10, 11, 12, 13, 14, 15, 16, 17, 18, 19, 20, 21, 22, 23] ⟨hx, hb, hml, hown, hts⟩ (c_X2_begin l D q c ss) (cwV 0 hts gX4_best_X2_begin rfl rfl rfl (by decide +kernel) ⟨Nat.le_of_ble_eq_true rfl, Nat.le_of_ble_eq_true rfl⟩) hP hK hD hS hA (va_recv hK.1 hP (ci := 2) (q0 := 15) rfl rfl) rfl rfl (by decide) (by decide) (by decide) (by decide) rfl rfl hl.1 rfl (Nat.le_of_ble_eq_true rfl) dX4_best_54 ⟨Nat.le_of_ble_eq_true rfl, Nat.le_of_ble_eq_true rfl⟩ (fun H locs hP hD hS => ?_)
        refine lv_iconst (v := 0) hx hb dX4_best_57 (by decide) ?_
        refine lv_istore (lv' := [(5, .int 0), (3, .long (pcg (hCg hs) (hB hs))), (2, .int (cPk ts)), (0, .ref (q 0)), (1, .int tm)]) hx hb dX4_best_58 hl (by decide) rfl (fun ls hl => ?_)
        have L60 : ∀ (n : Nat) (i : Nat) (s2 : SS), (i ≤ tT ts) → (tT ts < i + n) → (sN s2 ≤ 12) → (s2 = adS ts (cPk ts) (fun t => tPa ts t &&& pcg (hCg hs) (hB hs)) ss i) → ∀ (H : Heap) (locs : List Loc), va_P D vwCl (wC q c (ms, ts, hs, ps, s2)) H → va_D (va_A (wC q c (ms, ts, hs, ps, ss)) s.heap.size) (wC q c (ms, ts, hs, ps, s2)) → va_S (va_A (wC q c (ms, ts, hs, ps, ss)) s.heap.size) s.heap H locs → ∀ ls : Array Slot, lv_has ls 6 [(5, .int (nI i)), (3, .long (pcg (hCg hs) (hB hs))), (2, .int (cPk ts)), (0, .ref (q 0)), (1, .int tm)] → W p l e ({ frames := 3, cells := 0, slots := 0, locals := 68 } : Room) s m args below meth c0 H locs 0 0 (QMi below args s D c (wC q c (ms, ts, hs, ps, ss)) (wC q c (xBest tm (ms, ts, hs, ps, ss)).2) ((xBest tm (ms, ts, hs, ps, ss)).1)) (F0 m 60 ls []) := by
          intro n
          induction n with
          | zero => intro i s2 hi hn h12 hq H locs hP hD hS ls hl; exact absurd hn (by omega)
          | succ n ih60 =>
            intro i s2 hi hn h12 hq H locs hP hD hS ls hl
            refine lv_iload hx hb dX4_best_60 (lv_at hl 0 rfl) ?_
            refine lv_aload_n hx hb dX4_best_62 rfl (lv_at hl 3 rfl) ?_
            refine va_get (D := D) (ci := 4) (v := .ref (q 2)) (C := RX4) (T := TX4) (N := 7) hx hb hts hin4 hown hK.1 hP 0 rfl rfl 0 (by decide) (hts (.fieldLink RX4 10 "TestPicker" "tests" "LTestPicker$Tests;") (by decide +kernel)) (fun _ h9 => h9) rfl dX4_best_63 ?_
            refine va_get (D := D) (ci := 3) (v := .int (nI (tT ts))) (C := RX3) (T := TX3) (N := 7) hx hb hts hin3 hown hK.1 hP 2 rfl rfl 6 (by decide) (hts (.fieldLink RX4 56 "TestPicker$Tests" "size" "I") (by decide +kernel)) (fun _ h9 => h9) rfl dX4_best_66 ?_
            refine lv_icmp_ge (tgt := 129) hx hb dX4_best_69 (by decide) (fun c69 => ?_) (fun c69 => ?_)
            · -- 69 True
              have c69 : (tT ts) ≤ i := (nI_leI (a := (tT ts)) (b := i) (by omega) (by omega)).mp c69
              have hs2 : s2 = adS ts (cPk ts) (fun t => tPa ts t &&& pcg (hCg hs) (hB hs)) ss (tT ts) := by rw [hq, show i = tT ts by omega]
              refine lv_aload_n hx hb dX4_best_129 rfl (lv_at hl 3 rfl) ?_
              refine va_get (D := D) (ci := 4) (v := .ref (q 15)) (C := RX4) (T := TX4) (N := 7) hx hb hts hin4 hown hK.1 hP 0 rfl rfl 3 (by decide) (hts (.fieldLink RX4 33 "TestPicker" "sets" "LTestPicker$Sets;") (by decide +kernel)) (fun _ h9 => h9) rfl dX4_best_130 ?_
              refine lv_iload_n hx hb dX4_best_133 rfl (lv_at hl 4 rfl) ?_
              refine mu_Vv (As := [.int tm]) (rest := []) (wr := wM q c ms ++ wT q c ts ++ wH q c hs ++ wP q c ps) (wk := wC q c (ms, ts, hs, ps, (skW tm 4097 s2 1))) [15, 16, 17, 18, 19, 20, 21, 22, 23] [0, 1, 2, 3, 4, 5, 6, 7, 8, 9, 10, 11, 12, 13, 14] [0, 1, 2, 3, 4, 5, 6, 7, 8, 9, 10, 11, 12, 13, 14, 15, 16, 17, 18, 19, 20, 21, 22, 23] ⟨hx, hb, hml, hown, hts⟩ (c_X2_seekWidest l D q c s2 tm (by omega)) (cwV 1 hts gX4_best_X2_seekWidest rfl rfl rfl (by decide +kernel) ⟨Nat.le_of_ble_eq_true rfl, Nat.le_of_ble_eq_true rfl⟩) hP hK hD hS hA (va_recv hK.1 hP (ci := 2) (q0 := 15) rfl rfl) rfl rfl (by decide) (by decide) (by decide) (by decide) rfl rfl hl.1 rfl (Nat.le_of_ble_eq_true rfl) dX4_best_134 ⟨Nat.le_of_ble_eq_true rfl, Nat.le_of_ble_eq_true rfl⟩ (fun H locs hP hD hS => ?_)
              refine lv_aload_n hx hb dX4_best_137 rfl (lv_at hl 3 rfl) ?_
              refine lv_aload_n hx hb dX4_best_138 rfl (lv_at hl 3 rfl) ?_
              refine va_get (D := D) (ci := 4) (v := .ref (q 15)) (C := RX4) (T := TX4) (N := 7) hx hb hts hin4 hown hK.1 hP 0 rfl rfl 3 (by decide) (hts (.fieldLink RX4 33 "TestPicker" "sets" "LTestPicker$Sets;") (by decide +kernel)) (fun _ h9 => h9) rfl dX4_best_139 ?_
              refine va_get (D := D) (ci := 2) (v := .int (sFb (skW tm 4097 s2 1))) (C := RX2) (T := TX2) (N := 12) hx hb hts hin2 hown hK.1 hP 15 rfl rfl 9 (by decide) (hts (.fieldLink RX4 192 "TestPicker$Sets" "foundBits" "I") (by decide +kernel)) (fun _ h9 => h9) rfl dX4_best_142 ?_
              refine lv_i2l (v := (sFb (skW tm 4097 s2 1)).toInt64) hx hb dX4_best_145 rfl ?_
              refine va_put (D := D) (ci := 4) (v := .long ((sFb (skW tm 4097 s2 1)).toInt64)) (ty := .long) (C := RX4) (T := TX4) (N := 7) hx hb hts hin4 tyX4 tyX4_ok nmX4 hown hK.1 hP hD hS 0 rfl rfl 6 (by decide) (hts (.fieldLink RX4 45 "TestPicker" "latestAnswer" "J") (by decide +kernel)) (fun _ h9 => h9) rfl (by decide +kernel) rfl rfl (Nat.le_of_ble_eq_true rfl) dX4_best_146 (fun H locs hP hD hS => ?_)
              have hP : va_P D vwCl (wC q c ((mFc ms, mLf ms, (sFb (skW tm 4097 s2 1)).toInt64), ts, hs, ps, (skW tm 4097 s2 1))) H := hP
              have hD : va_D (va_A (wC q c (ms, ts, hs, ps, ss)) s.heap.size) (wC q c ((mFc ms, mLf ms, (sFb (skW tm 4097 s2 1)).toInt64), ts, hs, ps, (skW tm 4097 s2 1))) := hD
              refine lv_aload_n hx hb dX4_best_149 rfl (lv_at hl 3 rfl) ?_
              refine va_get (D := D) (ci := 4) (v := .ref (q 15)) (C := RX4) (T := TX4) (N := 7) hx hb hts hin4 hown hK.1 hP 0 rfl rfl 3 (by decide) (hts (.fieldLink RX4 33 "TestPicker" "sets" "LTestPicker$Sets;") (by decide +kernel)) (fun _ h9 => h9) rfl dX4_best_150 ?_
              refine va_get (D := D) (ci := 2) (v := .long (sFc (skW tm 4097 s2 1))) (C := RX2) (T := TX2) (N := 12) hx hb hts hin2 hown hK.1 hP 15 rfl rfl 11 (by decide) (hts (.fieldLink RX4 195 "TestPicker$Sets" "foundCover" "J") (by decide +kernel)) (fun _ h9 => h9) rfl dX4_best_153 ?_
              refine ro_Si (As := [.long (sFc (skW tm 4097 s2 1))]) (rest := []) ⟨hx, hb, hml, hown, hts⟩ (c_J13_bitCount_95d88 l D c (sFc (skW tm 4097 s2 1))) (va_cwS 1 hts gX4_best_J13_bitCount_95d88 rfl rfl rfl (by decide +kernel) ⟨Nat.le_of_ble_eq_true rfl, Nat.le_of_ble_eq_true rfl⟩) va_P0 hK rfl hl.1 rfl (Nat.le_of_ble_eq_true rfl) dX4_best_156 ⟨Nat.le_of_ble_eq_true rfl, Nat.le_of_ble_eq_true rfl⟩ ?_
              have e9 : xBest tm (ms, ts, hs, ps, ss) = (popL (sFc (skW tm 4097 s2 1)), ((mFc ms, mLf ms, (sFb (skW tm 4097 s2 1)).toInt64), ts, hs, ps, (skW tm 4097 s2 1))) := by rw [xBest, if_neg (by rw [c4]; decide), if_neg c16, if_neg (fun z => z c36)]; rw [hs2]
              rw [e9]
              exact mu_reti hx hb hr hlk hP hD hS (rfl) dX4_best_159
            · -- 69 False
              have c69 : i < (tT ts) := (Nat.not_le.mp (fun z => c69 ((nI_leI (a := (tT ts)) (b := i) (by omega) (by omega)).mpr z)))
              refine lv_iload hx hb dX4_best_72 (lv_at hl 0 rfl) ?_
              refine lv_iload_n hx hb dX4_best_74 rfl (lv_at hl 2 rfl) ?_
              refine ro_Si (As := [.int (nI i), .int (cPk ts)]) (rest := []) ⟨hx, hb, hml, hown, hts⟩ (c_X4_isIn l D c i (cPk ts) (by omega)) (va_cwS 2 hts gX4_best_X4_isIn rfl rfl rfl (by decide +kernel) ⟨Nat.le_of_ble_eq_true rfl, Nat.le_of_ble_eq_true rfl⟩) va_P0 hK rfl hl.1 rfl (Nat.le_of_ble_eq_true rfl) dX4_best_75 ⟨Nat.le_of_ble_eq_true rfl, Nat.le_of_ble_eq_true rfl⟩ ?_
              refine lv_if_eq (tgt := 123) hx hb dX4_best_78 (by decide) (fun c78 => ?_) (fun c78 => ?_)
              · -- 78 True
                have c78 := bI_z.mp c78
                refine lv_iinc (v := nI (i + 1)) (lv' := [(5, .int (nI (i + 1))), (3, .long (pcg (hCg hs) (hB hs))), (2, .int (cPk ts)), (0, .ref (q 0)), (1, .int tm)]) hx hb dX4_best_123 hl (k := 0) rfl (nI_inc _) (by decide) rfl (fun ls hl => ?_)
                refine lv_goto (tgt := 60) hx hb dX4_best_126 (by decide) ?_
                exact ih60 (i + 1) s2 (by omega) (by omega) (h12) (by rw [adS, if_neg (by rw [c78]; decide)]; exact hq) _ _ hP hD hS ls (lv_sub hl [0, 1, 2, 3, 4] rfl)
              · -- 78 False
                have c78 := bI_nz.mp c78
                refine lv_aload_n hx hb dX4_best_81 rfl (lv_at hl 3 rfl) ?_
                refine va_get (D := D) (ci := 4) (v := .ref (q 15)) (C := RX4) (T := TX4) (N := 7) hx hb hts hin4 hown hK.1 hP 0 rfl rfl 3 (by decide) (hts (.fieldLink RX4 33 "TestPicker" "sets" "LTestPicker$Sets;") (by decide +kernel)) (fun _ h9 => h9) rfl dX4_best_82 ?_
                refine lv_iconst (v := 1) hx hb dX4_best_85 (by decide) ?_
                refine lv_iload hx hb dX4_best_86 (lv_at hl 0 rfl) ?_
                refine lv_ishl hx hb dX4_best_88 ?_
                refine lv_aload_n hx hb dX4_best_89 rfl (lv_at hl 3 rfl) ?_
                refine va_get (D := D) (ci := 4) (v := .ref (q 2)) (C := RX4) (T := TX4) (N := 7) hx hb hts hin4 hown hK.1 hP 0 rfl rfl 0 (by decide) (hts (.fieldLink RX4 10 "TestPicker" "tests" "LTestPicker$Tests;") (by decide +kernel)) (fun _ h9 => h9) rfl dX4_best_90 ?_
                refine va_get (D := D) (ci := 3) (v := .ref (q 6)) (C := RX3) (T := TX3) (N := 7) hx hb hts hin3 hown hK.1 hP 2 rfl rfl 3 (by decide) (hts (.fieldLink RX4 180 "TestPicker$Tests" "chains" "[I") (by decide +kernel)) (fun _ h9 => h9) rfl dX4_best_93 ?_
                refine lv_iload hx hb dX4_best_96 (lv_at hl 0 rfl) ?_
                refine ld_i hx hb hK hP 6 (f := tCh ts) rfl (i := i) (by omega) (by decide) dX4_best_98 ?_
                refine lv_aload_n hx hb dX4_best_99 rfl (lv_at hl 3 rfl) ?_
                refine va_get (D := D) (ci := 4) (v := .ref (q 2)) (C := RX4) (T := TX4) (N := 7) hx hb hts hin4 hown hK.1 hP 0 rfl rfl 0 (by decide) (hts (.fieldLink RX4 10 "TestPicker" "tests" "LTestPicker$Tests;") (by decide +kernel)) (fun _ h9 => h9) rfl dX4_best_100 ?_
                refine lv_iload hx hb dX4_best_103 (lv_at hl 0 rfl) ?_
                refine ro_Vi (post := (cTm (tKd ts) (tOt ts) i)) (As := [.int (nI i)]) (rest := [.int (tCh ts i), .int ((1 : Int32) <<< (nI i &&& 31)), .ref (q 15)]) ⟨hx, hb, hml, hown, hts⟩ (c_X3_countedTime l D q c ts i (by omega)) (cwV 1 hts gX4_best_X3_countedTime rfl rfl rfl (by decide +kernel) ⟨Nat.le_of_ble_eq_true rfl, Nat.le_of_ble_eq_true rfl⟩) (hP.sub (ws' := wT q c ts) [2, 3, 4, 5, 6, 7, 8] rfl) hK (va_recv hK.1 hP (ci := 3) (q0 := 2) rfl rfl) rfl hl.1 rfl (Nat.le_of_ble_eq_true rfl) dX4_best_105 ⟨Nat.le_of_ble_eq_true rfl, Nat.le_of_ble_eq_true rfl⟩ ?_
                refine lv_aload_n hx hb dX4_best_108 rfl (lv_at hl 3 rfl) ?_
                refine va_get (D := D) (ci := 4) (v := .ref (q 2)) (C := RX4) (T := TX4) (N := 7) hx hb hts hin4 hown hK.1 hP 0 rfl rfl 0 (by decide) (hts (.fieldLink RX4 10 "TestPicker" "tests" "LTestPicker$Tests;") (by decide +kernel)) (fun _ h9 => h9) rfl dX4_best_109 ?_
                refine va_get (D := D) (ci := 3) (v := .ref (q 7)) (C := RX3) (T := TX3) (N := 7) hx hb hts hin3 hown hK.1 hP 2 rfl rfl 4 (by decide) (hts (.fieldLink RX4 85 "TestPicker$Tests" "parts" "[J") (by decide +kernel)) (fun _ h9 => h9) rfl dX4_best_112 ?_
                refine lv_iload hx hb dX4_best_115 (lv_at hl 0 rfl) ?_
                refine ld_l hx hb hK hP 7 (f := tPa ts) rfl (i := i) (by omega) (by decide) dX4_best_117 ?_
                refine lv_lload_n hx hb dX4_best_118 rfl (lv_at hl 1 rfl) ?_
                refine lv_land hx hb dX4_best_119 ?_
                refine mu_Vv (As := [.int ((1 : Int32) <<< (nI i &&& 31)), .int (tCh ts i), .int (cTm (tKd ts) (tOt ts) i), .long ((tPa ts i) &&& (pcg (hCg hs) (hB hs)))]) (rest := []) (wr := wM q c ms ++ wT q c ts ++ wH q c hs ++ wP q c ps) (wk := wC q c (ms, ts, hs, ps, (addS s2 ((1 : Int32) <<< (nI i &&& 31)) (tCh ts i) (cTm (tKd ts) (tOt ts) i) ((tPa ts i) &&& (pcg (hCg hs) (hB hs)))))) [15, 16, 17, 18, 19, 20, 21, 22, 23] [0, 1, 2, 3, 4, 5, 6, 7, 8, 9, 10, 11, 12, 13, 14] [0, 1, 2, 3, 4, 5, 6, 7, 8, 9, 10, 11, 12, 13, 14, 15, 16, 17, 18, 19, 20, 21, 22, 23] ⟨hx, hb, hml, hown, hts⟩ (c_X2_add l D q c s2 ((1 : Int32) <<< (nI i &&& 31)) (tCh ts i) (cTm (tKd ts) (tOt ts) i) ((tPa ts i) &&& (pcg (hCg hs) (hB hs))) (by omega)) (cwV 4 hts gX4_best_X2_add rfl rfl rfl (by decide +kernel) ⟨Nat.le_of_ble_eq_true rfl, Nat.le_of_ble_eq_true rfl⟩) hP hK hD hS hA (va_recv hK.1 hP (ci := 2) (q0 := 15) rfl rfl) rfl rfl (by decide) (by decide) (by decide) (by decide) rfl rfl hl.1 rfl (Nat.le_of_ble_eq_true rfl) dX4_best_120 ⟨Nat.le_of_ble_eq_true rfl, Nat.le_of_ble_eq_true rfl⟩ (fun H locs hP hD hS => ?_)
                refine lv_iinc (v := nI (i + 1)) (lv' := [(5, .int (nI (i + 1))), (3, .long (pcg (hCg hs) (hB hs))), (2, .int (cPk ts)), (0, .ref (q 0)), (1, .int tm)]) hx hb dX4_best_123 hl (k := 0) rfl (nI_inc _) (by decide) rfl (fun ls hl => ?_)
                refine lv_goto (tgt := 60) hx hb dX4_best_126 (by decide) ?_
                exact ih60 (i + 1) (addS s2 ((1 : Int32) <<< (nI i &&& 31)) (tCh ts i) (cTm (tKd ts) (tOt ts) i) ((tPa ts i) &&& (pcg (hCg hs) (hB hs)))) (by omega) (by omega) (add12 h12) (by rw [adS, if_pos c78, ← hq]; rfl) _ _ hP hD hS ls (lv_sub hl [0, 1, 2, 3, 4] rfl)
        exact L60 (tT ts + 1) 0 (sTb ss, sCh ss, sTi ss, sCo ss, 0, sBf ss, sCf ss, sTf ss, sVf ss, 0, 0, 0) (by omega) (by omega) (Nat.zero_le _) (rfl) _ _ hP hD hS ls (lv_sub hl [0, 1, 2, 3, 4] rfl)
      · -- 36 False
        refine lv_bipush (v := (-6)) hx hb dX4_best_39 (by decide) ?_
        have e9 : xBest tm (ms, ts, hs, ps, ss) = ((-6), (ms, ts, hs, ps, ss)) := by simp [xBest, c4, c16, c36]
        rw [e9]
        exact mu_reti hx hb hr hlk hP hD hS (rfl) dX4_best_41
    · -- 16 False
      have c16 : (hB hs) = 0 := (nI_eq (b := 0) (by omega) (by omega)).mp c16
      refine lv_bipush (v := (-4)) hx hb dX4_best_19 (by decide) ?_
      have e9 : xBest tm (ms, ts, hs, ps, ss) = ((-4), (ms, ts, hs, ps, ss)) := by simp [xBest, c4, eq_true c16]
      rw [e9]
      exact mu_reti hx hb hr hlk hP hD hS (rfl) dX4_best_21
  · -- 4 False
    have c4 := bI_z.mp c4
    refine lv_iconst (v := (-1)) hx hb dX4_best_7 (by decide) ?_
    have e9 : xBest tm (ms, ts, hs, ps, ss) = ((-1), (ms, ts, hs, ps, ss)) := by simp [xBest, c4]
    rw [e9]
    exact mu_reti hx hb hr hlk hP hD hS (rfl) dX4_best_8

set_option maxHeartbeats 4000000 in
set_option maxRecDepth 100000 in
theorem c_X4_run (l : Launch) (D : va_G) (q : Nat → Nat) (c : CT) (ms : MS) (ts : TS) (hs : HS) (ps : PS) (ss : SS) (x : Int32) (hT : tT ts ≤ 20) (hb60 : hB hs ≤ 60) (hN20 : pN ps ≤ 20) (hrow : ∀ i, i < pN ps → ∃ u, u < 20 ∧ pRow ps i = nI u) (hth : ¬ pTh ps = 0 → 0 < hB hs) : MUi l yX4_run wsX4_run ({ frames := 1, cells := 0, slots := 0, locals := 24 } : Room) [.ref (q 0), .int x] D c (wC q c (ms, ts, hs, ps, ss)) (wC q c (xRun x (ms, ts, hs, ps, ss)).2) ((xRun x (ms, ts, hs, ps, ss)).1) := by
  refine mu_start (cc := cX4_run) (maxL := 7) (ret := some .int) (by decide) rfl (Nat.le_of_ble_eq_true rfl) ?_
  intro p e s m args below meth c0 ls hx hb hr hml hown hts hlk hnm hP hK hD hS hA hl
  have hown : s.vm.findClass RX4 = some m.cls := hown
  have hl : lv_has ls 7 [(0, .ref (q 0)), (1, .int x)] := hl
  have hin1 : ∀ w ∈ wsX10, w ∈ wsX4_run := by decide +kernel
  have hin3 : ∀ w ∈ wsX30, w ∈ wsX4_run := by decide +kernel
  have hin4 : ∀ w ∈ wsX40, w ∈ wsX4_run := by decide +kernel
  refine lv_aload_n hx hb dX4_run_0 rfl (lv_at hl 0 rfl) ?_
  refine va_get (D := D) (ci := 4) (v := .ref (q 2)) (C := RX4) (T := TX4) (N := 7) hx hb hts hin4 hown hK.1 hP 0 rfl rfl 0 (by decide) (hts (.fieldLink RX4 10 "TestPicker" "tests" "LTestPicker$Tests;") (by decide +kernel)) (fun _ h9 => h9) rfl dX4_run_1 ?_
  refine lv_iload_n hx hb dX4_run_4 rfl (lv_at hl 1 rfl) ?_
  refine ro_Vi (post := bI (hAll x (tT ts))) (As := [.int x]) (rest := []) ⟨hx, hb, hml, hown, hts⟩ (c_X3_hasAll l D q c ts x) (cwV 1 hts gX4_run_X3_hasAll rfl rfl rfl (by decide +kernel) ⟨Nat.le_of_ble_eq_true rfl, Nat.le_of_ble_eq_true rfl⟩) (hP.sub (ws' := wT q c ts) [2, 3, 4, 5, 6, 7, 8] rfl) hK (va_recv hK.1 hP (ci := 3) (q0 := 2) rfl rfl) rfl hl.1 rfl (Nat.le_of_ble_eq_true rfl) dX4_run_5 ⟨Nat.le_of_ble_eq_true rfl, Nat.le_of_ble_eq_true rfl⟩ ?_
  refine lv_if_ne (tgt := 13) hx hb dX4_run_8 (by decide) (fun c8 => ?_) (fun c8 => ?_)
  · -- 8 True
    have c8 := bI_nz.mp c8
    refine lv_aload_n hx hb dX4_run_13 rfl (lv_at hl 0 rfl) ?_
    refine va_get (D := D) (ci := 4) (v := .ref (q 13)) (C := RX4) (T := TX4) (N := 7) hx hb hts hin4 hown hK.1 hP 0 rfl rfl 2 (by decide) (hts (.fieldLink RX4 26 "TestPicker" "plan" "LTestPicker$Plan;") (by decide +kernel)) (fun _ h9 => h9) rfl dX4_run_14 ?_
    refine va_get (D := D) (ci := 1) (v := .int (pTh ps)) (C := RX1) (T := TX1) (N := 7) hx hb hts hin1 hown hK.1 hP 13 rfl rfl 6 (by decide) (hts (.fieldLink RX4 161 "TestPicker$Plan" "there" "Z") (by decide +kernel)) (fun _ h9 => h9) rfl dX4_run_17 ?_
    refine lv_if_ne (tgt := 26) hx hb dX4_run_20 (by decide) (fun c20 => ?_) (fun c20 => ?_)
    · -- 20 True
      have hb0 : 0 < hB hs := hth c20
      refine lv_iconst (v := 0) hx hb dX4_run_26 (by decide) ?_
      refine lv_istore_n (lv' := [(2, .int 0), (0, .ref (q 0)), (1, .int x)]) hx hb dX4_run_27 rfl hl (by decide) rfl (fun ls hl => ?_)
      refine lv_iconst (v := 0) hx hb dX4_run_28 (by decide) ?_
      refine lv_istore_n (lv' := [(3, .int 0), (2, .int 0), (0, .ref (q 0)), (1, .int x)]) hx hb dX4_run_29 rfl hl (by decide) rfl (fun ls hl => ?_)
      refine lv_iconst (v := 0) hx hb dX4_run_30 (by decide) ?_
      refine lv_istore (lv' := [(4, .int 0), (3, .int 0), (2, .int 0), (0, .ref (q 0)), (1, .int x)]) hx hb dX4_run_31 hl (by decide) rfl (fun ls hl => ?_)
      have L33 : ∀ (n : Nat) (i : Nat) (fl : Int32) (nv : Int32) (h2 : HS), (i ≤ pN ps) → (pN ps < i + n) → (hB h2 = hB hs) → (rnS ts ps x hs i = (fl, nv, h2)) → ∀ (H : Heap) (locs : List Loc), va_P D vwCl (wC q c (ms, ts, h2, ps, ss)) H → va_D (va_A (wC q c (ms, ts, hs, ps, ss)) s.heap.size) (wC q c (ms, ts, h2, ps, ss)) → va_S (va_A (wC q c (ms, ts, hs, ps, ss)) s.heap.size) s.heap H locs → ∀ ls : Array Slot, lv_has ls 7 [(4, .int (nI i)), (3, .int nv), (2, .int fl), (0, .ref (q 0)), (1, .int x)] → W p l e ({ frames := 1, cells := 0, slots := 0, locals := 24 } : Room) s m args below meth c0 H locs 0 0 (QMi below args s D c (wC q c (ms, ts, hs, ps, ss)) (wC q c (xRun x (ms, ts, hs, ps, ss)).2) ((xRun x (ms, ts, hs, ps, ss)).1)) (F0 m 33 ls []) := by
        intro n
        induction n with
        | zero => intro i fl nv h2 hi hn hB2 hq H locs hP hD hS ls hl; exact absurd hn (by omega)
        | succ n ih33 =>
          intro i fl nv h2 hi hn hB2 hq H locs hP hD hS ls hl
          refine lv_iload hx hb dX4_run_33 (lv_at hl 0 rfl) ?_
          refine lv_aload_n hx hb dX4_run_35 rfl (lv_at hl 3 rfl) ?_
          refine va_get (D := D) (ci := 4) (v := .ref (q 13)) (C := RX4) (T := TX4) (N := 7) hx hb hts hin4 hown hK.1 hP 0 rfl rfl 2 (by decide) (hts (.fieldLink RX4 26 "TestPicker" "plan" "LTestPicker$Plan;") (by decide +kernel)) (fun _ h9 => h9) rfl dX4_run_36 ?_
          refine va_get (D := D) (ci := 1) (v := .int (nI (pN ps))) (C := RX1) (T := TX1) (N := 7) hx hb hts hin1 hown hK.1 hP 13 rfl rfl 1 (by decide) (hts (.fieldLink RX4 160 "TestPicker$Plan" "size" "I") (by decide +kernel)) (fun _ h9 => h9) rfl dX4_run_39 ?_
          refine lv_icmp_ge (tgt := 116) hx hb dX4_run_42 (by decide) (fun c42 => ?_) (fun c42 => ?_)
          · -- 42 True
            have c42 : (pN ps) ≤ i := (nI_leI (a := (pN ps)) (b := i) (by omega) (by omega)).mp c42
            refine lv_iload_n hx hb dX4_run_116 rfl (lv_at hl 1 rfl) ?_
            have e9 : xRun x (ms, ts, hs, ps, ss) = (nv, (ms, ts, h2, ps, ss)) := by rw [xRun, if_neg (by rw [c8]; decide), if_neg c20]; show ((rnS ts ps x hs (pN ps)).2.1, (ms, ts, (rnS ts ps x hs (pN ps)).2.2, ps, ss)) = _; rw [show pN ps = i by omega, hq]
            rw [e9]
            exact mu_reti hx hb hr hlk hP hD hS (rfl) dX4_run_117
          · -- 42 False
            have c42 : i < (pN ps) := (Nat.not_le.mp (fun z => c42 ((nI_leI (a := (pN ps)) (b := i) (by omega) (by omega)).mpr z)))
            obtain ⟨u, hu1, hu2⟩ := hrow i c42
            refine lv_aload_n hx hb dX4_run_45 rfl (lv_at hl 3 rfl) ?_
            refine va_get (D := D) (ci := 4) (v := .ref (q 13)) (C := RX4) (T := TX4) (N := 7) hx hb hts hin4 hown hK.1 hP 0 rfl rfl 2 (by decide) (hts (.fieldLink RX4 26 "TestPicker" "plan" "LTestPicker$Plan;") (by decide +kernel)) (fun _ h9 => h9) rfl dX4_run_46 ?_
            refine va_get (D := D) (ci := 1) (v := .ref (q 14)) (C := RX1) (T := TX1) (N := 7) hx hb hts hin1 hown hK.1 hP 13 rfl rfl 0 (by decide) (hts (.fieldLink RX4 165 "TestPicker$Plan" "row" "[I") (by decide +kernel)) (fun _ h9 => h9) rfl dX4_run_49 ?_
            refine lv_iload hx hb dX4_run_52 (lv_at hl 0 rfl) ?_
            refine ld_i hx hb hK hP 14 (f := pRow ps) rfl (i := i) (by omega) (by decide) dX4_run_54 ?_
            refine tp_i (z := nI u) (hu2) ?_
            refine lv_istore (lv' := [(5, .int (nI u)), (4, .int (nI i)), (3, .int nv), (2, .int fl), (0, .ref (q 0)), (1, .int x)]) hx hb dX4_run_55 hl (by decide) rfl (fun ls hl => ?_)
            refine lv_aload_n hx hb dX4_run_57 rfl (lv_at hl 4 rfl) ?_
            refine va_get (D := D) (ci := 4) (v := .ref (q 2)) (C := RX4) (T := TX4) (N := 7) hx hb hts hin4 hown hK.1 hP 0 rfl rfl 0 (by decide) (hts (.fieldLink RX4 10 "TestPicker" "tests" "LTestPicker$Tests;") (by decide +kernel)) (fun _ h9 => h9) rfl dX4_run_58 ?_
            refine va_get (D := D) (ci := 3) (v := .ref (q 6)) (C := RX3) (T := TX3) (N := 7) hx hb hts hin3 hown hK.1 hP 2 rfl rfl 3 (by decide) (hts (.fieldLink RX4 180 "TestPicker$Tests" "chains" "[I") (by decide +kernel)) (fun _ h9 => h9) rfl dX4_run_61 ?_
            refine lv_iload hx hb dX4_run_64 (lv_at hl 0 rfl) ?_
            refine ld_i hx hb hK hP 6 (f := tCh ts) rfl (i := u) (by omega) (by decide) dX4_run_66 ?_
            refine lv_iload_n hx hb dX4_run_67 rfl (lv_at hl 3 rfl) ?_
            refine lv_iand hx hb dX4_run_68 ?_
            refine lv_if_ne (tgt := 110) hx hb dX4_run_69 (by decide) (fun c69 => ?_) (fun c69 => ?_)
            · -- 69 True
              refine lv_iinc (v := nI (i + 1)) (lv' := [(4, .int (nI (i + 1))), (5, .int (nI u)), (3, .int nv), (2, .int fl), (0, .ref (q 0)), (1, .int x)]) hx hb dX4_run_110 hl (k := 1) rfl (nI_inc _) (by decide) rfl (fun ls hl => ?_)
              refine lv_goto (tgt := 33) hx hb dX4_run_113 (by decide) ?_
              exact ih33 (i + 1) fl nv h2 (by omega) (by omega) (by first | exact hB2 | (show hB h2 = hB hs; exact hB2)) (by rw [rnS, hq, hu2, cl_nI' hu1, if_neg c69]) _ _ hP hD hS ls (lv_sub hl [0, 2, 3, 4, 5] rfl)
            · -- 69 False
              refine lv_iload hx hb dX4_run_72 (lv_at hl 0 rfl) ?_
              refine lv_iload_n hx hb dX4_run_74 rfl (lv_at hl 5 rfl) ?_
              refine ro_Si (As := [.int (nI u), .int x]) (rest := []) ⟨hx, hb, hml, hown, hts⟩ (c_X4_isIn l D c u x (by omega)) (va_cwS 2 hts gX4_run_X4_isIn rfl rfl rfl (by decide +kernel) ⟨Nat.le_of_ble_eq_true rfl, Nat.le_of_ble_eq_true rfl⟩) va_P0 hK rfl hl.1 rfl (Nat.le_of_ble_eq_true rfl) dX4_run_75 ⟨Nat.le_of_ble_eq_true rfl, Nat.le_of_ble_eq_true rfl⟩ ?_
              refine lv_istore (lv' := [(6, .int (bI (bt x u))), (5, .int (nI u)), (4, .int (nI i)), (3, .int nv), (2, .int fl), (0, .ref (q 0)), (1, .int x)]) hx hb dX4_run_78 hl (by decide) rfl (fun ls hl => ?_)
              refine lv_aload_n hx hb dX4_run_80 rfl (lv_at hl 5 rfl) ?_
              refine va_get (D := D) (ci := 4) (v := .ref (q 9)) (C := RX4) (T := TX4) (N := 7) hx hb hts hin4 hown hK.1 hP 0 rfl rfl 1 (by decide) (hts (.fieldLink RX4 19 "TestPicker" "history" "LTestPicker$History;") (by decide +kernel)) (fun _ h9 => h9) rfl dX4_run_81 ?_
              refine lv_iload hx hb dX4_run_84 (lv_at hl 1 rfl) ?_
              refine lv_iload hx hb dX4_run_86 (lv_at hl 0 rfl) ?_
              refine mu_Vv (As := [.int (nI u), .int (bI (bt x u))]) (rest := []) (wr := wM q c ms ++ wT q c ts ++ wP q c ps ++ wS q c ss) (wk := wC q c (ms, ts, (judH h2 u (bt x u)), ps, ss)) [9, 10, 11, 12] [0, 1, 2, 3, 4, 5, 6, 7, 8, 13, 14, 15, 16, 17, 18, 19, 20, 21, 22, 23] [0, 1, 2, 3, 4, 5, 6, 7, 8, 20, 21, 22, 23, 9, 10, 11, 12, 13, 14, 15, 16, 17, 18, 19] ⟨hx, hb, hml, hown, hts⟩ (c_X0_judge l D q c h2 u (bt x u) (by omega) (by omega)) (cwV 2 hts gX4_run_X0_judge rfl rfl rfl (by decide +kernel) ⟨Nat.le_of_ble_eq_true rfl, Nat.le_of_ble_eq_true rfl⟩) hP hK hD hS hA (va_recv hK.1 hP (ci := 0) (q0 := 9) rfl rfl) rfl rfl (by decide) (by decide) (by decide) (by decide) rfl rfl hl.1 rfl (Nat.le_of_ble_eq_true rfl) dX4_run_88 ⟨Nat.le_of_ble_eq_true rfl, Nat.le_of_ble_eq_true rfl⟩ (fun H locs hP hD hS => ?_)
              refine lv_iinc (v := (nv + 1)) (lv' := [(3, .int (nv + 1)), (6, .int (bI (bt x u))), (5, .int (nI u)), (4, .int (nI i)), (2, .int fl), (0, .ref (q 0)), (1, .int x)]) hx hb dX4_run_91 hl (k := 3) rfl (rfl) (by decide) rfl (fun ls hl => ?_)
              refine lv_iload_n hx hb dX4_run_94 rfl (lv_at hl 4 rfl) ?_
              refine lv_iload hx hb dX4_run_95 (lv_at hl 1 rfl) ?_
              refine lv_if_eq (tgt := 107) hx hb dX4_run_97 (by decide) (fun c97 => ?_) (fun c97 => ?_)
              · -- 97 True
                have c97 := bI_z.mp c97
                refine lv_iconst (v := 0) hx hb dX4_run_107 (by decide) ?_
                refine lv_ior hx hb dX4_run_108 ?_
                refine lv_istore_n (lv' := [(2, .int (fl ||| 0)), (3, .int (nv + 1)), (6, .int (bI (bt x u))), (5, .int (nI u)), (4, .int (nI i)), (0, .ref (q 0)), (1, .int x)]) hx hb dX4_run_109 rfl hl (by decide) rfl (fun ls hl => ?_)
                refine lv_iinc (v := nI (i + 1)) (lv' := [(4, .int (nI (i + 1))), (2, .int (fl ||| 0)), (3, .int (nv + 1)), (6, .int (bI (bt x u))), (5, .int (nI u)), (0, .ref (q 0)), (1, .int x)]) hx hb dX4_run_110 hl (k := 4) rfl (nI_inc _) (by decide) rfl (fun ls hl => ?_)
                refine lv_goto (tgt := 33) hx hb dX4_run_113 (by decide) ?_
                exact ih33 (i + 1) (fl ||| 0) (nv + 1) (judH h2 u (bt x u)) (by omega) (by omega) (by first | exact hB2 | (show hB h2 = hB hs; exact hB2)) (by rw [rnS, hq, hu2, cl_nI' hu1, if_pos c69]; simp [c97, oneE]) _ _ hP hD hS ls (lv_sub hl [0, 2, 1, 5, 6] rfl)
              · -- 97 False
                have c97 := bI_nz.mp c97
                refine lv_iconst (v := 1) hx hb dX4_run_100 (by decide) ?_
                refine lv_iload hx hb dX4_run_101 (lv_at hl 2 rfl) ?_
                refine lv_ishl hx hb dX4_run_103 ?_
                refine lv_goto (tgt := 108) hx hb dX4_run_104 (by decide) ?_
                refine lv_ior hx hb dX4_run_108 ?_
                refine lv_istore_n (lv' := [(2, .int (fl ||| ((1 : Int32) <<< (nI u &&& 31)))), (3, .int (nv + 1)), (6, .int (bI (bt x u))), (5, .int (nI u)), (4, .int (nI i)), (0, .ref (q 0)), (1, .int x)]) hx hb dX4_run_109 rfl hl (by decide) rfl (fun ls hl => ?_)
                refine lv_iinc (v := nI (i + 1)) (lv' := [(4, .int (nI (i + 1))), (2, .int (fl ||| ((1 : Int32) <<< (nI u &&& 31)))), (3, .int (nv + 1)), (6, .int (bI (bt x u))), (5, .int (nI u)), (0, .ref (q 0)), (1, .int x)]) hx hb dX4_run_110 hl (k := 4) rfl (nI_inc _) (by decide) rfl (fun ls hl => ?_)
                refine lv_goto (tgt := 33) hx hb dX4_run_113 (by decide) ?_
                exact ih33 (i + 1) (fl ||| ((1 : Int32) <<< (nI u &&& 31))) (nv + 1) (judH h2 u (bt x u)) (by omega) (by omega) (by first | exact hB2 | (show hB h2 = hB hs; exact hB2)) (by rw [rnS, hq, hu2, cl_nI' hu1, if_pos c69]; simp [c97, oneE]) _ _ hP hD hS ls (lv_sub hl [0, 2, 1, 5, 6] rfl)
      exact L33 (pN ps + 1) 0 0 0 hs (by omega) (by omega) (rfl) (rfl) _ _ hP hD hS ls (lv_sub hl [0, 1, 2, 3, 4] rfl)
    · -- 20 False
      refine lv_bipush (v := (-4)) hx hb dX4_run_23 (by decide) ?_
      have e9 : xRun x (ms, ts, hs, ps, ss) = ((-4), (ms, ts, hs, ps, ss)) := by simp [xRun, c8, eq_true c20]
      rw [e9]
      exact mu_reti hx hb hr hlk hP hD hS (rfl) dX4_run_25
  · -- 8 False
    have c8 := bI_z.mp c8
    refine lv_iconst (v := (-1)) hx hb dX4_run_11 (by decide) ?_
    have e9 : xRun x (ms, ts, hs, ps, ss) = ((-1), (ms, ts, hs, ps, ss)) := by simp [xRun, c8]
    rw [e9]
    exact mu_reti hx hb hr hlk hP hD hS (rfl) dX4_run_12

set_option maxHeartbeats 4000000 in
set_option maxRecDepth 100000 in
theorem c_X4_suspects (l : Launch) (D : va_G) (q : Nat → Nat) (c : CT) (ms : MS) (ts : TS) (hs : HS) (ps : PS) (ss : SS)  (hT : tT ts ≤ 20) (hb60 : hB hs ≤ 60) : MUi l yX4_suspects wsX4_suspects ({ frames := 3, cells := 0, slots := 0, locals := 71 } : Room) [.ref (q 0)] D c (wC q c (ms, ts, hs, ps, ss)) (wC q c (xSuspects (ms, ts, hs, ps, ss)).2) ((xSuspects (ms, ts, hs, ps, ss)).1) := by
  refine mu_start (cc := cX4_suspects) (maxL := 8) (ret := some .int) (by decide) rfl (Nat.le_of_ble_eq_true rfl) ?_
  intro p e s m args below meth c0 ls hx hb hr hml hown hts hlk hnm hP hK hD hS hA hl
  have hown : s.vm.findClass RX4 = some m.cls := hown
  have hl : lv_has ls 8 [(0, .ref (q 0))] := hl
  have hin0 : ∀ w ∈ wsX00, w ∈ wsX4_suspects := by decide +kernel
  have hin3 : ∀ w ∈ wsX30, w ∈ wsX4_suspects := by decide +kernel
  have hin4 : ∀ w ∈ wsX40, w ∈ wsX4_suspects := by decide +kernel
  refine lv_aload_n hx hb dX4_suspects_0 rfl (lv_at hl 0 rfl) ?_
  refine va_get (D := D) (ci := 4) (v := .ref (q 9)) (C := RX4) (T := TX4) (N := 7) hx hb hts hin4 hown hK.1 hP 0 rfl rfl 1 (by decide) (hts (.fieldLink RX4 19 "TestPicker" "history" "LTestPicker$History;") (by decide +kernel)) (fun _ h9 => h9) rfl dX4_suspects_1 ?_
  refine va_get (D := D) (ci := 0) (v := .int (nI (hB hs))) (C := RX0) (T := TX0) (N := 4) hx hb hts hin0 hown hK.1 hP 9 rfl rfl 3 (by decide) (hts (.fieldLink RX4 103 "TestPicker$History" "size" "I") (by decide +kernel)) (fun _ h9 => h9) rfl dX4_suspects_4 ?_
  refine lv_if_ne (tgt := 13) hx hb dX4_suspects_7 (by decide) (fun c7 => ?_) (fun c7 => ?_)
  · -- 7 True
    have c7 : ¬ (hB hs) = 0 := fun z => c7 ((nI_eq (b := 0) (by omega) (by omega)).mpr z)
    refine lv_aload_n hx hb dX4_suspects_13 rfl (lv_at hl 0 rfl) ?_
    refine va_get (D := D) (ci := 4) (v := .ref (q 9)) (C := RX4) (T := TX4) (N := 7) hx hb hts hin4 hown hK.1 hP 0 rfl rfl 1 (by decide) (hts (.fieldLink RX4 19 "TestPicker" "history" "LTestPicker$History;") (by decide +kernel)) (fun _ h9 => h9) rfl dX4_suspects_14 ?_
    refine va_get (D := D) (ci := 0) (v := .int (nI (hB hs))) (C := RX0) (T := TX0) (N := 4) hx hb hts hin0 hown hK.1 hP 9 rfl rfl 3 (by decide) (hts (.fieldLink RX4 103 "TestPicker$History" "size" "I") (by decide +kernel)) (fun _ h9 => h9) rfl dX4_suspects_17 ?_
    refine lv_iconst (v := 1) hx hb dX4_suspects_20 (by decide) ?_
    refine lv_isub hx hb dX4_suspects_21 ?_
    refine tp_i (z := nI (hB hs - 1)) (pred1 (by omega)) ?_
    refine lv_istore_n (lv' := [(1, .int (nI (hB hs - 1))), (0, .ref (q 0))]) hx hb dX4_suspects_22 rfl hl (by decide) rfl (fun ls hl => ?_)
    refine lv_lconst (v := 0) hx hb dX4_suspects_23 (by decide) ?_
    refine lv_lstore_n (lv' := [(2, .long 0), (1, .int (nI (hB hs - 1))), (0, .ref (q 0))]) hx hb dX4_suspects_24 rfl hl (by decide) rfl (fun ls hl => ?_)
    refine lv_lconst (v := 0) hx hb dX4_suspects_25 (by decide) ?_
    refine lv_lstore (lv' := [(4, .long 0), (2, .long 0), (1, .int (nI (hB hs - 1))), (0, .ref (q 0))]) hx hb dX4_suspects_26 hl (by decide) rfl (fun ls hl => ?_)
    refine lv_iconst (v := 0) hx hb dX4_suspects_28 (by decide) ?_
    refine lv_istore (lv' := [(6, .int 0), (4, .long 0), (2, .long 0), (1, .int (nI (hB hs - 1))), (0, .ref (q 0))]) hx hb dX4_suspects_29 hl (by decide) rfl (fun ls hl => ?_)
    have L31 : ∀ (n : Nat) (i : Nat) (ac : Int64) (cl : Int64), (i ≤ tT ts) → (tT ts < i + n) → (ac = sAc ts hs i) → (cl = sCl ts hs i) → ∀ (H : Heap) (locs : List Loc), va_P D vwCl (wC q c (ms, ts, hs, ps, ss)) H → va_D (va_A (wC q c (ms, ts, hs, ps, ss)) s.heap.size) (wC q c (ms, ts, hs, ps, ss)) → va_S (va_A (wC q c (ms, ts, hs, ps, ss)) s.heap.size) s.heap H locs → ∀ ls : Array Slot, lv_has ls 8 [(6, .int (nI i)), (4, .long cl), (2, .long ac), (1, .int (nI (hB hs - 1))), (0, .ref (q 0))] → W p l e ({ frames := 3, cells := 0, slots := 0, locals := 71 } : Room) s m args below meth c0 H locs 0 0 (QMi below args s D c (wC q c (ms, ts, hs, ps, ss)) (wC q c (xSuspects (ms, ts, hs, ps, ss)).2) ((xSuspects (ms, ts, hs, ps, ss)).1)) (F0 m 31 ls []) := by
      intro n
      induction n with
      | zero => intro i ac cl hi hn h1 h2 H locs hP hD hS ls hl; exact absurd hn (by omega)
      | succ n ih31 =>
        intro i ac cl hi hn h1 h2 H locs hP hD hS ls hl
        refine lv_iload hx hb dX4_suspects_31 (lv_at hl 0 rfl) ?_
        refine lv_aload_n hx hb dX4_suspects_33 rfl (lv_at hl 4 rfl) ?_
        refine va_get (D := D) (ci := 4) (v := .ref (q 2)) (C := RX4) (T := TX4) (N := 7) hx hb hts hin4 hown hK.1 hP 0 rfl rfl 0 (by decide) (hts (.fieldLink RX4 10 "TestPicker" "tests" "LTestPicker$Tests;") (by decide +kernel)) (fun _ h9 => h9) rfl dX4_suspects_34 ?_
        refine va_get (D := D) (ci := 3) (v := .int (nI (tT ts))) (C := RX3) (T := TX3) (N := 7) hx hb hts hin3 hown hK.1 hP 2 rfl rfl 6 (by decide) (hts (.fieldLink RX4 56 "TestPicker$Tests" "size" "I") (by decide +kernel)) (fun _ h9 => h9) rfl dX4_suspects_37 ?_
        refine lv_icmp_ge (tgt := 112) hx hb dX4_suspects_40 (by decide) (fun c40 => ?_) (fun c40 => ?_)
        · -- 40 True
          have c40 : (tT ts) ≤ i := (nI_leI (a := (tT ts)) (b := i) (by omega) (by omega)).mp c40
          refine lv_aload_n hx hb dX4_suspects_112 rfl (lv_at hl 4 rfl) ?_
          refine lv_lload_n hx hb dX4_suspects_113 rfl (lv_at hl 2 rfl) ?_
          refine lv_lload hx hb dX4_suspects_114 (lv_at hl 1 rfl) ?_
          refine lv_ldc2 (own := RX4) (v := (-1)) hx hb hown (hts (.constantLong RX4 204 (-1)) (by decide +kernel)) dX4_suspects_116 ?_
          refine lv_lxor hx hb dX4_suspects_119 ?_
          refine lv_land hx hb dX4_suspects_120 ?_
          refine lv_aload_n hx hb dX4_suspects_121 rfl (lv_at hl 4 rfl) ?_
          refine va_get (D := D) (ci := 4) (v := .ref (q 9)) (C := RX4) (T := TX4) (N := 7) hx hb hts hin4 hown hK.1 hP 0 rfl rfl 1 (by decide) (hts (.fieldLink RX4 19 "TestPicker" "history" "LTestPicker$History;") (by decide +kernel)) (fun _ h9 => h9) rfl dX4_suspects_122 ?_
          refine ro_Vl (post := (pcg (hCg hs) (hB hs))) (As := []) (rest := [.long (ac &&& (cl ^^^ (-1))), .ref (q 0)]) ⟨hx, hb, hml, hown, hts⟩ (c_X0_presentChange l D q c hs (by omega)) (cwV 0 hts gX4_suspects_X0_presentChange rfl rfl rfl (by decide +kernel) ⟨Nat.le_of_ble_eq_true rfl, Nat.le_of_ble_eq_true rfl⟩) (hP.sub (ws' := wH q c hs) [9, 10, 11, 12] rfl) hK (va_recv hK.1 hP (ci := 0) (q0 := 9) rfl rfl) rfl hl.1 rfl (Nat.le_of_ble_eq_true rfl) dX4_suspects_125 ⟨Nat.le_of_ble_eq_true rfl, Nat.le_of_ble_eq_true rfl⟩ ?_
          refine lv_land hx hb dX4_suspects_128 ?_
          refine va_put (D := D) (ci := 4) (v := .long ((ac &&& (cl ^^^ (-1))) &&& (pcg (hCg hs) (hB hs)))) (ty := .long) (C := RX4) (T := TX4) (N := 7) hx hb hts hin4 tyX4 tyX4_ok nmX4 hown hK.1 hP hD hS 0 rfl rfl 6 (by decide) (hts (.fieldLink RX4 45 "TestPicker" "latestAnswer" "J") (by decide +kernel)) (fun _ h9 => h9) rfl (by decide +kernel) rfl rfl (Nat.le_of_ble_eq_true rfl) dX4_suspects_129 (fun H locs hP hD hS => ?_)
          have hP : va_P D vwCl (wC q c ((mFc ms, mLf ms, ((ac &&& (cl ^^^ (-1))) &&& (pcg (hCg hs) (hB hs)))), ts, hs, ps, ss)) H := hP
          have hD : va_D (va_A (wC q c (ms, ts, hs, ps, ss)) s.heap.size) (wC q c ((mFc ms, mLf ms, ((ac &&& (cl ^^^ (-1))) &&& (pcg (hCg hs) (hB hs)))), ts, hs, ps, ss)) := hD
          refine lv_aload_n hx hb dX4_suspects_132 rfl (lv_at hl 4 rfl) ?_
          refine va_get (D := D) (ci := 4) (v := .long ((ac &&& (cl ^^^ (-1))) &&& (pcg (hCg hs) (hB hs)))) (C := RX4) (T := TX4) (N := 7) hx hb hts hin4 hown hK.1 hP 0 rfl rfl 6 (by decide) (hts (.fieldLink RX4 45 "TestPicker" "latestAnswer" "J") (by decide +kernel)) (fun _ h9 => h9) rfl dX4_suspects_133 ?_
          refine ro_Si (As := [.long ((ac &&& (cl ^^^ (-1))) &&& (pcg (hCg hs) (hB hs)))]) (rest := []) ⟨hx, hb, hml, hown, hts⟩ (c_J13_bitCount_95d88 l D c ((ac &&& (cl ^^^ (-1))) &&& (pcg (hCg hs) (hB hs)))) (va_cwS 1 hts gX4_suspects_J13_bitCount_95d88 rfl rfl rfl (by decide +kernel) ⟨Nat.le_of_ble_eq_true rfl, Nat.le_of_ble_eq_true rfl⟩) va_P0 hK rfl hl.1 rfl (Nat.le_of_ble_eq_true rfl) dX4_suspects_136 ⟨Nat.le_of_ble_eq_true rfl, Nat.le_of_ble_eq_true rfl⟩ ?_
          have hie : i = tT ts := by omega
          subst hie
          subst h1
          subst h2
          have e9 : xSuspects (ms, ts, hs, ps, ss) = (popL (sus ts hs), ((mFc ms, mLf ms, sus ts hs), ts, hs, ps, ss)) := by rw [xSuspects, if_neg c7]
          rw [e9]
          exact mu_reti hx hb hr hlk hP hD hS (rfl) dX4_suspects_139
        · -- 40 False
          have c40 : i < (tT ts) := (Nat.not_le.mp (fun z => c40 ((nI_leI (a := (tT ts)) (b := i) (by omega) (by omega)).mpr z)))
          refine lv_aload_n hx hb dX4_suspects_43 rfl (lv_at hl 4 rfl) ?_
          refine va_get (D := D) (ci := 4) (v := .ref (q 9)) (C := RX4) (T := TX4) (N := 7) hx hb hts hin4 hown hK.1 hP 0 rfl rfl 1 (by decide) (hts (.fieldLink RX4 19 "TestPicker" "history" "LTestPicker$History;") (by decide +kernel)) (fun _ h9 => h9) rfl dX4_suspects_44 ?_
          refine lv_iload hx hb dX4_suspects_47 (lv_at hl 0 rfl) ?_
          refine lv_iload_n hx hb dX4_suspects_49 rfl (lv_at hl 3 rfl) ?_
          refine ro_Vi (post := (vIn (hFe hs) (hPs hs) i (hB hs - 1))) (As := [.int (nI i), .int (nI (hB hs - 1))]) (rest := []) ⟨hx, hb, hml, hown, hts⟩ (c_X0_verdictIn l D q c hs i (hB hs - 1) (by omega) (by omega)) (cwV 2 hts gX4_suspects_X0_verdictIn rfl rfl rfl (by decide +kernel) ⟨Nat.le_of_ble_eq_true rfl, Nat.le_of_ble_eq_true rfl⟩) (hP.sub (ws' := wH q c hs) [9, 10, 11, 12] rfl) hK (va_recv hK.1 hP (ci := 0) (q0 := 9) rfl rfl) rfl hl.1 rfl (Nat.le_of_ble_eq_true rfl) dX4_suspects_50 ⟨Nat.le_of_ble_eq_true rfl, Nat.le_of_ble_eq_true rfl⟩ ?_
          refine lv_istore (lv' := [(7, .int (vIn (hFe hs) (hPs hs) i (hB hs - 1))), (6, .int (nI i)), (4, .long cl), (2, .long ac), (1, .int (nI (hB hs - 1))), (0, .ref (q 0))]) hx hb dX4_suspects_53 hl (by decide) rfl (fun ls hl => ?_)
          refine lv_iload hx hb dX4_suspects_55 (lv_at hl 0 rfl) ?_
          refine lv_if_ne (tgt := 78) hx hb dX4_suspects_57 (by decide) (fun c57 => ?_) (fun c57 => ?_)
          · -- 57 True
            refine lv_iload hx hb dX4_suspects_78 (lv_at hl 0 rfl) ?_
            refine lv_iconst (v := 1) hx hb dX4_suspects_80 (by decide) ?_
            refine lv_icmp_ne (tgt := 106) hx hb dX4_suspects_81 (by decide) (fun c81 => ?_) (fun c81 => ?_)
            · -- 81 True
              refine lv_iinc (v := nI (i + 1)) (lv' := [(6, .int (nI (i + 1))), (7, .int (vIn (hFe hs) (hPs hs) i (hB hs - 1))), (4, .long cl), (2, .long ac), (1, .int (nI (hB hs - 1))), (0, .ref (q 0))]) hx hb dX4_suspects_106 hl (k := 1) rfl (nI_inc _) (by decide) rfl (fun ls hl => ?_)
              refine lv_goto (tgt := 31) hx hb dX4_suspects_109 (by decide) ?_
              exact ih31 (i + 1) ac cl (by omega) (by omega) (by rw [h1]; simp [orL, lOr0, c57, c81]) (by rw [h2]; simp [orL, lOr0, c57]) _ _ hP hD hS ls (lv_sub hl [0, 2, 3, 4, 5] rfl)
            · -- 81 False
              refine lv_aload_n hx hb dX4_suspects_84 rfl (lv_at hl 5 rfl) ?_
              refine lv_iload hx hb dX4_suspects_85 (lv_at hl 1 rfl) ?_
              refine ro_Vi (post := bI (cFk ts hs i)) (As := [.int (nI i)]) (rest := []) ⟨hx, hb, hml, hown, hts⟩ (c_X4_isFlaky l D q c ms ts hs ps ss i (by omega) (by omega)) (cwV 1 hts gX4_suspects_X4_isFlaky rfl rfl rfl (by decide +kernel) ⟨Nat.le_of_ble_eq_true rfl, Nat.le_of_ble_eq_true rfl⟩) hP hK (va_recv hK.1 hP (ci := 4) (q0 := 0) rfl rfl) rfl hl.1 rfl (Nat.le_of_ble_eq_true rfl) dX4_suspects_87 ⟨Nat.le_of_ble_eq_true rfl, Nat.le_of_ble_eq_true rfl⟩ ?_
              refine lv_if_ne (tgt := 106) hx hb dX4_suspects_90 (by decide) (fun c90 => ?_) (fun c90 => ?_)
              · -- 90 True
                have c90 := bI_nz.mp c90
                refine lv_iinc (v := nI (i + 1)) (lv' := [(6, .int (nI (i + 1))), (7, .int (vIn (hFe hs) (hPs hs) i (hB hs - 1))), (4, .long cl), (2, .long ac), (1, .int (nI (hB hs - 1))), (0, .ref (q 0))]) hx hb dX4_suspects_106 hl (k := 1) rfl (nI_inc _) (by decide) rfl (fun ls hl => ?_)
                refine lv_goto (tgt := 31) hx hb dX4_suspects_109 (by decide) ?_
                exact ih31 (i + 1) ac cl (by omega) (by omega) (by rw [h1]; simp [orL, lOr0, c57, c81, c90]) (by rw [h2]; simp [orL, lOr0, c57]) _ _ hP hD hS ls (lv_sub hl [0, 2, 3, 4, 5] rfl)
              · -- 90 False
                have c90 := bI_z.mp c90
                refine lv_lload_n hx hb dX4_suspects_93 rfl (lv_at hl 3 rfl) ?_
                refine lv_aload_n hx hb dX4_suspects_94 rfl (lv_at hl 5 rfl) ?_
                refine va_get (D := D) (ci := 4) (v := .ref (q 2)) (C := RX4) (T := TX4) (N := 7) hx hb hts hin4 hown hK.1 hP 0 rfl rfl 0 (by decide) (hts (.fieldLink RX4 10 "TestPicker" "tests" "LTestPicker$Tests;") (by decide +kernel)) (fun _ h9 => h9) rfl dX4_suspects_95 ?_
                refine va_get (D := D) (ci := 3) (v := .ref (q 7)) (C := RX3) (T := TX3) (N := 7) hx hb hts hin3 hown hK.1 hP 2 rfl rfl 4 (by decide) (hts (.fieldLink RX4 85 "TestPicker$Tests" "parts" "[J") (by decide +kernel)) (fun _ h9 => h9) rfl dX4_suspects_98 ?_
                refine lv_iload hx hb dX4_suspects_101 (lv_at hl 1 rfl) ?_
                refine ld_l hx hb hK hP 7 (f := tPa ts) rfl (i := i) (by omega) (by decide) dX4_suspects_103 ?_
                refine lv_lor hx hb dX4_suspects_104 ?_
                refine lv_lstore_n (lv' := [(2, .long (ac ||| (tPa ts i))), (7, .int (vIn (hFe hs) (hPs hs) i (hB hs - 1))), (6, .int (nI i)), (4, .long cl), (1, .int (nI (hB hs - 1))), (0, .ref (q 0))]) hx hb dX4_suspects_105 rfl hl (by decide) rfl (fun ls hl => ?_)
                refine lv_iinc (v := nI (i + 1)) (lv' := [(6, .int (nI (i + 1))), (2, .long (ac ||| (tPa ts i))), (7, .int (vIn (hFe hs) (hPs hs) i (hB hs - 1))), (4, .long cl), (1, .int (nI (hB hs - 1))), (0, .ref (q 0))]) hx hb dX4_suspects_106 hl (k := 2) rfl (nI_inc _) (by decide) rfl (fun ls hl => ?_)
                refine lv_goto (tgt := 31) hx hb dX4_suspects_109 (by decide) ?_
                exact ih31 (i + 1) (ac ||| (tPa ts i)) cl (by omega) (by omega) (by rw [h1]; simp [orL, lOr0, c57, c81, c90]) (by rw [h2]; simp [orL, lOr0, c57]) _ _ hP hD hS ls (lv_sub hl [0, 3, 1, 4, 5] rfl)
          · -- 57 False
            refine lv_lload hx hb dX4_suspects_60 (lv_at hl 2 rfl) ?_
            refine lv_aload_n hx hb dX4_suspects_62 rfl (lv_at hl 5 rfl) ?_
            refine va_get (D := D) (ci := 4) (v := .ref (q 2)) (C := RX4) (T := TX4) (N := 7) hx hb hts hin4 hown hK.1 hP 0 rfl rfl 0 (by decide) (hts (.fieldLink RX4 10 "TestPicker" "tests" "LTestPicker$Tests;") (by decide +kernel)) (fun _ h9 => h9) rfl dX4_suspects_63 ?_
            refine va_get (D := D) (ci := 3) (v := .ref (q 7)) (C := RX3) (T := TX3) (N := 7) hx hb hts hin3 hown hK.1 hP 2 rfl rfl 4 (by decide) (hts (.fieldLink RX4 85 "TestPicker$Tests" "parts" "[J") (by decide +kernel)) (fun _ h9 => h9) rfl dX4_suspects_66 ?_
            refine lv_iload hx hb dX4_suspects_69 (lv_at hl 1 rfl) ?_
            refine ld_l hx hb hK hP 7 (f := tPa ts) rfl (i := i) (by omega) (by decide) dX4_suspects_71 ?_
            refine lv_lor hx hb dX4_suspects_72 ?_
            refine lv_lstore (lv' := [(4, .long (cl ||| (tPa ts i))), (7, .int (vIn (hFe hs) (hPs hs) i (hB hs - 1))), (6, .int (nI i)), (2, .long ac), (1, .int (nI (hB hs - 1))), (0, .ref (q 0))]) hx hb dX4_suspects_73 hl (by decide) rfl (fun ls hl => ?_)
            refine lv_goto (tgt := 106) hx hb dX4_suspects_75 (by decide) ?_
            refine lv_iinc (v := nI (i + 1)) (lv' := [(6, .int (nI (i + 1))), (4, .long (cl ||| (tPa ts i))), (7, .int (vIn (hFe hs) (hPs hs) i (hB hs - 1))), (2, .long ac), (1, .int (nI (hB hs - 1))), (0, .ref (q 0))]) hx hb dX4_suspects_106 hl (k := 2) rfl (nI_inc _) (by decide) rfl (fun ls hl => ?_)
            refine lv_goto (tgt := 31) hx hb dX4_suspects_109 (by decide) ?_
            exact ih31 (i + 1) ac (cl ||| (tPa ts i)) (by omega) (by omega) (by rw [h1]; simp [orL, lOr0, c57]) (by rw [h2]; simp [orL, lOr0, eq_true c57]) _ _ hP hD hS ls (lv_sub hl [0, 1, 3, 4, 5] rfl)
    exact L31 (tT ts + 1) 0 0 0 (by omega) (by omega) (rfl) (rfl) _ _ hP hD hS ls (lv_sub hl [0, 1, 2, 3, 4] rfl)
  · -- 7 False
    have c7 : (hB hs) = 0 := (nI_eq (b := 0) (by omega) (by omega)).mp c7
    refine lv_bipush (v := (-4)) hx hb dX4_suspects_10 (by decide) ?_
    have e9 : xSuspects (ms, ts, hs, ps, ss) = ((-4), (ms, ts, hs, ps, ss)) := by simp [xSuspects, eq_true c7]
    rw [e9]
    exact mu_reti hx hb hr hlk hP hD hS (rfl) dX4_suspects_12

set_option maxHeartbeats 4000000 in
set_option maxRecDepth 100000 in
theorem c_X4_badWork (l : Launch) (D : va_G) (q : Nat → Nat) (c : CT) (ms : MS) (ts : TS) (hs : HS) (ps : PS) (ss : SS)  (hT : tT ts ≤ 20) (hb60 : hB hs ≤ 60) : ROi l yX4_badWork wsX4_badWork ({ frames := 3, cells := 0, slots := 0, locals := 71 } : Room) [.ref (q 0)] D c (wC q c (ms, ts, hs, ps, ss)) (xBadWork (ms, ts, hs, ps, ss)) := by
  refine ro_starti (cc := cX4_badWork) (maxL := 3) (ret := some .int) (by decide) rfl (Nat.le_of_ble_eq_true rfl) ?_
  intro p e s m args below meth c0 ls hx hb hr hml hown hts hlk hP hK hl
  have hown : s.vm.findClass RX4 = some m.cls := hown
  have hl : lv_has ls 3 [(0, .ref (q 0))] := hl
  have hin0 : ∀ w ∈ wsX00, w ∈ wsX4_badWork := by decide +kernel
  have hin3 : ∀ w ∈ wsX30, w ∈ wsX4_badWork := by decide +kernel
  have hin4 : ∀ w ∈ wsX40, w ∈ wsX4_badWork := by decide +kernel
  refine lv_aload_n hx hb dX4_badWork_0 rfl (lv_at hl 0 rfl) ?_
  refine va_get (D := D) (ci := 4) (v := .ref (q 9)) (C := RX4) (T := TX4) (N := 7) hx hb hts hin4 hown hK.1 hP 0 rfl rfl 1 (by decide) (hts (.fieldLink RX4 19 "TestPicker" "history" "LTestPicker$History;") (by decide +kernel)) (fun _ h9 => h9) rfl dX4_badWork_1 ?_
  refine va_get (D := D) (ci := 0) (v := .int (nI (hB hs))) (C := RX0) (T := TX0) (N := 4) hx hb hts hin0 hown hK.1 hP 9 rfl rfl 3 (by decide) (hts (.fieldLink RX4 103 "TestPicker$History" "size" "I") (by decide +kernel)) (fun _ h9 => h9) rfl dX4_badWork_4 ?_
  refine lv_if_ne (tgt := 13) hx hb dX4_badWork_7 (by decide) (fun c7 => ?_) (fun c7 => ?_)
  · -- 7 True
    have c7 : ¬ (hB hs) = 0 := fun z => c7 ((nI_eq (b := 0) (by omega) (by omega)).mpr z)
    refine lv_aload_n hx hb dX4_badWork_13 rfl (lv_at hl 0 rfl) ?_
    refine va_get (D := D) (ci := 4) (v := .ref (q 9)) (C := RX4) (T := TX4) (N := 7) hx hb hts hin4 hown hK.1 hP 0 rfl rfl 1 (by decide) (hts (.fieldLink RX4 19 "TestPicker" "history" "LTestPicker$History;") (by decide +kernel)) (fun _ h9 => h9) rfl dX4_badWork_14 ?_
    refine va_get (D := D) (ci := 0) (v := .int (nI (hB hs))) (C := RX0) (T := TX0) (N := 4) hx hb hts hin0 hown hK.1 hP 9 rfl rfl 3 (by decide) (hts (.fieldLink RX4 103 "TestPicker$History" "size" "I") (by decide +kernel)) (fun _ h9 => h9) rfl dX4_badWork_17 ?_
    refine lv_iconst (v := 1) hx hb dX4_badWork_20 (by decide) ?_
    refine lv_isub hx hb dX4_badWork_21 ?_
    refine tp_i (z := nI (hB hs - 1)) (pred1 (by omega)) ?_
    refine lv_istore_n (lv' := [(1, .int (nI (hB hs - 1))), (0, .ref (q 0))]) hx hb dX4_badWork_22 rfl hl (by decide) rfl (fun ls hl => ?_)
    refine lv_iconst (v := 0) hx hb dX4_badWork_23 (by decide) ?_
    refine lv_istore_n (lv' := [(2, .int 0), (1, .int (nI (hB hs - 1))), (0, .ref (q 0))]) hx hb dX4_badWork_24 rfl hl (by decide) rfl (fun ls hl => ?_)
    have L25 : ∀ (n : Nat) (i : Nat), (i ≤ tT ts) → (tT ts < i + n) → (anyB (fun t => decide (vIn (hFe hs) (hPs hs) t (hB hs - 1) = 1) && !cFk ts hs t) i = false) → ∀ ls : Array Slot, lv_has ls 3 [(2, .int (nI i)), (1, .int (nI (hB hs - 1))), (0, .ref (q 0))] → W p l e ({ frames := 3, cells := 0, slots := 0, locals := 71 } : Room) s m args below meth c0 s.heap [] 0 0 (QRi below args s (xBadWork (ms, ts, hs, ps, ss))) (F0 m 25 ls []) := by
      intro n
      induction n with
      | zero => intro i hi hn h1 ls hl; exact absurd hn (by omega)
      | succ n ih25 =>
        intro i hi hn h1 ls hl
        refine lv_iload_n hx hb dX4_badWork_25 rfl (lv_at hl 0 rfl) ?_
        refine lv_aload_n hx hb dX4_badWork_26 rfl (lv_at hl 2 rfl) ?_
        refine va_get (D := D) (ci := 4) (v := .ref (q 2)) (C := RX4) (T := TX4) (N := 7) hx hb hts hin4 hown hK.1 hP 0 rfl rfl 0 (by decide) (hts (.fieldLink RX4 10 "TestPicker" "tests" "LTestPicker$Tests;") (by decide +kernel)) (fun _ h9 => h9) rfl dX4_badWork_27 ?_
        refine va_get (D := D) (ci := 3) (v := .int (nI (tT ts))) (C := RX3) (T := TX3) (N := 7) hx hb hts hin3 hown hK.1 hP 2 rfl rfl 6 (by decide) (hts (.fieldLink RX4 56 "TestPicker$Tests" "size" "I") (by decide +kernel)) (fun _ h9 => h9) rfl dX4_badWork_30 ?_
        refine lv_icmp_ge (tgt := 65) hx hb dX4_badWork_33 (by decide) (fun c33 => ?_) (fun c33 => ?_)
        · -- 33 True
          have c33 : (tT ts) ≤ i := (nI_leI (a := (tT ts)) (b := i) (by omega) (by omega)).mp c33
          refine lv_iconst (v := 0) hx hb dX4_badWork_65 (by decide) ?_
          exact ro_reti hx hb hr hlk (by rw [xBadWork, if_neg c7]; exact (bI_f (by rw [show tT ts = i by omega]; exact h1)).symm) dX4_badWork_66
        · -- 33 False
          have c33 : i < (tT ts) := (Nat.not_le.mp (fun z => c33 ((nI_leI (a := (tT ts)) (b := i) (by omega) (by omega)).mpr z)))
          refine lv_aload_n hx hb dX4_badWork_36 rfl (lv_at hl 2 rfl) ?_
          refine va_get (D := D) (ci := 4) (v := .ref (q 9)) (C := RX4) (T := TX4) (N := 7) hx hb hts hin4 hown hK.1 hP 0 rfl rfl 1 (by decide) (hts (.fieldLink RX4 19 "TestPicker" "history" "LTestPicker$History;") (by decide +kernel)) (fun _ h9 => h9) rfl dX4_badWork_37 ?_
          refine lv_iload_n hx hb dX4_badWork_40 rfl (lv_at hl 0 rfl) ?_
          refine lv_iload_n hx hb dX4_badWork_41 rfl (lv_at hl 1 rfl) ?_
          refine ro_Vi (post := (vIn (hFe hs) (hPs hs) i (hB hs - 1))) (As := [.int (nI i), .int (nI (hB hs - 1))]) (rest := []) ⟨hx, hb, hml, hown, hts⟩ (c_X0_verdictIn l D q c hs i (hB hs - 1) (by omega) (by omega)) (cwV 2 hts gX4_badWork_X0_verdictIn rfl rfl rfl (by decide +kernel) ⟨Nat.le_of_ble_eq_true rfl, Nat.le_of_ble_eq_true rfl⟩) (hP.sub (ws' := wH q c hs) [9, 10, 11, 12] rfl) hK (va_recv hK.1 hP (ci := 0) (q0 := 9) rfl rfl) rfl hl.1 rfl (Nat.le_of_ble_eq_true rfl) dX4_badWork_42 ⟨Nat.le_of_ble_eq_true rfl, Nat.le_of_ble_eq_true rfl⟩ ?_
          refine lv_iconst (v := 1) hx hb dX4_badWork_45 (by decide) ?_
          refine lv_icmp_ne (tgt := 59) hx hb dX4_badWork_46 (by decide) (fun c46 => ?_) (fun c46 => ?_)
          · -- 46 True
            refine lv_iinc (v := nI (i + 1)) (lv' := [(2, .int (nI (i + 1))), (1, .int (nI (hB hs - 1))), (0, .ref (q 0))]) hx hb dX4_badWork_59 hl (k := 0) rfl (nI_inc _) (by decide) rfl (fun ls hl => ?_)
            refine lv_goto (tgt := 25) hx hb dX4_badWork_62 (by decide) ?_
            exact ih25 (i + 1) (by omega) (by omega) (by rw [anyB, h1]; simp [c46]) ls (lv_sub hl [0, 1, 2] rfl)
          · -- 46 False
            refine lv_aload_n hx hb dX4_badWork_49 rfl (lv_at hl 2 rfl) ?_
            refine lv_iload_n hx hb dX4_badWork_50 rfl (lv_at hl 0 rfl) ?_
            refine ro_Vi (post := bI (cFk ts hs i)) (As := [.int (nI i)]) (rest := []) ⟨hx, hb, hml, hown, hts⟩ (c_X4_isFlaky l D q c ms ts hs ps ss i (by omega) (by omega)) (cwV 1 hts gX4_badWork_X4_isFlaky rfl rfl rfl (by decide +kernel) ⟨Nat.le_of_ble_eq_true rfl, Nat.le_of_ble_eq_true rfl⟩) hP hK (va_recv hK.1 hP (ci := 4) (q0 := 0) rfl rfl) rfl hl.1 rfl (Nat.le_of_ble_eq_true rfl) dX4_badWork_51 ⟨Nat.le_of_ble_eq_true rfl, Nat.le_of_ble_eq_true rfl⟩ ?_
            refine lv_if_ne (tgt := 59) hx hb dX4_badWork_54 (by decide) (fun c54 => ?_) (fun c54 => ?_)
            · -- 54 True
              have c54 := bI_nz.mp c54
              refine lv_iinc (v := nI (i + 1)) (lv' := [(2, .int (nI (i + 1))), (1, .int (nI (hB hs - 1))), (0, .ref (q 0))]) hx hb dX4_badWork_59 hl (k := 0) rfl (nI_inc _) (by decide) rfl (fun ls hl => ?_)
              refine lv_goto (tgt := 25) hx hb dX4_badWork_62 (by decide) ?_
              exact ih25 (i + 1) (by omega) (by omega) (by rw [anyB, h1]; simp [eq_true c46, c54]) ls (lv_sub hl [0, 1, 2] rfl)
            · -- 54 False
              have c54 := bI_z.mp c54
              refine lv_iconst (v := 1) hx hb dX4_badWork_57 (by decide) ?_
              exact ro_reti hx hb hr hlk (by rw [xBadWork, if_neg c7]; exact (bI_t (any_t c33 (by simp [c46, c54]))).symm) dX4_badWork_58
    exact L25 (tT ts + 1) 0 (by omega) (by omega) (rfl) ls (lv_sub hl [0, 1, 2] rfl)
  · -- 7 False
    have c7 : (hB hs) = 0 := (nI_eq (b := 0) (by omega) (by omega)).mp c7
    refine lv_bipush (v := (-4)) hx hb dX4_badWork_10 (by decide) ?_
    exact ro_reti hx hb hr hlk (by rw [xBadWork, if_pos c7]) dX4_badWork_12

set_option maxHeartbeats 4000000 in
set_option maxRecDepth 100000 in
theorem c_X4_fewest (l : Launch) (D : va_G) (q : Nat → Nat) (c : CT) (ms : MS) (ts : TS) (hs : HS) (ps : PS) (ss : SS)  (hT : tT ts ≤ 20) (hb60 : hB hs ≤ 60) : MUi l yX4_fewest wsX4_fewest ({ frames := 4, cells := 0, slots := 0, locals := 93 } : Room) [.ref (q 0)] D c (wC q c (ms, ts, hs, ps, ss)) (wC q c (xFewest (ms, ts, hs, ps, ss)).2) ((xFewest (ms, ts, hs, ps, ss)).1) := by
  refine mu_start (cc := cX4_fewest) (maxL := 3) (ret := some .int) (by decide) rfl (Nat.le_of_ble_eq_true rfl) ?_
  intro p e s m args below meth c0 ls hx hb hr hml hown hts hlk hnm hP hK hD hS hA hl
  have hown : s.vm.findClass RX4 = some m.cls := hown
  have hl : lv_has ls 3 [(0, .ref (q 0))] := hl
  have hin0 : ∀ w ∈ wsX00, w ∈ wsX4_fewest := by decide +kernel
  have hin2 : ∀ w ∈ wsX20, w ∈ wsX4_fewest := by decide +kernel
  have hin3 : ∀ w ∈ wsX30, w ∈ wsX4_fewest := by decide +kernel
  have hin4 : ∀ w ∈ wsX40, w ∈ wsX4_fewest := by decide +kernel
  refine lv_aload_n hx hb dX4_fewest_0 rfl (lv_at hl 0 rfl) ?_
  refine ro_Vi (post := (cWit ts hs)) (As := []) (rest := []) ⟨hx, hb, hml, hown, hts⟩ (c_X4_witnesses l D q c ms ts hs ps ss (by omega) (by omega)) (cwV 0 hts gX4_fewest_X4_witnesses rfl rfl rfl (by decide +kernel) ⟨Nat.le_of_ble_eq_true rfl, Nat.le_of_ble_eq_true rfl⟩) hP hK (va_recv hK.1 hP (ci := 4) (q0 := 0) rfl rfl) rfl hl.1 rfl (Nat.le_of_ble_eq_true rfl) dX4_fewest_1 ⟨Nat.le_of_ble_eq_true rfl, Nat.le_of_ble_eq_true rfl⟩ ?_
  refine lv_istore_n (lv' := [(1, .int (cWit ts hs)), (0, .ref (q 0))]) hx hb dX4_fewest_4 rfl hl (by decide) rfl (fun ls hl => ?_)
  refine lv_iload_n hx hb dX4_fewest_5 rfl (lv_at hl 0 rfl) ?_
  refine ro_Si (As := [.int (cWit ts hs)]) (rest := []) ⟨hx, hb, hml, hown, hts⟩ (c_J6_bitCount_0f7a4 l D c (cWit ts hs)) (va_cwS 1 hts gX4_fewest_J6_bitCount_0f7a4 rfl rfl rfl (by decide +kernel) ⟨Nat.le_of_ble_eq_true rfl, Nat.le_of_ble_eq_true rfl⟩) va_P0 hK rfl hl.1 rfl (Nat.le_of_ble_eq_true rfl) dX4_fewest_6 ⟨Nat.le_of_ble_eq_true rfl, Nat.le_of_ble_eq_true rfl⟩ ?_
  refine lv_bipush (v := 12) hx hb dX4_fewest_9 (by decide) ?_
  refine lv_icmp_le (tgt := 17) hx hb dX4_fewest_11 (by decide) (fun c11 => ?_) (fun c11 => ?_)
  · -- 11 True
    refine lv_aload_n hx hb dX4_fewest_17 rfl (lv_at hl 1 rfl) ?_
    refine va_get (D := D) (ci := 4) (v := .ref (q 15)) (C := RX4) (T := TX4) (N := 7) hx hb hts hin4 hown hK.1 hP 0 rfl rfl 3 (by decide) (hts (.fieldLink RX4 33 "TestPicker" "sets" "LTestPicker$Sets;") (by decide +kernel)) (fun _ h9 => h9) rfl dX4_fewest_18 ?_
    refine mu_Vv (As := []) (rest := []) (wr := wM q c ms ++ wT q c ts ++ wH q c hs ++ wP q c ps) (wk := wC q c (ms, ts, hs, ps, (sTb ss, sCh ss, sTi ss, sCo ss, 0, sBf ss, sCf ss, sTf ss, sVf ss, 0, 0, 0))) [15, 16, 17, 18, 19, 20, 21, 22, 23] [0, 1, 2, 3, 4, 5, 6, 7, 8, 9, 10, 11, 12, 13, 14] [0, 1, 2, 3, 4, 5, 6, 7, 8, 9, 10, 11, 12, 13, 14, 15, 16, 17, 18, 19, 20, 21, 22, 23] ⟨hx, hb, hml, hown, hts⟩ (c_X2_begin l D q c ss) (cwV 0 hts gX4_fewest_X2_begin rfl rfl rfl (by decide +kernel) ⟨Nat.le_of_ble_eq_true rfl, Nat.le_of_ble_eq_true rfl⟩) hP hK hD hS hA (va_recv hK.1 hP (ci := 2) (q0 := 15) rfl rfl) rfl rfl (by decide) (by decide) (by decide) (by decide) rfl rfl hl.1 rfl (Nat.le_of_ble_eq_true rfl) dX4_fewest_21 ⟨Nat.le_of_ble_eq_true rfl, Nat.le_of_ble_eq_true rfl⟩ (fun H locs hP hD hS => ?_)
    refine lv_iconst (v := 0) hx hb dX4_fewest_24 (by decide) ?_
    refine lv_istore_n (lv' := [(2, .int 0), (1, .int (cWit ts hs)), (0, .ref (q 0))]) hx hb dX4_fewest_25 rfl hl (by decide) rfl (fun ls hl => ?_)
    have L26 : ∀ (n : Nat) (i : Nat) (s2 : SS), (i ≤ tT ts) → (tT ts < i + n) → (sN s2 ≤ 12) → (s2 = adS ts (cWit ts hs) (hFe hs) ss i) → ∀ (H : Heap) (locs : List Loc), va_P D vwCl (wC q c (ms, ts, hs, ps, s2)) H → va_D (va_A (wC q c (ms, ts, hs, ps, ss)) s.heap.size) (wC q c (ms, ts, hs, ps, s2)) → va_S (va_A (wC q c (ms, ts, hs, ps, ss)) s.heap.size) s.heap H locs → ∀ ls : Array Slot, lv_has ls 3 [(2, .int (nI i)), (1, .int (cWit ts hs)), (0, .ref (q 0))] → W p l e ({ frames := 4, cells := 0, slots := 0, locals := 93 } : Room) s m args below meth c0 H locs 0 0 (QMi below args s D c (wC q c (ms, ts, hs, ps, ss)) (wC q c (xFewest (ms, ts, hs, ps, ss)).2) ((xFewest (ms, ts, hs, ps, ss)).1)) (F0 m 26 ls []) := by
      intro n
      induction n with
      | zero => intro i s2 hi hn h12 hq H locs hP hD hS ls hl; exact absurd hn (by omega)
      | succ n ih26 =>
        intro i s2 hi hn h12 hq H locs hP hD hS ls hl
        refine lv_iload_n hx hb dX4_fewest_26 rfl (lv_at hl 0 rfl) ?_
        refine lv_aload_n hx hb dX4_fewest_27 rfl (lv_at hl 2 rfl) ?_
        refine va_get (D := D) (ci := 4) (v := .ref (q 2)) (C := RX4) (T := TX4) (N := 7) hx hb hts hin4 hown hK.1 hP 0 rfl rfl 0 (by decide) (hts (.fieldLink RX4 10 "TestPicker" "tests" "LTestPicker$Tests;") (by decide +kernel)) (fun _ h9 => h9) rfl dX4_fewest_28 ?_
        refine va_get (D := D) (ci := 3) (v := .int (nI (tT ts))) (C := RX3) (T := TX3) (N := 7) hx hb hts hin3 hown hK.1 hP 2 rfl rfl 6 (by decide) (hts (.fieldLink RX4 56 "TestPicker$Tests" "size" "I") (by decide +kernel)) (fun _ h9 => h9) rfl dX4_fewest_31 ?_
        refine lv_icmp_ge (tgt := 87) hx hb dX4_fewest_34 (by decide) (fun c34 => ?_) (fun c34 => ?_)
        · -- 34 True
          have c34 : (tT ts) ≤ i := (nI_leI (a := (tT ts)) (b := i) (by omega) (by omega)).mp c34
          have hs2 : s2 = adS ts (cWit ts hs) (hFe hs) ss (tT ts) := by rw [hq, show i = tT ts by omega]
          refine lv_aload_n hx hb dX4_fewest_87 rfl (lv_at hl 2 rfl) ?_
          refine va_get (D := D) (ci := 4) (v := .ref (q 15)) (C := RX4) (T := TX4) (N := 7) hx hb hts hin4 hown hK.1 hP 0 rfl rfl 3 (by decide) (hts (.fieldLink RX4 33 "TestPicker" "sets" "LTestPicker$Sets;") (by decide +kernel)) (fun _ h9 => h9) rfl dX4_fewest_88 ?_
          refine lv_aload_n hx hb dX4_fewest_91 rfl (lv_at hl 2 rfl) ?_
          refine lv_iload_n hx hb dX4_fewest_92 rfl (lv_at hl 1 rfl) ?_
          refine ro_Vl (post := (paS (hFe hs) (cWit ts hs) (tT ts))) (As := [.int (cWit ts hs)]) (rest := [.ref (q 15)]) ⟨hx, hb, hml, hown, hts⟩ (c_X4_buildsShown l D q c ms ts hs ps s2 (cWit ts hs) (by omega)) (cwV 1 hts gX4_fewest_X4_buildsShown rfl rfl rfl (by decide +kernel) ⟨Nat.le_of_ble_eq_true rfl, Nat.le_of_ble_eq_true rfl⟩) hP hK (va_recv hK.1 hP (ci := 4) (q0 := 0) rfl rfl) rfl hl.1 rfl (Nat.le_of_ble_eq_true rfl) dX4_fewest_93 ⟨Nat.le_of_ble_eq_true rfl, Nat.le_of_ble_eq_true rfl⟩ ?_
          refine mu_Vv (As := [.long (paS (hFe hs) (cWit ts hs) (tT ts))]) (rest := []) (wr := wM q c ms ++ wT q c ts ++ wH q c hs ++ wP q c ps) (wk := wC q c (ms, ts, hs, ps, (skF (paS (hFe hs) (cWit ts hs) (tT ts)) (enF (paS (hFe hs) (cWit ts hs) (tT ts)) (sN s2)) 4097 s2 1 13))) [15, 16, 17, 18, 19, 20, 21, 22, 23] [0, 1, 2, 3, 4, 5, 6, 7, 8, 9, 10, 11, 12, 13, 14] [0, 1, 2, 3, 4, 5, 6, 7, 8, 9, 10, 11, 12, 13, 14, 15, 16, 17, 18, 19, 20, 21, 22, 23] ⟨hx, hb, hml, hown, hts⟩ (c_X2_seekFewest l D q c s2 (paS (hFe hs) (cWit ts hs) (tT ts)) (by omega)) (cwV 1 hts gX4_fewest_X2_seekFewest rfl rfl rfl (by decide +kernel) ⟨Nat.le_of_ble_eq_true rfl, Nat.le_of_ble_eq_true rfl⟩) hP hK hD hS hA (va_recv hK.1 hP (ci := 2) (q0 := 15) rfl rfl) rfl rfl (by decide) (by decide) (by decide) (by decide) rfl rfl hl.1 rfl (Nat.le_of_ble_eq_true rfl) dX4_fewest_96 ⟨Nat.le_of_ble_eq_true rfl, Nat.le_of_ble_eq_true rfl⟩ (fun H locs hP hD hS => ?_)
          refine lv_aload_n hx hb dX4_fewest_99 rfl (lv_at hl 2 rfl) ?_
          refine lv_aload_n hx hb dX4_fewest_100 rfl (lv_at hl 2 rfl) ?_
          refine va_get (D := D) (ci := 4) (v := .ref (q 15)) (C := RX4) (T := TX4) (N := 7) hx hb hts hin4 hown hK.1 hP 0 rfl rfl 3 (by decide) (hts (.fieldLink RX4 33 "TestPicker" "sets" "LTestPicker$Sets;") (by decide +kernel)) (fun _ h9 => h9) rfl dX4_fewest_101 ?_
          refine va_get (D := D) (ci := 2) (v := .int (sFb (skF (paS (hFe hs) (cWit ts hs) (tT ts)) (enF (paS (hFe hs) (cWit ts hs) (tT ts)) (sN s2)) 4097 s2 1 13))) (C := RX2) (T := TX2) (N := 12) hx hb hts hin2 hown hK.1 hP 15 rfl rfl 9 (by decide) (hts (.fieldLink RX4 192 "TestPicker$Sets" "foundBits" "I") (by decide +kernel)) (fun _ h9 => h9) rfl dX4_fewest_104 ?_
          refine lv_i2l (v := (sFb (skF (paS (hFe hs) (cWit ts hs) (tT ts)) (enF (paS (hFe hs) (cWit ts hs) (tT ts)) (sN s2)) 4097 s2 1 13)).toInt64) hx hb dX4_fewest_107 rfl ?_
          refine va_put (D := D) (ci := 4) (v := .long ((sFb (skF (paS (hFe hs) (cWit ts hs) (tT ts)) (enF (paS (hFe hs) (cWit ts hs) (tT ts)) (sN s2)) 4097 s2 1 13)).toInt64)) (ty := .long) (C := RX4) (T := TX4) (N := 7) hx hb hts hin4 tyX4 tyX4_ok nmX4 hown hK.1 hP hD hS 0 rfl rfl 6 (by decide) (hts (.fieldLink RX4 45 "TestPicker" "latestAnswer" "J") (by decide +kernel)) (fun _ h9 => h9) rfl (by decide +kernel) rfl rfl (Nat.le_of_ble_eq_true rfl) dX4_fewest_108 (fun H locs hP hD hS => ?_)
          have hP : va_P D vwCl (wC q c ((mFc ms, mLf ms, (sFb (skF (paS (hFe hs) (cWit ts hs) (tT ts)) (enF (paS (hFe hs) (cWit ts hs) (tT ts)) (sN s2)) 4097 s2 1 13)).toInt64), ts, hs, ps, (skF (paS (hFe hs) (cWit ts hs) (tT ts)) (enF (paS (hFe hs) (cWit ts hs) (tT ts)) (sN s2)) 4097 s2 1 13))) H := hP
          have hD : va_D (va_A (wC q c (ms, ts, hs, ps, ss)) s.heap.size) (wC q c ((mFc ms, mLf ms, (sFb (skF (paS (hFe hs) (cWit ts hs) (tT ts)) (enF (paS (hFe hs) (cWit ts hs) (tT ts)) (sN s2)) 4097 s2 1 13)).toInt64), ts, hs, ps, (skF (paS (hFe hs) (cWit ts hs) (tT ts)) (enF (paS (hFe hs) (cWit ts hs) (tT ts)) (sN s2)) 4097 s2 1 13))) := hD
          refine lv_aload_n hx hb dX4_fewest_111 rfl (lv_at hl 2 rfl) ?_
          refine va_get (D := D) (ci := 4) (v := .ref (q 15)) (C := RX4) (T := TX4) (N := 7) hx hb hts hin4 hown hK.1 hP 0 rfl rfl 3 (by decide) (hts (.fieldLink RX4 33 "TestPicker" "sets" "LTestPicker$Sets;") (by decide +kernel)) (fun _ h9 => h9) rfl dX4_fewest_112 ?_
          refine va_get (D := D) (ci := 2) (v := .int (sFb (skF (paS (hFe hs) (cWit ts hs) (tT ts)) (enF (paS (hFe hs) (cWit ts hs) (tT ts)) (sN s2)) 4097 s2 1 13))) (C := RX2) (T := TX2) (N := 12) hx hb hts hin2 hown hK.1 hP 15 rfl rfl 9 (by decide) (hts (.fieldLink RX4 192 "TestPicker$Sets" "foundBits" "I") (by decide +kernel)) (fun _ h9 => h9) rfl dX4_fewest_115 ?_
          refine ro_Si (As := [.int (sFb (skF (paS (hFe hs) (cWit ts hs) (tT ts)) (enF (paS (hFe hs) (cWit ts hs) (tT ts)) (sN s2)) 4097 s2 1 13))]) (rest := []) ⟨hx, hb, hml, hown, hts⟩ (c_J6_bitCount_0f7a4 l D c (sFb (skF (paS (hFe hs) (cWit ts hs) (tT ts)) (enF (paS (hFe hs) (cWit ts hs) (tT ts)) (sN s2)) 4097 s2 1 13))) (va_cwS 1 hts gX4_fewest_J6_bitCount_0f7a4 rfl rfl rfl (by decide +kernel) ⟨Nat.le_of_ble_eq_true rfl, Nat.le_of_ble_eq_true rfl⟩) va_P0 hK rfl hl.1 rfl (Nat.le_of_ble_eq_true rfl) dX4_fewest_118 ⟨Nat.le_of_ble_eq_true rfl, Nat.le_of_ble_eq_true rfl⟩ ?_
          have e9 : xFewest (ms, ts, hs, ps, ss) = (popI (sFb (skF (paS (hFe hs) (cWit ts hs) (tT ts)) (enF (paS (hFe hs) (cWit ts hs) (tT ts)) (sN s2)) 4097 s2 1 13)), ((mFc ms, mLf ms, (sFb (skF (paS (hFe hs) (cWit ts hs) (tT ts)) (enF (paS (hFe hs) (cWit ts hs) (tT ts)) (sN s2)) 4097 s2 1 13)).toInt64), ts, hs, ps, (skF (paS (hFe hs) (cWit ts hs) (tT ts)) (enF (paS (hFe hs) (cWit ts hs) (tT ts)) (sN s2)) 4097 s2 1 13))) := by rw [xFewest, if_neg (fun z => z c11)]; rw [hs2]
          rw [e9]
          exact mu_reti hx hb hr hlk hP hD hS (rfl) dX4_fewest_121
        · -- 34 False
          have c34 : i < (tT ts) := (Nat.not_le.mp (fun z => c34 ((nI_leI (a := (tT ts)) (b := i) (by omega) (by omega)).mpr z)))
          refine lv_iload_n hx hb dX4_fewest_37 rfl (lv_at hl 0 rfl) ?_
          refine lv_iload_n hx hb dX4_fewest_38 rfl (lv_at hl 1 rfl) ?_
          refine ro_Si (As := [.int (nI i), .int (cWit ts hs)]) (rest := []) ⟨hx, hb, hml, hown, hts⟩ (c_X4_isIn l D c i (cWit ts hs) (by omega)) (va_cwS 2 hts gX4_fewest_X4_isIn rfl rfl rfl (by decide +kernel) ⟨Nat.le_of_ble_eq_true rfl, Nat.le_of_ble_eq_true rfl⟩) va_P0 hK rfl hl.1 rfl (Nat.le_of_ble_eq_true rfl) dX4_fewest_39 ⟨Nat.le_of_ble_eq_true rfl, Nat.le_of_ble_eq_true rfl⟩ ?_
          refine lv_if_eq (tgt := 81) hx hb dX4_fewest_42 (by decide) (fun c42 => ?_) (fun c42 => ?_)
          · -- 42 True
            have c42 := bI_z.mp c42
            refine lv_iinc (v := nI (i + 1)) (lv' := [(2, .int (nI (i + 1))), (1, .int (cWit ts hs)), (0, .ref (q 0))]) hx hb dX4_fewest_81 hl (k := 0) rfl (nI_inc _) (by decide) rfl (fun ls hl => ?_)
            refine lv_goto (tgt := 26) hx hb dX4_fewest_84 (by decide) ?_
            exact ih26 (i + 1) s2 (by omega) (by omega) (h12) (by rw [adS, if_neg (by rw [c42]; decide)]; exact hq) _ _ hP hD hS ls (lv_sub hl [0, 1, 2] rfl)
          · -- 42 False
            have c42 := bI_nz.mp c42
            refine lv_aload_n hx hb dX4_fewest_45 rfl (lv_at hl 2 rfl) ?_
            refine va_get (D := D) (ci := 4) (v := .ref (q 15)) (C := RX4) (T := TX4) (N := 7) hx hb hts hin4 hown hK.1 hP 0 rfl rfl 3 (by decide) (hts (.fieldLink RX4 33 "TestPicker" "sets" "LTestPicker$Sets;") (by decide +kernel)) (fun _ h9 => h9) rfl dX4_fewest_46 ?_
            refine lv_iconst (v := 1) hx hb dX4_fewest_49 (by decide) ?_
            refine lv_iload_n hx hb dX4_fewest_50 rfl (lv_at hl 0 rfl) ?_
            refine lv_ishl hx hb dX4_fewest_51 ?_
            refine lv_aload_n hx hb dX4_fewest_52 rfl (lv_at hl 2 rfl) ?_
            refine va_get (D := D) (ci := 4) (v := .ref (q 2)) (C := RX4) (T := TX4) (N := 7) hx hb hts hin4 hown hK.1 hP 0 rfl rfl 0 (by decide) (hts (.fieldLink RX4 10 "TestPicker" "tests" "LTestPicker$Tests;") (by decide +kernel)) (fun _ h9 => h9) rfl dX4_fewest_53 ?_
            refine va_get (D := D) (ci := 3) (v := .ref (q 6)) (C := RX3) (T := TX3) (N := 7) hx hb hts hin3 hown hK.1 hP 2 rfl rfl 3 (by decide) (hts (.fieldLink RX4 180 "TestPicker$Tests" "chains" "[I") (by decide +kernel)) (fun _ h9 => h9) rfl dX4_fewest_56 ?_
            refine lv_iload_n hx hb dX4_fewest_59 rfl (lv_at hl 0 rfl) ?_
            refine ld_i hx hb hK hP 6 (f := tCh ts) rfl (i := i) (by omega) (by decide) dX4_fewest_60 ?_
            refine lv_aload_n hx hb dX4_fewest_61 rfl (lv_at hl 2 rfl) ?_
            refine va_get (D := D) (ci := 4) (v := .ref (q 2)) (C := RX4) (T := TX4) (N := 7) hx hb hts hin4 hown hK.1 hP 0 rfl rfl 0 (by decide) (hts (.fieldLink RX4 10 "TestPicker" "tests" "LTestPicker$Tests;") (by decide +kernel)) (fun _ h9 => h9) rfl dX4_fewest_62 ?_
            refine lv_iload_n hx hb dX4_fewest_65 rfl (lv_at hl 0 rfl) ?_
            refine ro_Vi (post := (cTm (tKd ts) (tOt ts) i)) (As := [.int (nI i)]) (rest := [.int (tCh ts i), .int ((1 : Int32) <<< (nI i &&& 31)), .ref (q 15)]) ⟨hx, hb, hml, hown, hts⟩ (c_X3_countedTime l D q c ts i (by omega)) (cwV 1 hts gX4_fewest_X3_countedTime rfl rfl rfl (by decide +kernel) ⟨Nat.le_of_ble_eq_true rfl, Nat.le_of_ble_eq_true rfl⟩) (hP.sub (ws' := wT q c ts) [2, 3, 4, 5, 6, 7, 8] rfl) hK (va_recv hK.1 hP (ci := 3) (q0 := 2) rfl rfl) rfl hl.1 rfl (Nat.le_of_ble_eq_true rfl) dX4_fewest_66 ⟨Nat.le_of_ble_eq_true rfl, Nat.le_of_ble_eq_true rfl⟩ ?_
            refine lv_aload_n hx hb dX4_fewest_69 rfl (lv_at hl 2 rfl) ?_
            refine va_get (D := D) (ci := 4) (v := .ref (q 9)) (C := RX4) (T := TX4) (N := 7) hx hb hts hin4 hown hK.1 hP 0 rfl rfl 1 (by decide) (hts (.fieldLink RX4 19 "TestPicker" "history" "LTestPicker$History;") (by decide +kernel)) (fun _ h9 => h9) rfl dX4_fewest_70 ?_
            refine va_get (D := D) (ci := 0) (v := .ref (q 11)) (C := RX0) (T := TX0) (N := 4) hx hb hts hin0 hown hK.1 hP 9 rfl rfl 1 (by decide) (hts (.fieldLink RX4 121 "TestPicker$History" "fellIn" "[J") (by decide +kernel)) (fun _ h9 => h9) rfl dX4_fewest_73 ?_
            refine lv_iload_n hx hb dX4_fewest_76 rfl (lv_at hl 0 rfl) ?_
            refine ld_l hx hb hK hP 11 (f := hFe hs) rfl (i := i) (by omega) (by decide) dX4_fewest_77 ?_
            refine mu_Vv (As := [.int ((1 : Int32) <<< (nI i &&& 31)), .int (tCh ts i), .int (cTm (tKd ts) (tOt ts) i), .long (hFe hs i)]) (rest := []) (wr := wM q c ms ++ wT q c ts ++ wH q c hs ++ wP q c ps) (wk := wC q c (ms, ts, hs, ps, (addS s2 ((1 : Int32) <<< (nI i &&& 31)) (tCh ts i) (cTm (tKd ts) (tOt ts) i) (hFe hs i)))) [15, 16, 17, 18, 19, 20, 21, 22, 23] [0, 1, 2, 3, 4, 5, 6, 7, 8, 9, 10, 11, 12, 13, 14] [0, 1, 2, 3, 4, 5, 6, 7, 8, 9, 10, 11, 12, 13, 14, 15, 16, 17, 18, 19, 20, 21, 22, 23] ⟨hx, hb, hml, hown, hts⟩ (c_X2_add l D q c s2 ((1 : Int32) <<< (nI i &&& 31)) (tCh ts i) (cTm (tKd ts) (tOt ts) i) (hFe hs i) (by omega)) (cwV 4 hts gX4_fewest_X2_add rfl rfl rfl (by decide +kernel) ⟨Nat.le_of_ble_eq_true rfl, Nat.le_of_ble_eq_true rfl⟩) hP hK hD hS hA (va_recv hK.1 hP (ci := 2) (q0 := 15) rfl rfl) rfl rfl (by decide) (by decide) (by decide) (by decide) rfl rfl hl.1 rfl (Nat.le_of_ble_eq_true rfl) dX4_fewest_78 ⟨Nat.le_of_ble_eq_true rfl, Nat.le_of_ble_eq_true rfl⟩ (fun H locs hP hD hS => ?_)
            refine lv_iinc (v := nI (i + 1)) (lv' := [(2, .int (nI (i + 1))), (1, .int (cWit ts hs)), (0, .ref (q 0))]) hx hb dX4_fewest_81 hl (k := 0) rfl (nI_inc _) (by decide) rfl (fun ls hl => ?_)
            refine lv_goto (tgt := 26) hx hb dX4_fewest_84 (by decide) ?_
            exact ih26 (i + 1) (addS s2 ((1 : Int32) <<< (nI i &&& 31)) (tCh ts i) (cTm (tKd ts) (tOt ts) i) (hFe hs i)) (by omega) (by omega) (add12 h12) (by rw [adS, if_pos c42, ← hq]; rfl) _ _ hP hD hS ls (lv_sub hl [0, 1, 2] rfl)
    exact L26 (tT ts + 1) 0 (sTb ss, sCh ss, sTi ss, sCo ss, 0, sBf ss, sCf ss, sTf ss, sVf ss, 0, 0, 0) (by omega) (by omega) (Nat.zero_le _) (rfl) _ _ hP hD hS ls (lv_sub hl [0, 1, 2] rfl)
  · -- 11 False
    refine lv_bipush (v := (-6)) hx hb dX4_fewest_14 (by decide) ?_
    have e9 : xFewest (ms, ts, hs, ps, ss) = ((-6), (ms, ts, hs, ps, ss)) := by simp [xFewest, c11]
    rw [e9]
    exact mu_reti hx hb hr hlk hP hD hS (rfl) dX4_fewest_16

set_option maxHeartbeats 4000000 in
set_option maxRecDepth 100000 in
theorem c_X4_digest (l : Launch) (D : va_G) (q : Nat → Nat) (c : CT) (ms : MS) (ts : TS) (hs : HS) (ps : PS) (ss : SS)  (hT : tT ts ≤ 20) (hb60 : hB hs ≤ 60) : ROl l yX4_digest wsX4_digest ({ frames := 5, cells := 0, slots := 0, locals := 119 } : Room) [.ref (q 0)] D c (wC q c (ms, ts, hs, ps, ss)) (xDigest (ms, ts, hs, ps, ss)) := by
  refine ro_startl (cc := cX4_digest) (maxL := 5) (ret := some .long) (by decide) rfl (Nat.le_of_ble_eq_true rfl) ?_
  intro p e s m args below meth c0 ls hx hb hr hml hown hts hlk hP hK hl
  have hown : s.vm.findClass RX4 = some m.cls := hown
  have hl : lv_has ls 5 [(0, .ref (q 0))] := hl
  have hin0 : ∀ w ∈ wsX00, w ∈ wsX4_digest := by decide +kernel
  have hin3 : ∀ w ∈ wsX30, w ∈ wsX4_digest := by decide +kernel
  have hin4 : ∀ w ∈ wsX40, w ∈ wsX4_digest := by decide +kernel
  refine lv_ldc2 (own := RX4) (v := (17)) hx hb hown (hts (.constantLong RX4 222 (17)) (by decide +kernel)) dX4_digest_0 ?_
  refine lv_lstore_n (lv' := [(1, .long (17)), (0, .ref (q 0))]) hx hb dX4_digest_3 rfl hl (by decide) rfl (fun ls hl => ?_)
  refine lv_iconst (v := 0) hx hb dX4_digest_4 (by decide) ?_
  refine lv_istore_n (lv' := [(3, .int 0), (1, .long (17)), (0, .ref (q 0))]) hx hb dX4_digest_5 rfl hl (by decide) rfl (fun ls hl => ?_)
  have L6 : ∀ (n : Nat) (i : Nat) (a : Int64), (i ≤ tT ts) → (tT ts < i + n) → (a = dgA ts hs i) → ∀ ls : Array Slot, lv_has ls 5 [(3, .int (nI i)), (1, .long a), (0, .ref (q 0))] → W p l e ({ frames := 5, cells := 0, slots := 0, locals := 119 } : Room) s m args below meth c0 s.heap [] 0 0 (QRl below args s (xDigest (ms, ts, hs, ps, ss))) (F0 m 6 ls []) := by
    intro n
    induction n with
    | zero => intro i a hi hn h1 ls hl; exact absurd hn (by omega)
    | succ n ih6 =>
      intro i a hi hn h1 ls hl
      refine lv_iload_n hx hb dX4_digest_6 rfl (lv_at hl 0 rfl) ?_
      refine lv_aload_n hx hb dX4_digest_7 rfl (lv_at hl 2 rfl) ?_
      refine va_get (D := D) (ci := 4) (v := .ref (q 2)) (C := RX4) (T := TX4) (N := 7) hx hb hts hin4 hown hK.1 hP 0 rfl rfl 0 (by decide) (hts (.fieldLink RX4 10 "TestPicker" "tests" "LTestPicker$Tests;") (by decide +kernel)) (fun _ h9 => h9) rfl dX4_digest_8 ?_
      refine va_get (D := D) (ci := 3) (v := .int (nI (tT ts))) (C := RX3) (T := TX3) (N := 7) hx hb hts hin3 hown hK.1 hP 2 rfl rfl 6 (by decide) (hts (.fieldLink RX4 56 "TestPicker$Tests" "size" "I") (by decide +kernel)) (fun _ h9 => h9) rfl dX4_digest_11 ?_
      refine lv_icmp_ge (tgt := 30) hx hb dX4_digest_14 (by decide) (fun c14 => ?_) (fun c14 => ?_)
      · -- 14 True
        have c14 : (tT ts) ≤ i := (nI_leI (a := (tT ts)) (b := i) (by omega) (by omega)).mp c14
        refine lv_iconst (v := 0) hx hb dX4_digest_30 (by decide) ?_
        refine lv_istore_n (lv' := [(3, .int 0), (1, .long a), (0, .ref (q 0))]) hx hb dX4_digest_31 rfl hl (by decide) rfl (fun ls hl => ?_)
        have L32 : ∀ (n : Nat) (b : Nat) (a2 : Int64), (b ≤ hB hs) → (hB hs < b + n) → (a2 = dgB (hCg hs) (vIn (hFe hs) (hPs hs)) (tT ts) (dgA ts hs (tT ts)) b) → ∀ ls : Array Slot, lv_has ls 5 [(3, .int (nI b)), (1, .long a2), (0, .ref (q 0))] → W p l e ({ frames := 5, cells := 0, slots := 0, locals := 119 } : Room) s m args below meth c0 s.heap [] 0 0 (QRl below args s (xDigest (ms, ts, hs, ps, ss))) (F0 m 32 ls []) := by
          intro n
          induction n with
          | zero => intro b a2 hbB hn2 h2 ls hl; exact absurd hn2 (by omega)
          | succ n ih32 =>
            intro b a2 hbB hn2 h2 ls hl
            refine lv_iload_n hx hb dX4_digest_32 rfl (lv_at hl 0 rfl) ?_
            refine lv_aload_n hx hb dX4_digest_33 rfl (lv_at hl 2 rfl) ?_
            refine va_get (D := D) (ci := 4) (v := .ref (q 9)) (C := RX4) (T := TX4) (N := 7) hx hb hts hin4 hown hK.1 hP 0 rfl rfl 1 (by decide) (hts (.fieldLink RX4 19 "TestPicker" "history" "LTestPicker$History;") (by decide +kernel)) (fun _ h9 => h9) rfl dX4_digest_34 ?_
            refine va_get (D := D) (ci := 0) (v := .int (nI (hB hs))) (C := RX0) (T := TX0) (N := 4) hx hb hts hin0 hown hK.1 hP 9 rfl rfl 3 (by decide) (hts (.fieldLink RX4 103 "TestPicker$History" "size" "I") (by decide +kernel)) (fun _ h9 => h9) rfl dX4_digest_37 ?_
            refine lv_icmp_ge (tgt := 104) hx hb dX4_digest_40 (by decide) (fun c40 => ?_) (fun c40 => ?_)
            · -- 40 True
              have c40 : (hB hs) ≤ b := (nI_leI (a := (hB hs)) (b := b) (by omega) (by omega)).mp c40
              refine lv_lload_n hx hb dX4_digest_104 rfl (lv_at hl 1 rfl) ?_
              exact ro_retl hx hb hr hlk (by rw [h2, show b = hB hs by omega]; rfl) dX4_digest_105
            · -- 40 False
              have c40 : b < (hB hs) := (Nat.not_le.mp (fun z => c40 ((nI_leI (a := (hB hs)) (b := b) (by omega) (by omega)).mpr z)))
              refine lv_ldc2 (own := RX4) (v := (31)) hx hb hown (hts (.constantLong RX4 228 (31)) (by decide +kernel)) dX4_digest_43 ?_
              refine lv_lload_n hx hb dX4_digest_46 rfl (lv_at hl 1 rfl) ?_
              refine lv_lmul hx hb dX4_digest_47 ?_
              refine lv_aload_n hx hb dX4_digest_48 rfl (lv_at hl 2 rfl) ?_
              refine va_get (D := D) (ci := 4) (v := .ref (q 9)) (C := RX4) (T := TX4) (N := 7) hx hb hts hin4 hown hK.1 hP 0 rfl rfl 1 (by decide) (hts (.fieldLink RX4 19 "TestPicker" "history" "LTestPicker$History;") (by decide +kernel)) (fun _ h9 => h9) rfl dX4_digest_49 ?_
              refine va_get (D := D) (ci := 0) (v := .ref (q 10)) (C := RX0) (T := TX0) (N := 4) hx hb hts hin0 hown hK.1 hP 9 rfl rfl 0 (by decide) (hts (.fieldLink RX4 118 "TestPicker$History" "changes" "[J") (by decide +kernel)) (fun _ h9 => h9) rfl dX4_digest_52 ?_
              refine lv_iload_n hx hb dX4_digest_55 rfl (lv_at hl 0 rfl) ?_
              refine ld_l hx hb hK hP 10 (f := hCg hs) rfl (i := b) (by omega) (by decide) dX4_digest_56 ?_
              refine lv_ladd hx hb dX4_digest_57 ?_
              refine lv_lstore_n (lv' := [(1, .long (((31) * a2) + (hCg hs b))), (3, .int (nI b)), (0, .ref (q 0))]) hx hb dX4_digest_58 rfl hl (by decide) rfl (fun ls hl => ?_)
              refine lv_iconst (v := 0) hx hb dX4_digest_59 (by decide) ?_
              refine lv_istore (lv' := [(4, .int 0), (1, .long (((31) * a2) + (hCg hs b))), (3, .int (nI b)), (0, .ref (q 0))]) hx hb dX4_digest_60 hl (by decide) rfl (fun ls hl => ?_)
              have L62 : ∀ (n2 : Nat) (j : Nat) (a3 : Int64), (j ≤ tT ts) → (tT ts < j + n2) → (a3 = dgF (fun t => vIn (hFe hs) (hPs hs) t b) (31 * a2 + hCg hs b) j) → ∀ ls : Array Slot, lv_has ls 5 [(4, .int (nI j)), (1, .long a3), (3, .int (nI b)), (0, .ref (q 0))] → W p l e ({ frames := 5, cells := 0, slots := 0, locals := 119 } : Room) s m args below meth c0 s.heap [] 0 0 (QRl below args s (xDigest (ms, ts, hs, ps, ss))) (F0 m 62 ls []) := by
                intro n2
                induction n2 with
                | zero => intro j a3 hj hn3 h3 ls hl; exact absurd hn3 (by omega)
                | succ n2 ih62 =>
                  intro j a3 hj hn3 h3 ls hl
                  refine lv_iload hx hb dX4_digest_62 (lv_at hl 0 rfl) ?_
                  refine lv_aload_n hx hb dX4_digest_64 rfl (lv_at hl 3 rfl) ?_
                  refine va_get (D := D) (ci := 4) (v := .ref (q 2)) (C := RX4) (T := TX4) (N := 7) hx hb hts hin4 hown hK.1 hP 0 rfl rfl 0 (by decide) (hts (.fieldLink RX4 10 "TestPicker" "tests" "LTestPicker$Tests;") (by decide +kernel)) (fun _ h9 => h9) rfl dX4_digest_65 ?_
                  refine va_get (D := D) (ci := 3) (v := .int (nI (tT ts))) (C := RX3) (T := TX3) (N := 7) hx hb hts hin3 hown hK.1 hP 2 rfl rfl 6 (by decide) (hts (.fieldLink RX4 56 "TestPicker$Tests" "size" "I") (by decide +kernel)) (fun _ h9 => h9) rfl dX4_digest_68 ?_
                  refine lv_icmp_ge (tgt := 98) hx hb dX4_digest_71 (by decide) (fun c71 => ?_) (fun c71 => ?_)
                  · -- 71 True
                    have c71 : (tT ts) ≤ j := (nI_leI (a := (tT ts)) (b := j) (by omega) (by omega)).mp c71
                    refine lv_iinc (v := nI (b + 1)) (lv' := [(3, .int (nI (b + 1))), (4, .int (nI j)), (1, .long a3), (0, .ref (q 0))]) hx hb dX4_digest_98 hl (k := 2) rfl (nI_inc _) (by decide) rfl (fun ls hl => ?_)
                    refine lv_goto (tgt := 32) hx hb dX4_digest_101 (by decide) ?_
                    exact ih32 (b + 1) a3 (by omega) (by omega) (by rw [h3, show j = tT ts by omega, h2]; rfl) ls (lv_sub hl [0, 2, 3] rfl)
                  · -- 71 False
                    have c71 : j < (tT ts) := (Nat.not_le.mp (fun z => c71 ((nI_leI (a := (tT ts)) (b := j) (by omega) (by omega)).mpr z)))
                    refine lv_ldc2 (own := RX4) (v := (31)) hx hb hown (hts (.constantLong RX4 228 (31)) (by decide +kernel)) dX4_digest_74 ?_
                    refine lv_lload_n hx hb dX4_digest_77 rfl (lv_at hl 1 rfl) ?_
                    refine lv_lmul hx hb dX4_digest_78 ?_
                    refine lv_aload_n hx hb dX4_digest_79 rfl (lv_at hl 3 rfl) ?_
                    refine va_get (D := D) (ci := 4) (v := .ref (q 9)) (C := RX4) (T := TX4) (N := 7) hx hb hts hin4 hown hK.1 hP 0 rfl rfl 1 (by decide) (hts (.fieldLink RX4 19 "TestPicker" "history" "LTestPicker$History;") (by decide +kernel)) (fun _ h9 => h9) rfl dX4_digest_80 ?_
                    refine lv_iload hx hb dX4_digest_83 (lv_at hl 0 rfl) ?_
                    refine lv_iload_n hx hb dX4_digest_85 rfl (lv_at hl 2 rfl) ?_
                    refine ro_Vi (post := (vIn (hFe hs) (hPs hs) j b)) (As := [.int (nI j), .int (nI b)]) (rest := [.long ((31) * a3)]) ⟨hx, hb, hml, hown, hts⟩ (c_X0_verdictIn l D q c hs j b (by omega) (by omega)) (cwV 2 hts gX4_digest_X0_verdictIn rfl rfl rfl (by decide +kernel) ⟨Nat.le_of_ble_eq_true rfl, Nat.le_of_ble_eq_true rfl⟩) (hP.sub (ws' := wH q c hs) [9, 10, 11, 12] rfl) hK (va_recv hK.1 hP (ci := 0) (q0 := 9) rfl rfl) rfl hl.1 rfl (Nat.le_of_ble_eq_true rfl) dX4_digest_86 ⟨Nat.le_of_ble_eq_true rfl, Nat.le_of_ble_eq_true rfl⟩ ?_
                    refine lv_i2l (v := (vIn (hFe hs) (hPs hs) j b).toInt64) hx hb dX4_digest_89 rfl ?_
                    refine lv_ladd hx hb dX4_digest_90 ?_
                    refine lv_lstore_n (lv' := [(1, .long (((31) * a3) + (vIn (hFe hs) (hPs hs) j b).toInt64)), (4, .int (nI j)), (3, .int (nI b)), (0, .ref (q 0))]) hx hb dX4_digest_91 rfl hl (by decide) rfl (fun ls hl => ?_)
                    refine lv_iinc (v := nI (j + 1)) (lv' := [(4, .int (nI (j + 1))), (1, .long (((31) * a3) + (vIn (hFe hs) (hPs hs) j b).toInt64)), (3, .int (nI b)), (0, .ref (q 0))]) hx hb dX4_digest_92 hl (k := 1) rfl (nI_inc _) (by decide) rfl (fun ls hl => ?_)
                    refine lv_goto (tgt := 62) hx hb dX4_digest_95 (by decide) ?_
                    exact ih62 (j + 1) (((31) * a3) + (vIn (hFe hs) (hPs hs) j b).toInt64) (by omega) (by omega) (by rw [h3]; rfl) ls (lv_sub hl [0, 1, 2, 3] rfl)
              exact L62 (tT ts + 1) 0 (((31) * a2) + (hCg hs b)) (by omega) (by omega) (rfl) ls (lv_sub hl [0, 1, 2, 3] rfl)
        exact L32 (hB hs + 1) 0 a (by omega) (by omega) (by rw [h1, show i = tT ts by omega]; rfl) ls (lv_sub hl [0, 1, 2] rfl)
      · -- 14 False
        have c14 : i < (tT ts) := (Nat.not_le.mp (fun z => c14 ((nI_leI (a := (tT ts)) (b := i) (by omega) (by omega)).mpr z)))
        refine lv_aload_n hx hb dX4_digest_17 rfl (lv_at hl 2 rfl) ?_
        refine lv_lload_n hx hb dX4_digest_18 rfl (lv_at hl 1 rfl) ?_
        refine lv_iload_n hx hb dX4_digest_19 rfl (lv_at hl 0 rfl) ?_
        refine ro_Vl (post := (dgT ts hs a i)) (As := [.long a, .int (nI i)]) (rest := []) ⟨hx, hb, hml, hown, hts⟩ (c_X4_digestOfTest l D q c ms ts hs ps ss a i (by omega) (by omega)) (cwV 2 hts gX4_digest_X4_digestOfTest rfl rfl rfl (by decide +kernel) ⟨Nat.le_of_ble_eq_true rfl, Nat.le_of_ble_eq_true rfl⟩) hP hK (va_recv hK.1 hP (ci := 4) (q0 := 0) rfl rfl) rfl hl.1 rfl (Nat.le_of_ble_eq_true rfl) dX4_digest_20 ⟨Nat.le_of_ble_eq_true rfl, Nat.le_of_ble_eq_true rfl⟩ ?_
        refine lv_lstore_n (lv' := [(1, .long (dgT ts hs a i)), (3, .int (nI i)), (0, .ref (q 0))]) hx hb dX4_digest_23 rfl hl (by decide) rfl (fun ls hl => ?_)
        refine lv_iinc (v := nI (i + 1)) (lv' := [(3, .int (nI (i + 1))), (1, .long (dgT ts hs a i)), (0, .ref (q 0))]) hx hb dX4_digest_24 hl (k := 1) rfl (nI_inc _) (by decide) rfl (fun ls hl => ?_)
        refine lv_goto (tgt := 6) hx hb dX4_digest_27 (by decide) ?_
        exact ih6 (i + 1) (dgT ts hs a i) (by omega) (by omega) (by rw [h1]; rfl) ls (lv_sub hl [0, 1, 2] rfl)
  exact L6 (tT ts + 1) 0 (17) (by omega) (by omega) (rfl) ls (lv_sub hl [0, 1, 2] rfl)
