set_option maxHeartbeats 4000000 in
set_option maxRecDepth 100000 in
theorem c_X4_test (l : Launch) (D : va_G) (q : Nat → Nat) (c : CT) (ms : MS) (ts : TS) (hs : HS) (ps : PS) (ss : SS) (k tm nd : Int32) (hT : tT ts ≤ 20) : MUi l yX4_test wsX4_test ({ frames := 1, cells := 0, slots := 0, locals := 24 } : Room) [.ref (q 0), .int k, .int tm, .int nd] D c (wC q c (ms, ts, hs, ps, ss)) (wC q c (xTest k tm nd (ms, ts, hs, ps, ss)).2) ((xTest k tm nd (ms, ts, hs, ps, ss)).1) := by
  refine mu_start (cc := cX4_test) (maxL := 4) (ret := some .int) (by decide) rfl (Nat.le_of_ble_eq_true rfl) ?_
  intro p e s m args below meth c0 ls hx hb hr hml hown hts hlk hnm hP hK hD hS hA hl
  have hown : s.vm.findClass RX4 = some m.cls := hown
  have hl : lv_has ls 4 [(0, .ref (q 0)), (1, .int k), (2, .int tm), (3, .int nd)] := hl
  have hin3 : ∀ w ∈ wsX30, w ∈ wsX4_test := by decide +kernel
  have hin4 : ∀ w ∈ wsX40, w ∈ wsX4_test := by decide +kernel
  refine lv_iload_n hx hb dX4_test_0 rfl (lv_at hl 1 rfl) ?_
  refine ro_Si (As := [.int k]) (rest := []) ⟨hx, hb, hml, hown, hts⟩ (c_X4_isKind l D c k) (va_cwS 1 hts gX4_test_X4_isKind rfl rfl rfl (by decide +kernel) ⟨Nat.le_of_ble_eq_true rfl, Nat.le_of_ble_eq_true rfl⟩) va_P0 hK rfl hl.1 rfl (Nat.le_of_ble_eq_true rfl) dX4_test_1 ⟨Nat.le_of_ble_eq_true rfl, Nat.le_of_ble_eq_true rfl⟩ ?_
  refine lv_if_eq (tgt := 19) hx hb dX4_test_4 (by decide) (fun c4 => ?_) (fun c4 => ?_)
  · -- 4 True
    have c4 := bI_z.mp c4
    refine lv_iconst (v := (-1)) hx hb dX4_test_19 (by decide) ?_
    have e9 : xTest k tm nd (ms, ts, hs, ps, ss) = ((-1), (ms, ts, hs, ps, ss)) := by simp [xTest, c4]
    rw [e9]
    exact mu_reti hx hb hr hlk hP hD hS (rfl) dX4_test_20
  · -- 4 False
    have c4 := bI_nz.mp c4
    refine lv_iload_n hx hb dX4_test_7 rfl (lv_at hl 2 rfl) ?_
    refine lv_iconst (v := 1) hx hb dX4_test_8 (by decide) ?_
    refine lv_icmp_lt (tgt := 19) hx hb dX4_test_9 (by decide) (fun c9 => ?_) (fun c9 => ?_)
    · -- 9 True
      refine lv_iconst (v := (-1)) hx hb dX4_test_19 (by decide) ?_
      have e9 : xTest k tm nd (ms, ts, hs, ps, ss) = ((-1), (ms, ts, hs, ps, ss)) := by simp [xTest, c4, c9]
      rw [e9]
      exact mu_reti hx hb hr hlk hP hD hS (rfl) dX4_test_20
    · -- 9 False
      refine lv_iload_n hx hb dX4_test_12 rfl (lv_at hl 2 rfl) ?_
      refine lv_sipush (v := 1000) hx hb dX4_test_13 (by decide) ?_
      refine lv_icmp_le (tgt := 21) hx hb dX4_test_16 (by decide) (fun c16 => ?_) (fun c16 => ?_)
      · -- 16 True
        refine lv_iload_n hx hb dX4_test_21 rfl (lv_at hl 1 rfl) ?_
        refine lv_iconst (v := 2) hx hb dX4_test_22 (by decide) ?_
        refine lv_icmp_ne (tgt := 39) hx hb dX4_test_23 (by decide) (fun c23 => ?_) (fun c23 => ?_)
        · -- 23 True
          have hu : k = 2 → ∃ u, u < 20 ∧ nd = nI u := fun h => absurd h c23
          refine lv_aload_n hx hb dX4_test_39 rfl (lv_at hl 0 rfl) ?_
          refine va_get (D := D) (ci := 4) (v := .ref (q 2)) (C := RX4) (T := TX4) (N := 7) hx hb hts hin4 hown hK.1 hP 0 rfl rfl 0 (by decide) (hts (.fieldLink RX4 10 "TestPicker" "tests" "LTestPicker$Tests;") (by decide +kernel)) (fun _ h9 => h9) rfl dX4_test_40 ?_
          refine va_get (D := D) (ci := 3) (v := .int (nI (tT ts))) (C := RX3) (T := TX3) (N := 7) hx hb hts hin3 hown hK.1 hP 2 rfl rfl 6 (by decide) (hts (.fieldLink RX4 56 "TestPicker$Tests" "size" "I") (by decide +kernel)) (fun _ h9 => h9) rfl dX4_test_43 ?_
          refine lv_bipush (v := 20) hx hb dX4_test_46 (by decide) ?_
          refine lv_icmp_lt (tgt := 54) hx hb dX4_test_48 (by decide) (fun c48 => ?_) (fun c48 => ?_)
          · -- 48 True
            have c48 : (tT ts) < 20 := (nI_ltI (a := (tT ts)) (b := 20) (by omega) (by omega)).mp c48
            have c48b : ¬ 20 ≤ tT ts := by omega
            refine lv_aload_n hx hb dX4_test_54 rfl (lv_at hl 0 rfl) ?_
            refine va_get (D := D) (ci := 4) (v := .ref (q 2)) (C := RX4) (T := TX4) (N := 7) hx hb hts hin4 hown hK.1 hP 0 rfl rfl 0 (by decide) (hts (.fieldLink RX4 10 "TestPicker" "tests" "LTestPicker$Tests;") (by decide +kernel)) (fun _ h9 => h9) rfl dX4_test_55 ?_
            refine lv_iload_n hx hb dX4_test_58 rfl (lv_at hl 1 rfl) ?_
            refine lv_iload_n hx hb dX4_test_59 rfl (lv_at hl 2 rfl) ?_
            refine lv_iload_n hx hb dX4_test_60 rfl (lv_at hl 3 rfl) ?_
            refine mu_Vi (As := [.int k, .int tm, .int nd]) (rest := []) (wr := wM q c ms ++ wH q c hs ++ wP q c ps ++ wS q c ss) (wk := wC q c (ms, (addT ts k tm nd), hs, ps, ss)) [2, 3, 4, 5, 6, 7, 8] [0, 1, 9, 10, 11, 12, 13, 14, 15, 16, 17, 18, 19, 20, 21, 22, 23] [0, 1, 17, 18, 19, 20, 21, 22, 23, 2, 3, 4, 5, 6, 7, 8, 9, 10, 11, 12, 13, 14, 15, 16] ⟨hx, hb, hml, hown, hts⟩ (c_X3_add l D q c ts k tm nd (by omega) (by assumption)) (cwV 3 hts gX4_test_X3_add rfl rfl rfl (by decide +kernel) ⟨Nat.le_of_ble_eq_true rfl, Nat.le_of_ble_eq_true rfl⟩) hP hK hD hS hA (va_recv hK.1 hP (ci := 3) (q0 := 2) rfl rfl) rfl rfl (by decide) (by decide) (by decide) (by decide) rfl rfl hl.1 rfl (Nat.le_of_ble_eq_true rfl) dX4_test_61 ⟨Nat.le_of_ble_eq_true rfl, Nat.le_of_ble_eq_true rfl⟩ (fun H locs hP hD hS => ?_)
            have e9 : xTest k tm nd (ms, ts, hs, ps, ss) = (nI (tT ts), (ms, (addT ts k tm nd), hs, ps, ss)) := by simp [xTest, c4, c9, c16, c23, c48, c48b]
            rw [e9]
            exact mu_reti hx hb hr hlk hP hD hS (rfl) dX4_test_64
          · -- 48 False
            have c48 : 20 ≤ (tT ts) := (Nat.not_lt.mp (fun z => c48 ((nI_ltI (a := (tT ts)) (b := 20) (by omega) (by omega)).mpr z)))
            refine lv_bipush (v := (-2)) hx hb dX4_test_51 (by decide) ?_
            have e9 : xTest k tm nd (ms, ts, hs, ps, ss) = ((-2), (ms, ts, hs, ps, ss)) := by simp [xTest, c4, c9, c16, c23, c48]
            rw [e9]
            exact mu_reti hx hb hr hlk hP hD hS (rfl) dX4_test_53
        · -- 23 False
          refine lv_aload_n hx hb dX4_test_26 rfl (lv_at hl 0 rfl) ?_
          refine va_get (D := D) (ci := 4) (v := .ref (q 2)) (C := RX4) (T := TX4) (N := 7) hx hb hts hin4 hown hK.1 hP 0 rfl rfl 0 (by decide) (hts (.fieldLink RX4 10 "TestPicker" "tests" "LTestPicker$Tests;") (by decide +kernel)) (fun _ h9 => h9) rfl dX4_test_27 ?_
          refine lv_iload_n hx hb dX4_test_30 rfl (lv_at hl 3 rfl) ?_
          refine ro_Vi (post := bI (inN nd (tT ts))) (As := [.int nd]) (rest := []) ⟨hx, hb, hml, hown, hts⟩ (c_X3_has l D q c ts nd) (cwV 1 hts gX4_test_X3_has rfl rfl rfl (by decide +kernel) ⟨Nat.le_of_ble_eq_true rfl, Nat.le_of_ble_eq_true rfl⟩) (hP.sub (ws' := wT q c ts) [2, 3, 4, 5, 6, 7, 8] rfl) hK (va_recv hK.1 hP (ci := 3) (q0 := 2) rfl rfl) rfl hl.1 rfl (Nat.le_of_ble_eq_true rfl) dX4_test_31 ⟨Nat.le_of_ble_eq_true rfl, Nat.le_of_ble_eq_true rfl⟩ ?_
          refine lv_if_ne (tgt := 39) hx hb dX4_test_34 (by decide) (fun c34 => ?_) (fun c34 => ?_)
          · -- 34 True
            have c34 := bI_nz.mp c34
            have hu : k = 2 → ∃ u, u < 20 ∧ nd = nI u := fun _ => by obtain ⟨u, h1, h2⟩ := inN_ex (by omega) c34; exact ⟨u, by omega, h2⟩
            refine lv_aload_n hx hb dX4_test_39 rfl (lv_at hl 0 rfl) ?_
            refine va_get (D := D) (ci := 4) (v := .ref (q 2)) (C := RX4) (T := TX4) (N := 7) hx hb hts hin4 hown hK.1 hP 0 rfl rfl 0 (by decide) (hts (.fieldLink RX4 10 "TestPicker" "tests" "LTestPicker$Tests;") (by decide +kernel)) (fun _ h9 => h9) rfl dX4_test_40 ?_
            refine va_get (D := D) (ci := 3) (v := .int (nI (tT ts))) (C := RX3) (T := TX3) (N := 7) hx hb hts hin3 hown hK.1 hP 2 rfl rfl 6 (by decide) (hts (.fieldLink RX4 56 "TestPicker$Tests" "size" "I") (by decide +kernel)) (fun _ h9 => h9) rfl dX4_test_43 ?_
            refine lv_bipush (v := 20) hx hb dX4_test_46 (by decide) ?_
            refine lv_icmp_lt (tgt := 54) hx hb dX4_test_48 (by decide) (fun c48 => ?_) (fun c48 => ?_)
            · -- 48 True
              have c48 : (tT ts) < 20 := (nI_ltI (a := (tT ts)) (b := 20) (by omega) (by omega)).mp c48
              have c48b : ¬ 20 ≤ tT ts := by omega
              refine lv_aload_n hx hb dX4_test_54 rfl (lv_at hl 0 rfl) ?_
              refine va_get (D := D) (ci := 4) (v := .ref (q 2)) (C := RX4) (T := TX4) (N := 7) hx hb hts hin4 hown hK.1 hP 0 rfl rfl 0 (by decide) (hts (.fieldLink RX4 10 "TestPicker" "tests" "LTestPicker$Tests;") (by decide +kernel)) (fun _ h9 => h9) rfl dX4_test_55 ?_
              refine lv_iload_n hx hb dX4_test_58 rfl (lv_at hl 1 rfl) ?_
              refine lv_iload_n hx hb dX4_test_59 rfl (lv_at hl 2 rfl) ?_
              refine lv_iload_n hx hb dX4_test_60 rfl (lv_at hl 3 rfl) ?_
              refine mu_Vi (As := [.int k, .int tm, .int nd]) (rest := []) (wr := wM q c ms ++ wH q c hs ++ wP q c ps ++ wS q c ss) (wk := wC q c (ms, (addT ts k tm nd), hs, ps, ss)) [2, 3, 4, 5, 6, 7, 8] [0, 1, 9, 10, 11, 12, 13, 14, 15, 16, 17, 18, 19, 20, 21, 22, 23] [0, 1, 17, 18, 19, 20, 21, 22, 23, 2, 3, 4, 5, 6, 7, 8, 9, 10, 11, 12, 13, 14, 15, 16] ⟨hx, hb, hml, hown, hts⟩ (c_X3_add l D q c ts k tm nd (by omega) (by assumption)) (cwV 3 hts gX4_test_X3_add rfl rfl rfl (by decide +kernel) ⟨Nat.le_of_ble_eq_true rfl, Nat.le_of_ble_eq_true rfl⟩) hP hK hD hS hA (va_recv hK.1 hP (ci := 3) (q0 := 2) rfl rfl) rfl rfl (by decide) (by decide) (by decide) (by decide) rfl rfl hl.1 rfl (Nat.le_of_ble_eq_true rfl) dX4_test_61 ⟨Nat.le_of_ble_eq_true rfl, Nat.le_of_ble_eq_true rfl⟩ (fun H locs hP hD hS => ?_)
              have e9 : xTest k tm nd (ms, ts, hs, ps, ss) = (nI (tT ts), (ms, (addT ts k tm nd), hs, ps, ss)) := by simp [xTest, c4, c9, c16, eq_true c23, c34, c48, c48b]
              rw [e9]
              exact mu_reti hx hb hr hlk hP hD hS (rfl) dX4_test_64
            · -- 48 False
              have c48 : 20 ≤ (tT ts) := (Nat.not_lt.mp (fun z => c48 ((nI_ltI (a := (tT ts)) (b := 20) (by omega) (by omega)).mpr z)))
              refine lv_bipush (v := (-2)) hx hb dX4_test_51 (by decide) ?_
              have e9 : xTest k tm nd (ms, ts, hs, ps, ss) = ((-2), (ms, ts, hs, ps, ss)) := by simp [xTest, c4, c9, c16, eq_true c23, c34, c48]
              rw [e9]
              exact mu_reti hx hb hr hlk hP hD hS (rfl) dX4_test_53
          · -- 34 False
            have c34 := bI_z.mp c34
            refine lv_iconst (v := (-1)) hx hb dX4_test_37 (by decide) ?_
            have e9 : xTest k tm nd (ms, ts, hs, ps, ss) = ((-1), (ms, ts, hs, ps, ss)) := by simp [xTest, c4, c9, c16, eq_true c23, c34]
            rw [e9]
            exact mu_reti hx hb hr hlk hP hD hS (rfl) dX4_test_38
      · -- 16 False
        refine lv_iconst (v := (-1)) hx hb dX4_test_19 (by decide) ?_
        have e9 : xTest k tm nd (ms, ts, hs, ps, ss) = ((-1), (ms, ts, hs, ps, ss)) := by simp [xTest, c4, c9, c16]
        rw [e9]
        exact mu_reti hx hb hr hlk hP hD hS (rfl) dX4_test_20

set_option maxHeartbeats 4000000 in
set_option maxRecDepth 100000 in
theorem c_X4_turn (l : Launch) (D : va_G) (q : Nat → Nat) (c : CT) (ms : MS) (ts : TS) (hs : HS) (ps : PS) (ss : SS) (x k : Int32) (hT : tT ts ≤ 20) : MUi l yX4_turn wsX4_turn ({ frames := 1, cells := 0, slots := 0, locals := 21 } : Room) [.ref (q 0), .int x, .int k] D c (wC q c (ms, ts, hs, ps, ss)) (wC q c (xTurn x k (ms, ts, hs, ps, ss)).2) ((xTurn x k (ms, ts, hs, ps, ss)).1) := by
  refine mu_start (cc := cX4_turn) (maxL := 4) (ret := some .int) (by decide) rfl (Nat.le_of_ble_eq_true rfl) ?_
  intro p e s m args below meth c0 ls hx hb hr hml hown hts hlk hnm hP hK hD hS hA hl
  have hown : s.vm.findClass RX4 = some m.cls := hown
  have hl : lv_has ls 4 [(0, .ref (q 0)), (1, .int x), (2, .int k)] := hl
  have hin3 : ∀ w ∈ wsX30, w ∈ wsX4_turn := by decide +kernel
  have hin4 : ∀ w ∈ wsX40, w ∈ wsX4_turn := by decide +kernel
  refine lv_aload_n hx hb dX4_turn_0 rfl (lv_at hl 0 rfl) ?_
  refine va_get (D := D) (ci := 4) (v := .ref (q 2)) (C := RX4) (T := TX4) (N := 7) hx hb hts hin4 hown hK.1 hP 0 rfl rfl 0 (by decide) (hts (.fieldLink RX4 10 "TestPicker" "tests" "LTestPicker$Tests;") (by decide +kernel)) (fun _ h9 => h9) rfl dX4_turn_1 ?_
  refine lv_iload_n hx hb dX4_turn_4 rfl (lv_at hl 1 rfl) ?_
  refine ro_Vi (post := bI (inN x (tT ts))) (As := [.int x]) (rest := []) ⟨hx, hb, hml, hown, hts⟩ (c_X3_has l D q c ts x) (cwV 1 hts gX4_turn_X3_has rfl rfl rfl (by decide +kernel) ⟨Nat.le_of_ble_eq_true rfl, Nat.le_of_ble_eq_true rfl⟩) (hP.sub (ws' := wT q c ts) [2, 3, 4, 5, 6, 7, 8] rfl) hK (va_recv hK.1 hP (ci := 3) (q0 := 2) rfl rfl) rfl hl.1 rfl (Nat.le_of_ble_eq_true rfl) dX4_turn_5 ⟨Nat.le_of_ble_eq_true rfl, Nat.le_of_ble_eq_true rfl⟩ ?_
  refine lv_if_eq (tgt := 23) hx hb dX4_turn_8 (by decide) (fun c8 => ?_) (fun c8 => ?_)
  · -- 8 True
    have c8 := bI_z.mp c8
    refine lv_iconst (v := (-1)) hx hb dX4_turn_23 (by decide) ?_
    have e9 : xTurn x k (ms, ts, hs, ps, ss) = ((-1), (ms, ts, hs, ps, ss)) := by simp [xTurn, c8]
    rw [e9]
    exact mu_reti hx hb hr hlk hP hD hS (rfl) dX4_turn_24
  · -- 8 False
    have c8 := bI_nz.mp c8
    obtain ⟨t, ht, rfl⟩ := inN_ex (by omega) c8
    refine lv_iload_n hx hb dX4_turn_11 rfl (lv_at hl 2 rfl) ?_
    refine ro_Si (As := [.int k]) (rest := []) ⟨hx, hb, hml, hown, hts⟩ (c_X4_isKind l D c k) (va_cwS 1 hts gX4_turn_X4_isKind rfl rfl rfl (by decide +kernel) ⟨Nat.le_of_ble_eq_true rfl, Nat.le_of_ble_eq_true rfl⟩) va_P0 hK rfl hl.1 rfl (Nat.le_of_ble_eq_true rfl) dX4_turn_12 ⟨Nat.le_of_ble_eq_true rfl, Nat.le_of_ble_eq_true rfl⟩ ?_
    refine lv_if_eq (tgt := 23) hx hb dX4_turn_15 (by decide) (fun c15 => ?_) (fun c15 => ?_)
    · -- 15 True
      have c15 := bI_z.mp c15
      refine lv_iconst (v := (-1)) hx hb dX4_turn_23 (by decide) ?_
      have e9 : xTurn (nI t) k (ms, ts, hs, ps, ss) = ((-1), (ms, ts, hs, ps, ss)) := by simp [xTurn, c8, c15, nI_clamp (show t < 2 ^ 31 by omega)]
      rw [e9]
      exact mu_reti hx hb hr hlk hP hD hS (rfl) dX4_turn_24
    · -- 15 False
      have c15 := bI_nz.mp c15
      refine lv_iload_n hx hb dX4_turn_18 rfl (lv_at hl 2 rfl) ?_
      refine lv_iconst (v := 2) hx hb dX4_turn_19 (by decide) ?_
      refine lv_icmp_ne (tgt := 25) hx hb dX4_turn_20 (by decide) (fun c20 => ?_) (fun c20 => ?_)
      · -- 20 True
        refine lv_aload_n hx hb dX4_turn_25 rfl (lv_at hl 0 rfl) ?_
        refine va_get (D := D) (ci := 4) (v := .ref (q 2)) (C := RX4) (T := TX4) (N := 7) hx hb hts hin4 hown hK.1 hP 0 rfl rfl 0 (by decide) (hts (.fieldLink RX4 10 "TestPicker" "tests" "LTestPicker$Tests;") (by decide +kernel)) (fun _ h9 => h9) rfl dX4_turn_26 ?_
        refine va_get (D := D) (ci := 3) (v := .ref (q 3)) (C := RX3) (T := TX3) (N := 7) hx hb hts hin3 hown hK.1 hP 2 rfl rfl 0 (by decide) (hts (.fieldLink RX4 63 "TestPicker$Tests" "kinds" "[I") (by decide +kernel)) (fun _ h9 => h9) rfl dX4_turn_29 ?_
        refine lv_iload_n hx hb dX4_turn_32 rfl (lv_at hl 1 rfl) ?_
        refine ld_i hx hb hK hP 3 (f := tKd ts) rfl (i := t) (by omega) (by decide) dX4_turn_33 ?_
        refine lv_istore_n (lv' := [(3, .int (tKd ts t)), (0, .ref (q 0)), (1, .int (nI t)), (2, .int k)]) hx hb dX4_turn_34 rfl hl (by decide) rfl (fun ls hl => ?_)
        refine lv_iload_n hx hb dX4_turn_35 rfl (lv_at hl 0 rfl) ?_
        refine lv_iconst (v := 2) hx hb dX4_turn_36 (by decide) ?_
        refine lv_icmp_ne (tgt := 46) hx hb dX4_turn_37 (by decide) (fun c37 => ?_) (fun c37 => ?_)
        · -- 37 True
          refine lv_aload_n hx hb dX4_turn_46 rfl (lv_at hl 1 rfl) ?_
          refine va_get (D := D) (ci := 4) (v := .ref (q 2)) (C := RX4) (T := TX4) (N := 7) hx hb hts hin4 hown hK.1 hP 0 rfl rfl 0 (by decide) (hts (.fieldLink RX4 10 "TestPicker" "tests" "LTestPicker$Tests;") (by decide +kernel)) (fun _ h9 => h9) rfl dX4_turn_47 ?_
          refine va_get (D := D) (ci := 3) (v := .ref (q 3)) (C := RX3) (T := TX3) (N := 7) hx hb hts hin3 hown hK.1 hP 2 rfl rfl 0 (by decide) (hts (.fieldLink RX4 63 "TestPicker$Tests" "kinds" "[I") (by decide +kernel)) (fun _ h9 => h9) rfl dX4_turn_50 ?_
          refine lv_iload_n hx hb dX4_turn_53 rfl (lv_at hl 2 rfl) ?_
          refine lv_iload_n hx hb dX4_turn_54 rfl (lv_at hl 3 rfl) ?_
          refine st_i hx hb hK hP hD hS 3 rfl (i := t) (by omega) (by decide) dX4_turn_55 (fun H locs hP hD hS => ?_)
          have hP : va_P D vwCl (wC q c (ms, ((upd (tKd ts) t k), tOt ts, tNd ts, tCh ts, tPa ts, tTn ts, tT ts), hs, ps, ss)) H := hP
          have hD : va_D (va_A (wC q c (ms, ts, hs, ps, ss)) s.heap.size) (wC q c (ms, ((upd (tKd ts) t k), tOt ts, tNd ts, tCh ts, tPa ts, tTn ts, tT ts), hs, ps, ss)) := hD
          refine lv_iload_n hx hb dX4_turn_56 rfl (lv_at hl 0 rfl) ?_
          have e9 : xTurn (nI t) k (ms, ts, hs, ps, ss) = ((tKd ts t), (ms, ((upd (tKd ts) t k), tOt ts, tNd ts, tCh ts, tPa ts, tTn ts, tT ts), hs, ps, ss)) := by simp [xTurn, c8, c15, c20, c37, nI_clamp (show t < 2 ^ 31 by omega)]
          rw [e9]
          exact mu_reti hx hb hr hlk hP hD hS (rfl) dX4_turn_57
        · -- 37 False
          refine lv_aload_n hx hb dX4_turn_40 rfl (lv_at hl 1 rfl) ?_
          refine lv_iconst (v := 3) hx hb dX4_turn_41 (by decide) ?_
          refine mu_Vi (As := [.int 3]) (rest := []) (wr := []) (wk := wC q c ((refM ms 3), ts, hs, ps, ss)) [0, 1, 2, 3, 4, 5, 6, 7, 8, 9, 10, 11, 12, 13, 14, 15, 16, 17, 18, 19, 20, 21, 22, 23] [] [0, 1, 2, 3, 4, 5, 6, 7, 8, 9, 10, 11, 12, 13, 14, 15, 16, 17, 18, 19, 20, 21, 22, 23] ⟨hx, hb, hml, hown, hts⟩ (c_X4_refuse l D q c ms ts hs ps ss 3 (by omega)) (cwV 1 hts gX4_turn_X4_refuse rfl rfl rfl (by decide +kernel) ⟨Nat.le_of_ble_eq_true rfl, Nat.le_of_ble_eq_true rfl⟩) hP hK hD hS hA (va_recv hK.1 hP (ci := 4) (q0 := 0) rfl rfl) rfl rfl (by decide) (by decide) (by decide) (by decide) rfl rfl hl.1 rfl (Nat.le_of_ble_eq_true rfl) dX4_turn_42 ⟨Nat.le_of_ble_eq_true rfl, Nat.le_of_ble_eq_true rfl⟩ (fun H locs hP hD hS => ?_)
          have e9 : xTurn (nI t) k (ms, ts, hs, ps, ss) = ((-3), ((refM ms 3), ts, hs, ps, ss)) := by simp [xTurn, c8, c15, c20, eq_true c37, nI_clamp (show t < 2 ^ 31 by omega)]
          rw [e9]
          exact mu_reti hx hb hr hlk hP hD hS (rfl) dX4_turn_45
      · -- 20 False
        refine lv_iconst (v := (-1)) hx hb dX4_turn_23 (by decide) ?_
        have e9 : xTurn (nI t) k (ms, ts, hs, ps, ss) = ((-1), (ms, ts, hs, ps, ss)) := by simp [xTurn, c8, c15, eq_true c20, nI_clamp (show t < 2 ^ 31 by omega)]
        rw [e9]
        exact mu_reti hx hb hr hlk hP hD hS (rfl) dX4_turn_24

set_option maxHeartbeats 4000000 in
set_option maxRecDepth 100000 in
theorem c_X4_reach (l : Launch) (D : va_G) (q : Nat → Nat) (c : CT) (ms : MS) (ts : TS) (hs : HS) (ps : PS) (ss : SS) (x i b : Int32) (hT : tT ts ≤ 20) : MUi l yX4_reach wsX4_reach ({ frames := 1, cells := 0, slots := 0, locals := 23 } : Room) [.ref (q 0), .int x, .int i, .int b] D c (wC q c (ms, ts, hs, ps, ss)) (wC q c (xReach x i b (ms, ts, hs, ps, ss)).2) ((xReach x i b (ms, ts, hs, ps, ss)).1) := by
  refine mu_start (cc := cX4_reach) (maxL := 5) (ret := some .int) (by decide) rfl (Nat.le_of_ble_eq_true rfl) ?_
  intro p e s m args below meth c0 ls hx hb hr hml hown hts hlk hnm hP hK hD hS hA hl
  have hown : s.vm.findClass RX4 = some m.cls := hown
  have hl : lv_has ls 5 [(0, .ref (q 0)), (1, .int x), (2, .int i), (3, .int b)] := hl
  have hin3 : ∀ w ∈ wsX30, w ∈ wsX4_reach := by decide +kernel
  have hin4 : ∀ w ∈ wsX40, w ∈ wsX4_reach := by decide +kernel
  refine lv_aload_n hx hb dX4_reach_0 rfl (lv_at hl 0 rfl) ?_
  refine va_get (D := D) (ci := 4) (v := .ref (q 2)) (C := RX4) (T := TX4) (N := 7) hx hb hts hin4 hown hK.1 hP 0 rfl rfl 0 (by decide) (hts (.fieldLink RX4 10 "TestPicker" "tests" "LTestPicker$Tests;") (by decide +kernel)) (fun _ h9 => h9) rfl dX4_reach_1 ?_
  refine lv_iload_n hx hb dX4_reach_4 rfl (lv_at hl 1 rfl) ?_
  refine ro_Vi (post := bI (inN x (tT ts))) (As := [.int x]) (rest := []) ⟨hx, hb, hml, hown, hts⟩ (c_X3_has l D q c ts x) (cwV 1 hts gX4_reach_X3_has rfl rfl rfl (by decide +kernel) ⟨Nat.le_of_ble_eq_true rfl, Nat.le_of_ble_eq_true rfl⟩) (hP.sub (ws' := wT q c ts) [2, 3, 4, 5, 6, 7, 8] rfl) hK (va_recv hK.1 hP (ci := 3) (q0 := 2) rfl rfl) rfl hl.1 rfl (Nat.le_of_ble_eq_true rfl) dX4_reach_5 ⟨Nat.le_of_ble_eq_true rfl, Nat.le_of_ble_eq_true rfl⟩ ?_
  refine lv_if_eq (tgt := 22) hx hb dX4_reach_8 (by decide) (fun c8 => ?_) (fun c8 => ?_)
  · -- 8 True
    have c8 := bI_z.mp c8
    refine lv_iconst (v := (-1)) hx hb dX4_reach_22 (by decide) ?_
    have e9 : xReach x i b (ms, ts, hs, ps, ss) = ((-1), (ms, ts, hs, ps, ss)) := by simp [xReach, c8]
    rw [e9]
    exact mu_reti hx hb hr hlk hP hD hS (rfl) dX4_reach_23
  · -- 8 False
    have c8 := bI_nz.mp c8
    obtain ⟨t, ht, rfl⟩ := inN_ex (by omega) c8
    refine lv_iload_n hx hb dX4_reach_11 rfl (lv_at hl 3 rfl) ?_
    refine lv_if_lt (tgt := 22) hx hb dX4_reach_12 (by decide) (fun c12 => ?_) (fun c12 => ?_)
    · -- 12 True
      refine lv_iconst (v := (-1)) hx hb dX4_reach_22 (by decide) ?_
      have e9 : xReach (nI t) i b (ms, ts, hs, ps, ss) = ((-1), (ms, ts, hs, ps, ss)) := by simp [xReach, c8, c12, nI_clamp (show t < 2 ^ 31 by omega)]
      rw [e9]
      exact mu_reti hx hb hr hlk hP hD hS (rfl) dX4_reach_23
    · -- 12 False
      refine lv_iload_n hx hb dX4_reach_15 rfl (lv_at hl 3 rfl) ?_
      refine lv_sipush (v := 255) hx hb dX4_reach_16 (by decide) ?_
      refine lv_icmp_le (tgt := 24) hx hb dX4_reach_19 (by decide) (fun c19 => ?_) (fun c19 => ?_)
      · -- 19 True
        refine lv_aload_n hx hb dX4_reach_24 rfl (lv_at hl 0 rfl) ?_
        refine va_get (D := D) (ci := 4) (v := .ref (q 2)) (C := RX4) (T := TX4) (N := 7) hx hb hts hin4 hown hK.1 hP 0 rfl rfl 0 (by decide) (hts (.fieldLink RX4 10 "TestPicker" "tests" "LTestPicker$Tests;") (by decide +kernel)) (fun _ h9 => h9) rfl dX4_reach_25 ?_
        refine va_get (D := D) (ci := 3) (v := .ref (q 8)) (C := RX3) (T := TX3) (N := 7) hx hb hts hin3 hown hK.1 hP 2 rfl rfl 5 (by decide) (hts (.fieldLink RX4 70 "TestPicker$Tests" "torn" "[Z") (by decide +kernel)) (fun _ h9 => h9) rfl dX4_reach_28 ?_
        refine lv_iload_n hx hb dX4_reach_31 rfl (lv_at hl 1 rfl) ?_
        refine ld_z hx hb hK hP 8 (f := tTn ts) rfl (i := t) (by omega) (by decide) dX4_reach_32 ?_
        refine lv_if_eq (tgt := 42) hx hb dX4_reach_33 (by decide) (fun c33 => ?_) (fun c33 => ?_)
        · -- 33 True
          refine lv_iload_n hx hb dX4_reach_42 rfl (lv_at hl 2 rfl) ?_
          refine ro_Si (As := [.int i]) (rest := []) ⟨hx, hb, hml, hown, hts⟩ (c_X4_isPlace l D c i) (va_cwS 1 hts gX4_reach_X4_isPlace rfl rfl rfl (by decide +kernel) ⟨Nat.le_of_ble_eq_true rfl, Nat.le_of_ble_eq_true rfl⟩) va_P0 hK rfl hl.1 rfl (Nat.le_of_ble_eq_true rfl) dX4_reach_43 ⟨Nat.le_of_ble_eq_true rfl, Nat.le_of_ble_eq_true rfl⟩ ?_
          refine lv_if_ne (tgt := 55) hx hb dX4_reach_46 (by decide) (fun c46 => ?_) (fun c46 => ?_)
          · -- 46 True
            have c46 := bI_nz.mp c46
            obtain ⟨j, hj, rfl⟩ := inN_ex (by omega) c46
            refine lv_aload_n hx hb dX4_reach_55 rfl (lv_at hl 0 rfl) ?_
            refine va_get (D := D) (ci := 4) (v := .ref (q 2)) (C := RX4) (T := TX4) (N := 7) hx hb hts hin4 hown hK.1 hP 0 rfl rfl 0 (by decide) (hts (.fieldLink RX4 10 "TestPicker" "tests" "LTestPicker$Tests;") (by decide +kernel)) (fun _ h9 => h9) rfl dX4_reach_56 ?_
            refine lv_iload_n hx hb dX4_reach_59 rfl (lv_at hl 1 rfl) ?_
            refine lv_iload_n hx hb dX4_reach_60 rfl (lv_at hl 2 rfl) ?_
            refine ro_Vi (post := (byB (tPa ts t) j)) (As := [.int (nI t), .int (nI j)]) (rest := []) ⟨hx, hb, hml, hown, hts⟩ (c_X3_reachByte l D q c ts t j (by omega)) (cwV 2 hts gX4_reach_X3_reachByte rfl rfl rfl (by decide +kernel) ⟨Nat.le_of_ble_eq_true rfl, Nat.le_of_ble_eq_true rfl⟩) (hP.sub (ws' := wT q c ts) [2, 3, 4, 5, 6, 7, 8] rfl) hK (va_recv hK.1 hP (ci := 3) (q0 := 2) rfl rfl) rfl hl.1 rfl (Nat.le_of_ble_eq_true rfl) dX4_reach_61 ⟨Nat.le_of_ble_eq_true rfl, Nat.le_of_ble_eq_true rfl⟩ ?_
            refine lv_istore (lv' := [(4, .int (byB (tPa ts t) j)), (0, .ref (q 0)), (1, .int (nI t)), (2, .int (nI j)), (3, .int b)]) hx hb dX4_reach_64 hl (by decide) rfl (fun ls hl => ?_)
            refine lv_aload_n hx hb dX4_reach_66 rfl (lv_at hl 1 rfl) ?_
            refine va_get (D := D) (ci := 4) (v := .ref (q 2)) (C := RX4) (T := TX4) (N := 7) hx hb hts hin4 hown hK.1 hP 0 rfl rfl 0 (by decide) (hts (.fieldLink RX4 10 "TestPicker" "tests" "LTestPicker$Tests;") (by decide +kernel)) (fun _ h9 => h9) rfl dX4_reach_67 ?_
            refine lv_iload_n hx hb dX4_reach_70 rfl (lv_at hl 2 rfl) ?_
            refine lv_iload_n hx hb dX4_reach_71 rfl (lv_at hl 3 rfl) ?_
            refine lv_iload_n hx hb dX4_reach_72 rfl (lv_at hl 4 rfl) ?_
            refine mu_Vv (As := [.int (nI t), .int (nI j), .int b]) (rest := []) (wr := wM q c ms ++ wH q c hs ++ wP q c ps ++ wS q c ss) (wk := wC q c (ms, (tKd ts, tOt ts, tNd ts, tCh ts, (vp_updL (tPa ts) t (setB ((tPa ts) t) j b)), tTn ts, tT ts), hs, ps, ss)) [2, 3, 4, 5, 6, 7, 8] [0, 1, 9, 10, 11, 12, 13, 14, 15, 16, 17, 18, 19, 20, 21, 22, 23] [0, 1, 17, 18, 19, 20, 21, 22, 23, 2, 3, 4, 5, 6, 7, 8, 9, 10, 11, 12, 13, 14, 15, 16] ⟨hx, hb, hml, hown, hts⟩ (c_X3_setReachByte l D q c ts t j b (by omega)) (cwV 3 hts gX4_reach_X3_setReachByte rfl rfl rfl (by decide +kernel) ⟨Nat.le_of_ble_eq_true rfl, Nat.le_of_ble_eq_true rfl⟩) hP hK hD hS hA (va_recv hK.1 hP (ci := 3) (q0 := 2) rfl rfl) rfl rfl (by decide) (by decide) (by decide) (by decide) rfl rfl hl.1 rfl (Nat.le_of_ble_eq_true rfl) dX4_reach_73 ⟨Nat.le_of_ble_eq_true rfl, Nat.le_of_ble_eq_true rfl⟩ (fun H locs hP hD hS => ?_)
            refine lv_iload hx hb dX4_reach_76 (lv_at hl 0 rfl) ?_
            have e9 : xReach (nI t) (nI j) b (ms, ts, hs, ps, ss) = ((byB (tPa ts t) j), (ms, (tKd ts, tOt ts, tNd ts, tCh ts, (vp_updL (tPa ts) t (setB ((tPa ts) t) j b)), tTn ts, tT ts), hs, ps, ss)) := by simp [xReach, c8, c12, c19, eq_true c33, c46, nI_clamp (show t < 2 ^ 31 by omega), nI_clamp (show j < 2 ^ 31 by omega)]
            rw [e9]
            exact mu_reti hx hb hr hlk hP hD hS (rfl) dX4_reach_78
          · -- 46 False
            have c46 := bI_z.mp c46
            refine lv_aload_n hx hb dX4_reach_49 rfl (lv_at hl 0 rfl) ?_
            refine lv_iconst (v := 2) hx hb dX4_reach_50 (by decide) ?_
            refine mu_Vi (As := [.int 2]) (rest := []) (wr := []) (wk := wC q c ((refM ms 2), ts, hs, ps, ss)) [0, 1, 2, 3, 4, 5, 6, 7, 8, 9, 10, 11, 12, 13, 14, 15, 16, 17, 18, 19, 20, 21, 22, 23] [] [0, 1, 2, 3, 4, 5, 6, 7, 8, 9, 10, 11, 12, 13, 14, 15, 16, 17, 18, 19, 20, 21, 22, 23] ⟨hx, hb, hml, hown, hts⟩ (c_X4_refuse l D q c ms ts hs ps ss 2 (by omega)) (cwV 1 hts gX4_reach_X4_refuse rfl rfl rfl (by decide +kernel) ⟨Nat.le_of_ble_eq_true rfl, Nat.le_of_ble_eq_true rfl⟩) hP hK hD hS hA (va_recv hK.1 hP (ci := 4) (q0 := 0) rfl rfl) rfl rfl (by decide) (by decide) (by decide) (by decide) rfl rfl hl.1 rfl (Nat.le_of_ble_eq_true rfl) dX4_reach_51 ⟨Nat.le_of_ble_eq_true rfl, Nat.le_of_ble_eq_true rfl⟩ (fun H locs hP hD hS => ?_)
            have e9 : xReach (nI t) i b (ms, ts, hs, ps, ss) = ((-3), ((refM ms 2), ts, hs, ps, ss)) := by simp [xReach, c8, c12, c19, eq_true c33, c46, nI_clamp (show t < 2 ^ 31 by omega)]
            rw [e9]
            exact mu_reti hx hb hr hlk hP hD hS (rfl) dX4_reach_54
        · -- 33 False
          refine lv_aload_n hx hb dX4_reach_36 rfl (lv_at hl 0 rfl) ?_
          refine lv_iconst (v := 1) hx hb dX4_reach_37 (by decide) ?_
          refine mu_Vi (As := [.int 1]) (rest := []) (wr := []) (wk := wC q c ((refM ms 1), ts, hs, ps, ss)) [0, 1, 2, 3, 4, 5, 6, 7, 8, 9, 10, 11, 12, 13, 14, 15, 16, 17, 18, 19, 20, 21, 22, 23] [] [0, 1, 2, 3, 4, 5, 6, 7, 8, 9, 10, 11, 12, 13, 14, 15, 16, 17, 18, 19, 20, 21, 22, 23] ⟨hx, hb, hml, hown, hts⟩ (c_X4_refuse l D q c ms ts hs ps ss 1 (by omega)) (cwV 1 hts gX4_reach_X4_refuse rfl rfl rfl (by decide +kernel) ⟨Nat.le_of_ble_eq_true rfl, Nat.le_of_ble_eq_true rfl⟩) hP hK hD hS hA (va_recv hK.1 hP (ci := 4) (q0 := 0) rfl rfl) rfl rfl (by decide) (by decide) (by decide) (by decide) rfl rfl hl.1 rfl (Nat.le_of_ble_eq_true rfl) dX4_reach_38 ⟨Nat.le_of_ble_eq_true rfl, Nat.le_of_ble_eq_true rfl⟩ (fun H locs hP hD hS => ?_)
          have e9 : xReach (nI t) i b (ms, ts, hs, ps, ss) = ((-3), ((refM ms 1), ts, hs, ps, ss)) := by simp [xReach, c8, c12, c19, c33, nI_clamp (show t < 2 ^ 31 by omega)]
          rw [e9]
          exact mu_reti hx hb hr hlk hP hD hS (rfl) dX4_reach_41
      · -- 19 False
        refine lv_iconst (v := (-1)) hx hb dX4_reach_22 (by decide) ?_
        have e9 : xReach (nI t) i b (ms, ts, hs, ps, ss) = ((-1), (ms, ts, hs, ps, ss)) := by simp [xReach, c8, c12, c19, nI_clamp (show t < 2 ^ 31 by omega)]
        rw [e9]
        exact mu_reti hx hb hr hlk hP hD hS (rfl) dX4_reach_23

set_option maxHeartbeats 4000000 in
set_option maxRecDepth 100000 in
theorem c_X4_byteOf (l : Launch) (D : va_G) (q : Nat → Nat) (c : CT) (ms : MS) (ts : TS) (hs : HS) (ps : PS) (ss : SS) (x i : Int32) (hT : tT ts ≤ 20) : MUi l yX4_byteOf wsX4_byteOf ({ frames := 1, cells := 0, slots := 0, locals := 22 } : Room) [.ref (q 0), .int x, .int i] D c (wC q c (ms, ts, hs, ps, ss)) (wC q c (xByteOf x i (ms, ts, hs, ps, ss)).2) ((xByteOf x i (ms, ts, hs, ps, ss)).1) := by
  refine mu_start (cc := cX4_byteOf) (maxL := 3) (ret := some .int) (by decide) rfl (Nat.le_of_ble_eq_true rfl) ?_
  intro p e s m args below meth c0 ls hx hb hr hml hown hts hlk hnm hP hK hD hS hA hl
  have hown : s.vm.findClass RX4 = some m.cls := hown
  have hl : lv_has ls 3 [(0, .ref (q 0)), (1, .int x), (2, .int i)] := hl
  have hin3 : ∀ w ∈ wsX30, w ∈ wsX4_byteOf := by decide +kernel
  have hin4 : ∀ w ∈ wsX40, w ∈ wsX4_byteOf := by decide +kernel
  refine lv_aload_n hx hb dX4_byteOf_0 rfl (lv_at hl 0 rfl) ?_
  refine va_get (D := D) (ci := 4) (v := .ref (q 2)) (C := RX4) (T := TX4) (N := 7) hx hb hts hin4 hown hK.1 hP 0 rfl rfl 0 (by decide) (hts (.fieldLink RX4 10 "TestPicker" "tests" "LTestPicker$Tests;") (by decide +kernel)) (fun _ h9 => h9) rfl dX4_byteOf_1 ?_
  refine lv_iload_n hx hb dX4_byteOf_4 rfl (lv_at hl 1 rfl) ?_
  refine ro_Vi (post := bI (inN x (tT ts))) (As := [.int x]) (rest := []) ⟨hx, hb, hml, hown, hts⟩ (c_X3_has l D q c ts x) (cwV 1 hts gX4_byteOf_X3_has rfl rfl rfl (by decide +kernel) ⟨Nat.le_of_ble_eq_true rfl, Nat.le_of_ble_eq_true rfl⟩) (hP.sub (ws' := wT q c ts) [2, 3, 4, 5, 6, 7, 8] rfl) hK (va_recv hK.1 hP (ci := 3) (q0 := 2) rfl rfl) rfl hl.1 rfl (Nat.le_of_ble_eq_true rfl) dX4_byteOf_5 ⟨Nat.le_of_ble_eq_true rfl, Nat.le_of_ble_eq_true rfl⟩ ?_
  refine lv_if_ne (tgt := 13) hx hb dX4_byteOf_8 (by decide) (fun c8 => ?_) (fun c8 => ?_)
  · -- 8 True
    have c8 := bI_nz.mp c8
    obtain ⟨t, ht, rfl⟩ := inN_ex (by omega) c8
    refine lv_aload_n hx hb dX4_byteOf_13 rfl (lv_at hl 0 rfl) ?_
    refine va_get (D := D) (ci := 4) (v := .ref (q 2)) (C := RX4) (T := TX4) (N := 7) hx hb hts hin4 hown hK.1 hP 0 rfl rfl 0 (by decide) (hts (.fieldLink RX4 10 "TestPicker" "tests" "LTestPicker$Tests;") (by decide +kernel)) (fun _ h9 => h9) rfl dX4_byteOf_14 ?_
    refine va_get (D := D) (ci := 3) (v := .ref (q 8)) (C := RX3) (T := TX3) (N := 7) hx hb hts hin3 hown hK.1 hP 2 rfl rfl 5 (by decide) (hts (.fieldLink RX4 70 "TestPicker$Tests" "torn" "[Z") (by decide +kernel)) (fun _ h9 => h9) rfl dX4_byteOf_17 ?_
    refine lv_iload_n hx hb dX4_byteOf_20 rfl (lv_at hl 1 rfl) ?_
    refine ld_z hx hb hK hP 8 (f := tTn ts) rfl (i := t) (by omega) (by decide) dX4_byteOf_21 ?_
    refine lv_if_eq (tgt := 31) hx hb dX4_byteOf_22 (by decide) (fun c22 => ?_) (fun c22 => ?_)
    · -- 22 True
      refine lv_iload_n hx hb dX4_byteOf_31 rfl (lv_at hl 2 rfl) ?_
      refine ro_Si (As := [.int i]) (rest := []) ⟨hx, hb, hml, hown, hts⟩ (c_X4_isPlace l D c i) (va_cwS 1 hts gX4_byteOf_X4_isPlace rfl rfl rfl (by decide +kernel) ⟨Nat.le_of_ble_eq_true rfl, Nat.le_of_ble_eq_true rfl⟩) va_P0 hK rfl hl.1 rfl (Nat.le_of_ble_eq_true rfl) dX4_byteOf_32 ⟨Nat.le_of_ble_eq_true rfl, Nat.le_of_ble_eq_true rfl⟩ ?_
      refine lv_if_ne (tgt := 44) hx hb dX4_byteOf_35 (by decide) (fun c35 => ?_) (fun c35 => ?_)
      · -- 35 True
        have c35 := bI_nz.mp c35
        obtain ⟨j, hj, rfl⟩ := inN_ex (by omega) c35
        refine lv_aload_n hx hb dX4_byteOf_44 rfl (lv_at hl 0 rfl) ?_
        refine va_get (D := D) (ci := 4) (v := .ref (q 2)) (C := RX4) (T := TX4) (N := 7) hx hb hts hin4 hown hK.1 hP 0 rfl rfl 0 (by decide) (hts (.fieldLink RX4 10 "TestPicker" "tests" "LTestPicker$Tests;") (by decide +kernel)) (fun _ h9 => h9) rfl dX4_byteOf_45 ?_
        refine lv_iload_n hx hb dX4_byteOf_48 rfl (lv_at hl 1 rfl) ?_
        refine lv_iload_n hx hb dX4_byteOf_49 rfl (lv_at hl 2 rfl) ?_
        refine ro_Vi (post := (byB (tPa ts t) j)) (As := [.int (nI t), .int (nI j)]) (rest := []) ⟨hx, hb, hml, hown, hts⟩ (c_X3_reachByte l D q c ts t j (by omega)) (cwV 2 hts gX4_byteOf_X3_reachByte rfl rfl rfl (by decide +kernel) ⟨Nat.le_of_ble_eq_true rfl, Nat.le_of_ble_eq_true rfl⟩) (hP.sub (ws' := wT q c ts) [2, 3, 4, 5, 6, 7, 8] rfl) hK (va_recv hK.1 hP (ci := 3) (q0 := 2) rfl rfl) rfl hl.1 rfl (Nat.le_of_ble_eq_true rfl) dX4_byteOf_50 ⟨Nat.le_of_ble_eq_true rfl, Nat.le_of_ble_eq_true rfl⟩ ?_
        have e9 : xByteOf (nI t) (nI j) (ms, ts, hs, ps, ss) = ((byB (tPa ts t) j), (ms, ts, hs, ps, ss)) := by simp [xByteOf, c8, eq_true c22, c35, nI_clamp (show t < 2 ^ 31 by omega), nI_clamp (show j < 2 ^ 31 by omega)]
        rw [e9]
        exact mu_reti hx hb hr hlk hP hD hS (rfl) dX4_byteOf_53
      · -- 35 False
        have c35 := bI_z.mp c35
        refine lv_aload_n hx hb dX4_byteOf_38 rfl (lv_at hl 0 rfl) ?_
        refine lv_iconst (v := 2) hx hb dX4_byteOf_39 (by decide) ?_
        refine mu_Vi (As := [.int 2]) (rest := []) (wr := []) (wk := wC q c ((refM ms 2), ts, hs, ps, ss)) [0, 1, 2, 3, 4, 5, 6, 7, 8, 9, 10, 11, 12, 13, 14, 15, 16, 17, 18, 19, 20, 21, 22, 23] [] [0, 1, 2, 3, 4, 5, 6, 7, 8, 9, 10, 11, 12, 13, 14, 15, 16, 17, 18, 19, 20, 21, 22, 23] ⟨hx, hb, hml, hown, hts⟩ (c_X4_refuse l D q c ms ts hs ps ss 2 (by omega)) (cwV 1 hts gX4_byteOf_X4_refuse rfl rfl rfl (by decide +kernel) ⟨Nat.le_of_ble_eq_true rfl, Nat.le_of_ble_eq_true rfl⟩) hP hK hD hS hA (va_recv hK.1 hP (ci := 4) (q0 := 0) rfl rfl) rfl rfl (by decide) (by decide) (by decide) (by decide) rfl rfl hl.1 rfl (Nat.le_of_ble_eq_true rfl) dX4_byteOf_40 ⟨Nat.le_of_ble_eq_true rfl, Nat.le_of_ble_eq_true rfl⟩ (fun H locs hP hD hS => ?_)
        have e9 : xByteOf (nI t) i (ms, ts, hs, ps, ss) = ((-3), ((refM ms 2), ts, hs, ps, ss)) := by simp [xByteOf, c8, eq_true c22, c35, nI_clamp (show t < 2 ^ 31 by omega)]
        rw [e9]
        exact mu_reti hx hb hr hlk hP hD hS (rfl) dX4_byteOf_43
    · -- 22 False
      refine lv_aload_n hx hb dX4_byteOf_25 rfl (lv_at hl 0 rfl) ?_
      refine lv_iconst (v := 1) hx hb dX4_byteOf_26 (by decide) ?_
      refine mu_Vi (As := [.int 1]) (rest := []) (wr := []) (wk := wC q c ((refM ms 1), ts, hs, ps, ss)) [0, 1, 2, 3, 4, 5, 6, 7, 8, 9, 10, 11, 12, 13, 14, 15, 16, 17, 18, 19, 20, 21, 22, 23] [] [0, 1, 2, 3, 4, 5, 6, 7, 8, 9, 10, 11, 12, 13, 14, 15, 16, 17, 18, 19, 20, 21, 22, 23] ⟨hx, hb, hml, hown, hts⟩ (c_X4_refuse l D q c ms ts hs ps ss 1 (by omega)) (cwV 1 hts gX4_byteOf_X4_refuse rfl rfl rfl (by decide +kernel) ⟨Nat.le_of_ble_eq_true rfl, Nat.le_of_ble_eq_true rfl⟩) hP hK hD hS hA (va_recv hK.1 hP (ci := 4) (q0 := 0) rfl rfl) rfl rfl (by decide) (by decide) (by decide) (by decide) rfl rfl hl.1 rfl (Nat.le_of_ble_eq_true rfl) dX4_byteOf_27 ⟨Nat.le_of_ble_eq_true rfl, Nat.le_of_ble_eq_true rfl⟩ (fun H locs hP hD hS => ?_)
      have e9 : xByteOf (nI t) i (ms, ts, hs, ps, ss) = ((-3), ((refM ms 1), ts, hs, ps, ss)) := by simp [xByteOf, c8, c22, nI_clamp (show t < 2 ^ 31 by omega)]
      rw [e9]
      exact mu_reti hx hb hr hlk hP hD hS (rfl) dX4_byteOf_30
  · -- 8 False
    have c8 := bI_z.mp c8
    refine lv_iconst (v := (-1)) hx hb dX4_byteOf_11 (by decide) ?_
    have e9 : xByteOf x i (ms, ts, hs, ps, ss) = ((-1), (ms, ts, hs, ps, ss)) := by simp [xByteOf, c8]
    rw [e9]
    exact mu_reti hx hb hr hlk hP hD hS (rfl) dX4_byteOf_12

set_option maxHeartbeats 4000000 in
set_option maxRecDepth 100000 in
theorem c_X4_tear (l : Launch) (D : va_G) (q : Nat → Nat) (c : CT) (ms : MS) (ts : TS) (hs : HS) (ps : PS) (ss : SS) (x : Int32) (hT : tT ts ≤ 20) : MUi l yX4_tear wsX4_tear ({ frames := 1, cells := 0, slots := 0, locals := 21 } : Room) [.ref (q 0), .int x] D c (wC q c (ms, ts, hs, ps, ss)) (wC q c (xTear x (ms, ts, hs, ps, ss)).2) ((xTear x (ms, ts, hs, ps, ss)).1) := by
  refine mu_start (cc := cX4_tear) (maxL := 2) (ret := some .int) (by decide) rfl (Nat.le_of_ble_eq_true rfl) ?_
  intro p e s m args below meth c0 ls hx hb hr hml hown hts hlk hnm hP hK hD hS hA hl
  have hown : s.vm.findClass RX4 = some m.cls := hown
  have hl : lv_has ls 2 [(0, .ref (q 0)), (1, .int x)] := hl
  have hin3 : ∀ w ∈ wsX30, w ∈ wsX4_tear := by decide +kernel
  have hin4 : ∀ w ∈ wsX40, w ∈ wsX4_tear := by decide +kernel
  refine lv_aload_n hx hb dX4_tear_0 rfl (lv_at hl 0 rfl) ?_
  refine va_get (D := D) (ci := 4) (v := .ref (q 2)) (C := RX4) (T := TX4) (N := 7) hx hb hts hin4 hown hK.1 hP 0 rfl rfl 0 (by decide) (hts (.fieldLink RX4 10 "TestPicker" "tests" "LTestPicker$Tests;") (by decide +kernel)) (fun _ h9 => h9) rfl dX4_tear_1 ?_
  refine lv_iload_n hx hb dX4_tear_4 rfl (lv_at hl 1 rfl) ?_
  refine ro_Vi (post := bI (inN x (tT ts))) (As := [.int x]) (rest := []) ⟨hx, hb, hml, hown, hts⟩ (c_X3_has l D q c ts x) (cwV 1 hts gX4_tear_X3_has rfl rfl rfl (by decide +kernel) ⟨Nat.le_of_ble_eq_true rfl, Nat.le_of_ble_eq_true rfl⟩) (hP.sub (ws' := wT q c ts) [2, 3, 4, 5, 6, 7, 8] rfl) hK (va_recv hK.1 hP (ci := 3) (q0 := 2) rfl rfl) rfl hl.1 rfl (Nat.le_of_ble_eq_true rfl) dX4_tear_5 ⟨Nat.le_of_ble_eq_true rfl, Nat.le_of_ble_eq_true rfl⟩ ?_
  refine lv_if_ne (tgt := 13) hx hb dX4_tear_8 (by decide) (fun c8 => ?_) (fun c8 => ?_)
  · -- 8 True
    have c8 := bI_nz.mp c8
    obtain ⟨t, ht, rfl⟩ := inN_ex (by omega) c8
    refine lv_aload_n hx hb dX4_tear_13 rfl (lv_at hl 0 rfl) ?_
    refine va_get (D := D) (ci := 4) (v := .ref (q 2)) (C := RX4) (T := TX4) (N := 7) hx hb hts hin4 hown hK.1 hP 0 rfl rfl 0 (by decide) (hts (.fieldLink RX4 10 "TestPicker" "tests" "LTestPicker$Tests;") (by decide +kernel)) (fun _ h9 => h9) rfl dX4_tear_14 ?_
    refine va_get (D := D) (ci := 3) (v := .ref (q 8)) (C := RX3) (T := TX3) (N := 7) hx hb hts hin3 hown hK.1 hP 2 rfl rfl 5 (by decide) (hts (.fieldLink RX4 70 "TestPicker$Tests" "torn" "[Z") (by decide +kernel)) (fun _ h9 => h9) rfl dX4_tear_17 ?_
    refine lv_iload_n hx hb dX4_tear_20 rfl (lv_at hl 1 rfl) ?_
    refine ld_z hx hb hK hP 8 (f := tTn ts) rfl (i := t) (by omega) (by decide) dX4_tear_21 ?_
    refine lv_if_eq (tgt := 31) hx hb dX4_tear_22 (by decide) (fun c22 => ?_) (fun c22 => ?_)
    · -- 22 True
      refine lv_aload_n hx hb dX4_tear_31 rfl (lv_at hl 0 rfl) ?_
      refine va_get (D := D) (ci := 4) (v := .ref (q 2)) (C := RX4) (T := TX4) (N := 7) hx hb hts hin4 hown hK.1 hP 0 rfl rfl 0 (by decide) (hts (.fieldLink RX4 10 "TestPicker" "tests" "LTestPicker$Tests;") (by decide +kernel)) (fun _ h9 => h9) rfl dX4_tear_32 ?_
      refine va_get (D := D) (ci := 3) (v := .ref (q 8)) (C := RX3) (T := TX3) (N := 7) hx hb hts hin3 hown hK.1 hP 2 rfl rfl 5 (by decide) (hts (.fieldLink RX4 70 "TestPicker$Tests" "torn" "[Z") (by decide +kernel)) (fun _ h9 => h9) rfl dX4_tear_35 ?_
      refine lv_iload_n hx hb dX4_tear_38 rfl (lv_at hl 1 rfl) ?_
      refine lv_iconst (v := 1) hx hb dX4_tear_39 (by decide) ?_
      refine st_z hx hb hK hP hD hS 8 rfl (i := t) (by omega) (by decide) (by decide) dX4_tear_40 (fun H locs hP hD hS => ?_)
      have hP : va_P D vwCl (wC q c (ms, (tKd ts, tOt ts, tNd ts, tCh ts, tPa ts, (upd (tTn ts) t 1), tT ts), hs, ps, ss)) H := hP
      have hD : va_D (va_A (wC q c (ms, ts, hs, ps, ss)) s.heap.size) (wC q c (ms, (tKd ts, tOt ts, tNd ts, tCh ts, tPa ts, (upd (tTn ts) t 1), tT ts), hs, ps, ss)) := hD
      refine lv_aload_n hx hb dX4_tear_41 rfl (lv_at hl 0 rfl) ?_
      refine va_get (D := D) (ci := 4) (v := .ref (q 2)) (C := RX4) (T := TX4) (N := 7) hx hb hts hin4 hown hK.1 hP 0 rfl rfl 0 (by decide) (hts (.fieldLink RX4 10 "TestPicker" "tests" "LTestPicker$Tests;") (by decide +kernel)) (fun _ h9 => h9) rfl dX4_tear_42 ?_
      refine va_get (D := D) (ci := 3) (v := .ref (q 7)) (C := RX3) (T := TX3) (N := 7) hx hb hts hin3 hown hK.1 hP 2 rfl rfl 4 (by decide) (hts (.fieldLink RX4 85 "TestPicker$Tests" "parts" "[J") (by decide +kernel)) (fun _ h9 => h9) rfl dX4_tear_45 ?_
      refine lv_iload_n hx hb dX4_tear_48 rfl (lv_at hl 1 rfl) ?_
      refine lv_lconst (v := 0) hx hb dX4_tear_49 (by decide) ?_
      refine st_l hx hb hK hP hD hS 7 rfl (i := t) (by omega) (by decide) dX4_tear_50 (fun H locs hP hD hS => ?_)
      have hP : va_P D vwCl (wC q c (ms, (tKd ts, tOt ts, tNd ts, tCh ts, (vp_updL (tPa ts) t 0), (upd (tTn ts) t 1), tT ts), hs, ps, ss)) H := hP
      have hD : va_D (va_A (wC q c (ms, ts, hs, ps, ss)) s.heap.size) (wC q c (ms, (tKd ts, tOt ts, tNd ts, tCh ts, (vp_updL (tPa ts) t 0), (upd (tTn ts) t 1), tT ts), hs, ps, ss)) := hD
      refine lv_iconst (v := 1) hx hb dX4_tear_51 (by decide) ?_
      have e9 : xTear (nI t) (ms, ts, hs, ps, ss) = (1, (ms, (tKd ts, tOt ts, tNd ts, tCh ts, (vp_updL (tPa ts) t 0), (upd (tTn ts) t 1), tT ts), hs, ps, ss)) := by simp [xTear, c8, eq_true c22, nI_clamp (show t < 2 ^ 31 by omega)]
      rw [e9]
      exact mu_reti hx hb hr hlk hP hD hS (rfl) dX4_tear_52
    · -- 22 False
      refine lv_aload_n hx hb dX4_tear_25 rfl (lv_at hl 0 rfl) ?_
      refine lv_iconst (v := 1) hx hb dX4_tear_26 (by decide) ?_
      refine mu_Vi (As := [.int 1]) (rest := []) (wr := []) (wk := wC q c ((refM ms 1), ts, hs, ps, ss)) [0, 1, 2, 3, 4, 5, 6, 7, 8, 9, 10, 11, 12, 13, 14, 15, 16, 17, 18, 19, 20, 21, 22, 23] [] [0, 1, 2, 3, 4, 5, 6, 7, 8, 9, 10, 11, 12, 13, 14, 15, 16, 17, 18, 19, 20, 21, 22, 23] ⟨hx, hb, hml, hown, hts⟩ (c_X4_refuse l D q c ms ts hs ps ss 1 (by omega)) (cwV 1 hts gX4_tear_X4_refuse rfl rfl rfl (by decide +kernel) ⟨Nat.le_of_ble_eq_true rfl, Nat.le_of_ble_eq_true rfl⟩) hP hK hD hS hA (va_recv hK.1 hP (ci := 4) (q0 := 0) rfl rfl) rfl rfl (by decide) (by decide) (by decide) (by decide) rfl rfl hl.1 rfl (Nat.le_of_ble_eq_true rfl) dX4_tear_27 ⟨Nat.le_of_ble_eq_true rfl, Nat.le_of_ble_eq_true rfl⟩ (fun H locs hP hD hS => ?_)
      have e9 : xTear (nI t) (ms, ts, hs, ps, ss) = ((-3), ((refM ms 1), ts, hs, ps, ss)) := by simp [xTear, c8, c22, nI_clamp (show t < 2 ^ 31 by omega)]
      rw [e9]
      exact mu_reti hx hb hr hlk hP hD hS (rfl) dX4_tear_30
  · -- 8 False
    have c8 := bI_z.mp c8
    refine lv_iconst (v := (-1)) hx hb dX4_tear_11 (by decide) ?_
    have e9 : xTear x (ms, ts, hs, ps, ss) = ((-1), (ms, ts, hs, ps, ss)) := by simp [xTear, c8]
    rw [e9]
    exact mu_reti hx hb hr hlk hP hD hS (rfl) dX4_tear_12

set_option maxHeartbeats 4000000 in
set_option maxRecDepth 100000 in
theorem c_X4_anew (l : Launch) (D : va_G) (q : Nat → Nat) (c : CT) (ms : MS) (ts : TS) (hs : HS) (ps : PS) (ss : SS) (x : Int32) (hT : tT ts ≤ 20) : MUi l yX4_anew wsX4_anew ({ frames := 1, cells := 0, slots := 0, locals := 21 } : Room) [.ref (q 0), .int x] D c (wC q c (ms, ts, hs, ps, ss)) (wC q c (xAnew x (ms, ts, hs, ps, ss)).2) ((xAnew x (ms, ts, hs, ps, ss)).1) := by
  refine mu_start (cc := cX4_anew) (maxL := 3) (ret := some .int) (by decide) rfl (Nat.le_of_ble_eq_true rfl) ?_
  intro p e s m args below meth c0 ls hx hb hr hml hown hts hlk hnm hP hK hD hS hA hl
  have hown : s.vm.findClass RX4 = some m.cls := hown
  have hl : lv_has ls 3 [(0, .ref (q 0)), (1, .int x)] := hl
  have hin3 : ∀ w ∈ wsX30, w ∈ wsX4_anew := by decide +kernel
  have hin4 : ∀ w ∈ wsX40, w ∈ wsX4_anew := by decide +kernel
  refine lv_aload_n hx hb dX4_anew_0 rfl (lv_at hl 0 rfl) ?_
  refine va_get (D := D) (ci := 4) (v := .ref (q 2)) (C := RX4) (T := TX4) (N := 7) hx hb hts hin4 hown hK.1 hP 0 rfl rfl 0 (by decide) (hts (.fieldLink RX4 10 "TestPicker" "tests" "LTestPicker$Tests;") (by decide +kernel)) (fun _ h9 => h9) rfl dX4_anew_1 ?_
  refine lv_iload_n hx hb dX4_anew_4 rfl (lv_at hl 1 rfl) ?_
  refine ro_Vi (post := bI (inN x (tT ts))) (As := [.int x]) (rest := []) ⟨hx, hb, hml, hown, hts⟩ (c_X3_has l D q c ts x) (cwV 1 hts gX4_anew_X3_has rfl rfl rfl (by decide +kernel) ⟨Nat.le_of_ble_eq_true rfl, Nat.le_of_ble_eq_true rfl⟩) (hP.sub (ws' := wT q c ts) [2, 3, 4, 5, 6, 7, 8] rfl) hK (va_recv hK.1 hP (ci := 3) (q0 := 2) rfl rfl) rfl hl.1 rfl (Nat.le_of_ble_eq_true rfl) dX4_anew_5 ⟨Nat.le_of_ble_eq_true rfl, Nat.le_of_ble_eq_true rfl⟩ ?_
  refine lv_if_ne (tgt := 13) hx hb dX4_anew_8 (by decide) (fun c8 => ?_) (fun c8 => ?_)
  · -- 8 True
    have c8 := bI_nz.mp c8
    obtain ⟨t, ht, rfl⟩ := inN_ex (by omega) c8
    refine lv_aload_n hx hb dX4_anew_13 rfl (lv_at hl 0 rfl) ?_
    refine va_get (D := D) (ci := 4) (v := .ref (q 2)) (C := RX4) (T := TX4) (N := 7) hx hb hts hin4 hown hK.1 hP 0 rfl rfl 0 (by decide) (hts (.fieldLink RX4 10 "TestPicker" "tests" "LTestPicker$Tests;") (by decide +kernel)) (fun _ h9 => h9) rfl dX4_anew_14 ?_
    refine va_get (D := D) (ci := 3) (v := .ref (q 8)) (C := RX3) (T := TX3) (N := 7) hx hb hts hin3 hown hK.1 hP 2 rfl rfl 5 (by decide) (hts (.fieldLink RX4 70 "TestPicker$Tests" "torn" "[Z") (by decide +kernel)) (fun _ h9 => h9) rfl dX4_anew_17 ?_
    refine lv_iload_n hx hb dX4_anew_20 rfl (lv_at hl 1 rfl) ?_
    refine ld_z hx hb hK hP 8 (f := tTn ts) rfl (i := t) (by omega) (by decide) dX4_anew_21 ?_
    refine lv_if_eq (tgt := 29) hx hb dX4_anew_22 (by decide) (fun c22 => ?_) (fun c22 => ?_)
    · -- 22 True
      refine lv_iconst (v := 1) hx hb dX4_anew_29 (by decide) ?_
      refine lv_istore_n (lv' := [(2, .int 1), (0, .ref (q 0)), (1, .int (nI t))]) hx hb dX4_anew_30 rfl hl (by decide) rfl (fun ls hl => ?_)
      refine lv_aload_n hx hb dX4_anew_31 rfl (lv_at hl 1 rfl) ?_
      refine va_get (D := D) (ci := 4) (v := .ref (q 2)) (C := RX4) (T := TX4) (N := 7) hx hb hts hin4 hown hK.1 hP 0 rfl rfl 0 (by decide) (hts (.fieldLink RX4 10 "TestPicker" "tests" "LTestPicker$Tests;") (by decide +kernel)) (fun _ h9 => h9) rfl dX4_anew_32 ?_
      refine va_get (D := D) (ci := 3) (v := .ref (q 8)) (C := RX3) (T := TX3) (N := 7) hx hb hts hin3 hown hK.1 hP 2 rfl rfl 5 (by decide) (hts (.fieldLink RX4 70 "TestPicker$Tests" "torn" "[Z") (by decide +kernel)) (fun _ h9 => h9) rfl dX4_anew_35 ?_
      refine lv_iload_n hx hb dX4_anew_38 rfl (lv_at hl 2 rfl) ?_
      refine lv_iconst (v := 0) hx hb dX4_anew_39 (by decide) ?_
      refine st_z hx hb hK hP hD hS 8 rfl (i := t) (by omega) (by decide) (by decide) dX4_anew_40 (fun H locs hP hD hS => ?_)
      have hP : va_P D vwCl (wC q c (ms, (tKd ts, tOt ts, tNd ts, tCh ts, tPa ts, (upd (tTn ts) t 0), tT ts), hs, ps, ss)) H := hP
      have hD : va_D (va_A (wC q c (ms, ts, hs, ps, ss)) s.heap.size) (wC q c (ms, (tKd ts, tOt ts, tNd ts, tCh ts, tPa ts, (upd (tTn ts) t 0), tT ts), hs, ps, ss)) := hD
      refine lv_aload_n hx hb dX4_anew_41 rfl (lv_at hl 1 rfl) ?_
      refine va_get (D := D) (ci := 4) (v := .ref (q 2)) (C := RX4) (T := TX4) (N := 7) hx hb hts hin4 hown hK.1 hP 0 rfl rfl 0 (by decide) (hts (.fieldLink RX4 10 "TestPicker" "tests" "LTestPicker$Tests;") (by decide +kernel)) (fun _ h9 => h9) rfl dX4_anew_42 ?_
      refine va_get (D := D) (ci := 3) (v := .ref (q 7)) (C := RX3) (T := TX3) (N := 7) hx hb hts hin3 hown hK.1 hP 2 rfl rfl 4 (by decide) (hts (.fieldLink RX4 85 "TestPicker$Tests" "parts" "[J") (by decide +kernel)) (fun _ h9 => h9) rfl dX4_anew_45 ?_
      refine lv_iload_n hx hb dX4_anew_48 rfl (lv_at hl 2 rfl) ?_
      refine lv_lconst (v := 0) hx hb dX4_anew_49 (by decide) ?_
      refine st_l hx hb hK hP hD hS 7 rfl (i := t) (by omega) (by decide) dX4_anew_50 (fun H locs hP hD hS => ?_)
      have hP : va_P D vwCl (wC q c (ms, (tKd ts, tOt ts, tNd ts, tCh ts, (vp_updL (tPa ts) t 0), (upd (tTn ts) t 0), tT ts), hs, ps, ss)) H := hP
      have hD : va_D (va_A (wC q c (ms, ts, hs, ps, ss)) s.heap.size) (wC q c (ms, (tKd ts, tOt ts, tNd ts, tCh ts, (vp_updL (tPa ts) t 0), (upd (tTn ts) t 0), tT ts), hs, ps, ss)) := hD
      refine lv_iload_n hx hb dX4_anew_51 rfl (lv_at hl 0 rfl) ?_
      have e9 : xAnew (nI t) (ms, ts, hs, ps, ss) = (1, (ms, (tKd ts, tOt ts, tNd ts, tCh ts, (vp_updL (tPa ts) t 0), (upd (tTn ts) t 0), tT ts), hs, ps, ss)) := by simp [xAnew, c8, eq_true c22, nI_clamp (show t < 2 ^ 31 by omega)]
      rw [e9]
      exact mu_reti hx hb hr hlk hP hD hS (rfl) dX4_anew_52
    · -- 22 False
      refine lv_iconst (v := 0) hx hb dX4_anew_25 (by decide) ?_
      refine lv_goto (tgt := 30) hx hb dX4_anew_26 (by decide) ?_
      refine lv_istore_n (lv' := [(2, .int 0), (0, .ref (q 0)), (1, .int (nI t))]) hx hb dX4_anew_30 rfl hl (by decide) rfl (fun ls hl => ?_)
      refine lv_aload_n hx hb dX4_anew_31 rfl (lv_at hl 1 rfl) ?_
      refine va_get (D := D) (ci := 4) (v := .ref (q 2)) (C := RX4) (T := TX4) (N := 7) hx hb hts hin4 hown hK.1 hP 0 rfl rfl 0 (by decide) (hts (.fieldLink RX4 10 "TestPicker" "tests" "LTestPicker$Tests;") (by decide +kernel)) (fun _ h9 => h9) rfl dX4_anew_32 ?_
      refine va_get (D := D) (ci := 3) (v := .ref (q 8)) (C := RX3) (T := TX3) (N := 7) hx hb hts hin3 hown hK.1 hP 2 rfl rfl 5 (by decide) (hts (.fieldLink RX4 70 "TestPicker$Tests" "torn" "[Z") (by decide +kernel)) (fun _ h9 => h9) rfl dX4_anew_35 ?_
      refine lv_iload_n hx hb dX4_anew_38 rfl (lv_at hl 2 rfl) ?_
      refine lv_iconst (v := 0) hx hb dX4_anew_39 (by decide) ?_
      refine st_z hx hb hK hP hD hS 8 rfl (i := t) (by omega) (by decide) (by decide) dX4_anew_40 (fun H locs hP hD hS => ?_)
      have hP : va_P D vwCl (wC q c (ms, (tKd ts, tOt ts, tNd ts, tCh ts, tPa ts, (upd (tTn ts) t 0), tT ts), hs, ps, ss)) H := hP
      have hD : va_D (va_A (wC q c (ms, ts, hs, ps, ss)) s.heap.size) (wC q c (ms, (tKd ts, tOt ts, tNd ts, tCh ts, tPa ts, (upd (tTn ts) t 0), tT ts), hs, ps, ss)) := hD
      refine lv_aload_n hx hb dX4_anew_41 rfl (lv_at hl 1 rfl) ?_
      refine va_get (D := D) (ci := 4) (v := .ref (q 2)) (C := RX4) (T := TX4) (N := 7) hx hb hts hin4 hown hK.1 hP 0 rfl rfl 0 (by decide) (hts (.fieldLink RX4 10 "TestPicker" "tests" "LTestPicker$Tests;") (by decide +kernel)) (fun _ h9 => h9) rfl dX4_anew_42 ?_
      refine va_get (D := D) (ci := 3) (v := .ref (q 7)) (C := RX3) (T := TX3) (N := 7) hx hb hts hin3 hown hK.1 hP 2 rfl rfl 4 (by decide) (hts (.fieldLink RX4 85 "TestPicker$Tests" "parts" "[J") (by decide +kernel)) (fun _ h9 => h9) rfl dX4_anew_45 ?_
      refine lv_iload_n hx hb dX4_anew_48 rfl (lv_at hl 2 rfl) ?_
      refine lv_lconst (v := 0) hx hb dX4_anew_49 (by decide) ?_
      refine st_l hx hb hK hP hD hS 7 rfl (i := t) (by omega) (by decide) dX4_anew_50 (fun H locs hP hD hS => ?_)
      have hP : va_P D vwCl (wC q c (ms, (tKd ts, tOt ts, tNd ts, tCh ts, (vp_updL (tPa ts) t 0), (upd (tTn ts) t 0), tT ts), hs, ps, ss)) H := hP
      have hD : va_D (va_A (wC q c (ms, ts, hs, ps, ss)) s.heap.size) (wC q c (ms, (tKd ts, tOt ts, tNd ts, tCh ts, (vp_updL (tPa ts) t 0), (upd (tTn ts) t 0), tT ts), hs, ps, ss)) := hD
      refine lv_iload_n hx hb dX4_anew_51 rfl (lv_at hl 0 rfl) ?_
      have e9 : xAnew (nI t) (ms, ts, hs, ps, ss) = (0, (ms, (tKd ts, tOt ts, tNd ts, tCh ts, (vp_updL (tPa ts) t 0), (upd (tTn ts) t 0), tT ts), hs, ps, ss)) := by simp [xAnew, c8, c22, nI_clamp (show t < 2 ^ 31 by omega)]
      rw [e9]
      exact mu_reti hx hb hr hlk hP hD hS (rfl) dX4_anew_52
  · -- 8 False
    have c8 := bI_z.mp c8
    refine lv_iconst (v := (-1)) hx hb dX4_anew_11 (by decide) ?_
    have e9 : xAnew x (ms, ts, hs, ps, ss) = ((-1), (ms, ts, hs, ps, ss)) := by simp [xAnew, c8]
    rw [e9]
    exact mu_reti hx hb hr hlk hP hD hS (rfl) dX4_anew_12

set_option maxHeartbeats 4000000 in
set_option maxRecDepth 100000 in
theorem c_X4_copy (l : Launch) (D : va_G) (q : Nat → Nat) (c : CT) (ms : MS) (ts : TS) (hs : HS) (ps : PS) (ss : SS) (x i o j n : Int32) (hT : tT ts ≤ 20) : MUi l yX4_copy wsX4_copy ({ frames := 1, cells := 0, slots := 0, locals := 29 } : Room) [.ref (q 0), .int x, .int i, .int o, .int j, .int n] D c (wC q c (ms, ts, hs, ps, ss)) (wC q c (xCopy x i o j n (ms, ts, hs, ps, ss)).2) ((xCopy x i o j n (ms, ts, hs, ps, ss)).1) := by
  refine mu_start (cc := cX4_copy) (maxL := 6) (ret := some .int) (by decide) rfl (Nat.le_of_ble_eq_true rfl) ?_
  intro p e s m args below meth c0 ls hx hb hr hml hown hts hlk hnm hP hK hD hS hA hl
  have hown : s.vm.findClass RX4 = some m.cls := hown
  have hl : lv_has ls 6 [(0, .ref (q 0)), (1, .int x), (2, .int i), (3, .int o), (4, .int j), (5, .int n)] := hl
  have hin3 : ∀ w ∈ wsX30, w ∈ wsX4_copy := by decide +kernel
  have hin4 : ∀ w ∈ wsX40, w ∈ wsX4_copy := by decide +kernel
  refine lv_aload_n hx hb dX4_copy_0 rfl (lv_at hl 0 rfl) ?_
  refine va_get (D := D) (ci := 4) (v := .ref (q 2)) (C := RX4) (T := TX4) (N := 7) hx hb hts hin4 hown hK.1 hP 0 rfl rfl 0 (by decide) (hts (.fieldLink RX4 10 "TestPicker" "tests" "LTestPicker$Tests;") (by decide +kernel)) (fun _ h9 => h9) rfl dX4_copy_1 ?_
  refine lv_iload_n hx hb dX4_copy_4 rfl (lv_at hl 1 rfl) ?_
  refine ro_Vi (post := bI (inN x (tT ts))) (As := [.int x]) (rest := []) ⟨hx, hb, hml, hown, hts⟩ (c_X3_has l D q c ts x) (cwV 1 hts gX4_copy_X3_has rfl rfl rfl (by decide +kernel) ⟨Nat.le_of_ble_eq_true rfl, Nat.le_of_ble_eq_true rfl⟩) (hP.sub (ws' := wT q c ts) [2, 3, 4, 5, 6, 7, 8] rfl) hK (va_recv hK.1 hP (ci := 3) (q0 := 2) rfl rfl) rfl hl.1 rfl (Nat.le_of_ble_eq_true rfl) dX4_copy_5 ⟨Nat.le_of_ble_eq_true rfl, Nat.le_of_ble_eq_true rfl⟩ ?_
  refine lv_if_eq (tgt := 22) hx hb dX4_copy_8 (by decide) (fun c8 => ?_) (fun c8 => ?_)
  · -- 8 True
    have c8 := bI_z.mp c8
    refine lv_iconst (v := (-1)) hx hb dX4_copy_22 (by decide) ?_
    have e9 : xCopy x i o j n (ms, ts, hs, ps, ss) = ((-1), (ms, ts, hs, ps, ss)) := by simp [xCopy, c8]
    rw [e9]
    exact mu_reti hx hb hr hlk hP hD hS (rfl) dX4_copy_23
  · -- 8 False
    have c8 := bI_nz.mp c8
    obtain ⟨t, ht, rfl⟩ := inN_ex (by omega) c8
    refine lv_aload_n hx hb dX4_copy_11 rfl (lv_at hl 0 rfl) ?_
    refine va_get (D := D) (ci := 4) (v := .ref (q 2)) (C := RX4) (T := TX4) (N := 7) hx hb hts hin4 hown hK.1 hP 0 rfl rfl 0 (by decide) (hts (.fieldLink RX4 10 "TestPicker" "tests" "LTestPicker$Tests;") (by decide +kernel)) (fun _ h9 => h9) rfl dX4_copy_12 ?_
    refine lv_iload_n hx hb dX4_copy_15 rfl (lv_at hl 3 rfl) ?_
    refine ro_Vi (post := bI (inN o (tT ts))) (As := [.int o]) (rest := []) ⟨hx, hb, hml, hown, hts⟩ (c_X3_has l D q c ts o) (cwV 1 hts gX4_copy_X3_has rfl rfl rfl (by decide +kernel) ⟨Nat.le_of_ble_eq_true rfl, Nat.le_of_ble_eq_true rfl⟩) (hP.sub (ws' := wT q c ts) [2, 3, 4, 5, 6, 7, 8] rfl) hK (va_recv hK.1 hP (ci := 3) (q0 := 2) rfl rfl) rfl hl.1 rfl (Nat.le_of_ble_eq_true rfl) dX4_copy_16 ⟨Nat.le_of_ble_eq_true rfl, Nat.le_of_ble_eq_true rfl⟩ ?_
    refine lv_if_ne (tgt := 24) hx hb dX4_copy_19 (by decide) (fun c19 => ?_) (fun c19 => ?_)
    · -- 19 True
      have c19 := bI_nz.mp c19
      obtain ⟨u, hu, rfl⟩ := inN_ex (by omega) c19
      refine lv_iload hx hb dX4_copy_24 (lv_at hl 5 rfl) ?_
      refine lv_if_ge (tgt := 35) hx hb dX4_copy_26 (by decide) (fun c26 => ?_) (fun c26 => ?_)
      · -- 26 True
        refine lv_aload_n hx hb dX4_copy_35 rfl (lv_at hl 0 rfl) ?_
        refine va_get (D := D) (ci := 4) (v := .ref (q 2)) (C := RX4) (T := TX4) (N := 7) hx hb hts hin4 hown hK.1 hP 0 rfl rfl 0 (by decide) (hts (.fieldLink RX4 10 "TestPicker" "tests" "LTestPicker$Tests;") (by decide +kernel)) (fun _ h9 => h9) rfl dX4_copy_36 ?_
        refine va_get (D := D) (ci := 3) (v := .ref (q 8)) (C := RX3) (T := TX3) (N := 7) hx hb hts hin3 hown hK.1 hP 2 rfl rfl 5 (by decide) (hts (.fieldLink RX4 70 "TestPicker$Tests" "torn" "[Z") (by decide +kernel)) (fun _ h9 => h9) rfl dX4_copy_39 ?_
        refine lv_iload_n hx hb dX4_copy_42 rfl (lv_at hl 1 rfl) ?_
        refine ld_z hx hb hK hP 8 (f := tTn ts) rfl (i := t) (by omega) (by decide) dX4_copy_43 ?_
        refine lv_if_ne (tgt := 59) hx hb dX4_copy_44 (by decide) (fun c44 => ?_) (fun c44 => ?_)
        · -- 44 True
          refine lv_aload_n hx hb dX4_copy_59 rfl (lv_at hl 0 rfl) ?_
          refine lv_iconst (v := 1) hx hb dX4_copy_60 (by decide) ?_
          refine mu_Vi (As := [.int 1]) (rest := []) (wr := []) (wk := wC q c ((refM ms 1), ts, hs, ps, ss)) [0, 1, 2, 3, 4, 5, 6, 7, 8, 9, 10, 11, 12, 13, 14, 15, 16, 17, 18, 19, 20, 21, 22, 23] [] [0, 1, 2, 3, 4, 5, 6, 7, 8, 9, 10, 11, 12, 13, 14, 15, 16, 17, 18, 19, 20, 21, 22, 23] ⟨hx, hb, hml, hown, hts⟩ (c_X4_refuse l D q c ms ts hs ps ss 1 (by omega)) (cwV 1 hts gX4_copy_X4_refuse rfl rfl rfl (by decide +kernel) ⟨Nat.le_of_ble_eq_true rfl, Nat.le_of_ble_eq_true rfl⟩) hP hK hD hS hA (va_recv hK.1 hP (ci := 4) (q0 := 0) rfl rfl) rfl rfl (by decide) (by decide) (by decide) (by decide) rfl rfl hl.1 rfl (Nat.le_of_ble_eq_true rfl) dX4_copy_61 ⟨Nat.le_of_ble_eq_true rfl, Nat.le_of_ble_eq_true rfl⟩ (fun H locs hP hD hS => ?_)
          have e9 : xCopy (nI t) i (nI u) j n (ms, ts, hs, ps, ss) = ((-3), ((refM ms 1), ts, hs, ps, ss)) := by simp [xCopy, c8, c19, c26, c44, nI_clamp (show t < 2 ^ 31 by omega), nI_clamp (show u < 2 ^ 31 by omega)]
          rw [e9]
          exact mu_reti hx hb hr hlk hP hD hS (rfl) dX4_copy_64
        · -- 44 False
          refine lv_aload_n hx hb dX4_copy_47 rfl (lv_at hl 0 rfl) ?_
          refine va_get (D := D) (ci := 4) (v := .ref (q 2)) (C := RX4) (T := TX4) (N := 7) hx hb hts hin4 hown hK.1 hP 0 rfl rfl 0 (by decide) (hts (.fieldLink RX4 10 "TestPicker" "tests" "LTestPicker$Tests;") (by decide +kernel)) (fun _ h9 => h9) rfl dX4_copy_48 ?_
          refine va_get (D := D) (ci := 3) (v := .ref (q 8)) (C := RX3) (T := TX3) (N := 7) hx hb hts hin3 hown hK.1 hP 2 rfl rfl 5 (by decide) (hts (.fieldLink RX4 70 "TestPicker$Tests" "torn" "[Z") (by decide +kernel)) (fun _ h9 => h9) rfl dX4_copy_51 ?_
          refine lv_iload_n hx hb dX4_copy_54 rfl (lv_at hl 3 rfl) ?_
          refine ld_z hx hb hK hP 8 (f := tTn ts) rfl (i := u) (by omega) (by decide) dX4_copy_55 ?_
          refine lv_if_eq (tgt := 65) hx hb dX4_copy_56 (by decide) (fun c56 => ?_) (fun c56 => ?_)
          · -- 56 True
            refine lv_iload_n hx hb dX4_copy_65 rfl (lv_at hl 2 rfl) ?_
            refine lv_iload hx hb dX4_copy_66 (lv_at hl 5 rfl) ?_
            refine ro_Si (As := [.int i, .int n]) (rest := []) ⟨hx, hb, hml, hown, hts⟩ (c_X4_isStretch l D c i n) (va_cwS 2 hts gX4_copy_X4_isStretch rfl rfl rfl (by decide +kernel) ⟨Nat.le_of_ble_eq_true rfl, Nat.le_of_ble_eq_true rfl⟩) va_P0 hK rfl hl.1 rfl (Nat.le_of_ble_eq_true rfl) dX4_copy_68 ⟨Nat.le_of_ble_eq_true rfl, Nat.le_of_ble_eq_true rfl⟩ ?_
            refine lv_if_eq (tgt := 84) hx hb dX4_copy_71 (by decide) (fun c71 => ?_) (fun c71 => ?_)
            · -- 71 True
              have c71 := bI_z.mp c71
              refine lv_aload_n hx hb dX4_copy_84 rfl (lv_at hl 0 rfl) ?_
              refine lv_iconst (v := 2) hx hb dX4_copy_85 (by decide) ?_
              refine mu_Vi (As := [.int 2]) (rest := []) (wr := []) (wk := wC q c ((refM ms 2), ts, hs, ps, ss)) [0, 1, 2, 3, 4, 5, 6, 7, 8, 9, 10, 11, 12, 13, 14, 15, 16, 17, 18, 19, 20, 21, 22, 23] [] [0, 1, 2, 3, 4, 5, 6, 7, 8, 9, 10, 11, 12, 13, 14, 15, 16, 17, 18, 19, 20, 21, 22, 23] ⟨hx, hb, hml, hown, hts⟩ (c_X4_refuse l D q c ms ts hs ps ss 2 (by omega)) (cwV 1 hts gX4_copy_X4_refuse rfl rfl rfl (by decide +kernel) ⟨Nat.le_of_ble_eq_true rfl, Nat.le_of_ble_eq_true rfl⟩) hP hK hD hS hA (va_recv hK.1 hP (ci := 4) (q0 := 0) rfl rfl) rfl rfl (by decide) (by decide) (by decide) (by decide) rfl rfl hl.1 rfl (Nat.le_of_ble_eq_true rfl) dX4_copy_86 ⟨Nat.le_of_ble_eq_true rfl, Nat.le_of_ble_eq_true rfl⟩ (fun H locs hP hD hS => ?_)
              have e9 : xCopy (nI t) i (nI u) j n (ms, ts, hs, ps, ss) = ((-3), ((refM ms 2), ts, hs, ps, ss)) := by simp [xCopy, c8, c19, c26, eq_true c44, eq_true c56, c71, nI_clamp (show t < 2 ^ 31 by omega), nI_clamp (show u < 2 ^ 31 by omega)]
              rw [e9]
              exact mu_reti hx hb hr hlk hP hD hS (rfl) dX4_copy_89
            · -- 71 False
              have c71 := bI_nz.mp c71
              refine lv_iload hx hb dX4_copy_74 (lv_at hl 4 rfl) ?_
              refine lv_iload hx hb dX4_copy_76 (lv_at hl 5 rfl) ?_
              refine ro_Si (As := [.int j, .int n]) (rest := []) ⟨hx, hb, hml, hown, hts⟩ (c_X4_isStretch l D c j n) (va_cwS 2 hts gX4_copy_X4_isStretch rfl rfl rfl (by decide +kernel) ⟨Nat.le_of_ble_eq_true rfl, Nat.le_of_ble_eq_true rfl⟩) va_P0 hK rfl hl.1 rfl (Nat.le_of_ble_eq_true rfl) dX4_copy_78 ⟨Nat.le_of_ble_eq_true rfl, Nat.le_of_ble_eq_true rfl⟩ ?_
              refine lv_if_ne (tgt := 90) hx hb dX4_copy_81 (by decide) (fun c81 => ?_) (fun c81 => ?_)
              · -- 81 True
                have c81 := bI_nz.mp c81
                obtain ⟨a, b, hab, rfl, rfl⟩ := st_ex c26 c71
                obtain ⟨a2, b2, hab2, rfl, hbb⟩ := st_ex c26 c81
                have hbn : b < 6 := by omega
                refine lv_aload_n hx hb dX4_copy_90 rfl (lv_at hl 0 rfl) ?_
                refine va_get (D := D) (ci := 4) (v := .ref (q 2)) (C := RX4) (T := TX4) (N := 7) hx hb hts hin4 hown hK.1 hP 0 rfl rfl 0 (by decide) (hts (.fieldLink RX4 10 "TestPicker" "tests" "LTestPicker$Tests;") (by decide +kernel)) (fun _ h9 => h9) rfl dX4_copy_91 ?_
                refine lv_iload_n hx hb dX4_copy_94 rfl (lv_at hl 1 rfl) ?_
                refine lv_iload_n hx hb dX4_copy_95 rfl (lv_at hl 2 rfl) ?_
                refine lv_iload_n hx hb dX4_copy_96 rfl (lv_at hl 3 rfl) ?_
                refine lv_iload hx hb dX4_copy_97 (lv_at hl 4 rfl) ?_
                refine lv_iload hx hb dX4_copy_99 (lv_at hl 5 rfl) ?_
                refine mu_Vv (As := [.int (nI t), .int (nI a), .int (nI u), .int (nI a2), .int (nI b)]) (rest := []) (wr := wM q c ms ++ wH q c hs ++ wP q c ps ++ wS q c ss) (wk := wC q c (ms, (tKd ts, tOt ts, tNd ts, tCh ts, (vp_updL (tPa ts) u (cpB ((tPa ts) t) ((tPa ts) u) a a2 b)), tTn ts, tT ts), hs, ps, ss)) [2, 3, 4, 5, 6, 7, 8] [0, 1, 9, 10, 11, 12, 13, 14, 15, 16, 17, 18, 19, 20, 21, 22, 23] [0, 1, 17, 18, 19, 20, 21, 22, 23, 2, 3, 4, 5, 6, 7, 8, 9, 10, 11, 12, 13, 14, 15, 16] ⟨hx, hb, hml, hown, hts⟩ (c_X3_copyBytes l D q c ts t a u a2 b (by omega) (by omega)) (cwV 5 hts gX4_copy_X3_copyBytes rfl rfl rfl (by decide +kernel) ⟨Nat.le_of_ble_eq_true rfl, Nat.le_of_ble_eq_true rfl⟩) hP hK hD hS hA (va_recv hK.1 hP (ci := 3) (q0 := 2) rfl rfl) rfl rfl (by decide) (by decide) (by decide) (by decide) rfl rfl hl.1 rfl (Nat.le_of_ble_eq_true rfl) dX4_copy_101 ⟨Nat.le_of_ble_eq_true rfl, Nat.le_of_ble_eq_true rfl⟩ (fun H locs hP hD hS => ?_)
                refine lv_iconst (v := 1) hx hb dX4_copy_104 (by decide) ?_
                have e9 : xCopy (nI t) (nI a) (nI u) (nI a2) (nI b) (ms, ts, hs, ps, ss) = (1, (ms, (tKd ts, tOt ts, tNd ts, tCh ts, (vp_updL (tPa ts) u (cpB ((tPa ts) t) ((tPa ts) u) a a2 b)), tTn ts, tT ts), hs, ps, ss)) := by simp [xCopy, c8, c19, c26, eq_true c44, eq_true c56, c71, c81, nI_clamp (show t < 2 ^ 31 by omega), nI_clamp (show u < 2 ^ 31 by omega), nI_clamp (show a < 2 ^ 31 by omega), nI_clamp (show b < 2 ^ 31 by omega), nI_clamp (show a2 < 2 ^ 31 by omega)]
                rw [e9]
                exact mu_reti hx hb hr hlk hP hD hS (rfl) dX4_copy_105
              · -- 81 False
                have c81 := bI_z.mp c81
                refine lv_aload_n hx hb dX4_copy_84 rfl (lv_at hl 0 rfl) ?_
                refine lv_iconst (v := 2) hx hb dX4_copy_85 (by decide) ?_
                refine mu_Vi (As := [.int 2]) (rest := []) (wr := []) (wk := wC q c ((refM ms 2), ts, hs, ps, ss)) [0, 1, 2, 3, 4, 5, 6, 7, 8, 9, 10, 11, 12, 13, 14, 15, 16, 17, 18, 19, 20, 21, 22, 23] [] [0, 1, 2, 3, 4, 5, 6, 7, 8, 9, 10, 11, 12, 13, 14, 15, 16, 17, 18, 19, 20, 21, 22, 23] ⟨hx, hb, hml, hown, hts⟩ (c_X4_refuse l D q c ms ts hs ps ss 2 (by omega)) (cwV 1 hts gX4_copy_X4_refuse rfl rfl rfl (by decide +kernel) ⟨Nat.le_of_ble_eq_true rfl, Nat.le_of_ble_eq_true rfl⟩) hP hK hD hS hA (va_recv hK.1 hP (ci := 4) (q0 := 0) rfl rfl) rfl rfl (by decide) (by decide) (by decide) (by decide) rfl rfl hl.1 rfl (Nat.le_of_ble_eq_true rfl) dX4_copy_86 ⟨Nat.le_of_ble_eq_true rfl, Nat.le_of_ble_eq_true rfl⟩ (fun H locs hP hD hS => ?_)
                have e9 : xCopy (nI t) i (nI u) j n (ms, ts, hs, ps, ss) = ((-3), ((refM ms 2), ts, hs, ps, ss)) := by simp [xCopy, c8, c19, c26, eq_true c44, eq_true c56, c71, c81, nI_clamp (show t < 2 ^ 31 by omega), nI_clamp (show u < 2 ^ 31 by omega)]
                rw [e9]
                exact mu_reti hx hb hr hlk hP hD hS (rfl) dX4_copy_89
          · -- 56 False
            refine lv_aload_n hx hb dX4_copy_59 rfl (lv_at hl 0 rfl) ?_
            refine lv_iconst (v := 1) hx hb dX4_copy_60 (by decide) ?_
            refine mu_Vi (As := [.int 1]) (rest := []) (wr := []) (wk := wC q c ((refM ms 1), ts, hs, ps, ss)) [0, 1, 2, 3, 4, 5, 6, 7, 8, 9, 10, 11, 12, 13, 14, 15, 16, 17, 18, 19, 20, 21, 22, 23] [] [0, 1, 2, 3, 4, 5, 6, 7, 8, 9, 10, 11, 12, 13, 14, 15, 16, 17, 18, 19, 20, 21, 22, 23] ⟨hx, hb, hml, hown, hts⟩ (c_X4_refuse l D q c ms ts hs ps ss 1 (by omega)) (cwV 1 hts gX4_copy_X4_refuse rfl rfl rfl (by decide +kernel) ⟨Nat.le_of_ble_eq_true rfl, Nat.le_of_ble_eq_true rfl⟩) hP hK hD hS hA (va_recv hK.1 hP (ci := 4) (q0 := 0) rfl rfl) rfl rfl (by decide) (by decide) (by decide) (by decide) rfl rfl hl.1 rfl (Nat.le_of_ble_eq_true rfl) dX4_copy_61 ⟨Nat.le_of_ble_eq_true rfl, Nat.le_of_ble_eq_true rfl⟩ (fun H locs hP hD hS => ?_)
            have e9 : xCopy (nI t) i (nI u) j n (ms, ts, hs, ps, ss) = ((-3), ((refM ms 1), ts, hs, ps, ss)) := by simp [xCopy, c8, c19, c26, eq_true c44, c56, nI_clamp (show t < 2 ^ 31 by omega), nI_clamp (show u < 2 ^ 31 by omega)]
            rw [e9]
            exact mu_reti hx hb hr hlk hP hD hS (rfl) dX4_copy_64
      · -- 26 False
        refine lv_aload_n hx hb dX4_copy_29 rfl (lv_at hl 0 rfl) ?_
        refine lv_iconst (v := 4) hx hb dX4_copy_30 (by decide) ?_
        refine mu_Vi (As := [.int 4]) (rest := []) (wr := []) (wk := wC q c ((refM ms 4), ts, hs, ps, ss)) [0, 1, 2, 3, 4, 5, 6, 7, 8, 9, 10, 11, 12, 13, 14, 15, 16, 17, 18, 19, 20, 21, 22, 23] [] [0, 1, 2, 3, 4, 5, 6, 7, 8, 9, 10, 11, 12, 13, 14, 15, 16, 17, 18, 19, 20, 21, 22, 23] ⟨hx, hb, hml, hown, hts⟩ (c_X4_refuse l D q c ms ts hs ps ss 4 (by omega)) (cwV 1 hts gX4_copy_X4_refuse rfl rfl rfl (by decide +kernel) ⟨Nat.le_of_ble_eq_true rfl, Nat.le_of_ble_eq_true rfl⟩) hP hK hD hS hA (va_recv hK.1 hP (ci := 4) (q0 := 0) rfl rfl) rfl rfl (by decide) (by decide) (by decide) (by decide) rfl rfl hl.1 rfl (Nat.le_of_ble_eq_true rfl) dX4_copy_31 ⟨Nat.le_of_ble_eq_true rfl, Nat.le_of_ble_eq_true rfl⟩ (fun H locs hP hD hS => ?_)
        have e9 : xCopy (nI t) i (nI u) j n (ms, ts, hs, ps, ss) = ((-3), ((refM ms 4), ts, hs, ps, ss)) := by simp [xCopy, c8, c19, c26, nI_clamp (show t < 2 ^ 31 by omega), nI_clamp (show u < 2 ^ 31 by omega)]
        rw [e9]
        exact mu_reti hx hb hr hlk hP hD hS (rfl) dX4_copy_34
    · -- 19 False
      have c19 := bI_z.mp c19
      refine lv_iconst (v := (-1)) hx hb dX4_copy_22 (by decide) ?_
      have e9 : xCopy (nI t) i o j n (ms, ts, hs, ps, ss) = ((-1), (ms, ts, hs, ps, ss)) := by simp [xCopy, c8, c19, nI_clamp (show t < 2 ^ 31 by omega)]
      rw [e9]
      exact mu_reti hx hb hr hlk hP hD hS (rfl) dX4_copy_23

set_option maxHeartbeats 4000000 in
set_option maxRecDepth 100000 in
theorem c_X4_told (l : Launch) (D : va_G) (q : Nat → Nat) (c : CT) (ms : MS) (ts : TS) (hs : HS) (ps : PS) (ss : SS) (x y : Int32) (hT : tT ts ≤ 20) (hb60 : hB hs ≤ 60) : ROi l yX4_told wsX4_told ({ frames := 4, cells := 0, slots := 0, locals := 93 } : Room) [.ref (q 0), .int x, .int y] D c (wC q c (ms, ts, hs, ps, ss)) (xTold x y (ms, ts, hs, ps, ss)) := by
  refine ro_starti (cc := cX4_told) (maxL := 3) (ret := some .int) (by decide) rfl (Nat.le_of_ble_eq_true rfl) ?_
  intro p e s m args below meth c0 ls hx hb hr hml hown hts hlk hP hK hl
  have hown : s.vm.findClass RX4 = some m.cls := hown
  have hl : lv_has ls 3 [(0, .ref (q 0)), (1, .int x), (2, .int y)] := hl
  have hin4 : ∀ w ∈ wsX40, w ∈ wsX4_told := by decide +kernel
  refine lv_aload_n hx hb dX4_told_0 rfl (lv_at hl 0 rfl) ?_
  refine va_get (D := D) (ci := 4) (v := .ref (q 2)) (C := RX4) (T := TX4) (N := 7) hx hb hts hin4 hown hK.1 hP 0 rfl rfl 0 (by decide) (hts (.fieldLink RX4 10 "TestPicker" "tests" "LTestPicker$Tests;") (by decide +kernel)) (fun _ h9 => h9) rfl dX4_told_1 ?_
  refine lv_iload_n hx hb dX4_told_4 rfl (lv_at hl 1 rfl) ?_
  refine ro_Vi (post := bI (inN x (tT ts))) (As := [.int x]) (rest := []) ⟨hx, hb, hml, hown, hts⟩ (c_X3_has l D q c ts x) (cwV 1 hts gX4_told_X3_has rfl rfl rfl (by decide +kernel) ⟨Nat.le_of_ble_eq_true rfl, Nat.le_of_ble_eq_true rfl⟩) (hP.sub (ws' := wT q c ts) [2, 3, 4, 5, 6, 7, 8] rfl) hK (va_recv hK.1 hP (ci := 3) (q0 := 2) rfl rfl) rfl hl.1 rfl (Nat.le_of_ble_eq_true rfl) dX4_told_5 ⟨Nat.le_of_ble_eq_true rfl, Nat.le_of_ble_eq_true rfl⟩ ?_
  refine lv_if_eq (tgt := 21) hx hb dX4_told_8 (by decide) (fun c8 => ?_) (fun c8 => ?_)
  · -- 8 True
    have c8 := bI_z.mp c8
    refine lv_iconst (v := (-1)) hx hb dX4_told_21 (by decide) ?_
    exact ro_reti hx hb hr hlk (by simp [xTold, c8]) dX4_told_22
  · -- 8 False
    have c8 := bI_nz.mp c8
    obtain ⟨t, ht, rfl⟩ := inN_ex (by omega) c8
    refine lv_iload_n hx hb dX4_told_11 rfl (lv_at hl 2 rfl) ?_
    refine lv_if_lt (tgt := 21) hx hb dX4_told_12 (by decide) (fun c12 => ?_) (fun c12 => ?_)
    · -- 12 True
      refine lv_iconst (v := (-1)) hx hb dX4_told_21 (by decide) ?_
      exact ro_reti hx hb hr hlk (by simp [xTold, c8, c12, nI_clamp (show t < 2 ^ 31 by omega)]) dX4_told_22
    · -- 12 False
      refine lv_iload_n hx hb dX4_told_15 rfl (lv_at hl 2 rfl) ?_
      refine lv_bipush (v := 6) hx hb dX4_told_16 (by decide) ?_
      refine lv_icmp_le (tgt := 23) hx hb dX4_told_18 (by decide) (fun c18 => ?_) (fun c18 => ?_)
      · -- 18 True
        refine lv_aload_n hx hb dX4_told_23 rfl (lv_at hl 0 rfl) ?_
        refine lv_iload_n hx hb dX4_told_24 rfl (lv_at hl 1 rfl) ?_
        refine lv_iload_n hx hb dX4_told_25 rfl (lv_at hl 2 rfl) ?_
        refine ro_Vi (post := (cTl ts hs t y)) (As := [.int (nI t), .int y]) (rest := []) ⟨hx, hb, hml, hown, hts⟩ (c_X4_factOf l D q c ms ts hs ps ss t y (by omega) (by omega)) (cwV 2 hts gX4_told_X4_factOf rfl rfl rfl (by decide +kernel) ⟨Nat.le_of_ble_eq_true rfl, Nat.le_of_ble_eq_true rfl⟩) hP hK (va_recv hK.1 hP (ci := 4) (q0 := 0) rfl rfl) rfl hl.1 rfl (Nat.le_of_ble_eq_true rfl) dX4_told_26 ⟨Nat.le_of_ble_eq_true rfl, Nat.le_of_ble_eq_true rfl⟩ ?_
        exact ro_reti hx hb hr hlk (by simp [xTold, c8, c12, c18, nI_clamp (show t < 2 ^ 31 by omega)]) dX4_told_29
      · -- 18 False
        refine lv_iconst (v := (-1)) hx hb dX4_told_21 (by decide) ?_
        exact ro_reti hx hb hr hlk (by simp [xTold, c8, c12, c18, nI_clamp (show t < 2 ^ 31 by omega)]) dX4_told_22

set_option maxHeartbeats 4000000 in
set_option maxRecDepth 100000 in
theorem c_X4_time (l : Launch) (D : va_G) (q : Nat → Nat) (c : CT) (ms : MS) (ts : TS) (hs : HS) (ps : PS) (ss : SS) (x k : Int32) (hT : tT ts ≤ 20) : MUi l yX4_time wsX4_time ({ frames := 1, cells := 0, slots := 0, locals := 21 } : Room) [.ref (q 0), .int x, .int k] D c (wC q c (ms, ts, hs, ps, ss)) (wC q c (xTime x k (ms, ts, hs, ps, ss)).2) ((xTime x k (ms, ts, hs, ps, ss)).1) := by
  refine mu_start (cc := cX4_time) (maxL := 3) (ret := some .int) (by decide) rfl (Nat.le_of_ble_eq_true rfl) ?_
  intro p e s m args below meth c0 ls hx hb hr hml hown hts hlk hnm hP hK hD hS hA hl
  have hown : s.vm.findClass RX4 = some m.cls := hown
  have hl : lv_has ls 3 [(0, .ref (q 0)), (1, .int x), (2, .int k)] := hl
  have hin3 : ∀ w ∈ wsX30, w ∈ wsX4_time := by decide +kernel
  have hin4 : ∀ w ∈ wsX40, w ∈ wsX4_time := by decide +kernel
  refine lv_aload_n hx hb dX4_time_0 rfl (lv_at hl 0 rfl) ?_
  refine va_get (D := D) (ci := 4) (v := .ref (q 2)) (C := RX4) (T := TX4) (N := 7) hx hb hts hin4 hown hK.1 hP 0 rfl rfl 0 (by decide) (hts (.fieldLink RX4 10 "TestPicker" "tests" "LTestPicker$Tests;") (by decide +kernel)) (fun _ h9 => h9) rfl dX4_time_1 ?_
  refine lv_iload_n hx hb dX4_time_4 rfl (lv_at hl 1 rfl) ?_
  refine ro_Vi (post := bI (inN x (tT ts))) (As := [.int x]) (rest := []) ⟨hx, hb, hml, hown, hts⟩ (c_X3_has l D q c ts x) (cwV 1 hts gX4_time_X3_has rfl rfl rfl (by decide +kernel) ⟨Nat.le_of_ble_eq_true rfl, Nat.le_of_ble_eq_true rfl⟩) (hP.sub (ws' := wT q c ts) [2, 3, 4, 5, 6, 7, 8] rfl) hK (va_recv hK.1 hP (ci := 3) (q0 := 2) rfl rfl) rfl hl.1 rfl (Nat.le_of_ble_eq_true rfl) dX4_time_5 ⟨Nat.le_of_ble_eq_true rfl, Nat.le_of_ble_eq_true rfl⟩ ?_
  refine lv_if_eq (tgt := 18) hx hb dX4_time_8 (by decide) (fun c8 => ?_) (fun c8 => ?_)
  · -- 8 True
    have c8 := bI_z.mp c8
    refine lv_iconst (v := (-1)) hx hb dX4_time_18 (by decide) ?_
    have e9 : xTime x k (ms, ts, hs, ps, ss) = ((-1), (ms, ts, hs, ps, ss)) := by simp [xTime, c8]
    rw [e9]
    exact mu_reti hx hb hr hlk hP hD hS (rfl) dX4_time_19
  · -- 8 False
    have c8 := bI_nz.mp c8
    obtain ⟨t, ht, rfl⟩ := inN_ex (by omega) c8
    refine lv_iload_n hx hb dX4_time_11 rfl (lv_at hl 2 rfl) ?_
    refine ro_Si (As := [.int k]) (rest := []) ⟨hx, hb, hml, hown, hts⟩ (c_X4_isKind l D c k) (va_cwS 1 hts gX4_time_X4_isKind rfl rfl rfl (by decide +kernel) ⟨Nat.le_of_ble_eq_true rfl, Nat.le_of_ble_eq_true rfl⟩) va_P0 hK rfl hl.1 rfl (Nat.le_of_ble_eq_true rfl) dX4_time_12 ⟨Nat.le_of_ble_eq_true rfl, Nat.le_of_ble_eq_true rfl⟩ ?_
    refine lv_if_ne (tgt := 20) hx hb dX4_time_15 (by decide) (fun c15 => ?_) (fun c15 => ?_)
    · -- 15 True
      have c15 := bI_nz.mp c15
      refine lv_iload_n hx hb dX4_time_20 rfl (lv_at hl 2 rfl) ?_
      refine lv_if_eq (tgt := 43) hx hb dX4_time_21 (by decide) (fun c21 => ?_) (fun c21 => ?_)
      · -- 21 True
        refine lv_aload_n hx hb dX4_time_43 rfl (lv_at hl 0 rfl) ?_
        refine va_get (D := D) (ci := 4) (v := .ref (q 2)) (C := RX4) (T := TX4) (N := 7) hx hb hts hin4 hown hK.1 hP 0 rfl rfl 0 (by decide) (hts (.fieldLink RX4 10 "TestPicker" "tests" "LTestPicker$Tests;") (by decide +kernel)) (fun _ h9 => h9) rfl dX4_time_44 ?_
        refine va_get (D := D) (ci := 3) (v := .ref (q 4)) (C := RX3) (T := TX3) (N := 7) hx hb hts hin3 hown hK.1 hP 2 rfl rfl 1 (by decide) (hts (.fieldLink RX4 100 "TestPicker$Tests" "ownTimes" "[I") (by decide +kernel)) (fun _ h9 => h9) rfl dX4_time_47 ?_
        refine lv_iload_n hx hb dX4_time_50 rfl (lv_at hl 1 rfl) ?_
        refine ld_i hx hb hK hP 4 (f := tOt ts) rfl (i := t) (by omega) (by decide) dX4_time_51 ?_
        have e9 : xTime (nI t) k (ms, ts, hs, ps, ss) = ((tOt ts t), (ms, ts, hs, ps, ss)) := by simp [xTime, c8, c15, eq_true c21, nI_clamp (show t < 2 ^ 31 by omega)]
        rw [e9]
        exact mu_reti hx hb hr hlk hP hD hS (rfl) dX4_time_52
      · -- 21 False
        refine lv_iload_n hx hb dX4_time_24 rfl (lv_at hl 2 rfl) ?_
        refine lv_aload_n hx hb dX4_time_25 rfl (lv_at hl 0 rfl) ?_
        refine va_get (D := D) (ci := 4) (v := .ref (q 2)) (C := RX4) (T := TX4) (N := 7) hx hb hts hin4 hown hK.1 hP 0 rfl rfl 0 (by decide) (hts (.fieldLink RX4 10 "TestPicker" "tests" "LTestPicker$Tests;") (by decide +kernel)) (fun _ h9 => h9) rfl dX4_time_26 ?_
        refine va_get (D := D) (ci := 3) (v := .ref (q 3)) (C := RX3) (T := TX3) (N := 7) hx hb hts hin3 hown hK.1 hP 2 rfl rfl 0 (by decide) (hts (.fieldLink RX4 63 "TestPicker$Tests" "kinds" "[I") (by decide +kernel)) (fun _ h9 => h9) rfl dX4_time_29 ?_
        refine lv_iload_n hx hb dX4_time_32 rfl (lv_at hl 1 rfl) ?_
        refine ld_i hx hb hK hP 3 (f := tKd ts) rfl (i := t) (by omega) (by decide) dX4_time_33 ?_
        refine lv_icmp_eq (tgt := 43) hx hb dX4_time_34 (by decide) (fun c34 => ?_) (fun c34 => ?_)
        · -- 34 True
          refine lv_aload_n hx hb dX4_time_43 rfl (lv_at hl 0 rfl) ?_
          refine va_get (D := D) (ci := 4) (v := .ref (q 2)) (C := RX4) (T := TX4) (N := 7) hx hb hts hin4 hown hK.1 hP 0 rfl rfl 0 (by decide) (hts (.fieldLink RX4 10 "TestPicker" "tests" "LTestPicker$Tests;") (by decide +kernel)) (fun _ h9 => h9) rfl dX4_time_44 ?_
          refine va_get (D := D) (ci := 3) (v := .ref (q 4)) (C := RX3) (T := TX3) (N := 7) hx hb hts hin3 hown hK.1 hP 2 rfl rfl 1 (by decide) (hts (.fieldLink RX4 100 "TestPicker$Tests" "ownTimes" "[I") (by decide +kernel)) (fun _ h9 => h9) rfl dX4_time_47 ?_
          refine lv_iload_n hx hb dX4_time_50 rfl (lv_at hl 1 rfl) ?_
          refine ld_i hx hb hK hP 4 (f := tOt ts) rfl (i := t) (by omega) (by decide) dX4_time_51 ?_
          have e9 : xTime (nI t) k (ms, ts, hs, ps, ss) = ((tOt ts t), (ms, ts, hs, ps, ss)) := by simp [xTime, c8, c15, c21, eq_true c34, nI_clamp (show t < 2 ^ 31 by omega)]
          rw [e9]
          exact mu_reti hx hb hr hlk hP hD hS (rfl) dX4_time_52
        · -- 34 False
          refine lv_aload_n hx hb dX4_time_37 rfl (lv_at hl 0 rfl) ?_
          refine lv_iconst (v := 3) hx hb dX4_time_38 (by decide) ?_
          refine mu_Vi (As := [.int 3]) (rest := []) (wr := []) (wk := wC q c ((refM ms 3), ts, hs, ps, ss)) [0, 1, 2, 3, 4, 5, 6, 7, 8, 9, 10, 11, 12, 13, 14, 15, 16, 17, 18, 19, 20, 21, 22, 23] [] [0, 1, 2, 3, 4, 5, 6, 7, 8, 9, 10, 11, 12, 13, 14, 15, 16, 17, 18, 19, 20, 21, 22, 23] ⟨hx, hb, hml, hown, hts⟩ (c_X4_refuse l D q c ms ts hs ps ss 3 (by omega)) (cwV 1 hts gX4_time_X4_refuse rfl rfl rfl (by decide +kernel) ⟨Nat.le_of_ble_eq_true rfl, Nat.le_of_ble_eq_true rfl⟩) hP hK hD hS hA (va_recv hK.1 hP (ci := 4) (q0 := 0) rfl rfl) rfl rfl (by decide) (by decide) (by decide) (by decide) rfl rfl hl.1 rfl (Nat.le_of_ble_eq_true rfl) dX4_time_39 ⟨Nat.le_of_ble_eq_true rfl, Nat.le_of_ble_eq_true rfl⟩ (fun H locs hP hD hS => ?_)
          have e9 : xTime (nI t) k (ms, ts, hs, ps, ss) = ((-3), ((refM ms 3), ts, hs, ps, ss)) := by simp [xTime, c8, c15, c21, c34, nI_clamp (show t < 2 ^ 31 by omega)]
          rw [e9]
          exact mu_reti hx hb hr hlk hP hD hS (rfl) dX4_time_42
    · -- 15 False
      have c15 := bI_z.mp c15
      refine lv_iconst (v := (-1)) hx hb dX4_time_18 (by decide) ?_
      have e9 : xTime (nI t) k (ms, ts, hs, ps, ss) = ((-1), (ms, ts, hs, ps, ss)) := by simp [xTime, c8, c15, nI_clamp (show t < 2 ^ 31 by omega)]
      rw [e9]
      exact mu_reti hx hb hr hlk hP hD hS (rfl) dX4_time_19

set_option maxHeartbeats 4000000 in
set_option maxRecDepth 100000 in
theorem c_X4_build (l : Launch) (D : va_G) (q : Nat → Nat) (c : CT) (ms : MS) (ts : TS) (hs : HS) (ps : PS) (ss : SS) (x : Int64) (hb60 : hB hs ≤ 60) : MUi l yX4_build wsX4_build ({ frames := 1, cells := 0, slots := 0, locals := 22 } : Room) [.ref (q 0), .long x] D c (wC q c (ms, ts, hs, ps, ss)) (wC q c (xBuild x (ms, ts, hs, ps, ss)).2) ((xBuild x (ms, ts, hs, ps, ss)).1) := by
  refine mu_start (cc := cX4_build) (maxL := 3) (ret := some .int) (by decide) rfl (Nat.le_of_ble_eq_true rfl) ?_
  intro p e s m args below meth c0 ls hx hb hr hml hown hts hlk hnm hP hK hD hS hA hl
  have hown : s.vm.findClass RX4 = some m.cls := hown
  have hl : lv_has ls 3 [(0, .ref (q 0)), (1, .long x)] := hl
  have hin0 : ∀ w ∈ wsX00, w ∈ wsX4_build := by decide +kernel
  have hin4 : ∀ w ∈ wsX40, w ∈ wsX4_build := by decide +kernel
  refine lv_lload_n hx hb dX4_build_0 rfl (lv_at hl 1 rfl) ?_
  refine lv_bipush (v := 40) hx hb dX4_build_1 (by decide) ?_
  refine lv_lushr (v := (x.toUInt64 >>> ((40 : Int32).toInt64.toUInt64 &&& Int64.toUInt64 63)).toInt64) hx hb dX4_build_3 rfl ?_
  refine tp_l (z := hi40 x) (rfl) ?_
  refine lv_lconst (v := 0) hx hb dX4_build_4 (by decide) ?_
  refine W.lcmp hx hb dX4_build_5 ?_
  refine lv_if_eq (tgt := 11) hx hb dX4_build_6 (by decide) (fun c6 => ?_) (fun c6 => ?_)
  · -- 6 True
    have c6 := (lg_cmp_eq _ _).mp c6
    refine lv_aload_n hx hb dX4_build_11 rfl (lv_at hl 0 rfl) ?_
    refine va_get (D := D) (ci := 4) (v := .ref (q 9)) (C := RX4) (T := TX4) (N := 7) hx hb hts hin4 hown hK.1 hP 0 rfl rfl 1 (by decide) (hts (.fieldLink RX4 19 "TestPicker" "history" "LTestPicker$History;") (by decide +kernel)) (fun _ h9 => h9) rfl dX4_build_12 ?_
    refine va_get (D := D) (ci := 0) (v := .int (nI (hB hs))) (C := RX0) (T := TX0) (N := 4) hx hb hts hin0 hown hK.1 hP 9 rfl rfl 3 (by decide) (hts (.fieldLink RX4 103 "TestPicker$History" "size" "I") (by decide +kernel)) (fun _ h9 => h9) rfl dX4_build_15 ?_
    refine lv_bipush (v := 60) hx hb dX4_build_18 (by decide) ?_
    refine lv_icmp_lt (tgt := 26) hx hb dX4_build_20 (by decide) (fun c20 => ?_) (fun c20 => ?_)
    · -- 20 True
      have c20 : (hB hs) < 60 := (nI_ltI (a := (hB hs)) (b := 60) (by omega) (by omega)).mp c20
      have c20b : ¬ 60 ≤ hB hs := by omega
      refine lv_aload_n hx hb dX4_build_26 rfl (lv_at hl 0 rfl) ?_
      refine va_get (D := D) (ci := 4) (v := .ref (q 13)) (C := RX4) (T := TX4) (N := 7) hx hb hts hin4 hown hK.1 hP 0 rfl rfl 2 (by decide) (hts (.fieldLink RX4 26 "TestPicker" "plan" "LTestPicker$Plan;") (by decide +kernel)) (fun _ h9 => h9) rfl dX4_build_27 ?_
      refine mu_Vv (As := []) (rest := []) (wr := wM q c ms ++ wT q c ts ++ wH q c hs ++ wS q c ss) (wk := wC q c (ms, ts, hs, (pRow ps, 0, 0, 0, 0, 0, 0), ss)) [13, 14] [0, 1, 2, 3, 4, 5, 6, 7, 8, 9, 10, 11, 12, 15, 16, 17, 18, 19, 20, 21, 22, 23] [0, 1, 2, 3, 4, 5, 6, 7, 8, 9, 10, 11, 12, 22, 23, 13, 14, 15, 16, 17, 18, 19, 20, 21] ⟨hx, hb, hml, hown, hts⟩ (c_X1_drop l D q c ps) (cwV 0 hts gX4_build_X1_drop rfl rfl rfl (by decide +kernel) ⟨Nat.le_of_ble_eq_true rfl, Nat.le_of_ble_eq_true rfl⟩) hP hK hD hS hA (va_recv hK.1 hP (ci := 1) (q0 := 13) rfl rfl) rfl rfl (by decide) (by decide) (by decide) (by decide) rfl rfl hl.1 rfl (Nat.le_of_ble_eq_true rfl) dX4_build_30 ⟨Nat.le_of_ble_eq_true rfl, Nat.le_of_ble_eq_true rfl⟩ (fun H locs hP hD hS => ?_)
      refine lv_aload_n hx hb dX4_build_33 rfl (lv_at hl 0 rfl) ?_
      refine va_get (D := D) (ci := 4) (v := .ref (q 9)) (C := RX4) (T := TX4) (N := 7) hx hb hts hin4 hown hK.1 hP 0 rfl rfl 1 (by decide) (hts (.fieldLink RX4 19 "TestPicker" "history" "LTestPicker$History;") (by decide +kernel)) (fun _ h9 => h9) rfl dX4_build_34 ?_
      refine lv_lload_n hx hb dX4_build_37 rfl (lv_at hl 1 rfl) ?_
      refine mu_Vi (As := [.long x]) (rest := []) (wr := wM q c ms ++ wT q c ts ++ wP q c (pRow ps, 0, 0, 0, 0, 0, 0) ++ wS q c ss) (wk := wC q c (ms, ts, (addH hs x), (pRow ps, 0, 0, 0, 0, 0, 0), ss)) [9, 10, 11, 12] [0, 1, 2, 3, 4, 5, 6, 7, 8, 13, 14, 15, 16, 17, 18, 19, 20, 21, 22, 23] [0, 1, 2, 3, 4, 5, 6, 7, 8, 20, 21, 22, 23, 9, 10, 11, 12, 13, 14, 15, 16, 17, 18, 19] ⟨hx, hb, hml, hown, hts⟩ (c_X0_add l D q c hs x (by omega)) (cwV 1 hts gX4_build_X0_add rfl rfl rfl (by decide +kernel) ⟨Nat.le_of_ble_eq_true rfl, Nat.le_of_ble_eq_true rfl⟩) hP hK hD hS hA (va_recv hK.1 hP (ci := 0) (q0 := 9) rfl rfl) rfl rfl (by decide) (by decide) (by decide) (by decide) rfl rfl hl.1 rfl (Nat.le_of_ble_eq_true rfl) dX4_build_38 ⟨Nat.le_of_ble_eq_true rfl, Nat.le_of_ble_eq_true rfl⟩ (fun H locs hP hD hS => ?_)
      have e9 : xBuild x (ms, ts, hs, ps, ss) = (nI (hB hs), (ms, ts, (addH hs x), (pRow ps, 0, 0, 0, 0, 0, 0), ss)) := by simp [xBuild, eq_true c6, c20, c20b]
      rw [e9]
      exact mu_reti hx hb hr hlk hP hD hS (rfl) dX4_build_41
    · -- 20 False
      have c20 : 60 ≤ (hB hs) := (Nat.not_lt.mp (fun z => c20 ((nI_ltI (a := (hB hs)) (b := 60) (by omega) (by omega)).mpr z)))
      refine lv_bipush (v := (-2)) hx hb dX4_build_23 (by decide) ?_
      have e9 : xBuild x (ms, ts, hs, ps, ss) = ((-2), (ms, ts, hs, ps, ss)) := by simp [xBuild, eq_true c6, c20]
      rw [e9]
      exact mu_reti hx hb hr hlk hP hD hS (rfl) dX4_build_25
  · -- 6 False
    have c6 := lg_ne.mp c6
    refine lv_iconst (v := (-1)) hx hb dX4_build_9 (by decide) ?_
    have e9 : xBuild x (ms, ts, hs, ps, ss) = ((-1), (ms, ts, hs, ps, ss)) := by simp [xBuild, c6]
    rw [e9]
    exact mu_reti hx hb hr hlk hP hD hS (rfl) dX4_build_10

set_option maxHeartbeats 4000000 in
set_option maxRecDepth 100000 in
theorem c_X4_verdict (l : Launch) (D : va_G) (q : Nat → Nat) (c : CT) (ms : MS) (ts : TS) (hs : HS) (ps : PS) (ss : SS) (x : Int32) (f : Bool) (hT : tT ts ≤ 20) (hb60 : hB hs ≤ 60) : MUi l yX4_verdict wsX4_verdict ({ frames := 1, cells := 0, slots := 0, locals := 24 } : Room) [.ref (q 0), .int x, .int (bI f)] D c (wC q c (ms, ts, hs, ps, ss)) (wC q c (xVerdict x f (ms, ts, hs, ps, ss)).2) ((xVerdict x f (ms, ts, hs, ps, ss)).1) := by
  refine mu_start (cc := cX4_verdict) (maxL := 4) (ret := some .int) (by decide) rfl (Nat.le_of_ble_eq_true rfl) ?_
  intro p e s m args below meth c0 ls hx hb hr hml hown hts hlk hnm hP hK hD hS hA hl
  have hown : s.vm.findClass RX4 = some m.cls := hown
  have hl : lv_has ls 4 [(0, .ref (q 0)), (1, .int x), (2, .int (bI f))] := hl
  have hin0 : ∀ w ∈ wsX00, w ∈ wsX4_verdict := by decide +kernel
  have hin4 : ∀ w ∈ wsX40, w ∈ wsX4_verdict := by decide +kernel
  refine lv_aload_n hx hb dX4_verdict_0 rfl (lv_at hl 0 rfl) ?_
  refine va_get (D := D) (ci := 4) (v := .ref (q 2)) (C := RX4) (T := TX4) (N := 7) hx hb hts hin4 hown hK.1 hP 0 rfl rfl 0 (by decide) (hts (.fieldLink RX4 10 "TestPicker" "tests" "LTestPicker$Tests;") (by decide +kernel)) (fun _ h9 => h9) rfl dX4_verdict_1 ?_
  refine lv_iload_n hx hb dX4_verdict_4 rfl (lv_at hl 1 rfl) ?_
  refine ro_Vi (post := bI (inN x (tT ts))) (As := [.int x]) (rest := []) ⟨hx, hb, hml, hown, hts⟩ (c_X3_has l D q c ts x) (cwV 1 hts gX4_verdict_X3_has rfl rfl rfl (by decide +kernel) ⟨Nat.le_of_ble_eq_true rfl, Nat.le_of_ble_eq_true rfl⟩) (hP.sub (ws' := wT q c ts) [2, 3, 4, 5, 6, 7, 8] rfl) hK (va_recv hK.1 hP (ci := 3) (q0 := 2) rfl rfl) rfl hl.1 rfl (Nat.le_of_ble_eq_true rfl) dX4_verdict_5 ⟨Nat.le_of_ble_eq_true rfl, Nat.le_of_ble_eq_true rfl⟩ ?_
  refine lv_if_ne (tgt := 13) hx hb dX4_verdict_8 (by decide) (fun c8 => ?_) (fun c8 => ?_)
  · -- 8 True
    have c8 := bI_nz.mp c8
    obtain ⟨t, ht, rfl⟩ := inN_ex (by omega) c8
    refine lv_aload_n hx hb dX4_verdict_13 rfl (lv_at hl 0 rfl) ?_
    refine va_get (D := D) (ci := 4) (v := .ref (q 9)) (C := RX4) (T := TX4) (N := 7) hx hb hts hin4 hown hK.1 hP 0 rfl rfl 1 (by decide) (hts (.fieldLink RX4 19 "TestPicker" "history" "LTestPicker$History;") (by decide +kernel)) (fun _ h9 => h9) rfl dX4_verdict_14 ?_
    refine va_get (D := D) (ci := 0) (v := .int (nI (hB hs))) (C := RX0) (T := TX0) (N := 4) hx hb hts hin0 hown hK.1 hP 9 rfl rfl 3 (by decide) (hts (.fieldLink RX4 103 "TestPicker$History" "size" "I") (by decide +kernel)) (fun _ h9 => h9) rfl dX4_verdict_17 ?_
    refine lv_if_ne (tgt := 26) hx hb dX4_verdict_20 (by decide) (fun c20 => ?_) (fun c20 => ?_)
    · -- 20 True
      have c20 : ¬ (hB hs) = 0 := fun z => c20 ((nI_eq (b := 0) (by omega) (by omega)).mpr z)
      refine lv_aload_n hx hb dX4_verdict_26 rfl (lv_at hl 0 rfl) ?_
      refine va_get (D := D) (ci := 4) (v := .ref (q 9)) (C := RX4) (T := TX4) (N := 7) hx hb hts hin4 hown hK.1 hP 0 rfl rfl 1 (by decide) (hts (.fieldLink RX4 19 "TestPicker" "history" "LTestPicker$History;") (by decide +kernel)) (fun _ h9 => h9) rfl dX4_verdict_27 ?_
      refine lv_iload_n hx hb dX4_verdict_30 rfl (lv_at hl 1 rfl) ?_
      refine lv_aload_n hx hb dX4_verdict_31 rfl (lv_at hl 0 rfl) ?_
      refine va_get (D := D) (ci := 4) (v := .ref (q 9)) (C := RX4) (T := TX4) (N := 7) hx hb hts hin4 hown hK.1 hP 0 rfl rfl 1 (by decide) (hts (.fieldLink RX4 19 "TestPicker" "history" "LTestPicker$History;") (by decide +kernel)) (fun _ h9 => h9) rfl dX4_verdict_32 ?_
      refine va_get (D := D) (ci := 0) (v := .int (nI (hB hs))) (C := RX0) (T := TX0) (N := 4) hx hb hts hin0 hown hK.1 hP 9 rfl rfl 3 (by decide) (hts (.fieldLink RX4 103 "TestPicker$History" "size" "I") (by decide +kernel)) (fun _ h9 => h9) rfl dX4_verdict_35 ?_
      refine lv_iconst (v := 1) hx hb dX4_verdict_38 (by decide) ?_
      refine lv_isub hx hb dX4_verdict_39 ?_
      refine tp_i (z := nI (hB hs - 1)) (pred1 (by omega)) ?_
      refine ro_Vi (post := (vIn (hFe hs) (hPs hs) t (hB hs - 1))) (As := [.int (nI t), .int (nI (hB hs - 1))]) (rest := []) ⟨hx, hb, hml, hown, hts⟩ (c_X0_verdictIn l D q c hs t (hB hs - 1) (by omega) (by omega)) (cwV 2 hts gX4_verdict_X0_verdictIn rfl rfl rfl (by decide +kernel) ⟨Nat.le_of_ble_eq_true rfl, Nat.le_of_ble_eq_true rfl⟩) (hP.sub (ws' := wH q c hs) [9, 10, 11, 12] rfl) hK (va_recv hK.1 hP (ci := 0) (q0 := 9) rfl rfl) rfl hl.1 rfl (Nat.le_of_ble_eq_true rfl) dX4_verdict_40 ⟨Nat.le_of_ble_eq_true rfl, Nat.le_of_ble_eq_true rfl⟩ ?_
      refine lv_istore_n (lv' := [(3, .int (vIn (hFe hs) (hPs hs) t (hB hs - 1))), (0, .ref (q 0)), (1, .int (nI t)), (2, .int (bI f))]) hx hb dX4_verdict_43 rfl hl (by decide) rfl (fun ls hl => ?_)
      refine lv_aload_n hx hb dX4_verdict_44 rfl (lv_at hl 1 rfl) ?_
      refine va_get (D := D) (ci := 4) (v := .ref (q 9)) (C := RX4) (T := TX4) (N := 7) hx hb hts hin4 hown hK.1 hP 0 rfl rfl 1 (by decide) (hts (.fieldLink RX4 19 "TestPicker" "history" "LTestPicker$History;") (by decide +kernel)) (fun _ h9 => h9) rfl dX4_verdict_45 ?_
      refine lv_iload_n hx hb dX4_verdict_48 rfl (lv_at hl 2 rfl) ?_
      refine lv_iload_n hx hb dX4_verdict_49 rfl (lv_at hl 3 rfl) ?_
      refine mu_Vv (As := [.int (nI t), .int (bI f)]) (rest := []) (wr := wM q c ms ++ wT q c ts ++ wP q c ps ++ wS q c ss) (wk := wC q c (ms, ts, (judH hs t f), ps, ss)) [9, 10, 11, 12] [0, 1, 2, 3, 4, 5, 6, 7, 8, 13, 14, 15, 16, 17, 18, 19, 20, 21, 22, 23] [0, 1, 2, 3, 4, 5, 6, 7, 8, 20, 21, 22, 23, 9, 10, 11, 12, 13, 14, 15, 16, 17, 18, 19] ⟨hx, hb, hml, hown, hts⟩ (c_X0_judge l D q c hs t f (by omega) (by omega)) (cwV 2 hts gX4_verdict_X0_judge rfl rfl rfl (by decide +kernel) ⟨Nat.le_of_ble_eq_true rfl, Nat.le_of_ble_eq_true rfl⟩) hP hK hD hS hA (va_recv hK.1 hP (ci := 0) (q0 := 9) rfl rfl) rfl rfl (by decide) (by decide) (by decide) (by decide) rfl rfl hl.1 rfl (Nat.le_of_ble_eq_true rfl) dX4_verdict_50 ⟨Nat.le_of_ble_eq_true rfl, Nat.le_of_ble_eq_true rfl⟩ (fun H locs hP hD hS => ?_)
      refine lv_iload_n hx hb dX4_verdict_53 rfl (lv_at hl 0 rfl) ?_
      refine lv_bipush (v := (-9)) hx hb dX4_verdict_54 (by decide) ?_
      refine lv_icmp_ne (tgt := 63) hx hb dX4_verdict_56 (by decide) (fun c56 => ?_) (fun c56 => ?_)
      · -- 56 True
        refine lv_iconst (v := 1) hx hb dX4_verdict_63 (by decide) ?_
        have e9 : xVerdict (nI t) f (ms, ts, hs, ps, ss) = (1, (ms, ts, (judH hs t f), ps, ss)) := by simp [xVerdict, c8, c20, c56, nI_clamp (show t < 2 ^ 31 by omega)]
        rw [e9]
        exact mu_reti hx hb hr hlk hP hD hS (rfl) dX4_verdict_64
      · -- 56 False
        refine lv_iconst (v := 0) hx hb dX4_verdict_59 (by decide) ?_
        refine lv_goto (tgt := 64) hx hb dX4_verdict_60 (by decide) ?_
        have e9 : xVerdict (nI t) f (ms, ts, hs, ps, ss) = (0, (ms, ts, (judH hs t f), ps, ss)) := by simp [xVerdict, c8, c20, eq_true c56, nI_clamp (show t < 2 ^ 31 by omega)]
        rw [e9]
        exact mu_reti hx hb hr hlk hP hD hS (rfl) dX4_verdict_64
    · -- 20 False
      have c20 : (hB hs) = 0 := (nI_eq (b := 0) (by omega) (by omega)).mp c20
      refine lv_bipush (v := (-4)) hx hb dX4_verdict_23 (by decide) ?_
      have e9 : xVerdict (nI t) f (ms, ts, hs, ps, ss) = ((-4), (ms, ts, hs, ps, ss)) := by simp [xVerdict, c8, eq_true c20, nI_clamp (show t < 2 ^ 31 by omega)]
      rw [e9]
      exact mu_reti hx hb hr hlk hP hD hS (rfl) dX4_verdict_25
  · -- 8 False
    have c8 := bI_z.mp c8
    refine lv_iconst (v := (-1)) hx hb dX4_verdict_11 (by decide) ?_
    have e9 : xVerdict x f (ms, ts, hs, ps, ss) = ((-1), (ms, ts, hs, ps, ss)) := by simp [xVerdict, c8]
    rw [e9]
    exact mu_reti hx hb hr hlk hP hD hS (rfl) dX4_verdict_12

set_option maxHeartbeats 4000000 in
set_option maxRecDepth 100000 in
theorem c_X4_was (l : Launch) (D : va_G) (q : Nat → Nat) (c : CT) (ms : MS) (ts : TS) (hs : HS) (ps : PS) (ss : SS) (x b : Int32) (hT : tT ts ≤ 20) (hb60 : hB hs ≤ 60) : ROi l yX4_was wsX4_was ({ frames := 1, cells := 0, slots := 0, locals := 22 } : Room) [.ref (q 0), .int x, .int b] D c (wC q c (ms, ts, hs, ps, ss)) (xWas x b (ms, ts, hs, ps, ss)) := by
  refine ro_starti (cc := cX4_was) (maxL := 3) (ret := some .int) (by decide) rfl (Nat.le_of_ble_eq_true rfl) ?_
  intro p e s m args below meth c0 ls hx hb hr hml hown hts hlk hP hK hl
  have hown : s.vm.findClass RX4 = some m.cls := hown
  have hl : lv_has ls 3 [(0, .ref (q 0)), (1, .int x), (2, .int b)] := hl
  have hin4 : ∀ w ∈ wsX40, w ∈ wsX4_was := by decide +kernel
  refine lv_aload_n hx hb dX4_was_0 rfl (lv_at hl 0 rfl) ?_
  refine va_get (D := D) (ci := 4) (v := .ref (q 2)) (C := RX4) (T := TX4) (N := 7) hx hb hts hin4 hown hK.1 hP 0 rfl rfl 0 (by decide) (hts (.fieldLink RX4 10 "TestPicker" "tests" "LTestPicker$Tests;") (by decide +kernel)) (fun _ h9 => h9) rfl dX4_was_1 ?_
  refine lv_iload_n hx hb dX4_was_4 rfl (lv_at hl 1 rfl) ?_
  refine ro_Vi (post := bI (inN x (tT ts))) (As := [.int x]) (rest := []) ⟨hx, hb, hml, hown, hts⟩ (c_X3_has l D q c ts x) (cwV 1 hts gX4_was_X3_has rfl rfl rfl (by decide +kernel) ⟨Nat.le_of_ble_eq_true rfl, Nat.le_of_ble_eq_true rfl⟩) (hP.sub (ws' := wT q c ts) [2, 3, 4, 5, 6, 7, 8] rfl) hK (va_recv hK.1 hP (ci := 3) (q0 := 2) rfl rfl) rfl hl.1 rfl (Nat.le_of_ble_eq_true rfl) dX4_was_5 ⟨Nat.le_of_ble_eq_true rfl, Nat.le_of_ble_eq_true rfl⟩ ?_
  refine lv_if_eq (tgt := 22) hx hb dX4_was_8 (by decide) (fun c8 => ?_) (fun c8 => ?_)
  · -- 8 True
    have c8 := bI_z.mp c8
    refine lv_iconst (v := (-1)) hx hb dX4_was_22 (by decide) ?_
    exact ro_reti hx hb hr hlk (by simp [xWas, c8]) dX4_was_23
  · -- 8 False
    have c8 := bI_nz.mp c8
    obtain ⟨t, ht, rfl⟩ := inN_ex (by omega) c8
    refine lv_aload_n hx hb dX4_was_11 rfl (lv_at hl 0 rfl) ?_
    refine va_get (D := D) (ci := 4) (v := .ref (q 9)) (C := RX4) (T := TX4) (N := 7) hx hb hts hin4 hown hK.1 hP 0 rfl rfl 1 (by decide) (hts (.fieldLink RX4 19 "TestPicker" "history" "LTestPicker$History;") (by decide +kernel)) (fun _ h9 => h9) rfl dX4_was_12 ?_
    refine lv_iload_n hx hb dX4_was_15 rfl (lv_at hl 2 rfl) ?_
    refine ro_Vi (post := bI (inN b (hB hs))) (As := [.int b]) (rest := []) ⟨hx, hb, hml, hown, hts⟩ (c_X0_has l D q c hs b) (cwV 1 hts gX4_was_X0_has rfl rfl rfl (by decide +kernel) ⟨Nat.le_of_ble_eq_true rfl, Nat.le_of_ble_eq_true rfl⟩) (hP.sub (ws' := wH q c hs) [9, 10, 11, 12] rfl) hK (va_recv hK.1 hP (ci := 0) (q0 := 9) rfl rfl) rfl hl.1 rfl (Nat.le_of_ble_eq_true rfl) dX4_was_16 ⟨Nat.le_of_ble_eq_true rfl, Nat.le_of_ble_eq_true rfl⟩ ?_
    refine lv_if_ne (tgt := 24) hx hb dX4_was_19 (by decide) (fun c19 => ?_) (fun c19 => ?_)
    · -- 19 True
      have c19 := bI_nz.mp c19
      obtain ⟨u, hu, rfl⟩ := inN_ex (by omega) c19
      refine lv_aload_n hx hb dX4_was_24 rfl (lv_at hl 0 rfl) ?_
      refine va_get (D := D) (ci := 4) (v := .ref (q 9)) (C := RX4) (T := TX4) (N := 7) hx hb hts hin4 hown hK.1 hP 0 rfl rfl 1 (by decide) (hts (.fieldLink RX4 19 "TestPicker" "history" "LTestPicker$History;") (by decide +kernel)) (fun _ h9 => h9) rfl dX4_was_25 ?_
      refine lv_iload_n hx hb dX4_was_28 rfl (lv_at hl 1 rfl) ?_
      refine lv_iload_n hx hb dX4_was_29 rfl (lv_at hl 2 rfl) ?_
      refine ro_Vi (post := (vIn (hFe hs) (hPs hs) t u)) (As := [.int (nI t), .int (nI u)]) (rest := []) ⟨hx, hb, hml, hown, hts⟩ (c_X0_verdictIn l D q c hs t u (by omega) (by omega)) (cwV 2 hts gX4_was_X0_verdictIn rfl rfl rfl (by decide +kernel) ⟨Nat.le_of_ble_eq_true rfl, Nat.le_of_ble_eq_true rfl⟩) (hP.sub (ws' := wH q c hs) [9, 10, 11, 12] rfl) hK (va_recv hK.1 hP (ci := 0) (q0 := 9) rfl rfl) rfl hl.1 rfl (Nat.le_of_ble_eq_true rfl) dX4_was_30 ⟨Nat.le_of_ble_eq_true rfl, Nat.le_of_ble_eq_true rfl⟩ ?_
      exact ro_reti hx hb hr hlk (by simp [xWas, c8, c19, nI_clamp (show t < 2 ^ 31 by omega), nI_clamp (show u < 2 ^ 31 by omega)]) dX4_was_33
    · -- 19 False
      have c19 := bI_z.mp c19
      refine lv_iconst (v := (-1)) hx hb dX4_was_22 (by decide) ?_
      exact ro_reti hx hb hr hlk (by simp [xWas, c8, c19, nI_clamp (show t < 2 ^ 31 by omega)]) dX4_was_23

set_option maxHeartbeats 4000000 in
set_option maxRecDepth 100000 in
theorem c_X4_change (l : Launch) (D : va_G) (q : Nat → Nat) (c : CT) (ms : MS) (ts : TS) (hs : HS) (ps : PS) (ss : SS) (b : Int32) (hb60 : hB hs ≤ 60) : MUi l yX4_change wsX4_change ({ frames := 1, cells := 0, slots := 0, locals := 21 } : Room) [.ref (q 0), .int b] D c (wC q c (ms, ts, hs, ps, ss)) (wC q c (xChange b (ms, ts, hs, ps, ss)).2) ((xChange b (ms, ts, hs, ps, ss)).1) := by
  refine mu_start (cc := cX4_change) (maxL := 2) (ret := some .int) (by decide) rfl (Nat.le_of_ble_eq_true rfl) ?_
  intro p e s m args below meth c0 ls hx hb hr hml hown hts hlk hnm hP hK hD hS hA hl
  have hown : s.vm.findClass RX4 = some m.cls := hown
  have hl : lv_has ls 2 [(0, .ref (q 0)), (1, .int b)] := hl
  have hin0 : ∀ w ∈ wsX00, w ∈ wsX4_change := by decide +kernel
  have hin4 : ∀ w ∈ wsX40, w ∈ wsX4_change := by decide +kernel
  refine lv_aload_n hx hb dX4_change_0 rfl (lv_at hl 0 rfl) ?_
  refine va_get (D := D) (ci := 4) (v := .ref (q 9)) (C := RX4) (T := TX4) (N := 7) hx hb hts hin4 hown hK.1 hP 0 rfl rfl 1 (by decide) (hts (.fieldLink RX4 19 "TestPicker" "history" "LTestPicker$History;") (by decide +kernel)) (fun _ h9 => h9) rfl dX4_change_1 ?_
  refine lv_iload_n hx hb dX4_change_4 rfl (lv_at hl 1 rfl) ?_
  refine ro_Vi (post := bI (inN b (hB hs))) (As := [.int b]) (rest := []) ⟨hx, hb, hml, hown, hts⟩ (c_X0_has l D q c hs b) (cwV 1 hts gX4_change_X0_has rfl rfl rfl (by decide +kernel) ⟨Nat.le_of_ble_eq_true rfl, Nat.le_of_ble_eq_true rfl⟩) (hP.sub (ws' := wH q c hs) [9, 10, 11, 12] rfl) hK (va_recv hK.1 hP (ci := 0) (q0 := 9) rfl rfl) rfl hl.1 rfl (Nat.le_of_ble_eq_true rfl) dX4_change_5 ⟨Nat.le_of_ble_eq_true rfl, Nat.le_of_ble_eq_true rfl⟩ ?_
  refine lv_if_ne (tgt := 13) hx hb dX4_change_8 (by decide) (fun c8 => ?_) (fun c8 => ?_)
  · -- 8 True
    have c8 := bI_nz.mp c8
    obtain ⟨u, hu, rfl⟩ := inN_ex (by omega) c8
    refine lv_aload_n hx hb dX4_change_13 rfl (lv_at hl 0 rfl) ?_
    refine lv_aload_n hx hb dX4_change_14 rfl (lv_at hl 0 rfl) ?_
    refine va_get (D := D) (ci := 4) (v := .ref (q 9)) (C := RX4) (T := TX4) (N := 7) hx hb hts hin4 hown hK.1 hP 0 rfl rfl 1 (by decide) (hts (.fieldLink RX4 19 "TestPicker" "history" "LTestPicker$History;") (by decide +kernel)) (fun _ h9 => h9) rfl dX4_change_15 ?_
    refine va_get (D := D) (ci := 0) (v := .ref (q 10)) (C := RX0) (T := TX0) (N := 4) hx hb hts hin0 hown hK.1 hP 9 rfl rfl 0 (by decide) (hts (.fieldLink RX4 118 "TestPicker$History" "changes" "[J") (by decide +kernel)) (fun _ h9 => h9) rfl dX4_change_18 ?_
    refine lv_iload_n hx hb dX4_change_21 rfl (lv_at hl 1 rfl) ?_
    refine ld_l hx hb hK hP 10 (f := hCg hs) rfl (i := u) (by omega) (by decide) dX4_change_22 ?_
    refine va_put (D := D) (ci := 4) (v := .long (hCg hs u)) (ty := .long) (C := RX4) (T := TX4) (N := 7) hx hb hts hin4 tyX4 tyX4_ok nmX4 hown hK.1 hP hD hS 0 rfl rfl 6 (by decide) (hts (.fieldLink RX4 45 "TestPicker" "latestAnswer" "J") (by decide +kernel)) (fun _ h9 => h9) rfl (by decide +kernel) rfl rfl (Nat.le_of_ble_eq_true rfl) dX4_change_23 (fun H locs hP hD hS => ?_)
    have hP : va_P D vwCl (wC q c ((mFc ms, mLf ms, (hCg hs u)), ts, hs, ps, ss)) H := hP
    have hD : va_D (va_A (wC q c (ms, ts, hs, ps, ss)) s.heap.size) (wC q c ((mFc ms, mLf ms, (hCg hs u)), ts, hs, ps, ss)) := hD
    refine lv_iconst (v := 1) hx hb dX4_change_26 (by decide) ?_
    have e9 : xChange (nI u) (ms, ts, hs, ps, ss) = (1, ((mFc ms, mLf ms, (hCg hs u)), ts, hs, ps, ss)) := by simp [xChange, c8, nI_clamp (show u < 2 ^ 31 by omega)]
    rw [e9]
    exact mu_reti hx hb hr hlk hP hD hS (rfl) dX4_change_27
  · -- 8 False
    have c8 := bI_z.mp c8
    refine lv_iconst (v := (-1)) hx hb dX4_change_11 (by decide) ?_
    have e9 : xChange b (ms, ts, hs, ps, ss) = ((-1), (ms, ts, hs, ps, ss)) := by simp [xChange, c8]
    rw [e9]
    exact mu_reti hx hb hr hlk hP hD hS (rfl) dX4_change_12

set_option maxHeartbeats 4000000 in
set_option maxRecDepth 100000 in
theorem c_X4_often (l : Launch) (D : va_G) (q : Nat → Nat) (c : CT) (ms : MS) (ts : TS) (hs : HS) (ps : PS) (ss : SS) (x y : Int32) (hT : tT ts ≤ 20) : ROi l yX4_often wsX4_often ({ frames := 1, cells := 0, slots := 0, locals := 21 } : Room) [.ref (q 0), .int x, .int y] D c (wC q c (ms, ts, hs, ps, ss)) (xOften x y (ms, ts, hs, ps, ss)) := by
  refine ro_starti (cc := cX4_often) (maxL := 5) (ret := some .int) (by decide) rfl (Nat.le_of_ble_eq_true rfl) ?_
  intro p e s m args below meth c0 ls hx hb hr hml hown hts hlk hP hK hl
  have hown : s.vm.findClass RX4 = some m.cls := hown
  have hl : lv_has ls 5 [(0, .ref (q 0)), (1, .int x), (2, .int y)] := hl
  have hin0 : ∀ w ∈ wsX00, w ∈ wsX4_often := by decide +kernel
  have hin4 : ∀ w ∈ wsX40, w ∈ wsX4_often := by decide +kernel
  refine lv_aload_n hx hb dX4_often_0 rfl (lv_at hl 0 rfl) ?_
  refine va_get (D := D) (ci := 4) (v := .ref (q 2)) (C := RX4) (T := TX4) (N := 7) hx hb hts hin4 hown hK.1 hP 0 rfl rfl 0 (by decide) (hts (.fieldLink RX4 10 "TestPicker" "tests" "LTestPicker$Tests;") (by decide +kernel)) (fun _ h9 => h9) rfl dX4_often_1 ?_
  refine lv_iload_n hx hb dX4_often_4 rfl (lv_at hl 1 rfl) ?_
  refine ro_Vi (post := bI (inN x (tT ts))) (As := [.int x]) (rest := []) ⟨hx, hb, hml, hown, hts⟩ (c_X3_has l D q c ts x) (cwV 1 hts gX4_often_X3_has rfl rfl rfl (by decide +kernel) ⟨Nat.le_of_ble_eq_true rfl, Nat.le_of_ble_eq_true rfl⟩) (hP.sub (ws' := wT q c ts) [2, 3, 4, 5, 6, 7, 8] rfl) hK (va_recv hK.1 hP (ci := 3) (q0 := 2) rfl rfl) rfl hl.1 rfl (Nat.le_of_ble_eq_true rfl) dX4_often_5 ⟨Nat.le_of_ble_eq_true rfl, Nat.le_of_ble_eq_true rfl⟩ ?_
  refine lv_if_eq (tgt := 20) hx hb dX4_often_8 (by decide) (fun c8 => ?_) (fun c8 => ?_)
  · -- 8 True
    have c8 := bI_z.mp c8
    refine lv_iconst (v := (-1)) hx hb dX4_often_20 (by decide) ?_
    exact ro_reti hx hb hr hlk (by simp [xOften, c8]) dX4_often_21
  · -- 8 False
    have c8 := bI_nz.mp c8
    obtain ⟨t, ht, rfl⟩ := inN_ex (by omega) c8
    refine lv_iload_n hx hb dX4_often_11 rfl (lv_at hl 2 rfl) ?_
    refine lv_if_lt (tgt := 20) hx hb dX4_often_12 (by decide) (fun c12 => ?_) (fun c12 => ?_)
    · -- 12 True
      refine lv_iconst (v := (-1)) hx hb dX4_often_20 (by decide) ?_
      exact ro_reti hx hb hr hlk (by simp [xOften, c8, c12, nI_clamp (show t < 2 ^ 31 by omega)]) dX4_often_21
    · -- 12 False
      refine lv_iload_n hx hb dX4_often_15 rfl (lv_at hl 2 rfl) ?_
      refine lv_iconst (v := 2) hx hb dX4_often_16 (by decide) ?_
      refine lv_icmp_le (tgt := 22) hx hb dX4_often_17 (by decide) (fun c17 => ?_) (fun c17 => ?_)
      · -- 17 True
        refine lv_aload_n hx hb dX4_often_22 rfl (lv_at hl 0 rfl) ?_
        refine va_get (D := D) (ci := 4) (v := .ref (q 9)) (C := RX4) (T := TX4) (N := 7) hx hb hts hin4 hown hK.1 hP 0 rfl rfl 1 (by decide) (hts (.fieldLink RX4 19 "TestPicker" "history" "LTestPicker$History;") (by decide +kernel)) (fun _ h9 => h9) rfl dX4_often_23 ?_
        refine va_get (D := D) (ci := 0) (v := .ref (q 11)) (C := RX0) (T := TX0) (N := 4) hx hb hts hin0 hown hK.1 hP 9 rfl rfl 1 (by decide) (hts (.fieldLink RX4 121 "TestPicker$History" "fellIn" "[J") (by decide +kernel)) (fun _ h9 => h9) rfl dX4_often_26 ?_
        refine lv_iload_n hx hb dX4_often_29 rfl (lv_at hl 1 rfl) ?_
        refine ld_l hx hb hK hP 11 (f := hFe hs) rfl (i := t) (by omega) (by decide) dX4_often_30 ?_
        refine ro_Si (As := [.long (hFe hs t)]) (rest := []) ⟨hx, hb, hml, hown, hts⟩ (c_J13_bitCount_95d88 l D c (hFe hs t)) (va_cwS 1 hts gX4_often_J13_bitCount_95d88 rfl rfl rfl (by decide +kernel) ⟨Nat.le_of_ble_eq_true rfl, Nat.le_of_ble_eq_true rfl⟩) va_P0 hK rfl hl.1 rfl (Nat.le_of_ble_eq_true rfl) dX4_often_31 ⟨Nat.le_of_ble_eq_true rfl, Nat.le_of_ble_eq_true rfl⟩ ?_
        refine lv_istore_n (lv' := [(3, .int (popL (hFe hs t))), (0, .ref (q 0)), (1, .int (nI t)), (2, .int y)]) hx hb dX4_often_34 rfl hl (by decide) rfl (fun ls hl => ?_)
        refine lv_aload_n hx hb dX4_often_35 rfl (lv_at hl 1 rfl) ?_
        refine va_get (D := D) (ci := 4) (v := .ref (q 9)) (C := RX4) (T := TX4) (N := 7) hx hb hts hin4 hown hK.1 hP 0 rfl rfl 1 (by decide) (hts (.fieldLink RX4 19 "TestPicker" "history" "LTestPicker$History;") (by decide +kernel)) (fun _ h9 => h9) rfl dX4_often_36 ?_
        refine va_get (D := D) (ci := 0) (v := .ref (q 12)) (C := RX0) (T := TX0) (N := 4) hx hb hts hin0 hown hK.1 hP 9 rfl rfl 2 (by decide) (hts (.fieldLink RX4 129 "TestPicker$History" "passedIn" "[J") (by decide +kernel)) (fun _ h9 => h9) rfl dX4_often_39 ?_
        refine lv_iload_n hx hb dX4_often_42 rfl (lv_at hl 2 rfl) ?_
        refine ld_l hx hb hK hP 12 (f := hPs hs) rfl (i := t) (by omega) (by decide) dX4_often_43 ?_
        refine ro_Si (As := [.long (hPs hs t)]) (rest := []) ⟨hx, hb, hml, hown, hts⟩ (c_J13_bitCount_95d88 l D c (hPs hs t)) (va_cwS 1 hts gX4_often_J13_bitCount_95d88 rfl rfl rfl (by decide +kernel) ⟨Nat.le_of_ble_eq_true rfl, Nat.le_of_ble_eq_true rfl⟩) va_P0 hK rfl hl.1 rfl (Nat.le_of_ble_eq_true rfl) dX4_often_44 ⟨Nat.le_of_ble_eq_true rfl, Nat.le_of_ble_eq_true rfl⟩ ?_
        refine lv_istore (lv' := [(4, .int (popL (hPs hs t))), (3, .int (popL (hFe hs t))), (0, .ref (q 0)), (1, .int (nI t)), (2, .int y)]) hx hb dX4_often_47 hl (by decide) rfl (fun ls hl => ?_)
        refine lv_iload_n hx hb dX4_often_49 rfl (lv_at hl 4 rfl) ?_
        refine lv_if_ne (tgt := 55) hx hb dX4_often_50 (by decide) (fun c50 => ?_) (fun c50 => ?_)
        · -- 50 True
          refine lv_iload_n hx hb dX4_often_55 rfl (lv_at hl 4 rfl) ?_
          refine lv_iconst (v := 1) hx hb dX4_often_56 (by decide) ?_
          refine lv_icmp_ne (tgt := 65) hx hb dX4_often_57 (by decide) (fun c57 => ?_) (fun c57 => ?_)
          · -- 57 True
            refine lv_aload_n hx hb dX4_often_65 rfl (lv_at hl 2 rfl) ?_
            refine va_get (D := D) (ci := 4) (v := .ref (q 9)) (C := RX4) (T := TX4) (N := 7) hx hb hts hin4 hown hK.1 hP 0 rfl rfl 1 (by decide) (hts (.fieldLink RX4 19 "TestPicker" "history" "LTestPicker$History;") (by decide +kernel)) (fun _ h9 => h9) rfl dX4_often_66 ?_
            refine va_get (D := D) (ci := 0) (v := .int (nI (hB hs))) (C := RX0) (T := TX0) (N := 4) hx hb hts hin0 hown hK.1 hP 9 rfl rfl 3 (by decide) (hts (.fieldLink RX4 103 "TestPicker$History" "size" "I") (by decide +kernel)) (fun _ h9 => h9) rfl dX4_often_69 ?_
            refine lv_iload_n hx hb dX4_often_72 rfl (lv_at hl 1 rfl) ?_
            refine lv_isub hx hb dX4_often_73 ?_
            refine lv_iload hx hb dX4_often_74 (lv_at hl 0 rfl) ?_
            refine lv_isub hx hb dX4_often_76 ?_
            exact ro_reti hx hb hr hlk (by simp [xOften, c8, c12, c17, c50, c57, nI_clamp (show t < 2 ^ 31 by omega)]) dX4_often_77
          · -- 57 False
            refine lv_iload hx hb dX4_often_60 (lv_at hl 0 rfl) ?_
            refine lv_goto (tgt := 77) hx hb dX4_often_62 (by decide) ?_
            exact ro_reti hx hb hr hlk (by simp [xOften, c8, c12, c17, c50, eq_true c57, nI_clamp (show t < 2 ^ 31 by omega)]) dX4_often_77
        · -- 50 False
          refine lv_iload_n hx hb dX4_often_53 rfl (lv_at hl 1 rfl) ?_
          exact ro_reti hx hb hr hlk (by simp [xOften, c8, c12, c17, eq_true c50, nI_clamp (show t < 2 ^ 31 by omega)]) dX4_often_54
      · -- 17 False
        refine lv_iconst (v := (-1)) hx hb dX4_often_20 (by decide) ?_
        exact ro_reti hx hb hr hlk (by simp [xOften, c8, c12, c17, nI_clamp (show t < 2 ^ 31 by omega)]) dX4_often_21

set_option maxHeartbeats 4000000 in
set_option maxRecDepth 100000 in
theorem c_X4_picked (l : Launch) (D : va_G) (q : Nat → Nat) (c : CT) (ms : MS) (ts : TS) (hs : HS) (ps : PS) (ss : SS) (i : Int32) (hN20 : pN ps ≤ 20) : ROi l yX4_picked wsX4_picked ({ frames := 0, cells := 0, slots := 0, locals := 0 } : Room) [.ref (q 0), .int i] D c (wC q c (ms, ts, hs, ps, ss)) (xPicked i (ms, ts, hs, ps, ss)) := by
  refine ro_starti (cc := cX4_picked) (maxL := 2) (ret := some .int) (by decide) rfl (Nat.le_of_ble_eq_true rfl) ?_
  intro p e s m args below meth c0 ls hx hb hr hml hown hts hlk hP hK hl
  have hown : s.vm.findClass RX4 = some m.cls := hown
  have hl : lv_has ls 2 [(0, .ref (q 0)), (1, .int i)] := hl
  have hin1 : ∀ w ∈ wsX10, w ∈ wsX4_picked := by decide +kernel
  have hin4 : ∀ w ∈ wsX40, w ∈ wsX4_picked := by decide +kernel
  refine lv_aload_n hx hb dX4_picked_0 rfl (lv_at hl 0 rfl) ?_
  refine va_get (D := D) (ci := 4) (v := .ref (q 13)) (C := RX4) (T := TX4) (N := 7) hx hb hts hin4 hown hK.1 hP 0 rfl rfl 2 (by decide) (hts (.fieldLink RX4 26 "TestPicker" "plan" "LTestPicker$Plan;") (by decide +kernel)) (fun _ h9 => h9) rfl dX4_picked_1 ?_
  refine va_get (D := D) (ci := 1) (v := .int (pTh ps)) (C := RX1) (T := TX1) (N := 7) hx hb hts hin1 hown hK.1 hP 13 rfl rfl 6 (by decide) (hts (.fieldLink RX4 161 "TestPicker$Plan" "there" "Z") (by decide +kernel)) (fun _ h9 => h9) rfl dX4_picked_4 ?_
  refine lv_if_eq (tgt := 25) hx hb dX4_picked_7 (by decide) (fun c7 => ?_) (fun c7 => ?_)
  · -- 7 True
    refine lv_bipush (v := (-9)) hx hb dX4_picked_25 (by decide) ?_
    exact ro_reti hx hb hr hlk (by simp [xPicked, eq_true c7]) dX4_picked_27
  · -- 7 False
    refine lv_iload_n hx hb dX4_picked_10 rfl (lv_at hl 1 rfl) ?_
    refine lv_if_lt (tgt := 25) hx hb dX4_picked_11 (by decide) (fun c11 => ?_) (fun c11 => ?_)
    · -- 11 True
      refine lv_bipush (v := (-9)) hx hb dX4_picked_25 (by decide) ?_
      exact ro_reti hx hb hr hlk (by simp [xPicked, c7, c11]) dX4_picked_27
    · -- 11 False
      refine lv_iload_n hx hb dX4_picked_14 rfl (lv_at hl 1 rfl) ?_
      refine lv_aload_n hx hb dX4_picked_15 rfl (lv_at hl 0 rfl) ?_
      refine va_get (D := D) (ci := 4) (v := .ref (q 13)) (C := RX4) (T := TX4) (N := 7) hx hb hts hin4 hown hK.1 hP 0 rfl rfl 2 (by decide) (hts (.fieldLink RX4 26 "TestPicker" "plan" "LTestPicker$Plan;") (by decide +kernel)) (fun _ h9 => h9) rfl dX4_picked_16 ?_
      refine va_get (D := D) (ci := 1) (v := .int (nI (pN ps))) (C := RX1) (T := TX1) (N := 7) hx hb hts hin1 hown hK.1 hP 13 rfl rfl 1 (by decide) (hts (.fieldLink RX4 160 "TestPicker$Plan" "size" "I") (by decide +kernel)) (fun _ h9 => h9) rfl dX4_picked_19 ?_
      refine lv_icmp_lt (tgt := 28) hx hb dX4_picked_22 (by decide) (fun c22 => ?_) (fun c22 => ?_)
      · -- 22 True
        obtain ⟨j, hj, rfl⟩ := ix_ex (N := pN ps) (by omega) c11 (Int32.not_le.mpr c22)
        refine lv_aload_n hx hb dX4_picked_28 rfl (lv_at hl 0 rfl) ?_
        refine va_get (D := D) (ci := 4) (v := .ref (q 13)) (C := RX4) (T := TX4) (N := 7) hx hb hts hin4 hown hK.1 hP 0 rfl rfl 2 (by decide) (hts (.fieldLink RX4 26 "TestPicker" "plan" "LTestPicker$Plan;") (by decide +kernel)) (fun _ h9 => h9) rfl dX4_picked_29 ?_
        refine va_get (D := D) (ci := 1) (v := .ref (q 14)) (C := RX1) (T := TX1) (N := 7) hx hb hts hin1 hown hK.1 hP 13 rfl rfl 0 (by decide) (hts (.fieldLink RX4 165 "TestPicker$Plan" "row" "[I") (by decide +kernel)) (fun _ h9 => h9) rfl dX4_picked_32 ?_
        refine lv_iload_n hx hb dX4_picked_35 rfl (lv_at hl 1 rfl) ?_
        refine ld_i hx hb hK hP 14 (f := pRow ps) rfl (i := j) (by omega) (by decide) dX4_picked_36 ?_
        exact ro_reti hx hb hr hlk (by simp [xPicked, c7, c11, c22, nI_clamp (show j < 2 ^ 31 by omega)]) dX4_picked_37
      · -- 22 False
        refine lv_bipush (v := (-9)) hx hb dX4_picked_25 (by decide) ?_
        exact ro_reti hx hb hr hlk (by simp [xPicked, c7, c11, c22]) dX4_picked_27

set_option maxHeartbeats 4000000 in
set_option maxRecDepth 100000 in
theorem c_X4_about (l : Launch) (D : va_G) (q : Nat → Nat) (c : CT) (ms : MS) (ts : TS) (hs : HS) (ps : PS) (ss : SS) (y : Int32)  : ROi l yX4_about wsX4_about ({ frames := 2, cells := 0, slots := 0, locals := 41 } : Room) [.ref (q 0), .int y] D c (wC q c (ms, ts, hs, ps, ss)) (xAbout y (ms, ts, hs, ps, ss)) := by
  refine ro_starti (cc := cX4_about) (maxL := 2) (ret := some .int) (by decide) rfl (Nat.le_of_ble_eq_true rfl) ?_
  intro p e s m args below meth c0 ls hx hb hr hml hown hts hlk hP hK hl
  have hown : s.vm.findClass RX4 = some m.cls := hown
  have hl : lv_has ls 2 [(0, .ref (q 0)), (1, .int y)] := hl
  have hin1 : ∀ w ∈ wsX10, w ∈ wsX4_about := by decide +kernel
  have hin4 : ∀ w ∈ wsX40, w ∈ wsX4_about := by decide +kernel
  refine lv_iload_n hx hb dX4_about_0 rfl (lv_at hl 1 rfl) ?_
  refine lv_if_lt (tgt := 9) hx hb dX4_about_1 (by decide) (fun c1 => ?_) (fun c1 => ?_)
  · -- 1 True
    refine lv_iconst (v := (-1)) hx hb dX4_about_9 (by decide) ?_
    exact ro_reti hx hb hr hlk (by simp [xAbout, c1]) dX4_about_10
  · -- 1 False
    refine lv_iload_n hx hb dX4_about_4 rfl (lv_at hl 1 rfl) ?_
    refine lv_iconst (v := 2) hx hb dX4_about_5 (by decide) ?_
    refine lv_icmp_le (tgt := 11) hx hb dX4_about_6 (by decide) (fun c6 => ?_) (fun c6 => ?_)
    · -- 6 True
      refine lv_aload_n hx hb dX4_about_11 rfl (lv_at hl 0 rfl) ?_
      refine va_get (D := D) (ci := 4) (v := .ref (q 13)) (C := RX4) (T := TX4) (N := 7) hx hb hts hin4 hown hK.1 hP 0 rfl rfl 2 (by decide) (hts (.fieldLink RX4 26 "TestPicker" "plan" "LTestPicker$Plan;") (by decide +kernel)) (fun _ h9 => h9) rfl dX4_about_12 ?_
      refine va_get (D := D) (ci := 1) (v := .int (pTh ps)) (C := RX1) (T := TX1) (N := 7) hx hb hts hin1 hown hK.1 hP 13 rfl rfl 6 (by decide) (hts (.fieldLink RX4 161 "TestPicker$Plan" "there" "Z") (by decide +kernel)) (fun _ h9 => h9) rfl dX4_about_15 ?_
      refine lv_if_ne (tgt := 24) hx hb dX4_about_18 (by decide) (fun c18 => ?_) (fun c18 => ?_)
      · -- 18 True
        refine lv_iload_n hx hb dX4_about_24 rfl (lv_at hl 1 rfl) ?_
        refine lv_if_ne (tgt := 36) hx hb dX4_about_25 (by decide) (fun c25 => ?_) (fun c25 => ?_)
        · -- 25 True
          refine lv_iload_n hx hb dX4_about_36 rfl (lv_at hl 1 rfl) ?_
          refine lv_iconst (v := 1) hx hb dX4_about_37 (by decide) ?_
          refine lv_icmp_ne (tgt := 51) hx hb dX4_about_38 (by decide) (fun c38 => ?_) (fun c38 => ?_)
          · -- 38 True
            refine lv_aload_n hx hb dX4_about_51 rfl (lv_at hl 0 rfl) ?_
            refine va_get (D := D) (ci := 4) (v := .ref (q 13)) (C := RX4) (T := TX4) (N := 7) hx hb hts hin4 hown hK.1 hP 0 rfl rfl 2 (by decide) (hts (.fieldLink RX4 26 "TestPicker" "plan" "LTestPicker$Plan;") (by decide +kernel)) (fun _ h9 => h9) rfl dX4_about_52 ?_
            refine va_get (D := D) (ci := 1) (v := .int (pBits ps)) (C := RX1) (T := TX1) (N := 7) hx hb hts hin1 hown hK.1 hP 13 rfl rfl 2 (by decide) (hts (.fieldLink RX4 147 "TestPicker$Plan" "bits" "I") (by decide +kernel)) (fun _ h9 => h9) rfl dX4_about_55 ?_
            exact ro_reti hx hb hr hlk (by simp [xAbout, c1, c6, c18, c25, c38]) dX4_about_58
          · -- 38 False
            refine lv_aload_n hx hb dX4_about_41 rfl (lv_at hl 0 rfl) ?_
            refine va_get (D := D) (ci := 4) (v := .ref (q 13)) (C := RX4) (T := TX4) (N := 7) hx hb hts hin4 hown hK.1 hP 0 rfl rfl 2 (by decide) (hts (.fieldLink RX4 26 "TestPicker" "plan" "LTestPicker$Plan;") (by decide +kernel)) (fun _ h9 => h9) rfl dX4_about_42 ?_
            refine ro_Vi (post := (popL (pSeen ps &&& pChg ps))) (As := []) (rest := []) ⟨hx, hb, hml, hown, hts⟩ (c_X1_partsSeen l D q c ps) (cwV 0 hts gX4_about_X1_partsSeen rfl rfl rfl (by decide +kernel) ⟨Nat.le_of_ble_eq_true rfl, Nat.le_of_ble_eq_true rfl⟩) (hP.sub (ws' := wP q c ps) [13, 14] rfl) hK (va_recv hK.1 hP (ci := 1) (q0 := 13) rfl rfl) rfl hl.1 rfl (Nat.le_of_ble_eq_true rfl) dX4_about_45 ⟨Nat.le_of_ble_eq_true rfl, Nat.le_of_ble_eq_true rfl⟩ ?_
            refine lv_goto (tgt := 58) hx hb dX4_about_48 (by decide) ?_
            exact ro_reti hx hb hr hlk (by simp [xAbout, c1, c6, c18, c25, eq_true c38]) dX4_about_58
        · -- 25 False
          refine lv_aload_n hx hb dX4_about_28 rfl (lv_at hl 0 rfl) ?_
          refine va_get (D := D) (ci := 4) (v := .ref (q 13)) (C := RX4) (T := TX4) (N := 7) hx hb hts hin4 hown hK.1 hP 0 rfl rfl 2 (by decide) (hts (.fieldLink RX4 26 "TestPicker" "plan" "LTestPicker$Plan;") (by decide +kernel)) (fun _ h9 => h9) rfl dX4_about_29 ?_
          refine va_get (D := D) (ci := 1) (v := .int (pSpan ps)) (C := RX1) (T := TX1) (N := 7) hx hb hts hin1 hown hK.1 hP 13 rfl rfl 3 (by decide) (hts (.fieldLink RX4 150 "TestPicker$Plan" "span" "I") (by decide +kernel)) (fun _ h9 => h9) rfl dX4_about_32 ?_
          exact ro_reti hx hb hr hlk (by simp [xAbout, c1, c6, c18, eq_true c25]) dX4_about_35
      · -- 18 False
        refine lv_bipush (v := (-9)) hx hb dX4_about_21 (by decide) ?_
        exact ro_reti hx hb hr hlk (by simp [xAbout, c1, c6, eq_true c18]) dX4_about_23
    · -- 6 False
      refine lv_iconst (v := (-1)) hx hb dX4_about_9 (by decide) ?_
      exact ro_reti hx hb hr hlk (by simp [xAbout, c1, c6]) dX4_about_10

set_option maxHeartbeats 4000000 in
set_option maxRecDepth 100000 in
theorem c_X4_missed (l : Launch) (D : va_G) (q : Nat → Nat) (c : CT) (ms : MS) (ts : TS) (hs : HS) (ps : PS) (ss : SS) (x : Int32) (hT : tT ts ≤ 20) (hb60 : hB hs ≤ 60) : ROi l yX4_missed wsX4_missed ({ frames := 4, cells := 0, slots := 0, locals := 93 } : Room) [.ref (q 0), .int x] D c (wC q c (ms, ts, hs, ps, ss)) (xMissed x (ms, ts, hs, ps, ss)) := by
  refine ro_starti (cc := cX4_missed) (maxL := 4) (ret := some .int) (by decide) rfl (Nat.le_of_ble_eq_true rfl) ?_
  intro p e s m args below meth c0 ls hx hb hr hml hown hts hlk hP hK hl
  have hown : s.vm.findClass RX4 = some m.cls := hown
  have hl : lv_has ls 4 [(0, .ref (q 0)), (1, .int x)] := hl
  have hin4 : ∀ w ∈ wsX40, w ∈ wsX4_missed := by decide +kernel
  refine lv_aload_n hx hb dX4_missed_0 rfl (lv_at hl 0 rfl) ?_
  refine va_get (D := D) (ci := 4) (v := .ref (q 2)) (C := RX4) (T := TX4) (N := 7) hx hb hts hin4 hown hK.1 hP 0 rfl rfl 0 (by decide) (hts (.fieldLink RX4 10 "TestPicker" "tests" "LTestPicker$Tests;") (by decide +kernel)) (fun _ h9 => h9) rfl dX4_missed_1 ?_
  refine lv_iload_n hx hb dX4_missed_4 rfl (lv_at hl 1 rfl) ?_
  refine ro_Vi (post := bI (hAll x (tT ts))) (As := [.int x]) (rest := []) ⟨hx, hb, hml, hown, hts⟩ (c_X3_hasAll l D q c ts x) (cwV 1 hts gX4_missed_X3_hasAll rfl rfl rfl (by decide +kernel) ⟨Nat.le_of_ble_eq_true rfl, Nat.le_of_ble_eq_true rfl⟩) (hP.sub (ws' := wT q c ts) [2, 3, 4, 5, 6, 7, 8] rfl) hK (va_recv hK.1 hP (ci := 3) (q0 := 2) rfl rfl) rfl hl.1 rfl (Nat.le_of_ble_eq_true rfl) dX4_missed_5 ⟨Nat.le_of_ble_eq_true rfl, Nat.le_of_ble_eq_true rfl⟩ ?_
  refine lv_if_ne (tgt := 13) hx hb dX4_missed_8 (by decide) (fun c8 => ?_) (fun c8 => ?_)
  · -- 8 True
    have c8 := bI_nz.mp c8
    refine lv_aload_n hx hb dX4_missed_13 rfl (lv_at hl 0 rfl) ?_
    refine lv_aload_n hx hb dX4_missed_14 rfl (lv_at hl 0 rfl) ?_
    refine ro_Vi (post := (cWit ts hs)) (As := []) (rest := [.ref (q 0)]) ⟨hx, hb, hml, hown, hts⟩ (c_X4_witnesses l D q c ms ts hs ps ss (by omega) (by omega)) (cwV 0 hts gX4_missed_X4_witnesses rfl rfl rfl (by decide +kernel) ⟨Nat.le_of_ble_eq_true rfl, Nat.le_of_ble_eq_true rfl⟩) hP hK (va_recv hK.1 hP (ci := 4) (q0 := 0) rfl rfl) rfl hl.1 rfl (Nat.le_of_ble_eq_true rfl) dX4_missed_15 ⟨Nat.le_of_ble_eq_true rfl, Nat.le_of_ble_eq_true rfl⟩ ?_
    refine ro_Vl (post := (paS (hFe hs) (cWit ts hs) (tT ts))) (As := [.int (cWit ts hs)]) (rest := []) ⟨hx, hb, hml, hown, hts⟩ (c_X4_buildsShown l D q c ms ts hs ps ss (cWit ts hs) (by omega)) (cwV 1 hts gX4_missed_X4_buildsShown rfl rfl rfl (by decide +kernel) ⟨Nat.le_of_ble_eq_true rfl, Nat.le_of_ble_eq_true rfl⟩) hP hK (va_recv hK.1 hP (ci := 4) (q0 := 0) rfl rfl) rfl hl.1 rfl (Nat.le_of_ble_eq_true rfl) dX4_missed_18 ⟨Nat.le_of_ble_eq_true rfl, Nat.le_of_ble_eq_true rfl⟩ ?_
    refine lv_aload_n hx hb dX4_missed_21 rfl (lv_at hl 0 rfl) ?_
    refine lv_iload_n hx hb dX4_missed_22 rfl (lv_at hl 1 rfl) ?_
    refine ro_Vl (post := (paS (hFe hs) x (tT ts))) (As := [.int x]) (rest := [.long (paS (hFe hs) (cWit ts hs) (tT ts))]) ⟨hx, hb, hml, hown, hts⟩ (c_X4_buildsShown l D q c ms ts hs ps ss x (by omega)) (cwV 1 hts gX4_missed_X4_buildsShown rfl rfl rfl (by decide +kernel) ⟨Nat.le_of_ble_eq_true rfl, Nat.le_of_ble_eq_true rfl⟩) hP hK (va_recv hK.1 hP (ci := 4) (q0 := 0) rfl rfl) rfl hl.1 rfl (Nat.le_of_ble_eq_true rfl) dX4_missed_23 ⟨Nat.le_of_ble_eq_true rfl, Nat.le_of_ble_eq_true rfl⟩ ?_
    refine lv_ldc2 (own := RX4) (v := (-1)) hx hb hown (hts (.constantLong RX4 204 (-1)) (by decide +kernel)) dX4_missed_26 ?_
    refine lv_lxor hx hb dX4_missed_29 ?_
    refine lv_land hx hb dX4_missed_30 ?_
    refine lv_lstore_n (lv' := [(2, .long ((paS (hFe hs) (cWit ts hs) (tT ts)) &&& ((paS (hFe hs) x (tT ts)) ^^^ (-1)))), (0, .ref (q 0)), (1, .int x)]) hx hb dX4_missed_31 rfl hl (by decide) rfl (fun ls hl => ?_)
    refine lv_lload_n hx hb dX4_missed_32 rfl (lv_at hl 0 rfl) ?_
    refine lv_lconst (v := 0) hx hb dX4_missed_33 (by decide) ?_
    refine W.lcmp hx hb dX4_missed_34 ?_
    refine lv_if_ne (tgt := 43) hx hb dX4_missed_35 (by decide) (fun c35 => ?_) (fun c35 => ?_)
    · -- 35 True
      have c35 := lg_ne.mp c35
      refine lv_lload_n hx hb dX4_missed_43 rfl (lv_at hl 0 rfl) ?_
      refine ro_Si (As := [.long ((paS (hFe hs) (cWit ts hs) (tT ts)) &&& ((paS (hFe hs) x (tT ts)) ^^^ (-1)))]) (rest := []) ⟨hx, hb, hml, hown, hts⟩ (c_J13_numberOfTrailingZeros_95d88 l D c ((paS (hFe hs) (cWit ts hs) (tT ts)) &&& ((paS (hFe hs) x (tT ts)) ^^^ (-1)))) (va_cwS 1 hts gX4_missed_J13_numberOfTrailingZeros_95d88 rfl rfl rfl (by decide +kernel) ⟨Nat.le_of_ble_eq_true rfl, Nat.le_of_ble_eq_true rfl⟩) va_P0 hK rfl hl.1 rfl (Nat.le_of_ble_eq_true rfl) dX4_missed_44 ⟨Nat.le_of_ble_eq_true rfl, Nat.le_of_ble_eq_true rfl⟩ ?_
      exact ro_reti hx hb hr hlk (by rw [xMissed, if_neg (by rw [c8]; decide), if_neg c35]) dX4_missed_47
    · -- 35 False
      have c35 := (lg_cmp_eq _ _).mp c35
      refine lv_bipush (v := (-9)) hx hb dX4_missed_38 (by decide) ?_
      refine lv_goto (tgt := 47) hx hb dX4_missed_40 (by decide) ?_
      exact ro_reti hx hb hr hlk (by rw [xMissed, if_neg (by rw [c8]; decide), if_pos c35]) dX4_missed_47
  · -- 8 False
    have c8 := bI_z.mp c8
    refine lv_iconst (v := (-1)) hx hb dX4_missed_11 (by decide) ?_
    exact ro_reti hx hb hr hlk (by rw [xMissed, if_pos c8]) dX4_missed_12

set_option maxHeartbeats 4000000 in
set_option maxRecDepth 100000 in
theorem c_X4_count (l : Launch) (D : va_G) (q : Nat → Nat) (c : CT) (ms : MS) (ts : TS) (hs : HS) (ps : PS) (ss : SS) (y : Int32)  : ROi l yX4_count wsX4_count ({ frames := 2, cells := 0, slots := 0, locals := 43 } : Room) [.ref (q 0), .int y] D c (wC q c (ms, ts, hs, ps, ss)) (xCount y (ms, ts, hs, ps, ss)) := by
  refine ro_starti (cc := cX4_count) (maxL := 2) (ret := some .int) (by decide) rfl (Nat.le_of_ble_eq_true rfl) ?_
  intro p e s m args below meth c0 ls hx hb hr hml hown hts hlk hP hK hl
  have hown : s.vm.findClass RX4 = some m.cls := hown
  have hl : lv_has ls 2 [(0, .ref (q 0)), (1, .int y)] := hl
  have hin0 : ∀ w ∈ wsX00, w ∈ wsX4_count := by decide +kernel
  have hin3 : ∀ w ∈ wsX30, w ∈ wsX4_count := by decide +kernel
  have hin4 : ∀ w ∈ wsX40, w ∈ wsX4_count := by decide +kernel
  refine lv_iload_n hx hb dX4_count_0 rfl (lv_at hl 1 rfl) ?_
  refine lv_if_ne (tgt := 12) hx hb dX4_count_1 (by decide) (fun c1 => ?_) (fun c1 => ?_)
  · -- 1 True
    refine lv_iload_n hx hb dX4_count_12 rfl (lv_at hl 1 rfl) ?_
    refine lv_iconst (v := 1) hx hb dX4_count_13 (by decide) ?_
    refine lv_icmp_ne (tgt := 25) hx hb dX4_count_14 (by decide) (fun c14 => ?_) (fun c14 => ?_)
    · -- 14 True
      refine lv_iload_n hx hb dX4_count_25 rfl (lv_at hl 1 rfl) ?_
      refine lv_iconst (v := 2) hx hb dX4_count_26 (by decide) ?_
      refine lv_icmp_ne (tgt := 40) hx hb dX4_count_27 (by decide) (fun c27 => ?_) (fun c27 => ?_)
      · -- 27 True
        refine lv_iconst (v := (-1)) hx hb dX4_count_40 (by decide) ?_
        exact ro_reti hx hb hr hlk (by simp [xCount, c1, c14, c27]) dX4_count_41
      · -- 27 False
        refine lv_aload_n hx hb dX4_count_30 rfl (lv_at hl 0 rfl) ?_
        refine va_get (D := D) (ci := 4) (v := .ref (q 9)) (C := RX4) (T := TX4) (N := 7) hx hb hts hin4 hown hK.1 hP 0 rfl rfl 1 (by decide) (hts (.fieldLink RX4 19 "TestPicker" "history" "LTestPicker$History;") (by decide +kernel)) (fun _ h9 => h9) rfl dX4_count_31 ?_
        refine ro_Vi (post := (vAll hs 20)) (As := []) (rest := []) ⟨hx, hb, hml, hown, hts⟩ (c_X0_verdictsInAll l D q c hs) (cwV 0 hts gX4_count_X0_verdictsInAll rfl rfl rfl (by decide +kernel) ⟨Nat.le_of_ble_eq_true rfl, Nat.le_of_ble_eq_true rfl⟩) (hP.sub (ws' := wH q c hs) [9, 10, 11, 12] rfl) hK (va_recv hK.1 hP (ci := 0) (q0 := 9) rfl rfl) rfl hl.1 rfl (Nat.le_of_ble_eq_true rfl) dX4_count_34 ⟨Nat.le_of_ble_eq_true rfl, Nat.le_of_ble_eq_true rfl⟩ ?_
        refine lv_goto (tgt := 41) hx hb dX4_count_37 (by decide) ?_
        exact ro_reti hx hb hr hlk (by simp [xCount, c1, c14, eq_true c27]) dX4_count_41
    · -- 14 False
      refine lv_aload_n hx hb dX4_count_17 rfl (lv_at hl 0 rfl) ?_
      refine va_get (D := D) (ci := 4) (v := .ref (q 9)) (C := RX4) (T := TX4) (N := 7) hx hb hts hin4 hown hK.1 hP 0 rfl rfl 1 (by decide) (hts (.fieldLink RX4 19 "TestPicker" "history" "LTestPicker$History;") (by decide +kernel)) (fun _ h9 => h9) rfl dX4_count_18 ?_
      refine va_get (D := D) (ci := 0) (v := .int (nI (hB hs))) (C := RX0) (T := TX0) (N := 4) hx hb hts hin0 hown hK.1 hP 9 rfl rfl 3 (by decide) (hts (.fieldLink RX4 103 "TestPicker$History" "size" "I") (by decide +kernel)) (fun _ h9 => h9) rfl dX4_count_21 ?_
      exact ro_reti hx hb hr hlk (by simp [xCount, c1, eq_true c14]) dX4_count_24
  · -- 1 False
    refine lv_aload_n hx hb dX4_count_4 rfl (lv_at hl 0 rfl) ?_
    refine va_get (D := D) (ci := 4) (v := .ref (q 2)) (C := RX4) (T := TX4) (N := 7) hx hb hts hin4 hown hK.1 hP 0 rfl rfl 0 (by decide) (hts (.fieldLink RX4 10 "TestPicker" "tests" "LTestPicker$Tests;") (by decide +kernel)) (fun _ h9 => h9) rfl dX4_count_5 ?_
    refine va_get (D := D) (ci := 3) (v := .int (nI (tT ts))) (C := RX3) (T := TX3) (N := 7) hx hb hts hin3 hown hK.1 hP 2 rfl rfl 6 (by decide) (hts (.fieldLink RX4 56 "TestPicker$Tests" "size" "I") (by decide +kernel)) (fun _ h9 => h9) rfl dX4_count_8 ?_
    exact ro_reti hx hb hr hlk (by simp [xCount, eq_true c1]) dX4_count_11

set_option maxHeartbeats 4000000 in
set_option maxRecDepth 100000 in
theorem c_X4_findings (l : Launch) (D : va_G) (q : Nat → Nat) (c : CT) (ms : MS) (ts : TS) (hs : HS) (ps : PS) (ss : SS) (x : Int32)  : ROi l yX4_findings wsX4_findings ({ frames := 0, cells := 0, slots := 0, locals := 0 } : Room) [.ref (q 0), .int x] D c (wC q c (ms, ts, hs, ps, ss)) (xFindings x (ms, ts, hs, ps, ss)) := by
  refine ro_starti (cc := cX4_findings) (maxL := 2) (ret := some .int) (by decide) rfl (Nat.le_of_ble_eq_true rfl) ?_
  intro p e s m args below meth c0 ls hx hb hr hml hown hts hlk hP hK hl
  have hown : s.vm.findClass RX4 = some m.cls := hown
  have hl : lv_has ls 2 [(0, .ref (q 0)), (1, .int x)] := hl
  have hin4 : ∀ w ∈ wsX40, w ∈ wsX4_findings := by decide +kernel
  refine lv_iload_n hx hb dX4_findings_0 rfl (lv_at hl 1 rfl) ?_
  refine lv_iconst (v := 1) hx hb dX4_findings_1 (by decide) ?_
  refine lv_icmp_lt (tgt := 10) hx hb dX4_findings_2 (by decide) (fun c2 => ?_) (fun c2 => ?_)
  · -- 2 True
    refine lv_iconst (v := (-1)) hx hb dX4_findings_10 (by decide) ?_
    refine lv_goto (tgt := 20) hx hb dX4_findings_11 (by decide) ?_
    exact ro_reti hx hb hr hlk (by simp [xFindings, c2]) dX4_findings_20
  · -- 2 False
    refine lv_iload_n hx hb dX4_findings_5 rfl (lv_at hl 1 rfl) ?_
    refine lv_iconst (v := 4) hx hb dX4_findings_6 (by decide) ?_
    refine lv_icmp_le (tgt := 14) hx hb dX4_findings_7 (by decide) (fun c7 => ?_) (fun c7 => ?_)
    · -- 7 True
      obtain ⟨k, hk, rfl⟩ := fin_ix c2 c7
      refine lv_aload_n hx hb dX4_findings_14 rfl (lv_at hl 0 rfl) ?_
      refine va_get (D := D) (ci := 4) (v := .ref (q 1)) (C := RX4) (T := TX4) (N := 7) hx hb hts hin4 hown hK.1 hP 0 rfl rfl 4 (by decide) (hts (.fieldLink RX4 37 "TestPicker" "findingCounts" "[I") (by decide +kernel)) (fun _ h9 => h9) rfl dX4_findings_15 ?_
      refine lv_iload_n hx hb dX4_findings_18 rfl (lv_at hl 1 rfl) ?_
      refine ld_i hx hb hK hP 1 (f := mFc ms) rfl (i := k) (by omega) (by decide) dX4_findings_19 ?_
      exact ro_reti hx hb hr hlk (by simp [xFindings, c2, c7, nI_clamp (show k < 2 ^ 31 by omega)]) dX4_findings_20
    · -- 7 False
      refine lv_iconst (v := (-1)) hx hb dX4_findings_10 (by decide) ?_
      refine lv_goto (tgt := 20) hx hb dX4_findings_11 (by decide) ?_
      exact ro_reti hx hb hr hlk (by simp [xFindings, c2, c7]) dX4_findings_20

set_option maxHeartbeats 4000000 in
set_option maxRecDepth 100000 in
theorem c_X4_asked (l : Launch) (D : va_G) (q : Nat → Nat) (c : CT) (ms : MS) (ts : TS) (hs : HS) (ps : PS) (ss : SS)  : ROl l yX4_asked wsX4_asked ({ frames := 0, cells := 0, slots := 0, locals := 0 } : Room) [.ref (q 0)] D c (wC q c (ms, ts, hs, ps, ss)) (mLa ms) := by
  refine ro_startl (cc := cX4_asked) (maxL := 1) (ret := some .long) (by decide) rfl (Nat.le_of_ble_eq_true rfl) ?_
  intro p e s m args below meth c0 ls hx hb hr hml hown hts hlk hP hK hl
  have hown : s.vm.findClass RX4 = some m.cls := hown
  have hl : lv_has ls 1 [(0, .ref (q 0))] := hl
  have hin4 : ∀ w ∈ wsX40, w ∈ wsX4_asked := by decide +kernel
  refine lv_aload_n hx hb dX4_asked_0 rfl (lv_at hl 0 rfl) ?_
  refine va_get (D := D) (ci := 4) (v := .long (mLa ms)) (C := RX4) (T := TX4) (N := 7) hx hb hts hin4 hown hK.1 hP 0 rfl rfl 6 (by decide) (hts (.fieldLink RX4 45 "TestPicker" "latestAnswer" "J") (by decide +kernel)) (fun _ h9 => h9) rfl dX4_asked_1 ?_
  exact ro_retl hx hb hr hlk (rfl) dX4_asked_4

set_option maxHeartbeats 4000000 in
set_option maxRecDepth 100000 in
theorem c_X4_finding (l : Launch) (D : va_G) (q : Nat → Nat) (c : CT) (ms : MS) (ts : TS) (hs : HS) (ps : PS) (ss : SS)  : ROi l yX4_finding wsX4_finding ({ frames := 0, cells := 0, slots := 0, locals := 0 } : Room) [.ref (q 0)] D c (wC q c (ms, ts, hs, ps, ss)) (mLf ms) := by
  refine ro_starti (cc := cX4_finding) (maxL := 1) (ret := some .int) (by decide) rfl (Nat.le_of_ble_eq_true rfl) ?_
  intro p e s m args below meth c0 ls hx hb hr hml hown hts hlk hP hK hl
  have hown : s.vm.findClass RX4 = some m.cls := hown
  have hl : lv_has ls 1 [(0, .ref (q 0))] := hl
  have hin4 : ∀ w ∈ wsX40, w ∈ wsX4_finding := by decide +kernel
  refine lv_aload_n hx hb dX4_finding_0 rfl (lv_at hl 0 rfl) ?_
  refine va_get (D := D) (ci := 4) (v := .int (mLf ms)) (C := RX4) (T := TX4) (N := 7) hx hb hts hin4 hown hK.1 hP 0 rfl rfl 5 (by decide) (hts (.fieldLink RX4 41 "TestPicker" "latestFinding" "I") (by decide +kernel)) (fun _ h9 => h9) rfl dX4_finding_1 ?_
  exact ro_reti hx hb hr hlk (rfl) dX4_finding_4
