set_option maxHeartbeats 4000000 in
set_option maxRecDepth 100000 in
theorem c_X4_refuse (l : Launch) (D : va_G) (q : Nat → Nat) (c : CT) (ms : MS) (ts : TS) (hs : HS) (ps : PS) (ss : SS) (k : Nat) (hk : k < 5) : MUi l yX4_refuse wsX4_refuse ({ frames := 0, cells := 0, slots := 0, locals := 0 } : Room) [.ref (q 0), .int (nI k)] D c (wC q c (ms, ts, hs, ps, ss)) (wC q c (refM ms k, ts, hs, ps, ss)) ((-3)) := by
  refine mu_start (cc := cX4_refuse) (maxL := 2) (ret := some .int) (by decide) rfl (Nat.le_of_ble_eq_true rfl) ?_
  intro p e s m args below meth c0 ls hx hb hr hml hown hts hlk hnm hP hK hD hS hA hl
  have hown : s.vm.findClass RX4 = some m.cls := hown
  have hl : lv_has ls 2 [(0, .ref (q 0)), (1, .int (nI k))] := hl
  have hin4 : ∀ w ∈ wsX40, w ∈ wsX4_refuse := by decide +kernel
  refine lv_aload_n hx hb dX4_refuse_0 rfl (lv_at hl 0 rfl) ?_
  refine lv_iload_n hx hb dX4_refuse_1 rfl (lv_at hl 1 rfl) ?_
  refine va_put (D := D) (ci := 4) (v := .int (nI k)) (ty := .int) (C := RX4) (T := TX4) (N := 7) hx hb hts hin4 tyX4 tyX4_ok nmX4 hown hK.1 hP hD hS 0 rfl rfl 5 (by decide) (hts (.fieldLink RX4 41 "TestPicker" "latestFinding" "I") (by decide +kernel)) (fun _ h9 => h9) rfl (by decide +kernel) rfl rfl (Nat.le_of_ble_eq_true rfl) dX4_refuse_2 (fun H locs hP hD hS => ?_)
  have hP : va_P D vwCl (wC q c ((mFc ms, nI k, mLa ms), ts, hs, ps, ss)) H := hP
  have hD : va_D (va_A (wC q c (ms, ts, hs, ps, ss)) s.heap.size) (wC q c ((mFc ms, nI k, mLa ms), ts, hs, ps, ss)) := hD
  refine lv_aload_n hx hb dX4_refuse_5 rfl (lv_at hl 0 rfl) ?_
  refine va_get (D := D) (ci := 4) (v := .ref (q 1)) (C := RX4) (T := TX4) (N := 7) hx hb hts hin4 hown hK.1 hP 0 rfl rfl 4 (by decide) (hts (.fieldLink RX4 37 "TestPicker" "findingCounts" "[I") (by decide +kernel)) (fun _ h9 => h9) rfl dX4_refuse_6 ?_
  refine lv_iload_n hx hb dX4_refuse_9 rfl (lv_at hl 1 rfl) ?_
  refine lv_dup2_11 hx hb dX4_refuse_10 rfl rfl ?_
  refine ld_i hx hb hK hP 1 (f := mFc ms) rfl (i := k) (by omega) (by decide) dX4_refuse_11 ?_
  refine lv_iconst (v := 1) hx hb dX4_refuse_12 (by decide) ?_
  refine lv_iadd hx hb dX4_refuse_13 ?_
  refine st_i hx hb hK hP hD hS 1 rfl (i := k) (by omega) (by decide) dX4_refuse_14 (fun H locs hP hD hS => ?_)
  have hP : va_P D vwCl (wC q c (((upd (mFc ms) k ((mFc ms k) + 1)), nI k, mLa ms), ts, hs, ps, ss)) H := hP
  have hD : va_D (va_A (wC q c (ms, ts, hs, ps, ss)) s.heap.size) (wC q c (((upd (mFc ms) k ((mFc ms k) + 1)), nI k, mLa ms), ts, hs, ps, ss)) := hD
  refine lv_bipush (v := (-3)) hx hb dX4_refuse_15 (by decide) ?_
  exact mu_reti hx hb hr hlk hP hD hS (rfl) dX4_refuse_17

set_option maxHeartbeats 4000000 in
set_option maxRecDepth 100000 in
theorem c_X3_add (l : Launch) (D : va_G) (q : Nat → Nat) (c : CT) (ts : TS) (k tm nd : Int32) (hT : tT ts < 20) (hu : k = 2 → ∃ u, u < 20 ∧ nd = nI u) : MUi l yX3_add wsX3_add ({ frames := 0, cells := 0, slots := 0, locals := 0 } : Room) [.ref (q 2), .int k, .int tm, .int nd] D c (wT q c ts) (wT q c (addT ts k tm nd)) (nI (tT ts)) := by
  refine mu_start (cc := cX3_add) (maxL := 5) (ret := some .int) (by decide) rfl (Nat.le_of_ble_eq_true rfl) ?_
  intro p e s m args below meth c0 ls hx hb hr hml hown hts hlk hnm hP hK hD hS hA hl
  have hown : s.vm.findClass RX3 = some m.cls := hown
  have hl : lv_has ls 5 [(0, .ref (q 2)), (1, .int k), (2, .int tm), (3, .int nd)] := hl
  have hin3 : ∀ w ∈ wsX30, w ∈ wsX3_add := by decide +kernel
  refine lv_iload_n hx hb dX3_add_0 rfl (lv_at hl 1 rfl) ?_
  refine lv_iconst (v := 2) hx hb dX3_add_1 (by decide) ?_
  refine lv_icmp_ne (tgt := 9) hx hb dX3_add_2 (by decide) (fun c2 => ?_) (fun c2 => ?_)
  · -- 2 True
    refine lv_iconst (v := 0) hx hb dX3_add_9 (by decide) ?_
    refine lv_istore (lv' := [(4, .int 0), (0, .ref (q 2)), (1, .int k), (2, .int tm), (3, .int nd)]) hx hb dX3_add_10 hl (by decide) rfl (fun ls hl => ?_)
    refine lv_aload_n hx hb dX3_add_12 rfl (lv_at hl 1 rfl) ?_
    refine va_get (D := D) (ci := 3) (v := .ref (q 3)) (C := RX3) (T := TX3) (N := 7) hx hb hts hin3 hown hK.1 hP 0 rfl rfl 0 (by decide) (hts (.fieldLink RX3 9 "TestPicker$Tests" "kinds" "[I") (by decide +kernel)) (fun _ h9 => h9) rfl dX3_add_13 ?_
    refine lv_aload_n hx hb dX3_add_16 rfl (lv_at hl 1 rfl) ?_
    refine va_get (D := D) (ci := 3) (v := .int (nI (tT ts))) (C := RX3) (T := TX3) (N := 7) hx hb hts hin3 hown hK.1 hP 0 rfl rfl 6 (by decide) (hts (.fieldLink RX3 32 "TestPicker$Tests" "size" "I") (by decide +kernel)) (fun _ h9 => h9) rfl dX3_add_17 ?_
    refine lv_iload_n hx hb dX3_add_20 rfl (lv_at hl 2 rfl) ?_
    refine st_i hx hb hK hP hD hS 1 rfl (i := (tT ts)) (by omega) (by decide) dX3_add_21 (fun H locs hP hD hS => ?_)
    have hP : va_P D vwCl (wT q c ((upd (tKd ts) (tT ts) k), tOt ts, tNd ts, tCh ts, tPa ts, tTn ts, tT ts)) H := hP
    have hD : va_D (va_A (wT q c ts) s.heap.size) (wT q c ((upd (tKd ts) (tT ts) k), tOt ts, tNd ts, tCh ts, tPa ts, tTn ts, tT ts)) := hD
    refine lv_aload_n hx hb dX3_add_22 rfl (lv_at hl 1 rfl) ?_
    refine va_get (D := D) (ci := 3) (v := .ref (q 4)) (C := RX3) (T := TX3) (N := 7) hx hb hts hin3 hown hK.1 hP 0 rfl rfl 1 (by decide) (hts (.fieldLink RX3 15 "TestPicker$Tests" "ownTimes" "[I") (by decide +kernel)) (fun _ h9 => h9) rfl dX3_add_23 ?_
    refine lv_aload_n hx hb dX3_add_26 rfl (lv_at hl 1 rfl) ?_
    refine va_get (D := D) (ci := 3) (v := .int (nI (tT ts))) (C := RX3) (T := TX3) (N := 7) hx hb hts hin3 hown hK.1 hP 0 rfl rfl 6 (by decide) (hts (.fieldLink RX3 32 "TestPicker$Tests" "size" "I") (by decide +kernel)) (fun _ h9 => h9) rfl dX3_add_27 ?_
    refine lv_iload_n hx hb dX3_add_30 rfl (lv_at hl 3 rfl) ?_
    refine st_i hx hb hK hP hD hS 2 rfl (i := (tT ts)) (by omega) (by decide) dX3_add_31 (fun H locs hP hD hS => ?_)
    have hP : va_P D vwCl (wT q c ((upd (tKd ts) (tT ts) k), (upd (tOt ts) (tT ts) tm), tNd ts, tCh ts, tPa ts, tTn ts, tT ts)) H := hP
    have hD : va_D (va_A (wT q c ts) s.heap.size) (wT q c ((upd (tKd ts) (tT ts) k), (upd (tOt ts) (tT ts) tm), tNd ts, tCh ts, tPa ts, tTn ts, tT ts)) := hD
    refine lv_aload_n hx hb dX3_add_32 rfl (lv_at hl 1 rfl) ?_
    refine va_get (D := D) (ci := 3) (v := .ref (q 5)) (C := RX3) (T := TX3) (N := 7) hx hb hts hin3 hown hK.1 hP 0 rfl rfl 2 (by decide) (hts (.fieldLink RX3 18 "TestPicker$Tests" "needs" "[I") (by decide +kernel)) (fun _ h9 => h9) rfl dX3_add_33 ?_
    refine lv_aload_n hx hb dX3_add_36 rfl (lv_at hl 1 rfl) ?_
    refine va_get (D := D) (ci := 3) (v := .int (nI (tT ts))) (C := RX3) (T := TX3) (N := 7) hx hb hts hin3 hown hK.1 hP 0 rfl rfl 6 (by decide) (hts (.fieldLink RX3 32 "TestPicker$Tests" "size" "I") (by decide +kernel)) (fun _ h9 => h9) rfl dX3_add_37 ?_
    refine lv_iload hx hb dX3_add_40 (lv_at hl 0 rfl) ?_
    refine lv_if_eq (tgt := 49) hx hb dX3_add_42 (by decide) (fun c42 => ?_) (fun c42 => ?_)
    · -- 42 True
      refine lv_bipush (v := (-9)) hx hb dX3_add_49 (by decide) ?_
      refine st_i hx hb hK hP hD hS 3 rfl (i := (tT ts)) (by omega) (by decide) dX3_add_51 (fun H locs hP hD hS => ?_)
      have hP : va_P D vwCl (wT q c ((upd (tKd ts) (tT ts) k), (upd (tOt ts) (tT ts) tm), (upd (tNd ts) (tT ts) (-9)), tCh ts, tPa ts, tTn ts, tT ts)) H := hP
      have hD : va_D (va_A (wT q c ts) s.heap.size) (wT q c ((upd (tKd ts) (tT ts) k), (upd (tOt ts) (tT ts) tm), (upd (tNd ts) (tT ts) (-9)), tCh ts, tPa ts, tTn ts, tT ts)) := hD
      refine lv_aload_n hx hb dX3_add_52 rfl (lv_at hl 1 rfl) ?_
      refine va_get (D := D) (ci := 3) (v := .ref (q 6)) (C := RX3) (T := TX3) (N := 7) hx hb hts hin3 hown hK.1 hP 0 rfl rfl 3 (by decide) (hts (.fieldLink RX3 21 "TestPicker$Tests" "chains" "[I") (by decide +kernel)) (fun _ h9 => h9) rfl dX3_add_53 ?_
      refine lv_aload_n hx hb dX3_add_56 rfl (lv_at hl 1 rfl) ?_
      refine va_get (D := D) (ci := 3) (v := .int (nI (tT ts))) (C := RX3) (T := TX3) (N := 7) hx hb hts hin3 hown hK.1 hP 0 rfl rfl 6 (by decide) (hts (.fieldLink RX3 32 "TestPicker$Tests" "size" "I") (by decide +kernel)) (fun _ h9 => h9) rfl dX3_add_57 ?_
      refine lv_iconst (v := 1) hx hb dX3_add_60 (by decide) ?_
      refine lv_aload_n hx hb dX3_add_61 rfl (lv_at hl 1 rfl) ?_
      refine va_get (D := D) (ci := 3) (v := .int (nI (tT ts))) (C := RX3) (T := TX3) (N := 7) hx hb hts hin3 hown hK.1 hP 0 rfl rfl 6 (by decide) (hts (.fieldLink RX3 32 "TestPicker$Tests" "size" "I") (by decide +kernel)) (fun _ h9 => h9) rfl dX3_add_62 ?_
      refine lv_ishl hx hb dX3_add_65 ?_
      refine lv_iload hx hb dX3_add_66 (lv_at hl 0 rfl) ?_
      refine lv_if_eq (tgt := 80) hx hb dX3_add_68 (by decide) (fun c68 => ?_) (fun c68 => ?_)
      · -- 68 True
        refine lv_iconst (v := 0) hx hb dX3_add_80 (by decide) ?_
        refine lv_ior hx hb dX3_add_81 ?_
        refine st_i hx hb hK hP hD hS 4 rfl (i := (tT ts)) (by omega) (by decide) dX3_add_82 (fun H locs hP hD hS => ?_)
        have hP : va_P D vwCl (wT q c ((upd (tKd ts) (tT ts) k), (upd (tOt ts) (tT ts) tm), (upd (tNd ts) (tT ts) (-9)), (upd (tCh ts) (tT ts) (((1 : Int32) <<< (nI (tT ts) &&& 31)) ||| 0)), tPa ts, tTn ts, tT ts)) H := hP
        have hD : va_D (va_A (wT q c ts) s.heap.size) (wT q c ((upd (tKd ts) (tT ts) k), (upd (tOt ts) (tT ts) tm), (upd (tNd ts) (tT ts) (-9)), (upd (tCh ts) (tT ts) (((1 : Int32) <<< (nI (tT ts) &&& 31)) ||| 0)), tPa ts, tTn ts, tT ts)) := hD
        refine lv_aload_n hx hb dX3_add_83 rfl (lv_at hl 1 rfl) ?_
        refine lv_dup hx hb dX3_add_84 rfl ?_
        refine va_get (D := D) (ci := 3) (v := .int (nI (tT ts))) (C := RX3) (T := TX3) (N := 7) hx hb hts hin3 hown hK.1 hP 0 rfl rfl 6 (by decide) (hts (.fieldLink RX3 32 "TestPicker$Tests" "size" "I") (by decide +kernel)) (fun _ h9 => h9) rfl dX3_add_85 ?_
        refine lv_iconst (v := 1) hx hb dX3_add_88 (by decide) ?_
        refine lv_iadd hx hb dX3_add_89 ?_
        refine tp_i (z := nI (tT ts + 1)) (nI_1 _) ?_
        refine va_put (D := D) (ci := 3) (v := .int (nI (tT ts + 1))) (ty := .int) (C := RX3) (T := TX3) (N := 7) hx hb hts hin3 tyX3 tyX3_ok nmX3 hown hK.1 hP hD hS 0 rfl rfl 6 (by decide) (hts (.fieldLink RX3 32 "TestPicker$Tests" "size" "I") (by decide +kernel)) (fun _ h9 => h9) rfl (by decide +kernel) rfl rfl (Nat.le_of_ble_eq_true rfl) dX3_add_90 (fun H locs hP hD hS => ?_)
        have hP : va_P D vwCl (wT q c ((upd (tKd ts) (tT ts) k), (upd (tOt ts) (tT ts) tm), (upd (tNd ts) (tT ts) (-9)), (upd (tCh ts) (tT ts) (((1 : Int32) <<< (nI (tT ts) &&& 31)) ||| 0)), tPa ts, tTn ts, (tT ts + 1))) H := hP
        have hD : va_D (va_A (wT q c ts) s.heap.size) (wT q c ((upd (tKd ts) (tT ts) k), (upd (tOt ts) (tT ts) tm), (upd (tNd ts) (tT ts) (-9)), (upd (tCh ts) (tT ts) (((1 : Int32) <<< (nI (tT ts) &&& 31)) ||| 0)), tPa ts, tTn ts, (tT ts + 1))) := hD
        refine lv_aload_n hx hb dX3_add_93 rfl (lv_at hl 1 rfl) ?_
        refine va_get (D := D) (ci := 3) (v := .int (nI (tT ts + 1))) (C := RX3) (T := TX3) (N := 7) hx hb hts hin3 hown hK.1 hP 0 rfl rfl 6 (by decide) (hts (.fieldLink RX3 32 "TestPicker$Tests" "size" "I") (by decide +kernel)) (fun _ h9 => h9) rfl dX3_add_94 ?_
        refine lv_iconst (v := 1) hx hb dX3_add_97 (by decide) ?_
        refine lv_isub hx hb dX3_add_98 ?_
        refine tp_i (z := nI (tT ts)) (nI_pred _) ?_
        have e9 : addT ts k tm nd = ((upd (tKd ts) (tT ts) k), (upd (tOt ts) (tT ts) tm), (upd (tNd ts) (tT ts) (-9)), (upd (tCh ts) (tT ts) (((1 : Int32) <<< (nI (tT ts) &&& 31)) ||| 0)), tPa ts, tTn ts, (tT ts + 1)) := by simp [addT, c2, oneE]
        rw [e9]
        exact mu_reti hx hb hr hlk hP hD hS (rfl) dX3_add_99
      · -- 68 False
        exact absurd c68 (by decide)
    · -- 42 False
      exact absurd c42 (by decide)
  · -- 2 False
    obtain ⟨u, hu1, rfl⟩ := hu c2
    refine lv_iconst (v := 1) hx hb dX3_add_5 (by decide) ?_
    refine lv_goto (tgt := 10) hx hb dX3_add_6 (by decide) ?_
    refine lv_istore (lv' := [(4, .int 1), (0, .ref (q 2)), (1, .int k), (2, .int tm), (3, .int (nI u))]) hx hb dX3_add_10 hl (by decide) rfl (fun ls hl => ?_)
    refine lv_aload_n hx hb dX3_add_12 rfl (lv_at hl 1 rfl) ?_
    refine va_get (D := D) (ci := 3) (v := .ref (q 3)) (C := RX3) (T := TX3) (N := 7) hx hb hts hin3 hown hK.1 hP 0 rfl rfl 0 (by decide) (hts (.fieldLink RX3 9 "TestPicker$Tests" "kinds" "[I") (by decide +kernel)) (fun _ h9 => h9) rfl dX3_add_13 ?_
    refine lv_aload_n hx hb dX3_add_16 rfl (lv_at hl 1 rfl) ?_
    refine va_get (D := D) (ci := 3) (v := .int (nI (tT ts))) (C := RX3) (T := TX3) (N := 7) hx hb hts hin3 hown hK.1 hP 0 rfl rfl 6 (by decide) (hts (.fieldLink RX3 32 "TestPicker$Tests" "size" "I") (by decide +kernel)) (fun _ h9 => h9) rfl dX3_add_17 ?_
    refine lv_iload_n hx hb dX3_add_20 rfl (lv_at hl 2 rfl) ?_
    refine st_i hx hb hK hP hD hS 1 rfl (i := (tT ts)) (by omega) (by decide) dX3_add_21 (fun H locs hP hD hS => ?_)
    have hP : va_P D vwCl (wT q c ((upd (tKd ts) (tT ts) k), tOt ts, tNd ts, tCh ts, tPa ts, tTn ts, tT ts)) H := hP
    have hD : va_D (va_A (wT q c ts) s.heap.size) (wT q c ((upd (tKd ts) (tT ts) k), tOt ts, tNd ts, tCh ts, tPa ts, tTn ts, tT ts)) := hD
    refine lv_aload_n hx hb dX3_add_22 rfl (lv_at hl 1 rfl) ?_
    refine va_get (D := D) (ci := 3) (v := .ref (q 4)) (C := RX3) (T := TX3) (N := 7) hx hb hts hin3 hown hK.1 hP 0 rfl rfl 1 (by decide) (hts (.fieldLink RX3 15 "TestPicker$Tests" "ownTimes" "[I") (by decide +kernel)) (fun _ h9 => h9) rfl dX3_add_23 ?_
    refine lv_aload_n hx hb dX3_add_26 rfl (lv_at hl 1 rfl) ?_
    refine va_get (D := D) (ci := 3) (v := .int (nI (tT ts))) (C := RX3) (T := TX3) (N := 7) hx hb hts hin3 hown hK.1 hP 0 rfl rfl 6 (by decide) (hts (.fieldLink RX3 32 "TestPicker$Tests" "size" "I") (by decide +kernel)) (fun _ h9 => h9) rfl dX3_add_27 ?_
    refine lv_iload_n hx hb dX3_add_30 rfl (lv_at hl 3 rfl) ?_
    refine st_i hx hb hK hP hD hS 2 rfl (i := (tT ts)) (by omega) (by decide) dX3_add_31 (fun H locs hP hD hS => ?_)
    have hP : va_P D vwCl (wT q c ((upd (tKd ts) (tT ts) k), (upd (tOt ts) (tT ts) tm), tNd ts, tCh ts, tPa ts, tTn ts, tT ts)) H := hP
    have hD : va_D (va_A (wT q c ts) s.heap.size) (wT q c ((upd (tKd ts) (tT ts) k), (upd (tOt ts) (tT ts) tm), tNd ts, tCh ts, tPa ts, tTn ts, tT ts)) := hD
    refine lv_aload_n hx hb dX3_add_32 rfl (lv_at hl 1 rfl) ?_
    refine va_get (D := D) (ci := 3) (v := .ref (q 5)) (C := RX3) (T := TX3) (N := 7) hx hb hts hin3 hown hK.1 hP 0 rfl rfl 2 (by decide) (hts (.fieldLink RX3 18 "TestPicker$Tests" "needs" "[I") (by decide +kernel)) (fun _ h9 => h9) rfl dX3_add_33 ?_
    refine lv_aload_n hx hb dX3_add_36 rfl (lv_at hl 1 rfl) ?_
    refine va_get (D := D) (ci := 3) (v := .int (nI (tT ts))) (C := RX3) (T := TX3) (N := 7) hx hb hts hin3 hown hK.1 hP 0 rfl rfl 6 (by decide) (hts (.fieldLink RX3 32 "TestPicker$Tests" "size" "I") (by decide +kernel)) (fun _ h9 => h9) rfl dX3_add_37 ?_
    refine lv_iload hx hb dX3_add_40 (lv_at hl 0 rfl) ?_
    refine lv_if_eq (tgt := 49) hx hb dX3_add_42 (by decide) (fun c42 => ?_) (fun c42 => ?_)
    · -- 42 True
      exact absurd c42 (by decide)
    · -- 42 False
      refine lv_iload_n hx hb dX3_add_45 rfl (lv_at hl 4 rfl) ?_
      refine lv_goto (tgt := 51) hx hb dX3_add_46 (by decide) ?_
      refine st_i hx hb hK hP hD hS 3 rfl (i := (tT ts)) (by omega) (by decide) dX3_add_51 (fun H locs hP hD hS => ?_)
      have hP : va_P D vwCl (wT q c ((upd (tKd ts) (tT ts) k), (upd (tOt ts) (tT ts) tm), (upd (tNd ts) (tT ts) (nI u)), tCh ts, tPa ts, tTn ts, tT ts)) H := hP
      have hD : va_D (va_A (wT q c ts) s.heap.size) (wT q c ((upd (tKd ts) (tT ts) k), (upd (tOt ts) (tT ts) tm), (upd (tNd ts) (tT ts) (nI u)), tCh ts, tPa ts, tTn ts, tT ts)) := hD
      refine lv_aload_n hx hb dX3_add_52 rfl (lv_at hl 1 rfl) ?_
      refine va_get (D := D) (ci := 3) (v := .ref (q 6)) (C := RX3) (T := TX3) (N := 7) hx hb hts hin3 hown hK.1 hP 0 rfl rfl 3 (by decide) (hts (.fieldLink RX3 21 "TestPicker$Tests" "chains" "[I") (by decide +kernel)) (fun _ h9 => h9) rfl dX3_add_53 ?_
      refine lv_aload_n hx hb dX3_add_56 rfl (lv_at hl 1 rfl) ?_
      refine va_get (D := D) (ci := 3) (v := .int (nI (tT ts))) (C := RX3) (T := TX3) (N := 7) hx hb hts hin3 hown hK.1 hP 0 rfl rfl 6 (by decide) (hts (.fieldLink RX3 32 "TestPicker$Tests" "size" "I") (by decide +kernel)) (fun _ h9 => h9) rfl dX3_add_57 ?_
      refine lv_iconst (v := 1) hx hb dX3_add_60 (by decide) ?_
      refine lv_aload_n hx hb dX3_add_61 rfl (lv_at hl 1 rfl) ?_
      refine va_get (D := D) (ci := 3) (v := .int (nI (tT ts))) (C := RX3) (T := TX3) (N := 7) hx hb hts hin3 hown hK.1 hP 0 rfl rfl 6 (by decide) (hts (.fieldLink RX3 32 "TestPicker$Tests" "size" "I") (by decide +kernel)) (fun _ h9 => h9) rfl dX3_add_62 ?_
      refine lv_ishl hx hb dX3_add_65 ?_
      refine lv_iload hx hb dX3_add_66 (lv_at hl 0 rfl) ?_
      refine lv_if_eq (tgt := 80) hx hb dX3_add_68 (by decide) (fun c68 => ?_) (fun c68 => ?_)
      · -- 68 True
        exact absurd c68 (by decide)
      · -- 68 False
        refine lv_aload_n hx hb dX3_add_71 rfl (lv_at hl 1 rfl) ?_
        refine va_get (D := D) (ci := 3) (v := .ref (q 6)) (C := RX3) (T := TX3) (N := 7) hx hb hts hin3 hown hK.1 hP 0 rfl rfl 3 (by decide) (hts (.fieldLink RX3 21 "TestPicker$Tests" "chains" "[I") (by decide +kernel)) (fun _ h9 => h9) rfl dX3_add_72 ?_
        refine lv_iload_n hx hb dX3_add_75 rfl (lv_at hl 4 rfl) ?_
        refine ld_i hx hb hK hP 4 (f := tCh ts) rfl (i := u) (by omega) (by decide) dX3_add_76 ?_
        refine lv_goto (tgt := 81) hx hb dX3_add_77 (by decide) ?_
        refine lv_ior hx hb dX3_add_81 ?_
        refine st_i hx hb hK hP hD hS 4 rfl (i := (tT ts)) (by omega) (by decide) dX3_add_82 (fun H locs hP hD hS => ?_)
        have hP : va_P D vwCl (wT q c ((upd (tKd ts) (tT ts) k), (upd (tOt ts) (tT ts) tm), (upd (tNd ts) (tT ts) (nI u)), (upd (tCh ts) (tT ts) (((1 : Int32) <<< (nI (tT ts) &&& 31)) ||| (tCh ts u))), tPa ts, tTn ts, tT ts)) H := hP
        have hD : va_D (va_A (wT q c ts) s.heap.size) (wT q c ((upd (tKd ts) (tT ts) k), (upd (tOt ts) (tT ts) tm), (upd (tNd ts) (tT ts) (nI u)), (upd (tCh ts) (tT ts) (((1 : Int32) <<< (nI (tT ts) &&& 31)) ||| (tCh ts u))), tPa ts, tTn ts, tT ts)) := hD
        refine lv_aload_n hx hb dX3_add_83 rfl (lv_at hl 1 rfl) ?_
        refine lv_dup hx hb dX3_add_84 rfl ?_
        refine va_get (D := D) (ci := 3) (v := .int (nI (tT ts))) (C := RX3) (T := TX3) (N := 7) hx hb hts hin3 hown hK.1 hP 0 rfl rfl 6 (by decide) (hts (.fieldLink RX3 32 "TestPicker$Tests" "size" "I") (by decide +kernel)) (fun _ h9 => h9) rfl dX3_add_85 ?_
        refine lv_iconst (v := 1) hx hb dX3_add_88 (by decide) ?_
        refine lv_iadd hx hb dX3_add_89 ?_
        refine tp_i (z := nI (tT ts + 1)) (nI_1 _) ?_
        refine va_put (D := D) (ci := 3) (v := .int (nI (tT ts + 1))) (ty := .int) (C := RX3) (T := TX3) (N := 7) hx hb hts hin3 tyX3 tyX3_ok nmX3 hown hK.1 hP hD hS 0 rfl rfl 6 (by decide) (hts (.fieldLink RX3 32 "TestPicker$Tests" "size" "I") (by decide +kernel)) (fun _ h9 => h9) rfl (by decide +kernel) rfl rfl (Nat.le_of_ble_eq_true rfl) dX3_add_90 (fun H locs hP hD hS => ?_)
        have hP : va_P D vwCl (wT q c ((upd (tKd ts) (tT ts) k), (upd (tOt ts) (tT ts) tm), (upd (tNd ts) (tT ts) (nI u)), (upd (tCh ts) (tT ts) (((1 : Int32) <<< (nI (tT ts) &&& 31)) ||| (tCh ts u))), tPa ts, tTn ts, (tT ts + 1))) H := hP
        have hD : va_D (va_A (wT q c ts) s.heap.size) (wT q c ((upd (tKd ts) (tT ts) k), (upd (tOt ts) (tT ts) tm), (upd (tNd ts) (tT ts) (nI u)), (upd (tCh ts) (tT ts) (((1 : Int32) <<< (nI (tT ts) &&& 31)) ||| (tCh ts u))), tPa ts, tTn ts, (tT ts + 1))) := hD
        refine lv_aload_n hx hb dX3_add_93 rfl (lv_at hl 1 rfl) ?_
        refine va_get (D := D) (ci := 3) (v := .int (nI (tT ts + 1))) (C := RX3) (T := TX3) (N := 7) hx hb hts hin3 hown hK.1 hP 0 rfl rfl 6 (by decide) (hts (.fieldLink RX3 32 "TestPicker$Tests" "size" "I") (by decide +kernel)) (fun _ h9 => h9) rfl dX3_add_94 ?_
        refine lv_iconst (v := 1) hx hb dX3_add_97 (by decide) ?_
        refine lv_isub hx hb dX3_add_98 ?_
        refine tp_i (z := nI (tT ts)) (nI_pred _) ?_
        have e9 : addT ts k tm (nI u) = ((upd (tKd ts) (tT ts) k), (upd (tOt ts) (tT ts) tm), (upd (tNd ts) (tT ts) (nI u)), (upd (tCh ts) (tT ts) (((1 : Int32) <<< (nI (tT ts) &&& 31)) ||| (tCh ts u))), tPa ts, tTn ts, (tT ts + 1)) := by simp [addT, c2, oneE, cl_nI' hu1]
        rw [e9]
        exact mu_reti hx hb hr hlk hP hD hS (rfl) dX3_add_99

set_option maxHeartbeats 4000000 in
set_option maxRecDepth 100000 in
theorem c_X3_setReachByte (l : Launch) (D : va_G) (q : Nat → Nat) (c : CT) (ts : TS) (t i : Nat) (b : Int32) (ht : t < 20) : MUv l yX3_setReachByte wsX3_setReachByte ({ frames := 0, cells := 0, slots := 0, locals := 0 } : Room) [.ref (q 2), .int (nI t), .int (nI i), .int b] D c (wT q c ts) (wT q c (tKd ts, tOt ts, tNd ts, tCh ts, vp_updL (tPa ts) t (setB (tPa ts t) i b), tTn ts, tT ts)) := by
  refine mu_start (cc := cX3_setReachByte) (maxL := 4) (ret := none) (by decide) rfl (Nat.le_of_ble_eq_true rfl) ?_
  intro p e s m args below meth c0 ls hx hb hr hml hown hts hlk hnm hP hK hD hS hA hl
  have hown : s.vm.findClass RX3 = some m.cls := hown
  have hl : lv_has ls 4 [(0, .ref (q 2)), (1, .int (nI t)), (2, .int (nI i)), (3, .int b)] := hl
  have hin3 : ∀ w ∈ wsX30, w ∈ wsX3_setReachByte := by decide +kernel
  refine lv_aload_n hx hb dX3_setReachByte_0 rfl (lv_at hl 0 rfl) ?_
  refine va_get (D := D) (ci := 3) (v := .ref (q 7)) (C := RX3) (T := TX3) (N := 7) hx hb hts hin3 hown hK.1 hP 0 rfl rfl 4 (by decide) (hts (.fieldLink RX3 24 "TestPicker$Tests" "parts" "[J") (by decide +kernel)) (fun _ h9 => h9) rfl dX3_setReachByte_1 ?_
  refine lv_iload_n hx hb dX3_setReachByte_4 rfl (lv_at hl 1 rfl) ?_
  refine lv_aload_n hx hb dX3_setReachByte_5 rfl (lv_at hl 0 rfl) ?_
  refine va_get (D := D) (ci := 3) (v := .ref (q 7)) (C := RX3) (T := TX3) (N := 7) hx hb hts hin3 hown hK.1 hP 0 rfl rfl 4 (by decide) (hts (.fieldLink RX3 24 "TestPicker$Tests" "parts" "[J") (by decide +kernel)) (fun _ h9 => h9) rfl dX3_setReachByte_6 ?_
  refine lv_iload_n hx hb dX3_setReachByte_9 rfl (lv_at hl 1 rfl) ?_
  refine ld_l hx hb hK hP 5 (f := tPa ts) rfl (i := t) (by omega) (by decide) dX3_setReachByte_10 ?_
  refine lv_ldc2 (own := RX3) (v := (255)) hx hb hown (hts (.constantLong RX3 36 (255)) (by decide +kernel)) dX3_setReachByte_11 ?_
  refine lv_bipush (v := 8) hx hb dX3_setReachByte_14 (by decide) ?_
  refine lv_iload_n hx hb dX3_setReachByte_16 rfl (lv_at hl 2 rfl) ?_
  refine lv_imul hx hb dX3_setReachByte_17 ?_
  refine tp_i (z := nI (8 * i)) (mul8 i) ?_
  refine lv_lshl (v := (((255) : Int64) <<< ((nI (8 * i)).toInt64 &&& 63))) hx hb dX3_setReachByte_18 rfl ?_
  refine lv_ldc2 (own := RX3) (v := (-1)) hx hb hown (hts (.constantLong RX3 38 (-1)) (by decide +kernel)) dX3_setReachByte_19 ?_
  refine lv_lxor hx hb dX3_setReachByte_22 ?_
  refine lv_land hx hb dX3_setReachByte_23 ?_
  refine lv_iload_n hx hb dX3_setReachByte_24 rfl (lv_at hl 3 rfl) ?_
  refine lv_i2l (v := b.toInt64) hx hb dX3_setReachByte_25 rfl ?_
  refine lv_bipush (v := 8) hx hb dX3_setReachByte_26 (by decide) ?_
  refine lv_iload_n hx hb dX3_setReachByte_28 rfl (lv_at hl 2 rfl) ?_
  refine lv_imul hx hb dX3_setReachByte_29 ?_
  refine tp_i (z := nI (8 * i)) (mul8 i) ?_
  refine lv_lshl (v := (b.toInt64 <<< ((nI (8 * i)).toInt64 &&& 63))) hx hb dX3_setReachByte_30 rfl ?_
  refine lv_lor hx hb dX3_setReachByte_31 ?_
  refine st_l hx hb hK hP hD hS 5 rfl (i := t) (by omega) (by decide) dX3_setReachByte_32 (fun H locs hP hD hS => ?_)
  have hP : va_P D vwCl (wT q c (tKd ts, tOt ts, tNd ts, tCh ts, (vp_updL (tPa ts) t (((tPa ts t) &&& ((((255) : Int64) <<< ((nI (8 * i)).toInt64 &&& 63)) ^^^ (-1))) ||| (b.toInt64 <<< ((nI (8 * i)).toInt64 &&& 63)))), tTn ts, tT ts)) H := hP
  have hD : va_D (va_A (wT q c ts) s.heap.size) (wT q c (tKd ts, tOt ts, tNd ts, tCh ts, (vp_updL (tPa ts) t (((tPa ts t) &&& ((((255) : Int64) <<< ((nI (8 * i)).toInt64 &&& 63)) ^^^ (-1))) ||| (b.toInt64 <<< ((nI (8 * i)).toInt64 &&& 63)))), tTn ts, tT ts)) := hD
  exact mu_retv hx hb hr hlk hP hD hS dX3_setReachByte_33

set_option maxHeartbeats 4000000 in
set_option maxRecDepth 100000 in
theorem c_X3_copyBytes (l : Launch) (D : va_G) (q : Nat → Nat) (c : CT) (ts : TS) (t i o j n : Nat) (ht : t < 20) (ho : o < 20) : MUv l yX3_copyBytes wsX3_copyBytes ({ frames := 0, cells := 0, slots := 0, locals := 0 } : Room) [.ref (q 2), .int (nI t), .int (nI i), .int (nI o), .int (nI j), .int (nI n)] D c (wT q c ts) (wT q c (tKd ts, tOt ts, tNd ts, tCh ts, vp_updL (tPa ts) o (cpB (tPa ts t) (tPa ts o) i j n), tTn ts, tT ts)) := by
  refine mu_start (cc := cX3_copyBytes) (maxL := 10) (ret := none) (by decide) rfl (Nat.le_of_ble_eq_true rfl) ?_
  intro p e s m args below meth c0 ls hx hb hr hml hown hts hlk hnm hP hK hD hS hA hl
  have hown : s.vm.findClass RX3 = some m.cls := hown
  have hl : lv_has ls 10 [(0, .ref (q 2)), (1, .int (nI t)), (2, .int (nI i)), (3, .int (nI o)), (4, .int (nI j)), (5, .int (nI n))] := hl
  have hin3 : ∀ w ∈ wsX30, w ∈ wsX3_copyBytes := by decide +kernel
  refine lv_lconst (v := 1) hx hb dX3_copyBytes_0 (by decide) ?_
  refine lv_bipush (v := 8) hx hb dX3_copyBytes_1 (by decide) ?_
  refine lv_iload hx hb dX3_copyBytes_3 (lv_at hl 5 rfl) ?_
  refine lv_imul hx hb dX3_copyBytes_5 ?_
  refine tp_i (z := nI (8 * n)) (mul8 n) ?_
  refine lv_lshl (v := ((1 : Int64) <<< ((nI (8 * n)).toInt64 &&& 63))) hx hb dX3_copyBytes_6 rfl ?_
  refine lv_lconst (v := 1) hx hb dX3_copyBytes_7 (by decide) ?_
  refine lv_lsub hx hb dX3_copyBytes_8 ?_
  refine lv_lstore (lv' := [(6, .long (((1 : Int64) <<< ((nI (8 * n)).toInt64 &&& 63)) - 1)), (0, .ref (q 2)), (1, .int (nI t)), (2, .int (nI i)), (3, .int (nI o)), (4, .int (nI j)), (5, .int (nI n))]) hx hb dX3_copyBytes_9 hl (by decide) rfl (fun ls hl => ?_)
  refine lv_aload_n hx hb dX3_copyBytes_11 rfl (lv_at hl 1 rfl) ?_
  refine va_get (D := D) (ci := 3) (v := .ref (q 7)) (C := RX3) (T := TX3) (N := 7) hx hb hts hin3 hown hK.1 hP 0 rfl rfl 4 (by decide) (hts (.fieldLink RX3 24 "TestPicker$Tests" "parts" "[J") (by decide +kernel)) (fun _ h9 => h9) rfl dX3_copyBytes_12 ?_
  refine lv_iload_n hx hb dX3_copyBytes_15 rfl (lv_at hl 2 rfl) ?_
  refine ld_l hx hb hK hP 5 (f := tPa ts) rfl (i := t) (by omega) (by decide) dX3_copyBytes_16 ?_
  refine lv_bipush (v := 8) hx hb dX3_copyBytes_17 (by decide) ?_
  refine lv_iload_n hx hb dX3_copyBytes_19 rfl (lv_at hl 3 rfl) ?_
  refine lv_imul hx hb dX3_copyBytes_20 ?_
  refine tp_i (z := nI (8 * i)) (mul8 i) ?_
  refine lv_lushr (v := ((tPa ts t).toUInt64 >>> ((nI (8 * i)).toInt64.toUInt64 &&& Int64.toUInt64 63)).toInt64) hx hb dX3_copyBytes_21 rfl ?_
  refine lv_lload hx hb dX3_copyBytes_22 (lv_at hl 0 rfl) ?_
  refine lv_land hx hb dX3_copyBytes_24 ?_
  refine lv_lstore (lv' := [(8, .long (((tPa ts t).toUInt64 >>> ((nI (8 * i)).toInt64.toUInt64 &&& Int64.toUInt64 63)).toInt64 &&& (((1 : Int64) <<< ((nI (8 * n)).toInt64 &&& 63)) - 1))), (6, .long (((1 : Int64) <<< ((nI (8 * n)).toInt64 &&& 63)) - 1)), (0, .ref (q 2)), (1, .int (nI t)), (2, .int (nI i)), (3, .int (nI o)), (4, .int (nI j)), (5, .int (nI n))]) hx hb dX3_copyBytes_25 hl (by decide) rfl (fun ls hl => ?_)
  refine lv_aload_n hx hb dX3_copyBytes_27 rfl (lv_at hl 2 rfl) ?_
  refine va_get (D := D) (ci := 3) (v := .ref (q 7)) (C := RX3) (T := TX3) (N := 7) hx hb hts hin3 hown hK.1 hP 0 rfl rfl 4 (by decide) (hts (.fieldLink RX3 24 "TestPicker$Tests" "parts" "[J") (by decide +kernel)) (fun _ h9 => h9) rfl dX3_copyBytes_28 ?_
  refine lv_iload_n hx hb dX3_copyBytes_31 rfl (lv_at hl 5 rfl) ?_
  refine lv_aload_n hx hb dX3_copyBytes_32 rfl (lv_at hl 2 rfl) ?_
  refine va_get (D := D) (ci := 3) (v := .ref (q 7)) (C := RX3) (T := TX3) (N := 7) hx hb hts hin3 hown hK.1 hP 0 rfl rfl 4 (by decide) (hts (.fieldLink RX3 24 "TestPicker$Tests" "parts" "[J") (by decide +kernel)) (fun _ h9 => h9) rfl dX3_copyBytes_33 ?_
  refine lv_iload_n hx hb dX3_copyBytes_36 rfl (lv_at hl 5 rfl) ?_
  refine ld_l hx hb hK hP 5 (f := tPa ts) rfl (i := o) (by omega) (by decide) dX3_copyBytes_37 ?_
  refine lv_lload hx hb dX3_copyBytes_38 (lv_at hl 1 rfl) ?_
  refine lv_bipush (v := 8) hx hb dX3_copyBytes_40 (by decide) ?_
  refine lv_iload hx hb dX3_copyBytes_42 (lv_at hl 6 rfl) ?_
  refine lv_imul hx hb dX3_copyBytes_44 ?_
  refine tp_i (z := nI (8 * j)) (mul8 j) ?_
  refine lv_lshl (v := ((((1 : Int64) <<< ((nI (8 * n)).toInt64 &&& 63)) - 1) <<< ((nI (8 * j)).toInt64 &&& 63))) hx hb dX3_copyBytes_45 rfl ?_
  refine lv_ldc2 (own := RX3) (v := (-1)) hx hb hown (hts (.constantLong RX3 38 (-1)) (by decide +kernel)) dX3_copyBytes_46 ?_
  refine lv_lxor hx hb dX3_copyBytes_49 ?_
  refine lv_land hx hb dX3_copyBytes_50 ?_
  refine lv_lload hx hb dX3_copyBytes_51 (lv_at hl 0 rfl) ?_
  refine lv_bipush (v := 8) hx hb dX3_copyBytes_53 (by decide) ?_
  refine lv_iload hx hb dX3_copyBytes_55 (lv_at hl 6 rfl) ?_
  refine lv_imul hx hb dX3_copyBytes_57 ?_
  refine tp_i (z := nI (8 * j)) (mul8 j) ?_
  refine lv_lshl (v := ((((tPa ts t).toUInt64 >>> ((nI (8 * i)).toInt64.toUInt64 &&& Int64.toUInt64 63)).toInt64 &&& (((1 : Int64) <<< ((nI (8 * n)).toInt64 &&& 63)) - 1)) <<< ((nI (8 * j)).toInt64 &&& 63))) hx hb dX3_copyBytes_58 rfl ?_
  refine lv_lor hx hb dX3_copyBytes_59 ?_
  refine st_l hx hb hK hP hD hS 5 rfl (i := o) (by omega) (by decide) dX3_copyBytes_60 (fun H locs hP hD hS => ?_)
  have hP : va_P D vwCl (wT q c (tKd ts, tOt ts, tNd ts, tCh ts, (vp_updL (tPa ts) o (((tPa ts o) &&& (((((1 : Int64) <<< ((nI (8 * n)).toInt64 &&& 63)) - 1) <<< ((nI (8 * j)).toInt64 &&& 63)) ^^^ (-1))) ||| ((((tPa ts t).toUInt64 >>> ((nI (8 * i)).toInt64.toUInt64 &&& Int64.toUInt64 63)).toInt64 &&& (((1 : Int64) <<< ((nI (8 * n)).toInt64 &&& 63)) - 1)) <<< ((nI (8 * j)).toInt64 &&& 63)))), tTn ts, tT ts)) H := hP
  have hD : va_D (va_A (wT q c ts) s.heap.size) (wT q c (tKd ts, tOt ts, tNd ts, tCh ts, (vp_updL (tPa ts) o (((tPa ts o) &&& (((((1 : Int64) <<< ((nI (8 * n)).toInt64 &&& 63)) - 1) <<< ((nI (8 * j)).toInt64 &&& 63)) ^^^ (-1))) ||| ((((tPa ts t).toUInt64 >>> ((nI (8 * i)).toInt64.toUInt64 &&& Int64.toUInt64 63)).toInt64 &&& (((1 : Int64) <<< ((nI (8 * n)).toInt64 &&& 63)) - 1)) <<< ((nI (8 * j)).toInt64 &&& 63)))), tTn ts, tT ts)) := hD
  exact mu_retv hx hb hr hlk hP hD hS dX3_copyBytes_61

set_option maxHeartbeats 4000000 in
set_option maxRecDepth 100000 in
theorem c_X0_add (l : Launch) (D : va_G) (q : Nat → Nat) (c : CT) (hs : HS) (x : Int64) (hb60 : hB hs < 60) : MUi l yX0_add wsX0_add ({ frames := 0, cells := 0, slots := 0, locals := 0 } : Room) [.ref (q 9), .long x] D c (wH q c hs) (wH q c (addH hs x)) (nI (hB hs)) := by
  refine mu_start (cc := cX0_add) (maxL := 3) (ret := some .int) (by decide) rfl (Nat.le_of_ble_eq_true rfl) ?_
  intro p e s m args below meth c0 ls hx hb hr hml hown hts hlk hnm hP hK hD hS hA hl
  have hown : s.vm.findClass RX0 = some m.cls := hown
  have hl : lv_has ls 3 [(0, .ref (q 9)), (1, .long x)] := hl
  have hin0 : ∀ w ∈ wsX00, w ∈ wsX0_add := by decide +kernel
  refine lv_aload_n hx hb dX0_add_0 rfl (lv_at hl 0 rfl) ?_
  refine va_get (D := D) (ci := 0) (v := .ref (q 10)) (C := RX0) (T := TX0) (N := 4) hx hb hts hin0 hown hK.1 hP 0 rfl rfl 0 (by decide) (hts (.fieldLink RX0 9 "TestPicker$History" "changes" "[J") (by decide +kernel)) (fun _ h9 => h9) rfl dX0_add_1 ?_
  refine lv_aload_n hx hb dX0_add_4 rfl (lv_at hl 0 rfl) ?_
  refine va_get (D := D) (ci := 0) (v := .int (nI (hB hs))) (C := RX0) (T := TX0) (N := 4) hx hb hts hin0 hown hK.1 hP 0 rfl rfl 3 (by decide) (hts (.fieldLink RX0 21 "TestPicker$History" "size" "I") (by decide +kernel)) (fun _ h9 => h9) rfl dX0_add_5 ?_
  refine lv_lload_n hx hb dX0_add_8 rfl (lv_at hl 1 rfl) ?_
  refine st_l hx hb hK hP hD hS 1 rfl (i := (hB hs)) (by omega) (by decide) dX0_add_9 (fun H locs hP hD hS => ?_)
  have hP : va_P D vwCl (wH q c ((vp_updL (hCg hs) (hB hs) x), hFe hs, hPs hs, hB hs)) H := hP
  have hD : va_D (va_A (wH q c hs) s.heap.size) (wH q c ((vp_updL (hCg hs) (hB hs) x), hFe hs, hPs hs, hB hs)) := hD
  refine lv_aload_n hx hb dX0_add_10 rfl (lv_at hl 0 rfl) ?_
  refine lv_dup hx hb dX0_add_11 rfl ?_
  refine va_get (D := D) (ci := 0) (v := .int (nI (hB hs))) (C := RX0) (T := TX0) (N := 4) hx hb hts hin0 hown hK.1 hP 0 rfl rfl 3 (by decide) (hts (.fieldLink RX0 21 "TestPicker$History" "size" "I") (by decide +kernel)) (fun _ h9 => h9) rfl dX0_add_12 ?_
  refine lv_iconst (v := 1) hx hb dX0_add_15 (by decide) ?_
  refine lv_iadd hx hb dX0_add_16 ?_
  refine tp_i (z := nI (hB hs + 1)) (nI_1 _) ?_
  refine va_put (D := D) (ci := 0) (v := .int (nI (hB hs + 1))) (ty := .int) (C := RX0) (T := TX0) (N := 4) hx hb hts hin0 tyX0 tyX0_ok nmX0 hown hK.1 hP hD hS 0 rfl rfl 3 (by decide) (hts (.fieldLink RX0 21 "TestPicker$History" "size" "I") (by decide +kernel)) (fun _ h9 => h9) rfl (by decide +kernel) rfl rfl (Nat.le_of_ble_eq_true rfl) dX0_add_17 (fun H locs hP hD hS => ?_)
  have hP : va_P D vwCl (wH q c ((vp_updL (hCg hs) (hB hs) x), hFe hs, hPs hs, (hB hs + 1))) H := hP
  have hD : va_D (va_A (wH q c hs) s.heap.size) (wH q c ((vp_updL (hCg hs) (hB hs) x), hFe hs, hPs hs, (hB hs + 1))) := hD
  refine lv_aload_n hx hb dX0_add_20 rfl (lv_at hl 0 rfl) ?_
  refine va_get (D := D) (ci := 0) (v := .int (nI (hB hs + 1))) (C := RX0) (T := TX0) (N := 4) hx hb hts hin0 hown hK.1 hP 0 rfl rfl 3 (by decide) (hts (.fieldLink RX0 21 "TestPicker$History" "size" "I") (by decide +kernel)) (fun _ h9 => h9) rfl dX0_add_21 ?_
  refine lv_iconst (v := 1) hx hb dX0_add_24 (by decide) ?_
  refine lv_isub hx hb dX0_add_25 ?_
  refine tp_i (z := nI (hB hs)) (nI_pred _) ?_
  exact mu_reti hx hb hr hlk hP hD hS (rfl) dX0_add_26

set_option maxHeartbeats 4000000 in
set_option maxRecDepth 100000 in
theorem c_X0_judge (l : Launch) (D : va_G) (q : Nat → Nat) (c : CT) (hs : HS) (t : Nat) (f : Bool) (ht : t < 20) (hb0 : 0 < hB hs) : MUv l yX0_judge wsX0_judge ({ frames := 0, cells := 0, slots := 0, locals := 0 } : Room) [.ref (q 9), .int (nI t), .int (bI f)] D c (wH q c hs) (wH q c (judH hs t f)) := by
  refine mu_start (cc := cX0_judge) (maxL := 5) (ret := none) (by decide) rfl (Nat.le_of_ble_eq_true rfl) ?_
  intro p e s m args below meth c0 ls hx hb hr hml hown hts hlk hnm hP hK hD hS hA hl
  have hown : s.vm.findClass RX0 = some m.cls := hown
  have hl : lv_has ls 5 [(0, .ref (q 9)), (1, .int (nI t)), (2, .int (bI f))] := hl
  have hin0 : ∀ w ∈ wsX00, w ∈ wsX0_judge := by decide +kernel
  refine lv_lconst (v := 1) hx hb dX0_judge_0 (by decide) ?_
  refine lv_aload_n hx hb dX0_judge_1 rfl (lv_at hl 0 rfl) ?_
  refine va_get (D := D) (ci := 0) (v := .int (nI (hB hs))) (C := RX0) (T := TX0) (N := 4) hx hb hts hin0 hown hK.1 hP 0 rfl rfl 3 (by decide) (hts (.fieldLink RX0 21 "TestPicker$History" "size" "I") (by decide +kernel)) (fun _ h9 => h9) rfl dX0_judge_2 ?_
  refine lv_iconst (v := 1) hx hb dX0_judge_5 (by decide) ?_
  refine lv_isub hx hb dX0_judge_6 ?_
  refine tp_i (z := nI (hB hs - 1)) (pred1 (by omega)) ?_
  refine lv_lshl (v := ((1 : Int64) <<< ((nI (hB hs - 1)).toInt64 &&& 63))) hx hb dX0_judge_7 rfl ?_
  refine lv_lstore_n (lv' := [(3, .long ((1 : Int64) <<< ((nI (hB hs - 1)).toInt64 &&& 63))), (0, .ref (q 9)), (1, .int (nI t)), (2, .int (bI f))]) hx hb dX0_judge_8 rfl hl (by decide) rfl (fun ls hl => ?_)
  refine lv_aload_n hx hb dX0_judge_9 rfl (lv_at hl 1 rfl) ?_
  refine va_get (D := D) (ci := 0) (v := .ref (q 11)) (C := RX0) (T := TX0) (N := 4) hx hb hts hin0 hown hK.1 hP 0 rfl rfl 1 (by decide) (hts (.fieldLink RX0 15 "TestPicker$History" "fellIn" "[J") (by decide +kernel)) (fun _ h9 => h9) rfl dX0_judge_10 ?_
  refine lv_iload_n hx hb dX0_judge_13 rfl (lv_at hl 2 rfl) ?_
  refine lv_iload_n hx hb dX0_judge_14 rfl (lv_at hl 3 rfl) ?_
  refine lv_if_eq (tgt := 29) hx hb dX0_judge_15 (by decide) (fun c15 => ?_) (fun c15 => ?_)
  · -- 15 True
    have c15 := bI_z.mp c15
    refine lv_aload_n hx hb dX0_judge_29 rfl (lv_at hl 1 rfl) ?_
    refine va_get (D := D) (ci := 0) (v := .ref (q 11)) (C := RX0) (T := TX0) (N := 4) hx hb hts hin0 hown hK.1 hP 0 rfl rfl 1 (by decide) (hts (.fieldLink RX0 15 "TestPicker$History" "fellIn" "[J") (by decide +kernel)) (fun _ h9 => h9) rfl dX0_judge_30 ?_
    refine lv_iload_n hx hb dX0_judge_33 rfl (lv_at hl 2 rfl) ?_
    refine ld_l hx hb hK hP 2 (f := hFe hs) rfl (i := t) (by omega) (by decide) dX0_judge_34 ?_
    refine lv_lload_n hx hb dX0_judge_35 rfl (lv_at hl 0 rfl) ?_
    refine lv_ldc2 (own := RX0) (v := (-1)) hx hb hown (hts (.constantLong RX0 25 (-1)) (by decide +kernel)) dX0_judge_36 ?_
    refine lv_lxor hx hb dX0_judge_39 ?_
    refine lv_land hx hb dX0_judge_40 ?_
    refine st_l hx hb hK hP hD hS 2 rfl (i := t) (by omega) (by decide) dX0_judge_41 (fun H locs hP hD hS => ?_)
    have hP : va_P D vwCl (wH q c (hCg hs, (vp_updL (hFe hs) t ((hFe hs t) &&& (((1 : Int64) <<< ((nI (hB hs - 1)).toInt64 &&& 63)) ^^^ (-1)))), hPs hs, hB hs)) H := hP
    have hD : va_D (va_A (wH q c hs) s.heap.size) (wH q c (hCg hs, (vp_updL (hFe hs) t ((hFe hs t) &&& (((1 : Int64) <<< ((nI (hB hs - 1)).toInt64 &&& 63)) ^^^ (-1)))), hPs hs, hB hs)) := hD
    refine lv_aload_n hx hb dX0_judge_42 rfl (lv_at hl 1 rfl) ?_
    refine va_get (D := D) (ci := 0) (v := .ref (q 12)) (C := RX0) (T := TX0) (N := 4) hx hb hts hin0 hown hK.1 hP 0 rfl rfl 2 (by decide) (hts (.fieldLink RX0 18 "TestPicker$History" "passedIn" "[J") (by decide +kernel)) (fun _ h9 => h9) rfl dX0_judge_43 ?_
    refine lv_iload_n hx hb dX0_judge_46 rfl (lv_at hl 2 rfl) ?_
    refine lv_iload_n hx hb dX0_judge_47 rfl (lv_at hl 3 rfl) ?_
    refine lv_if_eq (tgt := 66) hx hb dX0_judge_48 (by decide) (fun c48 => ?_) (fun c48 => ?_)
    · -- 48 True
      have c48 := bI_z.mp c48
      refine lv_aload_n hx hb dX0_judge_66 rfl (lv_at hl 1 rfl) ?_
      refine va_get (D := D) (ci := 0) (v := .ref (q 12)) (C := RX0) (T := TX0) (N := 4) hx hb hts hin0 hown hK.1 hP 0 rfl rfl 2 (by decide) (hts (.fieldLink RX0 18 "TestPicker$History" "passedIn" "[J") (by decide +kernel)) (fun _ h9 => h9) rfl dX0_judge_67 ?_
      refine lv_iload_n hx hb dX0_judge_70 rfl (lv_at hl 2 rfl) ?_
      refine ld_l hx hb hK hP 3 (f := hPs hs) rfl (i := t) (by omega) (by decide) dX0_judge_71 ?_
      refine lv_lload_n hx hb dX0_judge_72 rfl (lv_at hl 0 rfl) ?_
      refine lv_lor hx hb dX0_judge_73 ?_
      refine st_l hx hb hK hP hD hS 3 rfl (i := t) (by omega) (by decide) dX0_judge_74 (fun H locs hP hD hS => ?_)
      have hP : va_P D vwCl (wH q c (hCg hs, (vp_updL (hFe hs) t ((hFe hs t) &&& (((1 : Int64) <<< ((nI (hB hs - 1)).toInt64 &&& 63)) ^^^ (-1)))), (vp_updL (hPs hs) t ((hPs hs t) ||| ((1 : Int64) <<< ((nI (hB hs - 1)).toInt64 &&& 63)))), hB hs)) H := hP
      have hD : va_D (va_A (wH q c hs) s.heap.size) (wH q c (hCg hs, (vp_updL (hFe hs) t ((hFe hs t) &&& (((1 : Int64) <<< ((nI (hB hs - 1)).toInt64 &&& 63)) ^^^ (-1)))), (vp_updL (hPs hs) t ((hPs hs t) ||| ((1 : Int64) <<< ((nI (hB hs - 1)).toInt64 &&& 63)))), hB hs)) := hD
      have e9 : judH hs t f = (hCg hs, (vp_updL (hFe hs) t ((hFe hs t) &&& (((1 : Int64) <<< ((nI (hB hs - 1)).toInt64 &&& 63)) ^^^ (-1)))), (vp_updL (hPs hs) t ((hPs hs t) ||| ((1 : Int64) <<< ((nI (hB hs - 1)).toInt64 &&& 63)))), hB hs) := by simp [judH, oneLE, c15]
      rw [e9]
      exact mu_retv hx hb hr hlk hP hD hS dX0_judge_75
    · -- 48 False
      have c48 := bI_nz.mp c48
      exact absurd (c15.symm.trans c48) (by decide)
  · -- 15 False
    have c15 := bI_nz.mp c15
    refine lv_aload_n hx hb dX0_judge_18 rfl (lv_at hl 1 rfl) ?_
    refine va_get (D := D) (ci := 0) (v := .ref (q 11)) (C := RX0) (T := TX0) (N := 4) hx hb hts hin0 hown hK.1 hP 0 rfl rfl 1 (by decide) (hts (.fieldLink RX0 15 "TestPicker$History" "fellIn" "[J") (by decide +kernel)) (fun _ h9 => h9) rfl dX0_judge_19 ?_
    refine lv_iload_n hx hb dX0_judge_22 rfl (lv_at hl 2 rfl) ?_
    refine ld_l hx hb hK hP 2 (f := hFe hs) rfl (i := t) (by omega) (by decide) dX0_judge_23 ?_
    refine lv_lload_n hx hb dX0_judge_24 rfl (lv_at hl 0 rfl) ?_
    refine lv_lor hx hb dX0_judge_25 ?_
    refine lv_goto (tgt := 41) hx hb dX0_judge_26 (by decide) ?_
    refine st_l hx hb hK hP hD hS 2 rfl (i := t) (by omega) (by decide) dX0_judge_41 (fun H locs hP hD hS => ?_)
    have hP : va_P D vwCl (wH q c (hCg hs, (vp_updL (hFe hs) t ((hFe hs t) ||| ((1 : Int64) <<< ((nI (hB hs - 1)).toInt64 &&& 63)))), hPs hs, hB hs)) H := hP
    have hD : va_D (va_A (wH q c hs) s.heap.size) (wH q c (hCg hs, (vp_updL (hFe hs) t ((hFe hs t) ||| ((1 : Int64) <<< ((nI (hB hs - 1)).toInt64 &&& 63)))), hPs hs, hB hs)) := hD
    refine lv_aload_n hx hb dX0_judge_42 rfl (lv_at hl 1 rfl) ?_
    refine va_get (D := D) (ci := 0) (v := .ref (q 12)) (C := RX0) (T := TX0) (N := 4) hx hb hts hin0 hown hK.1 hP 0 rfl rfl 2 (by decide) (hts (.fieldLink RX0 18 "TestPicker$History" "passedIn" "[J") (by decide +kernel)) (fun _ h9 => h9) rfl dX0_judge_43 ?_
    refine lv_iload_n hx hb dX0_judge_46 rfl (lv_at hl 2 rfl) ?_
    refine lv_iload_n hx hb dX0_judge_47 rfl (lv_at hl 3 rfl) ?_
    refine lv_if_eq (tgt := 66) hx hb dX0_judge_48 (by decide) (fun c48 => ?_) (fun c48 => ?_)
    · -- 48 True
      have c48 := bI_z.mp c48
      exact absurd (c15.symm.trans c48) (by decide)
    · -- 48 False
      have c48 := bI_nz.mp c48
      refine lv_aload_n hx hb dX0_judge_51 rfl (lv_at hl 1 rfl) ?_
      refine va_get (D := D) (ci := 0) (v := .ref (q 12)) (C := RX0) (T := TX0) (N := 4) hx hb hts hin0 hown hK.1 hP 0 rfl rfl 2 (by decide) (hts (.fieldLink RX0 18 "TestPicker$History" "passedIn" "[J") (by decide +kernel)) (fun _ h9 => h9) rfl dX0_judge_52 ?_
      refine lv_iload_n hx hb dX0_judge_55 rfl (lv_at hl 2 rfl) ?_
      refine ld_l hx hb hK hP 3 (f := hPs hs) rfl (i := t) (by omega) (by decide) dX0_judge_56 ?_
      refine lv_lload_n hx hb dX0_judge_57 rfl (lv_at hl 0 rfl) ?_
      refine lv_ldc2 (own := RX0) (v := (-1)) hx hb hown (hts (.constantLong RX0 25 (-1)) (by decide +kernel)) dX0_judge_58 ?_
      refine lv_lxor hx hb dX0_judge_61 ?_
      refine lv_land hx hb dX0_judge_62 ?_
      refine lv_goto (tgt := 74) hx hb dX0_judge_63 (by decide) ?_
      refine st_l hx hb hK hP hD hS 3 rfl (i := t) (by omega) (by decide) dX0_judge_74 (fun H locs hP hD hS => ?_)
      have hP : va_P D vwCl (wH q c (hCg hs, (vp_updL (hFe hs) t ((hFe hs t) ||| ((1 : Int64) <<< ((nI (hB hs - 1)).toInt64 &&& 63)))), (vp_updL (hPs hs) t ((hPs hs t) &&& (((1 : Int64) <<< ((nI (hB hs - 1)).toInt64 &&& 63)) ^^^ (-1)))), hB hs)) H := hP
      have hD : va_D (va_A (wH q c hs) s.heap.size) (wH q c (hCg hs, (vp_updL (hFe hs) t ((hFe hs t) ||| ((1 : Int64) <<< ((nI (hB hs - 1)).toInt64 &&& 63)))), (vp_updL (hPs hs) t ((hPs hs t) &&& (((1 : Int64) <<< ((nI (hB hs - 1)).toInt64 &&& 63)) ^^^ (-1)))), hB hs)) := hD
      have e9 : judH hs t f = (hCg hs, (vp_updL (hFe hs) t ((hFe hs t) ||| ((1 : Int64) <<< ((nI (hB hs - 1)).toInt64 &&& 63)))), (vp_updL (hPs hs) t ((hPs hs t) &&& (((1 : Int64) <<< ((nI (hB hs - 1)).toInt64 &&& 63)) ^^^ (-1)))), hB hs) := by simp [judH, oneLE, c15]
      rw [e9]
      exact mu_retv hx hb hr hlk hP hD hS dX0_judge_75

set_option maxHeartbeats 4000000 in
set_option maxRecDepth 100000 in
theorem c_X1_drop (l : Launch) (D : va_G) (q : Nat → Nat) (c : CT) (ps : PS)  : MUv l yX1_drop wsX1_drop ({ frames := 0, cells := 0, slots := 0, locals := 0 } : Room) [.ref (q 13)] D c (wP q c ps) (wP q c (pRow ps, 0, 0, 0, 0, 0, 0)) := by
  refine mu_start (cc := cX1_drop) (maxL := 1) (ret := none) (by decide) rfl (Nat.le_of_ble_eq_true rfl) ?_
  intro p e s m args below meth c0 ls hx hb hr hml hown hts hlk hnm hP hK hD hS hA hl
  have hown : s.vm.findClass RX1 = some m.cls := hown
  have hl : lv_has ls 1 [(0, .ref (q 13))] := hl
  have hin1 : ∀ w ∈ wsX10, w ∈ wsX1_drop := by decide +kernel
  refine lv_aload_n hx hb dX1_drop_0 rfl (lv_at hl 0 rfl) ?_
  refine lv_iconst (v := 0) hx hb dX1_drop_1 (by decide) ?_
  refine va_put (D := D) (ci := 1) (v := .int 0) (ty := .boolean) (C := RX1) (T := TX1) (N := 7) hx hb hts hin1 tyX1 tyX1_ok nmX1 hown hK.1 hP hD hS 0 rfl rfl 6 (by decide) (hts (.fieldLink RX1 32 "TestPicker$Plan" "there" "Z") (by decide +kernel)) (fun _ h9 => h9) rfl (by decide +kernel) (by decide) (by decide) (Nat.le_of_ble_eq_true rfl) dX1_drop_2 (fun H locs hP hD hS => ?_)
  have hP : va_P D vwCl (wP q c (pRow ps, pN ps, pBits ps, pSpan ps, pSeen ps, pChg ps, 0)) H := hP
  have hD : va_D (va_A (wP q c ps) s.heap.size) (wP q c (pRow ps, pN ps, pBits ps, pSpan ps, pSeen ps, pChg ps, 0)) := hD
  refine lv_aload_n hx hb dX1_drop_5 rfl (lv_at hl 0 rfl) ?_
  refine lv_iconst (v := 0) hx hb dX1_drop_6 (by decide) ?_
  refine va_put (D := D) (ci := 1) (v := .int 0) (ty := .int) (C := RX1) (T := TX1) (N := 7) hx hb hts hin1 tyX1 tyX1_ok nmX1 hown hK.1 hP hD hS 0 rfl rfl 1 (by decide) (hts (.fieldLink RX1 15 "TestPicker$Plan" "size" "I") (by decide +kernel)) (fun _ h9 => h9) rfl (by decide +kernel) rfl rfl (Nat.le_of_ble_eq_true rfl) dX1_drop_7 (fun H locs hP hD hS => ?_)
  have hP : va_P D vwCl (wP q c (pRow ps, 0, pBits ps, pSpan ps, pSeen ps, pChg ps, 0)) H := hP
  have hD : va_D (va_A (wP q c ps) s.heap.size) (wP q c (pRow ps, 0, pBits ps, pSpan ps, pSeen ps, pChg ps, 0)) := hD
  refine lv_aload_n hx hb dX1_drop_10 rfl (lv_at hl 0 rfl) ?_
  refine lv_iconst (v := 0) hx hb dX1_drop_11 (by decide) ?_
  refine va_put (D := D) (ci := 1) (v := .int 0) (ty := .int) (C := RX1) (T := TX1) (N := 7) hx hb hts hin1 tyX1 tyX1_ok nmX1 hown hK.1 hP hD hS 0 rfl rfl 2 (by decide) (hts (.fieldLink RX1 19 "TestPicker$Plan" "bits" "I") (by decide +kernel)) (fun _ h9 => h9) rfl (by decide +kernel) rfl rfl (Nat.le_of_ble_eq_true rfl) dX1_drop_12 (fun H locs hP hD hS => ?_)
  have hP : va_P D vwCl (wP q c (pRow ps, 0, 0, pSpan ps, pSeen ps, pChg ps, 0)) H := hP
  have hD : va_D (va_A (wP q c ps) s.heap.size) (wP q c (pRow ps, 0, 0, pSpan ps, pSeen ps, pChg ps, 0)) := hD
  refine lv_aload_n hx hb dX1_drop_15 rfl (lv_at hl 0 rfl) ?_
  refine lv_iconst (v := 0) hx hb dX1_drop_16 (by decide) ?_
  refine va_put (D := D) (ci := 1) (v := .int 0) (ty := .int) (C := RX1) (T := TX1) (N := 7) hx hb hts hin1 tyX1 tyX1_ok nmX1 hown hK.1 hP hD hS 0 rfl rfl 3 (by decide) (hts (.fieldLink RX1 22 "TestPicker$Plan" "span" "I") (by decide +kernel)) (fun _ h9 => h9) rfl (by decide +kernel) rfl rfl (Nat.le_of_ble_eq_true rfl) dX1_drop_17 (fun H locs hP hD hS => ?_)
  have hP : va_P D vwCl (wP q c (pRow ps, 0, 0, 0, pSeen ps, pChg ps, 0)) H := hP
  have hD : va_D (va_A (wP q c ps) s.heap.size) (wP q c (pRow ps, 0, 0, 0, pSeen ps, pChg ps, 0)) := hD
  refine lv_aload_n hx hb dX1_drop_20 rfl (lv_at hl 0 rfl) ?_
  refine lv_lconst (v := 0) hx hb dX1_drop_21 (by decide) ?_
  refine va_put (D := D) (ci := 1) (v := .long 0) (ty := .long) (C := RX1) (T := TX1) (N := 7) hx hb hts hin1 tyX1 tyX1_ok nmX1 hown hK.1 hP hD hS 0 rfl rfl 4 (by decide) (hts (.fieldLink RX1 25 "TestPicker$Plan" "seen" "J") (by decide +kernel)) (fun _ h9 => h9) rfl (by decide +kernel) rfl rfl (Nat.le_of_ble_eq_true rfl) dX1_drop_22 (fun H locs hP hD hS => ?_)
  have hP : va_P D vwCl (wP q c (pRow ps, 0, 0, 0, 0, pChg ps, 0)) H := hP
  have hD : va_D (va_A (wP q c ps) s.heap.size) (wP q c (pRow ps, 0, 0, 0, 0, pChg ps, 0)) := hD
  refine lv_aload_n hx hb dX1_drop_25 rfl (lv_at hl 0 rfl) ?_
  refine lv_lconst (v := 0) hx hb dX1_drop_26 (by decide) ?_
  refine va_put (D := D) (ci := 1) (v := .long 0) (ty := .long) (C := RX1) (T := TX1) (N := 7) hx hb hts hin1 tyX1 tyX1_ok nmX1 hown hK.1 hP hD hS 0 rfl rfl 5 (by decide) (hts (.fieldLink RX1 29 "TestPicker$Plan" "change" "J") (by decide +kernel)) (fun _ h9 => h9) rfl (by decide +kernel) rfl rfl (Nat.le_of_ble_eq_true rfl) dX1_drop_27 (fun H locs hP hD hS => ?_)
  have hP : va_P D vwCl (wP q c (pRow ps, 0, 0, 0, 0, 0, 0)) H := hP
  have hD : va_D (va_A (wP q c ps) s.heap.size) (wP q c (pRow ps, 0, 0, 0, 0, 0, 0)) := hD
  exact mu_retv hx hb hr hlk hP hD hS dX1_drop_30

set_option maxHeartbeats 4000000 in
set_option maxRecDepth 100000 in
theorem c_X1_begin (l : Launch) (D : va_G) (q : Nat → Nat) (c : CT) (ps : PS) (x : Int64)  : MUv l yX1_begin wsX1_begin ({ frames := 1, cells := 0, slots := 0, locals := 20 } : Room) [.ref (q 13), .long x] D c (wP q c ps) (wP q c (pRow ps, 0, 0, 0, 0, x, 1)) := by
  refine mu_start (cc := cX1_begin) (maxL := 3) (ret := none) (by decide) rfl (Nat.le_of_ble_eq_true rfl) ?_
  intro p e s m args below meth c0 ls hx hb hr hml hown hts hlk hnm hP hK hD hS hA hl
  have hown : s.vm.findClass RX1 = some m.cls := hown
  have hl : lv_has ls 3 [(0, .ref (q 13)), (1, .long x)] := hl
  have hin1 : ∀ w ∈ wsX10, w ∈ wsX1_begin := by decide +kernel
  refine lv_aload_n hx hb dX1_begin_0 rfl (lv_at hl 0 rfl) ?_
  refine mu_Vv (As := []) (rest := []) (wr := []) (wk := wP q c (pRow ps, 0, 0, 0, 0, 0, 0)) [0, 1] [] [0, 1] ⟨hx, hb, hml, hown, hts⟩ (c_X1_drop l D q c ps) (cwV 0 hts gX1_begin_X1_drop rfl rfl rfl (by decide +kernel) ⟨Nat.le_of_ble_eq_true rfl, Nat.le_of_ble_eq_true rfl⟩) hP hK hD hS hA (va_recv hK.1 hP (ci := 1) (q0 := 0) rfl rfl) rfl rfl (by decide) (by decide) (by decide) (by decide) rfl rfl hl.1 rfl (Nat.le_of_ble_eq_true rfl) dX1_begin_1 ⟨Nat.le_of_ble_eq_true rfl, Nat.le_of_ble_eq_true rfl⟩ (fun H locs hP hD hS => ?_)
  refine lv_aload_n hx hb dX1_begin_4 rfl (lv_at hl 0 rfl) ?_
  refine lv_iconst (v := 1) hx hb dX1_begin_5 (by decide) ?_
  refine va_put (D := D) (ci := 1) (v := .int 1) (ty := .boolean) (C := RX1) (T := TX1) (N := 7) hx hb hts hin1 tyX1 tyX1_ok nmX1 hown hK.1 hP hD hS 0 rfl rfl 6 (by decide) (hts (.fieldLink RX1 32 "TestPicker$Plan" "there" "Z") (by decide +kernel)) (fun _ h9 => h9) rfl (by decide +kernel) (by decide) (by decide) (Nat.le_of_ble_eq_true rfl) dX1_begin_6 (fun H locs hP hD hS => ?_)
  have hP : va_P D vwCl (wP q c (pRow ps, 0, 0, 0, 0, 0, 1)) H := hP
  have hD : va_D (va_A (wP q c ps) s.heap.size) (wP q c (pRow ps, 0, 0, 0, 0, 0, 1)) := hD
  refine lv_aload_n hx hb dX1_begin_9 rfl (lv_at hl 0 rfl) ?_
  refine lv_lload_n hx hb dX1_begin_10 rfl (lv_at hl 1 rfl) ?_
  refine va_put (D := D) (ci := 1) (v := .long x) (ty := .long) (C := RX1) (T := TX1) (N := 7) hx hb hts hin1 tyX1 tyX1_ok nmX1 hown hK.1 hP hD hS 0 rfl rfl 5 (by decide) (hts (.fieldLink RX1 29 "TestPicker$Plan" "change" "J") (by decide +kernel)) (fun _ h9 => h9) rfl (by decide +kernel) rfl rfl (Nat.le_of_ble_eq_true rfl) dX1_begin_11 (fun H locs hP hD hS => ?_)
  have hP : va_P D vwCl (wP q c (pRow ps, 0, 0, 0, 0, x, 1)) H := hP
  have hD : va_D (va_A (wP q c ps) s.heap.size) (wP q c (pRow ps, 0, 0, 0, 0, x, 1)) := hD
  exact mu_retv hx hb hr hlk hP hD hS dX1_begin_14

set_option maxHeartbeats 4000000 in
set_option maxRecDepth 100000 in
theorem c_X1_take (l : Launch) (D : va_G) (q : Nat → Nat) (c : CT) (ps : PS) (t : Nat) (ct : Int32) (pa : Int64) (hN20 : pN ps ≤ 20) : MUv l yX1_take wsX1_take ({ frames := 0, cells := 0, slots := 0, locals := 0 } : Room) [.ref (q 13), .int (nI t), .int ct, .long pa] D c (wP q c ps) (wP q c (takeP ps t ct pa)) := by
  refine mu_start (cc := cX1_take) (maxL := 5) (ret := none) (by decide) rfl (Nat.le_of_ble_eq_true rfl) ?_
  intro p e s m args below meth c0 ls hx hb hr hml hown hts hlk hnm hP hK hD hS hA hl
  have hown : s.vm.findClass RX1 = some m.cls := hown
  have hl : lv_has ls 5 [(0, .ref (q 13)), (1, .int (nI t)), (2, .int ct), (3, .long pa)] := hl
  have hin1 : ∀ w ∈ wsX10, w ∈ wsX1_take := by decide +kernel
  refine lv_aload_n hx hb dX1_take_0 rfl (lv_at hl 0 rfl) ?_
  refine va_get (D := D) (ci := 1) (v := .int (nI (pN ps))) (C := RX1) (T := TX1) (N := 7) hx hb hts hin1 hown hK.1 hP 0 rfl rfl 1 (by decide) (hts (.fieldLink RX1 15 "TestPicker$Plan" "size" "I") (by decide +kernel)) (fun _ h9 => h9) rfl dX1_take_1 ?_
  refine lv_bipush (v := 20) hx hb dX1_take_4 (by decide) ?_
  refine lv_icmp_ge (tgt := 61) hx hb dX1_take_6 (by decide) (fun c6 => ?_) (fun c6 => ?_)
  · -- 6 True
    have c6 : 20 ≤ (pN ps) := (nI_leI (a := 20) (b := (pN ps)) (by omega) (by omega)).mp c6
    have e9 : takeP ps t ct pa = ps := if_neg (by omega)
    rw [e9]
    exact mu_retv hx hb hr hlk hP hD hS dX1_take_61
  · -- 6 False
    have c6 : (pN ps) < 20 := (Nat.not_le.mp (fun z => c6 ((nI_leI (a := 20) (b := (pN ps)) (by omega) (by omega)).mpr z)))
    refine lv_aload_n hx hb dX1_take_9 rfl (lv_at hl 0 rfl) ?_
    refine va_get (D := D) (ci := 1) (v := .ref (q 14)) (C := RX1) (T := TX1) (N := 7) hx hb hts hin1 hown hK.1 hP 0 rfl rfl 0 (by decide) (hts (.fieldLink RX1 9 "TestPicker$Plan" "row" "[I") (by decide +kernel)) (fun _ h9 => h9) rfl dX1_take_10 ?_
    refine lv_aload_n hx hb dX1_take_13 rfl (lv_at hl 0 rfl) ?_
    refine va_get (D := D) (ci := 1) (v := .int (nI (pN ps))) (C := RX1) (T := TX1) (N := 7) hx hb hts hin1 hown hK.1 hP 0 rfl rfl 1 (by decide) (hts (.fieldLink RX1 15 "TestPicker$Plan" "size" "I") (by decide +kernel)) (fun _ h9 => h9) rfl dX1_take_14 ?_
    refine lv_iload_n hx hb dX1_take_17 rfl (lv_at hl 1 rfl) ?_
    refine st_i hx hb hK hP hD hS 1 rfl (i := (pN ps)) (by omega) (by decide) dX1_take_18 (fun H locs hP hD hS => ?_)
    have hP : va_P D vwCl (wP q c ((upd (pRow ps) (pN ps) (nI t)), pN ps, pBits ps, pSpan ps, pSeen ps, pChg ps, pTh ps)) H := hP
    have hD : va_D (va_A (wP q c ps) s.heap.size) (wP q c ((upd (pRow ps) (pN ps) (nI t)), pN ps, pBits ps, pSpan ps, pSeen ps, pChg ps, pTh ps)) := hD
    refine lv_aload_n hx hb dX1_take_19 rfl (lv_at hl 0 rfl) ?_
    refine lv_dup hx hb dX1_take_20 rfl ?_
    refine va_get (D := D) (ci := 1) (v := .int (nI (pN ps))) (C := RX1) (T := TX1) (N := 7) hx hb hts hin1 hown hK.1 hP 0 rfl rfl 1 (by decide) (hts (.fieldLink RX1 15 "TestPicker$Plan" "size" "I") (by decide +kernel)) (fun _ h9 => h9) rfl dX1_take_21 ?_
    refine lv_iconst (v := 1) hx hb dX1_take_24 (by decide) ?_
    refine lv_iadd hx hb dX1_take_25 ?_
    refine tp_i (z := nI (pN ps + 1)) (nI_1 _) ?_
    refine va_put (D := D) (ci := 1) (v := .int (nI (pN ps + 1))) (ty := .int) (C := RX1) (T := TX1) (N := 7) hx hb hts hin1 tyX1 tyX1_ok nmX1 hown hK.1 hP hD hS 0 rfl rfl 1 (by decide) (hts (.fieldLink RX1 15 "TestPicker$Plan" "size" "I") (by decide +kernel)) (fun _ h9 => h9) rfl (by decide +kernel) rfl rfl (Nat.le_of_ble_eq_true rfl) dX1_take_26 (fun H locs hP hD hS => ?_)
    have hP : va_P D vwCl (wP q c ((upd (pRow ps) (pN ps) (nI t)), (pN ps + 1), pBits ps, pSpan ps, pSeen ps, pChg ps, pTh ps)) H := hP
    have hD : va_D (va_A (wP q c ps) s.heap.size) (wP q c ((upd (pRow ps) (pN ps) (nI t)), (pN ps + 1), pBits ps, pSpan ps, pSeen ps, pChg ps, pTh ps)) := hD
    refine lv_aload_n hx hb dX1_take_29 rfl (lv_at hl 0 rfl) ?_
    refine lv_dup hx hb dX1_take_30 rfl ?_
    refine va_get (D := D) (ci := 1) (v := .int (pBits ps)) (C := RX1) (T := TX1) (N := 7) hx hb hts hin1 hown hK.1 hP 0 rfl rfl 2 (by decide) (hts (.fieldLink RX1 19 "TestPicker$Plan" "bits" "I") (by decide +kernel)) (fun _ h9 => h9) rfl dX1_take_31 ?_
    refine lv_iconst (v := 1) hx hb dX1_take_34 (by decide) ?_
    refine lv_iload_n hx hb dX1_take_35 rfl (lv_at hl 1 rfl) ?_
    refine lv_ishl hx hb dX1_take_36 ?_
    refine lv_ior hx hb dX1_take_37 ?_
    refine va_put (D := D) (ci := 1) (v := .int (pBits ps ||| ((1 : Int32) <<< (nI t &&& 31)))) (ty := .int) (C := RX1) (T := TX1) (N := 7) hx hb hts hin1 tyX1 tyX1_ok nmX1 hown hK.1 hP hD hS 0 rfl rfl 2 (by decide) (hts (.fieldLink RX1 19 "TestPicker$Plan" "bits" "I") (by decide +kernel)) (fun _ h9 => h9) rfl (by decide +kernel) rfl rfl (Nat.le_of_ble_eq_true rfl) dX1_take_38 (fun H locs hP hD hS => ?_)
    have hP : va_P D vwCl (wP q c ((upd (pRow ps) (pN ps) (nI t)), (pN ps + 1), (pBits ps ||| ((1 : Int32) <<< (nI t &&& 31))), pSpan ps, pSeen ps, pChg ps, pTh ps)) H := hP
    have hD : va_D (va_A (wP q c ps) s.heap.size) (wP q c ((upd (pRow ps) (pN ps) (nI t)), (pN ps + 1), (pBits ps ||| ((1 : Int32) <<< (nI t &&& 31))), pSpan ps, pSeen ps, pChg ps, pTh ps)) := hD
    refine lv_aload_n hx hb dX1_take_41 rfl (lv_at hl 0 rfl) ?_
    refine lv_dup hx hb dX1_take_42 rfl ?_
    refine va_get (D := D) (ci := 1) (v := .int (pSpan ps)) (C := RX1) (T := TX1) (N := 7) hx hb hts hin1 hown hK.1 hP 0 rfl rfl 3 (by decide) (hts (.fieldLink RX1 22 "TestPicker$Plan" "span" "I") (by decide +kernel)) (fun _ h9 => h9) rfl dX1_take_43 ?_
    refine lv_iload_n hx hb dX1_take_46 rfl (lv_at hl 2 rfl) ?_
    refine lv_iadd hx hb dX1_take_47 ?_
    refine va_put (D := D) (ci := 1) (v := .int (pSpan ps + ct)) (ty := .int) (C := RX1) (T := TX1) (N := 7) hx hb hts hin1 tyX1 tyX1_ok nmX1 hown hK.1 hP hD hS 0 rfl rfl 3 (by decide) (hts (.fieldLink RX1 22 "TestPicker$Plan" "span" "I") (by decide +kernel)) (fun _ h9 => h9) rfl (by decide +kernel) rfl rfl (Nat.le_of_ble_eq_true rfl) dX1_take_48 (fun H locs hP hD hS => ?_)
    have hP : va_P D vwCl (wP q c ((upd (pRow ps) (pN ps) (nI t)), (pN ps + 1), (pBits ps ||| ((1 : Int32) <<< (nI t &&& 31))), (pSpan ps + ct), pSeen ps, pChg ps, pTh ps)) H := hP
    have hD : va_D (va_A (wP q c ps) s.heap.size) (wP q c ((upd (pRow ps) (pN ps) (nI t)), (pN ps + 1), (pBits ps ||| ((1 : Int32) <<< (nI t &&& 31))), (pSpan ps + ct), pSeen ps, pChg ps, pTh ps)) := hD
    refine lv_aload_n hx hb dX1_take_51 rfl (lv_at hl 0 rfl) ?_
    refine lv_dup hx hb dX1_take_52 rfl ?_
    refine va_get (D := D) (ci := 1) (v := .long (pSeen ps)) (C := RX1) (T := TX1) (N := 7) hx hb hts hin1 hown hK.1 hP 0 rfl rfl 4 (by decide) (hts (.fieldLink RX1 25 "TestPicker$Plan" "seen" "J") (by decide +kernel)) (fun _ h9 => h9) rfl dX1_take_53 ?_
    refine lv_lload_n hx hb dX1_take_56 rfl (lv_at hl 3 rfl) ?_
    refine lv_lor hx hb dX1_take_57 ?_
    refine va_put (D := D) (ci := 1) (v := .long (pSeen ps ||| pa)) (ty := .long) (C := RX1) (T := TX1) (N := 7) hx hb hts hin1 tyX1 tyX1_ok nmX1 hown hK.1 hP hD hS 0 rfl rfl 4 (by decide) (hts (.fieldLink RX1 25 "TestPicker$Plan" "seen" "J") (by decide +kernel)) (fun _ h9 => h9) rfl (by decide +kernel) rfl rfl (Nat.le_of_ble_eq_true rfl) dX1_take_58 (fun H locs hP hD hS => ?_)
    have hP : va_P D vwCl (wP q c ((upd (pRow ps) (pN ps) (nI t)), (pN ps + 1), (pBits ps ||| ((1 : Int32) <<< (nI t &&& 31))), (pSpan ps + ct), (pSeen ps ||| pa), pChg ps, pTh ps)) H := hP
    have hD : va_D (va_A (wP q c ps) s.heap.size) (wP q c ((upd (pRow ps) (pN ps) (nI t)), (pN ps + 1), (pBits ps ||| ((1 : Int32) <<< (nI t &&& 31))), (pSpan ps + ct), (pSeen ps ||| pa), pChg ps, pTh ps)) := hD
    have e9 : takeP ps t ct pa = ((upd (pRow ps) (pN ps) (nI t)), (pN ps + 1), (pBits ps ||| ((1 : Int32) <<< (nI t &&& 31))), (pSpan ps + ct), (pSeen ps ||| pa), pChg ps, pTh ps) := if_pos c6
    rw [e9]
    exact mu_retv hx hb hr hlk hP hD hS dX1_take_61

set_option maxHeartbeats 4000000 in
set_option maxRecDepth 100000 in
theorem c_X2_begin (l : Launch) (D : va_G) (q : Nat → Nat) (c : CT) (ss : SS)  : MUv l yX2_begin wsX2_begin ({ frames := 0, cells := 0, slots := 0, locals := 0 } : Room) [.ref (q 15)] D c (wS q c ss) (wS q c (sTb ss, sCh ss, sTi ss, sCo ss, 0, sBf ss, sCf ss, sTf ss, sVf ss, 0, 0, 0)) := by
  refine mu_start (cc := cX2_begin) (maxL := 1) (ret := none) (by decide) rfl (Nat.le_of_ble_eq_true rfl) ?_
  intro p e s m args below meth c0 ls hx hb hr hml hown hts hlk hnm hP hK hD hS hA hl
  have hown : s.vm.findClass RX2 = some m.cls := hown
  have hl : lv_has ls 1 [(0, .ref (q 15))] := hl
  have hin2 : ∀ w ∈ wsX20, w ∈ wsX2_begin := by decide +kernel
  refine lv_aload_n hx hb dX2_begin_0 rfl (lv_at hl 0 rfl) ?_
  refine lv_iconst (v := 0) hx hb dX2_begin_1 (by decide) ?_
  refine va_put (D := D) (ci := 2) (v := .int 0) (ty := .int) (C := RX2) (T := TX2) (N := 12) hx hb hts hin2 tyX2 tyX2_ok nmX2 hown hK.1 hP hD hS 0 rfl rfl 4 (by decide) (hts (.fieldLink RX2 25 "TestPicker$Sets" "size" "I") (by decide +kernel)) (fun _ h9 => h9) rfl (by decide +kernel) rfl rfl (Nat.le_of_ble_eq_true rfl) dX2_begin_2 (fun H locs hP hD hS => ?_)
  have hP : va_P D vwCl (wS q c (sTb ss, sCh ss, sTi ss, sCo ss, 0, sBf ss, sCf ss, sTf ss, sVf ss, sFb ss, sFt ss, sFc ss)) H := hP
  have hD : va_D (va_A (wS q c ss) s.heap.size) (wS q c (sTb ss, sCh ss, sTi ss, sCo ss, 0, sBf ss, sCf ss, sTf ss, sVf ss, sFb ss, sFt ss, sFc ss)) := hD
  refine lv_aload_n hx hb dX2_begin_5 rfl (lv_at hl 0 rfl) ?_
  refine lv_iconst (v := 0) hx hb dX2_begin_6 (by decide) ?_
  refine va_put (D := D) (ci := 2) (v := .int 0) (ty := .int) (C := RX2) (T := TX2) (N := 12) hx hb hts hin2 tyX2 tyX2_ok nmX2 hown hK.1 hP hD hS 0 rfl rfl 9 (by decide) (hts (.fieldLink RX2 41 "TestPicker$Sets" "foundBits" "I") (by decide +kernel)) (fun _ h9 => h9) rfl (by decide +kernel) rfl rfl (Nat.le_of_ble_eq_true rfl) dX2_begin_7 (fun H locs hP hD hS => ?_)
  have hP : va_P D vwCl (wS q c (sTb ss, sCh ss, sTi ss, sCo ss, 0, sBf ss, sCf ss, sTf ss, sVf ss, 0, sFt ss, sFc ss)) H := hP
  have hD : va_D (va_A (wS q c ss) s.heap.size) (wS q c (sTb ss, sCh ss, sTi ss, sCo ss, 0, sBf ss, sCf ss, sTf ss, sVf ss, 0, sFt ss, sFc ss)) := hD
  refine lv_aload_n hx hb dX2_begin_10 rfl (lv_at hl 0 rfl) ?_
  refine lv_iconst (v := 0) hx hb dX2_begin_11 (by decide) ?_
  refine va_put (D := D) (ci := 2) (v := .int 0) (ty := .int) (C := RX2) (T := TX2) (N := 12) hx hb hts hin2 tyX2 tyX2_ok nmX2 hown hK.1 hP hD hS 0 rfl rfl 10 (by decide) (hts (.fieldLink RX2 44 "TestPicker$Sets" "foundTime" "I") (by decide +kernel)) (fun _ h9 => h9) rfl (by decide +kernel) rfl rfl (Nat.le_of_ble_eq_true rfl) dX2_begin_12 (fun H locs hP hD hS => ?_)
  have hP : va_P D vwCl (wS q c (sTb ss, sCh ss, sTi ss, sCo ss, 0, sBf ss, sCf ss, sTf ss, sVf ss, 0, 0, sFc ss)) H := hP
  have hD : va_D (va_A (wS q c ss) s.heap.size) (wS q c (sTb ss, sCh ss, sTi ss, sCo ss, 0, sBf ss, sCf ss, sTf ss, sVf ss, 0, 0, sFc ss)) := hD
  refine lv_aload_n hx hb dX2_begin_15 rfl (lv_at hl 0 rfl) ?_
  refine lv_lconst (v := 0) hx hb dX2_begin_16 (by decide) ?_
  refine va_put (D := D) (ci := 2) (v := .long 0) (ty := .long) (C := RX2) (T := TX2) (N := 12) hx hb hts hin2 tyX2 tyX2_ok nmX2 hown hK.1 hP hD hS 0 rfl rfl 11 (by decide) (hts (.fieldLink RX2 47 "TestPicker$Sets" "foundCover" "J") (by decide +kernel)) (fun _ h9 => h9) rfl (by decide +kernel) rfl rfl (Nat.le_of_ble_eq_true rfl) dX2_begin_17 (fun H locs hP hD hS => ?_)
  have hP : va_P D vwCl (wS q c (sTb ss, sCh ss, sTi ss, sCo ss, 0, sBf ss, sCf ss, sTf ss, sVf ss, 0, 0, 0)) H := hP
  have hD : va_D (va_A (wS q c ss) s.heap.size) (wS q c (sTb ss, sCh ss, sTi ss, sCo ss, 0, sBf ss, sCf ss, sTf ss, sVf ss, 0, 0, 0)) := hD
  exact mu_retv hx hb hr hlk hP hD hS dX2_begin_20

set_option maxHeartbeats 4000000 in
set_option maxRecDepth 100000 in
theorem c_X2_add (l : Launch) (D : va_G) (q : Nat → Nat) (c : CT) (ss : SS) (tb ch ti : Int32) (co : Int64) (hN12 : sN ss ≤ 12) : MUv l yX2_add wsX2_add ({ frames := 0, cells := 0, slots := 0, locals := 0 } : Room) [.ref (q 15), .int tb, .int ch, .int ti, .long co] D c (wS q c ss) (wS q c (addS ss tb ch ti co)) := by
  refine mu_start (cc := cX2_add) (maxL := 6) (ret := none) (by decide) rfl (Nat.le_of_ble_eq_true rfl) ?_
  intro p e s m args below meth c0 ls hx hb hr hml hown hts hlk hnm hP hK hD hS hA hl
  have hown : s.vm.findClass RX2 = some m.cls := hown
  have hl : lv_has ls 6 [(0, .ref (q 15)), (1, .int tb), (2, .int ch), (3, .int ti), (4, .long co)] := hl
  have hin2 : ∀ w ∈ wsX20, w ∈ wsX2_add := by decide +kernel
  refine lv_aload_n hx hb dX2_add_0 rfl (lv_at hl 0 rfl) ?_
  refine va_get (D := D) (ci := 2) (v := .int (nI (sN ss))) (C := RX2) (T := TX2) (N := 12) hx hb hts hin2 hown hK.1 hP 0 rfl rfl 4 (by decide) (hts (.fieldLink RX2 25 "TestPicker$Sets" "size" "I") (by decide +kernel)) (fun _ h9 => h9) rfl dX2_add_1 ?_
  refine lv_bipush (v := 12) hx hb dX2_add_4 (by decide) ?_
  refine lv_icmp_ge (tgt := 60) hx hb dX2_add_6 (by decide) (fun c6 => ?_) (fun c6 => ?_)
  · -- 6 True
    have c6 : 12 ≤ (sN ss) := (nI_leI (a := 12) (b := (sN ss)) (by omega) (by omega)).mp c6
    have e9 : addS ss tb ch ti co = ss := if_neg (by omega)
    rw [e9]
    exact mu_retv hx hb hr hlk hP hD hS dX2_add_60
  · -- 6 False
    have c6 : (sN ss) < 12 := (Nat.not_le.mp (fun z => c6 ((nI_leI (a := 12) (b := (sN ss)) (by omega) (by omega)).mpr z)))
    refine lv_aload_n hx hb dX2_add_9 rfl (lv_at hl 0 rfl) ?_
    refine va_get (D := D) (ci := 2) (v := .ref (q 16)) (C := RX2) (T := TX2) (N := 12) hx hb hts hin2 hown hK.1 hP 0 rfl rfl 0 (by decide) (hts (.fieldLink RX2 9 "TestPicker$Sets" "testBits" "[I") (by decide +kernel)) (fun _ h9 => h9) rfl dX2_add_10 ?_
    refine lv_aload_n hx hb dX2_add_13 rfl (lv_at hl 0 rfl) ?_
    refine va_get (D := D) (ci := 2) (v := .int (nI (sN ss))) (C := RX2) (T := TX2) (N := 12) hx hb hts hin2 hown hK.1 hP 0 rfl rfl 4 (by decide) (hts (.fieldLink RX2 25 "TestPicker$Sets" "size" "I") (by decide +kernel)) (fun _ h9 => h9) rfl dX2_add_14 ?_
    refine lv_iload_n hx hb dX2_add_17 rfl (lv_at hl 1 rfl) ?_
    refine st_i hx hb hK hP hD hS 1 rfl (i := (sN ss)) (by omega) (by decide) dX2_add_18 (fun H locs hP hD hS => ?_)
    have hP : va_P D vwCl (wS q c ((upd (sTb ss) (sN ss) tb), sCh ss, sTi ss, sCo ss, sN ss, sBf ss, sCf ss, sTf ss, sVf ss, sFb ss, sFt ss, sFc ss)) H := hP
    have hD : va_D (va_A (wS q c ss) s.heap.size) (wS q c ((upd (sTb ss) (sN ss) tb), sCh ss, sTi ss, sCo ss, sN ss, sBf ss, sCf ss, sTf ss, sVf ss, sFb ss, sFt ss, sFc ss)) := hD
    refine lv_aload_n hx hb dX2_add_19 rfl (lv_at hl 0 rfl) ?_
    refine va_get (D := D) (ci := 2) (v := .ref (q 17)) (C := RX2) (T := TX2) (N := 12) hx hb hts hin2 hown hK.1 hP 0 rfl rfl 1 (by decide) (hts (.fieldLink RX2 15 "TestPicker$Sets" "chains" "[I") (by decide +kernel)) (fun _ h9 => h9) rfl dX2_add_20 ?_
    refine lv_aload_n hx hb dX2_add_23 rfl (lv_at hl 0 rfl) ?_
    refine va_get (D := D) (ci := 2) (v := .int (nI (sN ss))) (C := RX2) (T := TX2) (N := 12) hx hb hts hin2 hown hK.1 hP 0 rfl rfl 4 (by decide) (hts (.fieldLink RX2 25 "TestPicker$Sets" "size" "I") (by decide +kernel)) (fun _ h9 => h9) rfl dX2_add_24 ?_
    refine lv_iload_n hx hb dX2_add_27 rfl (lv_at hl 2 rfl) ?_
    refine st_i hx hb hK hP hD hS 2 rfl (i := (sN ss)) (by omega) (by decide) dX2_add_28 (fun H locs hP hD hS => ?_)
    have hP : va_P D vwCl (wS q c ((upd (sTb ss) (sN ss) tb), (upd (sCh ss) (sN ss) ch), sTi ss, sCo ss, sN ss, sBf ss, sCf ss, sTf ss, sVf ss, sFb ss, sFt ss, sFc ss)) H := hP
    have hD : va_D (va_A (wS q c ss) s.heap.size) (wS q c ((upd (sTb ss) (sN ss) tb), (upd (sCh ss) (sN ss) ch), sTi ss, sCo ss, sN ss, sBf ss, sCf ss, sTf ss, sVf ss, sFb ss, sFt ss, sFc ss)) := hD
    refine lv_aload_n hx hb dX2_add_29 rfl (lv_at hl 0 rfl) ?_
    refine va_get (D := D) (ci := 2) (v := .ref (q 18)) (C := RX2) (T := TX2) (N := 12) hx hb hts hin2 hown hK.1 hP 0 rfl rfl 2 (by decide) (hts (.fieldLink RX2 18 "TestPicker$Sets" "times" "[I") (by decide +kernel)) (fun _ h9 => h9) rfl dX2_add_30 ?_
    refine lv_aload_n hx hb dX2_add_33 rfl (lv_at hl 0 rfl) ?_
    refine va_get (D := D) (ci := 2) (v := .int (nI (sN ss))) (C := RX2) (T := TX2) (N := 12) hx hb hts hin2 hown hK.1 hP 0 rfl rfl 4 (by decide) (hts (.fieldLink RX2 25 "TestPicker$Sets" "size" "I") (by decide +kernel)) (fun _ h9 => h9) rfl dX2_add_34 ?_
    refine lv_iload_n hx hb dX2_add_37 rfl (lv_at hl 3 rfl) ?_
    refine st_i hx hb hK hP hD hS 3 rfl (i := (sN ss)) (by omega) (by decide) dX2_add_38 (fun H locs hP hD hS => ?_)
    have hP : va_P D vwCl (wS q c ((upd (sTb ss) (sN ss) tb), (upd (sCh ss) (sN ss) ch), (upd (sTi ss) (sN ss) ti), sCo ss, sN ss, sBf ss, sCf ss, sTf ss, sVf ss, sFb ss, sFt ss, sFc ss)) H := hP
    have hD : va_D (va_A (wS q c ss) s.heap.size) (wS q c ((upd (sTb ss) (sN ss) tb), (upd (sCh ss) (sN ss) ch), (upd (sTi ss) (sN ss) ti), sCo ss, sN ss, sBf ss, sCf ss, sTf ss, sVf ss, sFb ss, sFt ss, sFc ss)) := hD
    refine lv_aload_n hx hb dX2_add_39 rfl (lv_at hl 0 rfl) ?_
    refine va_get (D := D) (ci := 2) (v := .ref (q 19)) (C := RX2) (T := TX2) (N := 12) hx hb hts hin2 hown hK.1 hP 0 rfl rfl 3 (by decide) (hts (.fieldLink RX2 21 "TestPicker$Sets" "covers" "[J") (by decide +kernel)) (fun _ h9 => h9) rfl dX2_add_40 ?_
    refine lv_aload_n hx hb dX2_add_43 rfl (lv_at hl 0 rfl) ?_
    refine va_get (D := D) (ci := 2) (v := .int (nI (sN ss))) (C := RX2) (T := TX2) (N := 12) hx hb hts hin2 hown hK.1 hP 0 rfl rfl 4 (by decide) (hts (.fieldLink RX2 25 "TestPicker$Sets" "size" "I") (by decide +kernel)) (fun _ h9 => h9) rfl dX2_add_44 ?_
    refine lv_lload hx hb dX2_add_47 (lv_at hl 4 rfl) ?_
    refine st_l hx hb hK hP hD hS 4 rfl (i := (sN ss)) (by omega) (by decide) dX2_add_49 (fun H locs hP hD hS => ?_)
    have hP : va_P D vwCl (wS q c ((upd (sTb ss) (sN ss) tb), (upd (sCh ss) (sN ss) ch), (upd (sTi ss) (sN ss) ti), (vp_updL (sCo ss) (sN ss) co), sN ss, sBf ss, sCf ss, sTf ss, sVf ss, sFb ss, sFt ss, sFc ss)) H := hP
    have hD : va_D (va_A (wS q c ss) s.heap.size) (wS q c ((upd (sTb ss) (sN ss) tb), (upd (sCh ss) (sN ss) ch), (upd (sTi ss) (sN ss) ti), (vp_updL (sCo ss) (sN ss) co), sN ss, sBf ss, sCf ss, sTf ss, sVf ss, sFb ss, sFt ss, sFc ss)) := hD
    refine lv_aload_n hx hb dX2_add_50 rfl (lv_at hl 0 rfl) ?_
    refine lv_dup hx hb dX2_add_51 rfl ?_
    refine va_get (D := D) (ci := 2) (v := .int (nI (sN ss))) (C := RX2) (T := TX2) (N := 12) hx hb hts hin2 hown hK.1 hP 0 rfl rfl 4 (by decide) (hts (.fieldLink RX2 25 "TestPicker$Sets" "size" "I") (by decide +kernel)) (fun _ h9 => h9) rfl dX2_add_52 ?_
    refine lv_iconst (v := 1) hx hb dX2_add_55 (by decide) ?_
    refine lv_iadd hx hb dX2_add_56 ?_
    refine tp_i (z := nI (sN ss + 1)) (nI_1 _) ?_
    refine va_put (D := D) (ci := 2) (v := .int (nI (sN ss + 1))) (ty := .int) (C := RX2) (T := TX2) (N := 12) hx hb hts hin2 tyX2 tyX2_ok nmX2 hown hK.1 hP hD hS 0 rfl rfl 4 (by decide) (hts (.fieldLink RX2 25 "TestPicker$Sets" "size" "I") (by decide +kernel)) (fun _ h9 => h9) rfl (by decide +kernel) rfl rfl (Nat.le_of_ble_eq_true rfl) dX2_add_57 (fun H locs hP hD hS => ?_)
    have hP : va_P D vwCl (wS q c ((upd (sTb ss) (sN ss) tb), (upd (sCh ss) (sN ss) ch), (upd (sTi ss) (sN ss) ti), (vp_updL (sCo ss) (sN ss) co), (sN ss + 1), sBf ss, sCf ss, sTf ss, sVf ss, sFb ss, sFt ss, sFc ss)) H := hP
    have hD : va_D (va_A (wS q c ss) s.heap.size) (wS q c ((upd (sTb ss) (sN ss) tb), (upd (sCh ss) (sN ss) ch), (upd (sTi ss) (sN ss) ti), (vp_updL (sCo ss) (sN ss) co), (sN ss + 1), sBf ss, sCf ss, sTf ss, sVf ss, sFb ss, sFt ss, sFc ss)) := hD
    have e9 : addS ss tb ch ti co = ((upd (sTb ss) (sN ss) tb), (upd (sCh ss) (sN ss) ch), (upd (sTi ss) (sN ss) ti), (vp_updL (sCo ss) (sN ss) co), (sN ss + 1), sBf ss, sCf ss, sTf ss, sVf ss, sFb ss, sFt ss, sFc ss) := if_pos c6
    rw [e9]
    exact mu_retv hx hb hr hlk hP hD hS dX2_add_60

set_option maxHeartbeats 4000000 in
set_option maxRecDepth 100000 in
theorem c_X2_sumUp (l : Launch) (D : va_G) (q : Nat → Nat) (c : CT) (ss : SS) (k : Nat) (hk0 : 0 < k) (hk : k < 4096) : MUi l yX2_sumUp wsX2_sumUp ({ frames := 1, cells := 0, slots := 0, locals := 21 } : Room) [.ref (q 15), .int (nI k)] D c (wS q c ss) (wS q c (sumS ss k)) (nI (lw k)) := by
  refine mu_start (cc := cX2_sumUp) (maxL := 4) (ret := some .int) (by decide) rfl (Nat.le_of_ble_eq_true rfl) ?_
  intro p e s m args below meth c0 ls hx hb hr hml hown hts hlk hnm hP hK hD hS hA hl
  have hown : s.vm.findClass RX2 = some m.cls := hown
  have hl : lv_has ls 4 [(0, .ref (q 15)), (1, .int (nI k))] := hl
  have hin2 : ∀ w ∈ wsX20, w ∈ wsX2_sumUp := by decide +kernel
  have hl1 : lw k < 12 := lw_lt 12 k hk0 hk
  have hl2 : rs k ≤ 12 := lw_le 12 _
  refine lv_iload_n hx hb dX2_sumUp_0 rfl (lv_at hl 1 rfl) ?_
  refine ro_Si (As := [.int (nI k)]) (rest := []) ⟨hx, hb, hml, hown, hts⟩ (c_J6_numberOfTrailingZeros_0f7a4 l D c (nI k)) (va_cwS 1 hts gX2_sumUp_J6_numberOfTrailingZeros_0f7a4 rfl rfl rfl (by decide +kernel) ⟨Nat.le_of_ble_eq_true rfl, Nat.le_of_ble_eq_true rfl⟩) va_P0 hK rfl hl.1 rfl (Nat.le_of_ble_eq_true rfl) dX2_sumUp_1 ⟨Nat.le_of_ble_eq_true rfl, Nat.le_of_ble_eq_true rfl⟩ ?_
  refine lv_bipush (v := 11) hx hb dX2_sumUp_4 (by decide) ?_
  refine va_mmin hx hb (by rw [hml]; exact hl.1.symm) (own := RX2) (index := 57) hown (hts (.methodLink RX2 57 Lib.Math.min.name) (by decide +kernel)) (hts (.static Lib.Math.min.name) (by decide +kernel)) (hts (.initialized "java/lang/Math") (by decide +kernel)) (hts (.code Lib.Math.min.name Lib.Math.min.code 2 (some .int)) (by decide +kernel)) (Nat.le_of_ble_eq_true rfl) (Nat.le_of_ble_eq_true rfl) (Nat.le_of_ble_eq_true rfl) (Nat.le_of_ble_eq_true rfl) dX2_sumUp_6 ?_
  refine tp_i (z := nI (lw k)) (tz_lo k hk hk0) ?_
  refine lv_istore_n (lv' := [(2, .int (nI (lw k))), (0, .ref (q 15)), (1, .int (nI k))]) hx hb dX2_sumUp_9 rfl hl (by decide) rfl (fun ls hl => ?_)
  refine lv_iload_n hx hb dX2_sumUp_10 rfl (lv_at hl 2 rfl) ?_
  refine lv_iload_n hx hb dX2_sumUp_11 rfl (lv_at hl 2 rfl) ?_
  refine lv_iconst (v := 1) hx hb dX2_sumUp_12 (by decide) ?_
  refine lv_isub hx hb dX2_sumUp_13 ?_
  refine lv_iand hx hb dX2_sumUp_14 ?_
  refine ro_Si (As := [.int (nI k &&& (nI k - 1))]) (rest := []) ⟨hx, hb, hml, hown, hts⟩ (c_J6_numberOfTrailingZeros_0f7a4 l D c (nI k &&& (nI k - 1))) (va_cwS 1 hts gX2_sumUp_J6_numberOfTrailingZeros_0f7a4 rfl rfl rfl (by decide +kernel) ⟨Nat.le_of_ble_eq_true rfl, Nat.le_of_ble_eq_true rfl⟩) va_P0 hK rfl hl.1 rfl (Nat.le_of_ble_eq_true rfl) dX2_sumUp_15 ⟨Nat.le_of_ble_eq_true rfl, Nat.le_of_ble_eq_true rfl⟩ ?_
  refine lv_bipush (v := 12) hx hb dX2_sumUp_18 (by decide) ?_
  refine va_mmin hx hb (by rw [hml]; exact hl.1.symm) (own := RX2) (index := 57) hown (hts (.methodLink RX2 57 Lib.Math.min.name) (by decide +kernel)) (hts (.static Lib.Math.min.name) (by decide +kernel)) (hts (.initialized "java/lang/Math") (by decide +kernel)) (hts (.code Lib.Math.min.name Lib.Math.min.code 2 (some .int)) (by decide +kernel)) (Nat.le_of_ble_eq_true rfl) (Nat.le_of_ble_eq_true rfl) (Nat.le_of_ble_eq_true rfl) (Nat.le_of_ble_eq_true rfl) dX2_sumUp_20 ?_
  refine tp_i (z := nI (rs k)) (tz_rs k hk hk0) ?_
  refine lv_istore_n (lv' := [(3, .int (nI (rs k))), (2, .int (nI (lw k))), (0, .ref (q 15)), (1, .int (nI k))]) hx hb dX2_sumUp_23 rfl hl (by decide) rfl (fun ls hl => ?_)
  refine lv_aload_n hx hb dX2_sumUp_24 rfl (lv_at hl 2 rfl) ?_
  refine va_get (D := D) (ci := 2) (v := .ref (q 20)) (C := RX2) (T := TX2) (N := 12) hx hb hts hin2 hown hK.1 hP 0 rfl rfl 5 (by decide) (hts (.fieldLink RX2 29 "TestPicker$Sets" "bitsFrom" "[I") (by decide +kernel)) (fun _ h9 => h9) rfl dX2_sumUp_25 ?_
  refine lv_iload_n hx hb dX2_sumUp_28 rfl (lv_at hl 1 rfl) ?_
  refine lv_aload_n hx hb dX2_sumUp_29 rfl (lv_at hl 2 rfl) ?_
  refine va_get (D := D) (ci := 2) (v := .ref (q 20)) (C := RX2) (T := TX2) (N := 12) hx hb hts hin2 hown hK.1 hP 0 rfl rfl 5 (by decide) (hts (.fieldLink RX2 29 "TestPicker$Sets" "bitsFrom" "[I") (by decide +kernel)) (fun _ h9 => h9) rfl dX2_sumUp_30 ?_
  refine lv_iload_n hx hb dX2_sumUp_33 rfl (lv_at hl 0 rfl) ?_
  refine ld_i hx hb hK hP 5 (f := sBf ss) rfl (i := (rs k)) (by omega) (by decide) dX2_sumUp_34 ?_
  refine lv_aload_n hx hb dX2_sumUp_35 rfl (lv_at hl 2 rfl) ?_
  refine va_get (D := D) (ci := 2) (v := .ref (q 16)) (C := RX2) (T := TX2) (N := 12) hx hb hts hin2 hown hK.1 hP 0 rfl rfl 0 (by decide) (hts (.fieldLink RX2 9 "TestPicker$Sets" "testBits" "[I") (by decide +kernel)) (fun _ h9 => h9) rfl dX2_sumUp_36 ?_
  refine lv_iload_n hx hb dX2_sumUp_39 rfl (lv_at hl 1 rfl) ?_
  refine ld_i hx hb hK hP 1 (f := sTb ss) rfl (i := (lw k)) (by omega) (by decide) dX2_sumUp_40 ?_
  refine lv_ior hx hb dX2_sumUp_41 ?_
  refine st_i hx hb hK hP hD hS 5 rfl (i := (lw k)) (by omega) (by decide) dX2_sumUp_42 (fun H locs hP hD hS => ?_)
  have hP : va_P D vwCl (wS q c (sTb ss, sCh ss, sTi ss, sCo ss, sN ss, (upd (sBf ss) (lw k) ((sBf ss (rs k)) ||| (sTb ss (lw k)))), sCf ss, sTf ss, sVf ss, sFb ss, sFt ss, sFc ss)) H := hP
  have hD : va_D (va_A (wS q c ss) s.heap.size) (wS q c (sTb ss, sCh ss, sTi ss, sCo ss, sN ss, (upd (sBf ss) (lw k) ((sBf ss (rs k)) ||| (sTb ss (lw k)))), sCf ss, sTf ss, sVf ss, sFb ss, sFt ss, sFc ss)) := hD
  refine lv_aload_n hx hb dX2_sumUp_43 rfl (lv_at hl 2 rfl) ?_
  refine va_get (D := D) (ci := 2) (v := .ref (q 21)) (C := RX2) (T := TX2) (N := 12) hx hb hts hin2 hown hK.1 hP 0 rfl rfl 6 (by decide) (hts (.fieldLink RX2 32 "TestPicker$Sets" "chainsFrom" "[I") (by decide +kernel)) (fun _ h9 => h9) rfl dX2_sumUp_44 ?_
  refine lv_iload_n hx hb dX2_sumUp_47 rfl (lv_at hl 1 rfl) ?_
  refine lv_aload_n hx hb dX2_sumUp_48 rfl (lv_at hl 2 rfl) ?_
  refine va_get (D := D) (ci := 2) (v := .ref (q 21)) (C := RX2) (T := TX2) (N := 12) hx hb hts hin2 hown hK.1 hP 0 rfl rfl 6 (by decide) (hts (.fieldLink RX2 32 "TestPicker$Sets" "chainsFrom" "[I") (by decide +kernel)) (fun _ h9 => h9) rfl dX2_sumUp_49 ?_
  refine lv_iload_n hx hb dX2_sumUp_52 rfl (lv_at hl 0 rfl) ?_
  refine ld_i hx hb hK hP 6 (f := sCf ss) rfl (i := (rs k)) (by omega) (by decide) dX2_sumUp_53 ?_
  refine lv_aload_n hx hb dX2_sumUp_54 rfl (lv_at hl 2 rfl) ?_
  refine va_get (D := D) (ci := 2) (v := .ref (q 17)) (C := RX2) (T := TX2) (N := 12) hx hb hts hin2 hown hK.1 hP 0 rfl rfl 1 (by decide) (hts (.fieldLink RX2 15 "TestPicker$Sets" "chains" "[I") (by decide +kernel)) (fun _ h9 => h9) rfl dX2_sumUp_55 ?_
  refine lv_iload_n hx hb dX2_sumUp_58 rfl (lv_at hl 1 rfl) ?_
  refine ld_i hx hb hK hP 2 (f := sCh ss) rfl (i := (lw k)) (by omega) (by decide) dX2_sumUp_59 ?_
  refine lv_ior hx hb dX2_sumUp_60 ?_
  refine st_i hx hb hK hP hD hS 6 rfl (i := (lw k)) (by omega) (by decide) dX2_sumUp_61 (fun H locs hP hD hS => ?_)
  have hP : va_P D vwCl (wS q c (sTb ss, sCh ss, sTi ss, sCo ss, sN ss, (upd (sBf ss) (lw k) ((sBf ss (rs k)) ||| (sTb ss (lw k)))), (upd (sCf ss) (lw k) ((sCf ss (rs k)) ||| (sCh ss (lw k)))), sTf ss, sVf ss, sFb ss, sFt ss, sFc ss)) H := hP
  have hD : va_D (va_A (wS q c ss) s.heap.size) (wS q c (sTb ss, sCh ss, sTi ss, sCo ss, sN ss, (upd (sBf ss) (lw k) ((sBf ss (rs k)) ||| (sTb ss (lw k)))), (upd (sCf ss) (lw k) ((sCf ss (rs k)) ||| (sCh ss (lw k)))), sTf ss, sVf ss, sFb ss, sFt ss, sFc ss)) := hD
  refine lv_aload_n hx hb dX2_sumUp_62 rfl (lv_at hl 2 rfl) ?_
  refine va_get (D := D) (ci := 2) (v := .ref (q 22)) (C := RX2) (T := TX2) (N := 12) hx hb hts hin2 hown hK.1 hP 0 rfl rfl 7 (by decide) (hts (.fieldLink RX2 35 "TestPicker$Sets" "timeFrom" "[I") (by decide +kernel)) (fun _ h9 => h9) rfl dX2_sumUp_63 ?_
  refine lv_iload_n hx hb dX2_sumUp_66 rfl (lv_at hl 1 rfl) ?_
  refine lv_aload_n hx hb dX2_sumUp_67 rfl (lv_at hl 2 rfl) ?_
  refine va_get (D := D) (ci := 2) (v := .ref (q 22)) (C := RX2) (T := TX2) (N := 12) hx hb hts hin2 hown hK.1 hP 0 rfl rfl 7 (by decide) (hts (.fieldLink RX2 35 "TestPicker$Sets" "timeFrom" "[I") (by decide +kernel)) (fun _ h9 => h9) rfl dX2_sumUp_68 ?_
  refine lv_iload_n hx hb dX2_sumUp_71 rfl (lv_at hl 0 rfl) ?_
  refine ld_i hx hb hK hP 7 (f := sTf ss) rfl (i := (rs k)) (by omega) (by decide) dX2_sumUp_72 ?_
  refine lv_aload_n hx hb dX2_sumUp_73 rfl (lv_at hl 2 rfl) ?_
  refine va_get (D := D) (ci := 2) (v := .ref (q 18)) (C := RX2) (T := TX2) (N := 12) hx hb hts hin2 hown hK.1 hP 0 rfl rfl 2 (by decide) (hts (.fieldLink RX2 18 "TestPicker$Sets" "times" "[I") (by decide +kernel)) (fun _ h9 => h9) rfl dX2_sumUp_74 ?_
  refine lv_iload_n hx hb dX2_sumUp_77 rfl (lv_at hl 1 rfl) ?_
  refine ld_i hx hb hK hP 3 (f := sTi ss) rfl (i := (lw k)) (by omega) (by decide) dX2_sumUp_78 ?_
  refine lv_iadd hx hb dX2_sumUp_79 ?_
  refine st_i hx hb hK hP hD hS 7 rfl (i := (lw k)) (by omega) (by decide) dX2_sumUp_80 (fun H locs hP hD hS => ?_)
  have hP : va_P D vwCl (wS q c (sTb ss, sCh ss, sTi ss, sCo ss, sN ss, (upd (sBf ss) (lw k) ((sBf ss (rs k)) ||| (sTb ss (lw k)))), (upd (sCf ss) (lw k) ((sCf ss (rs k)) ||| (sCh ss (lw k)))), (upd (sTf ss) (lw k) ((sTf ss (rs k)) + (sTi ss (lw k)))), sVf ss, sFb ss, sFt ss, sFc ss)) H := hP
  have hD : va_D (va_A (wS q c ss) s.heap.size) (wS q c (sTb ss, sCh ss, sTi ss, sCo ss, sN ss, (upd (sBf ss) (lw k) ((sBf ss (rs k)) ||| (sTb ss (lw k)))), (upd (sCf ss) (lw k) ((sCf ss (rs k)) ||| (sCh ss (lw k)))), (upd (sTf ss) (lw k) ((sTf ss (rs k)) + (sTi ss (lw k)))), sVf ss, sFb ss, sFt ss, sFc ss)) := hD
  refine lv_aload_n hx hb dX2_sumUp_81 rfl (lv_at hl 2 rfl) ?_
  refine va_get (D := D) (ci := 2) (v := .ref (q 23)) (C := RX2) (T := TX2) (N := 12) hx hb hts hin2 hown hK.1 hP 0 rfl rfl 8 (by decide) (hts (.fieldLink RX2 38 "TestPicker$Sets" "coverFrom" "[J") (by decide +kernel)) (fun _ h9 => h9) rfl dX2_sumUp_82 ?_
  refine lv_iload_n hx hb dX2_sumUp_85 rfl (lv_at hl 1 rfl) ?_
  refine lv_aload_n hx hb dX2_sumUp_86 rfl (lv_at hl 2 rfl) ?_
  refine va_get (D := D) (ci := 2) (v := .ref (q 23)) (C := RX2) (T := TX2) (N := 12) hx hb hts hin2 hown hK.1 hP 0 rfl rfl 8 (by decide) (hts (.fieldLink RX2 38 "TestPicker$Sets" "coverFrom" "[J") (by decide +kernel)) (fun _ h9 => h9) rfl dX2_sumUp_87 ?_
  refine lv_iload_n hx hb dX2_sumUp_90 rfl (lv_at hl 0 rfl) ?_
  refine ld_l hx hb hK hP 8 (f := sVf ss) rfl (i := (rs k)) (by omega) (by decide) dX2_sumUp_91 ?_
  refine lv_aload_n hx hb dX2_sumUp_92 rfl (lv_at hl 2 rfl) ?_
  refine va_get (D := D) (ci := 2) (v := .ref (q 19)) (C := RX2) (T := TX2) (N := 12) hx hb hts hin2 hown hK.1 hP 0 rfl rfl 3 (by decide) (hts (.fieldLink RX2 21 "TestPicker$Sets" "covers" "[J") (by decide +kernel)) (fun _ h9 => h9) rfl dX2_sumUp_93 ?_
  refine lv_iload_n hx hb dX2_sumUp_96 rfl (lv_at hl 1 rfl) ?_
  refine ld_l hx hb hK hP 4 (f := sCo ss) rfl (i := (lw k)) (by omega) (by decide) dX2_sumUp_97 ?_
  refine lv_lor hx hb dX2_sumUp_98 ?_
  refine st_l hx hb hK hP hD hS 8 rfl (i := (lw k)) (by omega) (by decide) dX2_sumUp_99 (fun H locs hP hD hS => ?_)
  have hP : va_P D vwCl (wS q c (sTb ss, sCh ss, sTi ss, sCo ss, sN ss, (upd (sBf ss) (lw k) ((sBf ss (rs k)) ||| (sTb ss (lw k)))), (upd (sCf ss) (lw k) ((sCf ss (rs k)) ||| (sCh ss (lw k)))), (upd (sTf ss) (lw k) ((sTf ss (rs k)) + (sTi ss (lw k)))), (vp_updL (sVf ss) (lw k) ((sVf ss (rs k)) ||| (sCo ss (lw k)))), sFb ss, sFt ss, sFc ss)) H := hP
  have hD : va_D (va_A (wS q c ss) s.heap.size) (wS q c (sTb ss, sCh ss, sTi ss, sCo ss, sN ss, (upd (sBf ss) (lw k) ((sBf ss (rs k)) ||| (sTb ss (lw k)))), (upd (sCf ss) (lw k) ((sCf ss (rs k)) ||| (sCh ss (lw k)))), (upd (sTf ss) (lw k) ((sTf ss (rs k)) + (sTi ss (lw k)))), (vp_updL (sVf ss) (lw k) ((sVf ss (rs k)) ||| (sCo ss (lw k)))), sFb ss, sFt ss, sFc ss)) := hD
  refine lv_iload_n hx hb dX2_sumUp_100 rfl (lv_at hl 1 rfl) ?_
  exact mu_reti hx hb hr hlk hP hD hS (rfl) dX2_sumUp_101

set_option maxHeartbeats 4000000 in
set_option maxRecDepth 100000 in
theorem c_X2_keep (l : Launch) (D : va_G) (q : Nat → Nat) (c : CT) (ss : SS) (k : Nat) (hk : k < 13) : MUv l yX2_keep wsX2_keep ({ frames := 0, cells := 0, slots := 0, locals := 0 } : Room) [.ref (q 15), .int (nI k)] D c (wS q c ss) (wS q c (keepS ss k)) := by
  refine mu_start (cc := cX2_keep) (maxL := 2) (ret := none) (by decide) rfl (Nat.le_of_ble_eq_true rfl) ?_
  intro p e s m args below meth c0 ls hx hb hr hml hown hts hlk hnm hP hK hD hS hA hl
  have hown : s.vm.findClass RX2 = some m.cls := hown
  have hl : lv_has ls 2 [(0, .ref (q 15)), (1, .int (nI k))] := hl
  have hin2 : ∀ w ∈ wsX20, w ∈ wsX2_keep := by decide +kernel
  refine lv_aload_n hx hb dX2_keep_0 rfl (lv_at hl 0 rfl) ?_
  refine lv_aload_n hx hb dX2_keep_1 rfl (lv_at hl 0 rfl) ?_
  refine va_get (D := D) (ci := 2) (v := .ref (q 20)) (C := RX2) (T := TX2) (N := 12) hx hb hts hin2 hown hK.1 hP 0 rfl rfl 5 (by decide) (hts (.fieldLink RX2 29 "TestPicker$Sets" "bitsFrom" "[I") (by decide +kernel)) (fun _ h9 => h9) rfl dX2_keep_2 ?_
  refine lv_iload_n hx hb dX2_keep_5 rfl (lv_at hl 1 rfl) ?_
  refine ld_i hx hb hK hP 5 (f := sBf ss) rfl (i := k) (by omega) (by decide) dX2_keep_6 ?_
  refine va_put (D := D) (ci := 2) (v := .int (sBf ss k)) (ty := .int) (C := RX2) (T := TX2) (N := 12) hx hb hts hin2 tyX2 tyX2_ok nmX2 hown hK.1 hP hD hS 0 rfl rfl 9 (by decide) (hts (.fieldLink RX2 41 "TestPicker$Sets" "foundBits" "I") (by decide +kernel)) (fun _ h9 => h9) rfl (by decide +kernel) rfl rfl (Nat.le_of_ble_eq_true rfl) dX2_keep_7 (fun H locs hP hD hS => ?_)
  have hP : va_P D vwCl (wS q c (sTb ss, sCh ss, sTi ss, sCo ss, sN ss, sBf ss, sCf ss, sTf ss, sVf ss, (sBf ss k), sFt ss, sFc ss)) H := hP
  have hD : va_D (va_A (wS q c ss) s.heap.size) (wS q c (sTb ss, sCh ss, sTi ss, sCo ss, sN ss, sBf ss, sCf ss, sTf ss, sVf ss, (sBf ss k), sFt ss, sFc ss)) := hD
  refine lv_aload_n hx hb dX2_keep_10 rfl (lv_at hl 0 rfl) ?_
  refine lv_aload_n hx hb dX2_keep_11 rfl (lv_at hl 0 rfl) ?_
  refine va_get (D := D) (ci := 2) (v := .ref (q 22)) (C := RX2) (T := TX2) (N := 12) hx hb hts hin2 hown hK.1 hP 0 rfl rfl 7 (by decide) (hts (.fieldLink RX2 35 "TestPicker$Sets" "timeFrom" "[I") (by decide +kernel)) (fun _ h9 => h9) rfl dX2_keep_12 ?_
  refine lv_iload_n hx hb dX2_keep_15 rfl (lv_at hl 1 rfl) ?_
  refine ld_i hx hb hK hP 7 (f := sTf ss) rfl (i := k) (by omega) (by decide) dX2_keep_16 ?_
  refine va_put (D := D) (ci := 2) (v := .int (sTf ss k)) (ty := .int) (C := RX2) (T := TX2) (N := 12) hx hb hts hin2 tyX2 tyX2_ok nmX2 hown hK.1 hP hD hS 0 rfl rfl 10 (by decide) (hts (.fieldLink RX2 44 "TestPicker$Sets" "foundTime" "I") (by decide +kernel)) (fun _ h9 => h9) rfl (by decide +kernel) rfl rfl (Nat.le_of_ble_eq_true rfl) dX2_keep_17 (fun H locs hP hD hS => ?_)
  have hP : va_P D vwCl (wS q c (sTb ss, sCh ss, sTi ss, sCo ss, sN ss, sBf ss, sCf ss, sTf ss, sVf ss, (sBf ss k), (sTf ss k), sFc ss)) H := hP
  have hD : va_D (va_A (wS q c ss) s.heap.size) (wS q c (sTb ss, sCh ss, sTi ss, sCo ss, sN ss, sBf ss, sCf ss, sTf ss, sVf ss, (sBf ss k), (sTf ss k), sFc ss)) := hD
  refine lv_aload_n hx hb dX2_keep_20 rfl (lv_at hl 0 rfl) ?_
  refine lv_aload_n hx hb dX2_keep_21 rfl (lv_at hl 0 rfl) ?_
  refine va_get (D := D) (ci := 2) (v := .ref (q 23)) (C := RX2) (T := TX2) (N := 12) hx hb hts hin2 hown hK.1 hP 0 rfl rfl 8 (by decide) (hts (.fieldLink RX2 38 "TestPicker$Sets" "coverFrom" "[J") (by decide +kernel)) (fun _ h9 => h9) rfl dX2_keep_22 ?_
  refine lv_iload_n hx hb dX2_keep_25 rfl (lv_at hl 1 rfl) ?_
  refine ld_l hx hb hK hP 8 (f := sVf ss) rfl (i := k) (by omega) (by decide) dX2_keep_26 ?_
  refine va_put (D := D) (ci := 2) (v := .long (sVf ss k)) (ty := .long) (C := RX2) (T := TX2) (N := 12) hx hb hts hin2 tyX2 tyX2_ok nmX2 hown hK.1 hP hD hS 0 rfl rfl 11 (by decide) (hts (.fieldLink RX2 47 "TestPicker$Sets" "foundCover" "J") (by decide +kernel)) (fun _ h9 => h9) rfl (by decide +kernel) rfl rfl (Nat.le_of_ble_eq_true rfl) dX2_keep_27 (fun H locs hP hD hS => ?_)
  have hP : va_P D vwCl (wS q c (sTb ss, sCh ss, sTi ss, sCo ss, sN ss, sBf ss, sCf ss, sTf ss, sVf ss, (sBf ss k), (sTf ss k), (sVf ss k))) H := hP
  have hD : va_D (va_A (wS q c ss) s.heap.size) (wS q c (sTb ss, sCh ss, sTi ss, sCo ss, sN ss, sBf ss, sCf ss, sTf ss, sVf ss, (sBf ss k), (sTf ss k), (sVf ss k))) := hD
  exact mu_retv hx hb hr hlk hP hD hS dX2_keep_30

set_option maxHeartbeats 4000000 in
set_option maxRecDepth 100000 in
theorem c_X2_seekWidest (l : Launch) (D : va_G) (q : Nat → Nat) (c : CT) (ss : SS) (mo : Int32) (hN12 : sN ss ≤ 12) : MUv l yX2_seekWidest wsX2_seekWidest ({ frames := 2, cells := 0, slots := 0, locals := 44 } : Room) [.ref (q 15), .int mo] D c (wS q c ss) (wS q c (skW mo 4097 ss 1)) := by
  refine mu_start (cc := cX2_seekWidest) (maxL := 5) (ret := none) (by decide) rfl (Nat.le_of_ble_eq_true rfl) ?_
  intro p e s m args below meth c0 ls hx hb hr hml hown hts hlk hnm hP hK hD hS hA hl
  have hown : s.vm.findClass RX2 = some m.cls := hown
  have hl : lv_has ls 5 [(0, .ref (q 15)), (1, .int mo)] := hl
  have hin2 : ∀ w ∈ wsX20, w ∈ wsX2_seekWidest := by decide +kernel
  have h4096 := pow_le12 hN12
  refine lv_iconst (v := 1) hx hb dX2_seekWidest_0 (by decide) ?_
  refine lv_aload_n hx hb dX2_seekWidest_1 rfl (lv_at hl 0 rfl) ?_
  refine va_get (D := D) (ci := 2) (v := .int (nI (sN ss))) (C := RX2) (T := TX2) (N := 12) hx hb hts hin2 hown hK.1 hP 0 rfl rfl 4 (by decide) (hts (.fieldLink RX2 25 "TestPicker$Sets" "size" "I") (by decide +kernel)) (fun _ h9 => h9) rfl dX2_seekWidest_2 ?_
  refine lv_ishl hx hb dX2_seekWidest_5 ?_
  refine tp_i (z := nI (2 ^ sN ss)) (one_pow _ (by omega)) ?_
  refine lv_istore_n (lv' := [(2, .int (nI (2 ^ sN ss))), (0, .ref (q 15)), (1, .int mo)]) hx hb dX2_seekWidest_6 rfl hl (by decide) rfl (fun ls hl => ?_)
  refine lv_iconst (v := 1) hx hb dX2_seekWidest_7 (by decide) ?_
  refine lv_istore_n (lv' := [(3, .int 1), (2, .int (nI (2 ^ sN ss))), (0, .ref (q 15)), (1, .int mo)]) hx hb dX2_seekWidest_8 rfl hl (by decide) rfl (fun ls hl => ?_)
  have L9 : ∀ (n : Nat) (k : Nat) (s2 : SS), (sN s2 = sN ss) → (0 < k) → (k ≤ 2 ^ sN ss) → (2 ^ sN ss < k + n) → (skW mo n s2 k = skW mo 4097 ss 1) → ∀ (H : Heap) (locs : List Loc), va_P D vwCl (wS q c s2) H → va_D (va_A (wS q c ss) s.heap.size) (wS q c s2) → va_S (va_A (wS q c ss) s.heap.size) s.heap H locs → ∀ ls : Array Slot, lv_has ls 5 [(3, .int (nI k)), (2, .int (nI (2 ^ sN ss))), (0, .ref (q 15)), (1, .int mo)] → W p l e ({ frames := 2, cells := 0, slots := 0, locals := 44 } : Room) s m args below meth c0 H locs 0 0 (QMv below args s D c (wS q c ss) (wS q c (skW mo 4097 ss 1))) (F0 m 9 ls []) := by
    intro n
    induction n with
    | zero => intro k s2 hs2 hk0 hkN hn hq H locs hP hD hS ls hl; exact absurd hn (by omega)
    | succ n ih9 =>
      intro k s2 hs2 hk0 hkN hn hq H locs hP hD hS ls hl
      refine lv_iload_n hx hb dX2_seekWidest_9 rfl (lv_at hl 0 rfl) ?_
      refine lv_iload_n hx hb dX2_seekWidest_10 rfl (lv_at hl 1 rfl) ?_
      refine lv_icmp_ge (tgt := 80) hx hb dX2_seekWidest_11 (by decide) (fun c11 => ?_) (fun c11 => ?_)
      · -- 11 True
        have c11 : (2 ^ sN ss) ≤ k := (nI_leI (a := (2 ^ sN ss)) (b := k) (by omega) (by omega)).mp c11
        have e9 : skW mo 4097 ss 1 = s2 := by rw [← hq, skW, if_neg (by rw [hs2]; omega)]
        rw [e9]
        exact mu_retv hx hb hr hlk hP hD hS dX2_seekWidest_80
      · -- 11 False
        have c11 : k < (2 ^ sN ss) := (Nat.not_le.mp (fun z => c11 ((nI_leI (a := (2 ^ sN ss)) (b := k) (by omega) (by omega)).mpr z)))
        have hlw : lw k < 12 := lw_lt 12 k hk0 (by omega)
        refine lv_aload_n hx hb dX2_seekWidest_14 rfl (lv_at hl 2 rfl) ?_
        refine lv_iload_n hx hb dX2_seekWidest_15 rfl (lv_at hl 0 rfl) ?_
        refine mu_Vi (As := [.int (nI k)]) (rest := []) (wr := []) (wk := wS q c (sumS s2 k)) [0, 1, 2, 3, 4, 5, 6, 7, 8] [] [0, 1, 2, 3, 4, 5, 6, 7, 8] ⟨hx, hb, hml, hown, hts⟩ (c_X2_sumUp l D q c s2 k (by omega) (by omega)) (cwV 1 hts gX2_seekWidest_X2_sumUp rfl rfl rfl (by decide +kernel) ⟨Nat.le_of_ble_eq_true rfl, Nat.le_of_ble_eq_true rfl⟩) hP hK hD hS hA (va_recv hK.1 hP (ci := 2) (q0 := 0) rfl rfl) rfl rfl (by decide) (by decide) (by decide) (by decide) rfl rfl hl.1 rfl (Nat.le_of_ble_eq_true rfl) dX2_seekWidest_16 ⟨Nat.le_of_ble_eq_true rfl, Nat.le_of_ble_eq_true rfl⟩ (fun H locs hP hD hS => ?_)
        refine lv_istore (lv' := [(4, .int (nI (lw k))), (3, .int (nI k)), (2, .int (nI (2 ^ sN ss))), (0, .ref (q 15)), (1, .int mo)]) hx hb dX2_seekWidest_19 hl (by decide) rfl (fun ls hl => ?_)
        refine lv_aload_n hx hb dX2_seekWidest_21 rfl (lv_at hl 3 rfl) ?_
        refine va_get (D := D) (ci := 2) (v := .ref (q 22)) (C := RX2) (T := TX2) (N := 12) hx hb hts hin2 hown hK.1 hP 0 rfl rfl 7 (by decide) (hts (.fieldLink RX2 35 "TestPicker$Sets" "timeFrom" "[I") (by decide +kernel)) (fun _ h9 => h9) rfl dX2_seekWidest_22 ?_
        refine lv_iload hx hb dX2_seekWidest_25 (lv_at hl 0 rfl) ?_
        refine ld_i hx hb hK hP 7 (f := sTf (sumS s2 k)) rfl (i := (lw k)) (by omega) (by decide) dX2_seekWidest_27 ?_
        refine lv_iload_n hx hb dX2_seekWidest_28 rfl (lv_at hl 4 rfl) ?_
        refine lv_icmp_le (tgt := 42) hx hb dX2_seekWidest_29 (by decide) (fun c29 => ?_) (fun c29 => ?_)
        · -- 29 True
          refine lv_aload_n hx hb dX2_seekWidest_42 rfl (lv_at hl 3 rfl) ?_
          refine va_get (D := D) (ci := 2) (v := .ref (q 21)) (C := RX2) (T := TX2) (N := 12) hx hb hts hin2 hown hK.1 hP 0 rfl rfl 6 (by decide) (hts (.fieldLink RX2 32 "TestPicker$Sets" "chainsFrom" "[I") (by decide +kernel)) (fun _ h9 => h9) rfl dX2_seekWidest_43 ?_
          refine lv_iload hx hb dX2_seekWidest_46 (lv_at hl 0 rfl) ?_
          refine ld_i hx hb hK hP 6 (f := sCf (sumS s2 k)) rfl (i := (lw k)) (by omega) (by decide) dX2_seekWidest_48 ?_
          refine lv_aload_n hx hb dX2_seekWidest_49 rfl (lv_at hl 3 rfl) ?_
          refine va_get (D := D) (ci := 2) (v := .ref (q 20)) (C := RX2) (T := TX2) (N := 12) hx hb hts hin2 hown hK.1 hP 0 rfl rfl 5 (by decide) (hts (.fieldLink RX2 29 "TestPicker$Sets" "bitsFrom" "[I") (by decide +kernel)) (fun _ h9 => h9) rfl dX2_seekWidest_50 ?_
          refine lv_iload hx hb dX2_seekWidest_53 (lv_at hl 0 rfl) ?_
          refine ld_i hx hb hK hP 5 (f := sBf (sumS s2 k)) rfl (i := (lw k)) (by omega) (by decide) dX2_seekWidest_55 ?_
          refine lv_icmp_ne (tgt := 74) hx hb dX2_seekWidest_56 (by decide) (fun c56 => ?_) (fun c56 => ?_)
          · -- 56 True
            refine lv_iinc (v := nI (k + 1)) (lv' := [(3, .int (nI (k + 1))), (4, .int (nI (lw k))), (2, .int (nI (2 ^ sN ss))), (0, .ref (q 15)), (1, .int mo)]) hx hb dX2_seekWidest_74 hl (k := 1) rfl (nI_inc _) (by decide) rfl (fun ls hl => ?_)
            refine lv_goto (tgt := 9) hx hb dX2_seekWidest_77 (by decide) ?_
            exact ih9 (k + 1) (sumS s2 k) (by first | exact hs2 | (show sN s2 = sN ss; exact hs2)) (Nat.lt_of_lt_of_le hk0 (Nat.le_add_right _ _)) (by omega) (by omega) (by rw [← hq, skW, if_pos (show k < 2 ^ sN s2 by rw [hs2]; exact c11), if_pos c29, if_neg (fun z => c56 z.1)]) _ _ hP hD hS ls (lv_sub hl [0, 2, 3, 4] rfl)
          · -- 56 False
            refine lv_aload_n hx hb dX2_seekWidest_59 rfl (lv_at hl 3 rfl) ?_
            refine lv_iload hx hb dX2_seekWidest_60 (lv_at hl 0 rfl) ?_
            refine ro_Vi (post := bI (wdr (sumS s2 k) (lw k))) (As := [.int (nI (lw k))]) (rest := []) ⟨hx, hb, hml, hown, hts⟩ (c_X2_isWider l D q c (sumS s2 k) (lw k) (by omega)) (cwV 1 hts gX2_seekWidest_X2_isWider rfl rfl rfl (by decide +kernel) ⟨Nat.le_of_ble_eq_true rfl, Nat.le_of_ble_eq_true rfl⟩) hP hK (va_recv hK.1 hP (ci := 2) (q0 := 0) rfl rfl) rfl hl.1 rfl (Nat.le_of_ble_eq_true rfl) dX2_seekWidest_62 ⟨Nat.le_of_ble_eq_true rfl, Nat.le_of_ble_eq_true rfl⟩ ?_
            refine lv_if_eq (tgt := 74) hx hb dX2_seekWidest_65 (by decide) (fun c65 => ?_) (fun c65 => ?_)
            · -- 65 True
              have c65 := bI_z.mp c65
              refine lv_iinc (v := nI (k + 1)) (lv' := [(3, .int (nI (k + 1))), (4, .int (nI (lw k))), (2, .int (nI (2 ^ sN ss))), (0, .ref (q 15)), (1, .int mo)]) hx hb dX2_seekWidest_74 hl (k := 1) rfl (nI_inc _) (by decide) rfl (fun ls hl => ?_)
              refine lv_goto (tgt := 9) hx hb dX2_seekWidest_77 (by decide) ?_
              exact ih9 (k + 1) (sumS s2 k) (by first | exact hs2 | (show sN s2 = sN ss; exact hs2)) (Nat.lt_of_lt_of_le hk0 (Nat.le_add_right _ _)) (by omega) (by omega) (by rw [← hq, skW, if_pos (show k < 2 ^ sN s2 by rw [hs2]; exact c11), if_pos c29, if_neg (fun z => by rw [z.2] at c65; cases c65)]) _ _ hP hD hS ls (lv_sub hl [0, 2, 3, 4] rfl)
            · -- 65 False
              have c65 := bI_nz.mp c65
              refine lv_aload_n hx hb dX2_seekWidest_68 rfl (lv_at hl 3 rfl) ?_
              refine lv_iload hx hb dX2_seekWidest_69 (lv_at hl 0 rfl) ?_
              refine mu_Vv (As := [.int (nI (lw k))]) (rest := []) (wr := []) (wk := wS q c (keepS (sumS s2 k) (lw k))) [0, 1, 2, 3, 4, 5, 6, 7, 8] [] [0, 1, 2, 3, 4, 5, 6, 7, 8] ⟨hx, hb, hml, hown, hts⟩ (c_X2_keep l D q c (sumS s2 k) (lw k) (by omega)) (cwV 1 hts gX2_seekWidest_X2_keep rfl rfl rfl (by decide +kernel) ⟨Nat.le_of_ble_eq_true rfl, Nat.le_of_ble_eq_true rfl⟩) hP hK hD hS hA (va_recv hK.1 hP (ci := 2) (q0 := 0) rfl rfl) rfl rfl (by decide) (by decide) (by decide) (by decide) rfl rfl hl.1 rfl (Nat.le_of_ble_eq_true rfl) dX2_seekWidest_71 ⟨Nat.le_of_ble_eq_true rfl, Nat.le_of_ble_eq_true rfl⟩ (fun H locs hP hD hS => ?_)
              refine lv_iinc (v := nI (k + 1)) (lv' := [(3, .int (nI (k + 1))), (4, .int (nI (lw k))), (2, .int (nI (2 ^ sN ss))), (0, .ref (q 15)), (1, .int mo)]) hx hb dX2_seekWidest_74 hl (k := 1) rfl (nI_inc _) (by decide) rfl (fun ls hl => ?_)
              refine lv_goto (tgt := 9) hx hb dX2_seekWidest_77 (by decide) ?_
              exact ih9 (k + 1) (keepS (sumS s2 k) (lw k)) (by first | exact hs2 | (show sN s2 = sN ss; exact hs2)) (Nat.lt_of_lt_of_le hk0 (Nat.le_add_right _ _)) (by omega) (by omega) (by rw [← hq, skW, if_pos (show k < 2 ^ sN s2 by rw [hs2]; exact c11), if_pos c29, if_pos ⟨c56, c65⟩]) _ _ hP hD hS ls (lv_sub hl [0, 2, 3, 4] rfl)
        · -- 29 False
          refine lv_iload_n hx hb dX2_seekWidest_32 rfl (lv_at hl 1 rfl) ?_
          refine lv_iconst (v := 1) hx hb dX2_seekWidest_33 (by decide) ?_
          refine lv_iload hx hb dX2_seekWidest_34 (lv_at hl 0 rfl) ?_
          refine lv_ishl hx hb dX2_seekWidest_36 ?_
          refine tp_i (z := nI (2 ^ lw k)) (one_pow _ (by omega)) ?_
          refine lv_iadd hx hb dX2_seekWidest_37 ?_
          refine tp_i (z := nI (k + 2 ^ lw k)) (nI_add _ _) ?_
          refine lv_istore_n (lv' := [(3, .int (nI (k + 2 ^ lw k))), (4, .int (nI (lw k))), (2, .int (nI (2 ^ sN ss))), (0, .ref (q 15)), (1, .int mo)]) hx hb dX2_seekWidest_38 rfl hl (by decide) rfl (fun ls hl => ?_)
          refine lv_goto (tgt := 77) hx hb dX2_seekWidest_39 (by decide) ?_
          refine lv_goto (tgt := 9) hx hb dX2_seekWidest_77 (by decide) ?_
          exact ih9 (k + 2 ^ lw k) (sumS s2 k) (by first | exact hs2 | (show sN s2 = sN ss; exact hs2)) (Nat.lt_of_lt_of_le hk0 (Nat.le_add_right _ _)) (lw_add 12 k (sN ss) hk0 hN12 c11) (by have := Nat.one_le_two_pow (n := lw k); omega) (by rw [← hq, skW, if_pos (show k < 2 ^ sN s2 by rw [hs2]; exact c11), if_neg c29]) _ _ hP hD hS ls (lv_sub hl [0, 2, 3, 4] rfl)
  exact L9 (4097) 1 ss (rfl) (by decide) (Nat.one_le_two_pow) (by omega) (rfl) _ _ hP hD hS ls (lv_sub hl [0, 1, 2, 3] rfl)
