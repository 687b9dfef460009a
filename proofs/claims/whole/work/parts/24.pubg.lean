theorem pd_ex {i p : Int32} (hp : p - 1 < 20) (h : rg i 0 (p - 1) = true) : ∃ j, j < 20 ∧ i = nI j := by
  simp only [rg, Bool.and_eq_true, Bool.not_eq_true', decide_eq_false_iff_not] at h
  have h2 : i ≤ 19 := by
    have h3 := Int32.not_lt.mp h.2
    rw [Int32.le_iff_toInt_le] at h3 ⊢
    rw [Int32.lt_iff_toInt_lt] at hp
    have : (20 : Int32).toInt = 20 := rfl
    have : (19 : Int32).toInt = 19 := rfl
    omega
  obtain ⟨j, h3, h4⟩ := nI_of2 (M := 19) (n := 19) rfl h.1 h2
  exact ⟨j, by omega, h4⟩
set_option maxHeartbeats 4000000 in
set_option maxRecDepth 100000 in
theorem c_X5_test (l : Launch) (D : va_G) (z : Nat → Nat) (c : CT) (gs : GS) (k tm nd : Int32) (hT : gT gs ≤ 20) : MUi l yX5_test wsX5_test ({ frames := 2, cells := 0, slots := 0, locals := 43 } : Room) [.ref (z 0), .int k, .int tm, .int nd] D c (wG z c gs) (wG z c (gTest k tm nd gs).2) ((gTest k tm nd gs).1) := by
  refine mu_start (cc := cX5_test) (maxL := 4) (ret := some .int) (by decide) rfl (Nat.le_of_ble_eq_true rfl) ?_
  intro p e s m args below meth c0 ls hx hb hr hml hown hts hlk hnm hP hK hD hS hA hl
  have hown : s.vm.findClass RX5 = some m.cls := hown
  have hl : lv_has ls 4 [(0, .ref (z 0)), (1, .int k), (2, .int tm), (3, .int nd)] := hl
  have hin5 : ∀ w ∈ wsX50, w ∈ wsX5_test := by decide +kernel
  refine lv_iload_n hx hb dX5_test_0 rfl (lv_at hl 1 rfl) ?_
  refine lv_iconst (v := 0) hx hb dX5_test_1 (by decide) ?_
  refine lv_iconst (v := 3) hx hb dX5_test_2 (by decide) ?_
  refine ro_Si (As := [.int k, .int 0, .int 3]) (rest := []) ⟨hx, hb, hml, hown, hts⟩ (c_X5_in l D c k 0 3) (va_cwS 3 hts gX5_test_X5_in rfl rfl rfl (by decide +kernel) ⟨Nat.le_of_ble_eq_true rfl, Nat.le_of_ble_eq_true rfl⟩) va_P0 hK rfl hl.1 rfl (Nat.le_of_ble_eq_true rfl) dX5_test_3 ⟨Nat.le_of_ble_eq_true rfl, Nat.le_of_ble_eq_true rfl⟩ ?_
  refine lv_if_eq (tgt := 33) hx hb dX5_test_6 (by decide) (fun c6 => ?_) (fun c6 => ?_)
  · -- 6 True
    have c6 := bI_z.mp c6
    refine lv_iconst (v := (-1)) hx hb dX5_test_33 (by decide) ?_
    have e9 : gTest k tm nd gs = ((-1), gs) := by simp [gTest, c6]
    rw [e9]
    exact mu_reti hx hb hr hlk hP hD hS (rfl) dX5_test_34
  · -- 6 False
    have c6 := bI_nz.mp c6
    refine lv_iload_n hx hb dX5_test_9 rfl (lv_at hl 2 rfl) ?_
    refine lv_iconst (v := 1) hx hb dX5_test_10 (by decide) ?_
    refine lv_sipush (v := 1000) hx hb dX5_test_11 (by decide) ?_
    refine ro_Si (As := [.int tm, .int 1, .int 1000]) (rest := []) ⟨hx, hb, hml, hown, hts⟩ (c_X5_in l D c tm 1 1000) (va_cwS 3 hts gX5_test_X5_in rfl rfl rfl (by decide +kernel) ⟨Nat.le_of_ble_eq_true rfl, Nat.le_of_ble_eq_true rfl⟩) va_P0 hK rfl hl.1 rfl (Nat.le_of_ble_eq_true rfl) dX5_test_14 ⟨Nat.le_of_ble_eq_true rfl, Nat.le_of_ble_eq_true rfl⟩ ?_
    refine lv_if_eq (tgt := 33) hx hb dX5_test_17 (by decide) (fun c17 => ?_) (fun c17 => ?_)
    · -- 17 True
      have c17 := bI_z.mp c17
      refine lv_iconst (v := (-1)) hx hb dX5_test_33 (by decide) ?_
      have e9 : gTest k tm nd gs = ((-1), gs) := by simp [gTest, c6, c17]
      rw [e9]
      exact mu_reti hx hb hr hlk hP hD hS (rfl) dX5_test_34
    · -- 17 False
      have c17 := bI_nz.mp c17
      refine lv_iload_n hx hb dX5_test_20 rfl (lv_at hl 1 rfl) ?_
      refine lv_iconst (v := 2) hx hb dX5_test_21 (by decide) ?_
      refine lv_icmp_ne (tgt := 35) hx hb dX5_test_22 (by decide) (fun c22 => ?_) (fun c22 => ?_)
      · -- 22 True
        refine lv_aload_n hx hb dX5_test_35 rfl (lv_at hl 0 rfl) ?_
        refine va_get (D := D) (ci := 5) (v := .int (nI (gT gs))) (C := RX5) (T := TX5) (N := 19) hx hb hts hin5 hown hK.1 hP 0 rfl rfl 2 (by decide) (hts (.fieldLink RX5 52 "TestPickerModel" "tests" "I") (by decide +kernel)) (fun _ h9 => h9) rfl dX5_test_36 ?_
        refine lv_bipush (v := 20) hx hb dX5_test_39 (by decide) ?_
        refine lv_icmp_ne (tgt := 47) hx hb dX5_test_41 (by decide) (fun c41 => ?_) (fun c41 => ?_)
        · -- 41 True
          have c41 : ¬ gT gs = 20 := fun z => c41 (by rw [z]; rfl)
          have c41b : gT gs < 20 := by omega
          refine lv_aload_n hx hb dX5_test_47 rfl (lv_at hl 0 rfl) ?_
          refine va_get (D := D) (ci := 5) (v := .ref (z 2)) (C := RX5) (T := TX5) (N := 19) hx hb hts hin5 hown hK.1 hP 0 rfl rfl 3 (by decide) (hts (.fieldLink RX5 13 "TestPickerModel" "kinds" "[I") (by decide +kernel)) (fun _ h9 => h9) rfl dX5_test_48 ?_
          refine lv_aload_n hx hb dX5_test_51 rfl (lv_at hl 0 rfl) ?_
          refine va_get (D := D) (ci := 5) (v := .int (nI (gT gs))) (C := RX5) (T := TX5) (N := 19) hx hb hts hin5 hown hK.1 hP 0 rfl rfl 2 (by decide) (hts (.fieldLink RX5 52 "TestPickerModel" "tests" "I") (by decide +kernel)) (fun _ h9 => h9) rfl dX5_test_52 ?_
          refine lv_iload_n hx hb dX5_test_55 rfl (lv_at hl 1 rfl) ?_
          refine st_i hx hb hK hP hD hS 2 rfl (i := (gT gs)) (by omega) (by decide) dX5_test_56 (fun H locs hP hD hS => ?_)
          have hP : va_P D vwCl (wG z c (gFi gs, gFs gs, gT gs, (upd (gKd gs) (gT gs) k), gTi gs, gNd gs, gMs gs, gBy gs, gB gs, gCg gs, gVe gs, gAs gs, gMv gs, gPm gs, gPk gs, gPt gs, gPp gs, gPs gs, gMay gs)) H := hP
          have hD : va_D (va_A (wG z c gs) s.heap.size) (wG z c (gFi gs, gFs gs, gT gs, (upd (gKd gs) (gT gs) k), gTi gs, gNd gs, gMs gs, gBy gs, gB gs, gCg gs, gVe gs, gAs gs, gMv gs, gPm gs, gPk gs, gPt gs, gPp gs, gPs gs, gMay gs)) := hD
          refine lv_aload_n hx hb dX5_test_57 rfl (lv_at hl 0 rfl) ?_
          refine va_get (D := D) (ci := 5) (v := .ref (z 3)) (C := RX5) (T := TX5) (N := 19) hx hb hts hin5 hown hK.1 hP 0 rfl rfl 4 (by decide) (hts (.fieldLink RX5 16 "TestPickerModel" "times" "[I") (by decide +kernel)) (fun _ h9 => h9) rfl dX5_test_58 ?_
          refine lv_aload_n hx hb dX5_test_61 rfl (lv_at hl 0 rfl) ?_
          refine va_get (D := D) (ci := 5) (v := .int (nI (gT gs))) (C := RX5) (T := TX5) (N := 19) hx hb hts hin5 hown hK.1 hP 0 rfl rfl 2 (by decide) (hts (.fieldLink RX5 52 "TestPickerModel" "tests" "I") (by decide +kernel)) (fun _ h9 => h9) rfl dX5_test_62 ?_
          refine lv_iload_n hx hb dX5_test_65 rfl (lv_at hl 2 rfl) ?_
          refine st_i hx hb hK hP hD hS 3 rfl (i := (gT gs)) (by omega) (by decide) dX5_test_66 (fun H locs hP hD hS => ?_)
          have hP : va_P D vwCl (wG z c (gFi gs, gFs gs, gT gs, (upd (gKd gs) (gT gs) k), (upd (gTi gs) (gT gs) tm), gNd gs, gMs gs, gBy gs, gB gs, gCg gs, gVe gs, gAs gs, gMv gs, gPm gs, gPk gs, gPt gs, gPp gs, gPs gs, gMay gs)) H := hP
          have hD : va_D (va_A (wG z c gs) s.heap.size) (wG z c (gFi gs, gFs gs, gT gs, (upd (gKd gs) (gT gs) k), (upd (gTi gs) (gT gs) tm), gNd gs, gMs gs, gBy gs, gB gs, gCg gs, gVe gs, gAs gs, gMv gs, gPm gs, gPk gs, gPt gs, gPp gs, gPs gs, gMay gs)) := hD
          refine lv_aload_n hx hb dX5_test_67 rfl (lv_at hl 0 rfl) ?_
          refine va_get (D := D) (ci := 5) (v := .ref (z 4)) (C := RX5) (T := TX5) (N := 19) hx hb hts hin5 hown hK.1 hP 0 rfl rfl 5 (by decide) (hts (.fieldLink RX5 19 "TestPickerModel" "needs" "[I") (by decide +kernel)) (fun _ h9 => h9) rfl dX5_test_68 ?_
          refine lv_aload_n hx hb dX5_test_71 rfl (lv_at hl 0 rfl) ?_
          refine va_get (D := D) (ci := 5) (v := .int (nI (gT gs))) (C := RX5) (T := TX5) (N := 19) hx hb hts hin5 hown hK.1 hP 0 rfl rfl 2 (by decide) (hts (.fieldLink RX5 52 "TestPickerModel" "tests" "I") (by decide +kernel)) (fun _ h9 => h9) rfl dX5_test_72 ?_
          refine lv_iload_n hx hb dX5_test_75 rfl (lv_at hl 1 rfl) ?_
          refine lv_iconst (v := 2) hx hb dX5_test_76 (by decide) ?_
          refine lv_icmp_ne (tgt := 84) hx hb dX5_test_77 (by decide) (fun c77 => ?_) (fun c77 => ?_)
          · -- 77 True
            refine lv_bipush (v := (-9)) hx hb dX5_test_84 (by decide) ?_
            refine st_i hx hb hK hP hD hS 4 rfl (i := (gT gs)) (by omega) (by decide) dX5_test_86 (fun H locs hP hD hS => ?_)
            have hP : va_P D vwCl (wG z c (gFi gs, gFs gs, gT gs, (upd (gKd gs) (gT gs) k), (upd (gTi gs) (gT gs) tm), (upd (gNd gs) (gT gs) (-9)), gMs gs, gBy gs, gB gs, gCg gs, gVe gs, gAs gs, gMv gs, gPm gs, gPk gs, gPt gs, gPp gs, gPs gs, gMay gs)) H := hP
            have hD : va_D (va_A (wG z c gs) s.heap.size) (wG z c (gFi gs, gFs gs, gT gs, (upd (gKd gs) (gT gs) k), (upd (gTi gs) (gT gs) tm), (upd (gNd gs) (gT gs) (-9)), gMs gs, gBy gs, gB gs, gCg gs, gVe gs, gAs gs, gMv gs, gPm gs, gPk gs, gPt gs, gPp gs, gPs gs, gMay gs)) := hD
            refine lv_aload_n hx hb dX5_test_87 rfl (lv_at hl 0 rfl) ?_
            refine lv_dup hx hb dX5_test_88 rfl ?_
            refine va_get (D := D) (ci := 5) (v := .int (nI (gT gs))) (C := RX5) (T := TX5) (N := 19) hx hb hts hin5 hown hK.1 hP 0 rfl rfl 2 (by decide) (hts (.fieldLink RX5 52 "TestPickerModel" "tests" "I") (by decide +kernel)) (fun _ h9 => h9) rfl dX5_test_89 ?_
            refine lv_iconst (v := 1) hx hb dX5_test_92 (by decide) ?_
            refine lv_iadd hx hb dX5_test_93 ?_
            refine tp_i (z := nI (gT gs + 1)) (nI_1 _) ?_
            refine va_put (D := D) (ci := 5) (v := .int (nI (gT gs + 1))) (ty := .int) (C := RX5) (T := TX5) (N := 19) hx hb hts hin5 tyX5 tyX5_ok nmX5 hown hK.1 hP hD hS 0 rfl rfl 2 (by decide) (hts (.fieldLink RX5 52 "TestPickerModel" "tests" "I") (by decide +kernel)) (fun _ h9 => h9) rfl (by decide +kernel) rfl rfl (Nat.le_of_ble_eq_true rfl) dX5_test_94 (fun H locs hP hD hS => ?_)
            have hP : va_P D vwCl (wG z c (gFi gs, gFs gs, (gT gs + 1), (upd (gKd gs) (gT gs) k), (upd (gTi gs) (gT gs) tm), (upd (gNd gs) (gT gs) (-9)), gMs gs, gBy gs, gB gs, gCg gs, gVe gs, gAs gs, gMv gs, gPm gs, gPk gs, gPt gs, gPp gs, gPs gs, gMay gs)) H := hP
            have hD : va_D (va_A (wG z c gs) s.heap.size) (wG z c (gFi gs, gFs gs, (gT gs + 1), (upd (gKd gs) (gT gs) k), (upd (gTi gs) (gT gs) tm), (upd (gNd gs) (gT gs) (-9)), gMs gs, gBy gs, gB gs, gCg gs, gVe gs, gAs gs, gMv gs, gPm gs, gPk gs, gPt gs, gPp gs, gPs gs, gMay gs)) := hD
            refine lv_aload_n hx hb dX5_test_97 rfl (lv_at hl 0 rfl) ?_
            refine va_get (D := D) (ci := 5) (v := .int (nI (gT gs + 1))) (C := RX5) (T := TX5) (N := 19) hx hb hts hin5 hown hK.1 hP 0 rfl rfl 2 (by decide) (hts (.fieldLink RX5 52 "TestPickerModel" "tests" "I") (by decide +kernel)) (fun _ h9 => h9) rfl dX5_test_98 ?_
            refine lv_iconst (v := 1) hx hb dX5_test_101 (by decide) ?_
            refine lv_isub hx hb dX5_test_102 ?_
            refine tp_i (z := nI (gT gs)) (nI_pred _) ?_
            have e9 : gTest k tm nd gs = (nI (gT gs), (gFi gs, gFs gs, (gT gs + 1), (upd (gKd gs) (gT gs) k), (upd (gTi gs) (gT gs) tm), (upd (gNd gs) (gT gs) (-9)), gMs gs, gBy gs, gB gs, gCg gs, gVe gs, gAs gs, gMv gs, gPm gs, gPk gs, gPt gs, gPp gs, gPs gs, gMay gs)) := by simp [gTest, c6, c17, c22, c41, c77]
            rw [e9]
            exact mu_reti hx hb hr hlk hP hD hS (rfl) dX5_test_103
          · -- 77 False
            exact absurd c77 c22
        · -- 41 False
          have c41 : gT gs = 20 := (nI_eq (by omega) (by omega)).mp (show nI (gT gs) = nI 20 from c41)
          refine lv_bipush (v := (-2)) hx hb dX5_test_44 (by decide) ?_
          have e9 : gTest k tm nd gs = ((-2), gs) := by simp [gTest, c6, c17, c22, eq_true c41]
          rw [e9]
          exact mu_reti hx hb hr hlk hP hD hS (rfl) dX5_test_46
      · -- 22 False
        refine lv_aload_n hx hb dX5_test_25 rfl (lv_at hl 0 rfl) ?_
        refine lv_iload_n hx hb dX5_test_26 rfl (lv_at hl 3 rfl) ?_
        refine ro_Vi (post := bI (inN nd (gT gs))) (As := [.int nd]) (rest := []) ⟨hx, hb, hml, hown, hts⟩ (c_X5_isTest l D z c gs nd (by omega)) (cwV 1 hts gX5_test_X5_isTest rfl rfl rfl (by decide +kernel) ⟨Nat.le_of_ble_eq_true rfl, Nat.le_of_ble_eq_true rfl⟩) hP hK (va_recv hK.1 hP (ci := 5) (q0 := 0) rfl rfl) rfl hl.1 rfl (Nat.le_of_ble_eq_true rfl) dX5_test_27 ⟨Nat.le_of_ble_eq_true rfl, Nat.le_of_ble_eq_true rfl⟩ ?_
        refine lv_if_ne (tgt := 35) hx hb dX5_test_30 (by decide) (fun c30 => ?_) (fun c30 => ?_)
        · -- 30 True
          have c30 := bI_nz.mp c30
          refine lv_aload_n hx hb dX5_test_35 rfl (lv_at hl 0 rfl) ?_
          refine va_get (D := D) (ci := 5) (v := .int (nI (gT gs))) (C := RX5) (T := TX5) (N := 19) hx hb hts hin5 hown hK.1 hP 0 rfl rfl 2 (by decide) (hts (.fieldLink RX5 52 "TestPickerModel" "tests" "I") (by decide +kernel)) (fun _ h9 => h9) rfl dX5_test_36 ?_
          refine lv_bipush (v := 20) hx hb dX5_test_39 (by decide) ?_
          refine lv_icmp_ne (tgt := 47) hx hb dX5_test_41 (by decide) (fun c41 => ?_) (fun c41 => ?_)
          · -- 41 True
            have c41 : ¬ gT gs = 20 := fun z => c41 (by rw [z]; rfl)
            have c41b : gT gs < 20 := by omega
            refine lv_aload_n hx hb dX5_test_47 rfl (lv_at hl 0 rfl) ?_
            refine va_get (D := D) (ci := 5) (v := .ref (z 2)) (C := RX5) (T := TX5) (N := 19) hx hb hts hin5 hown hK.1 hP 0 rfl rfl 3 (by decide) (hts (.fieldLink RX5 13 "TestPickerModel" "kinds" "[I") (by decide +kernel)) (fun _ h9 => h9) rfl dX5_test_48 ?_
            refine lv_aload_n hx hb dX5_test_51 rfl (lv_at hl 0 rfl) ?_
            refine va_get (D := D) (ci := 5) (v := .int (nI (gT gs))) (C := RX5) (T := TX5) (N := 19) hx hb hts hin5 hown hK.1 hP 0 rfl rfl 2 (by decide) (hts (.fieldLink RX5 52 "TestPickerModel" "tests" "I") (by decide +kernel)) (fun _ h9 => h9) rfl dX5_test_52 ?_
            refine lv_iload_n hx hb dX5_test_55 rfl (lv_at hl 1 rfl) ?_
            refine st_i hx hb hK hP hD hS 2 rfl (i := (gT gs)) (by omega) (by decide) dX5_test_56 (fun H locs hP hD hS => ?_)
            have hP : va_P D vwCl (wG z c (gFi gs, gFs gs, gT gs, (upd (gKd gs) (gT gs) k), gTi gs, gNd gs, gMs gs, gBy gs, gB gs, gCg gs, gVe gs, gAs gs, gMv gs, gPm gs, gPk gs, gPt gs, gPp gs, gPs gs, gMay gs)) H := hP
            have hD : va_D (va_A (wG z c gs) s.heap.size) (wG z c (gFi gs, gFs gs, gT gs, (upd (gKd gs) (gT gs) k), gTi gs, gNd gs, gMs gs, gBy gs, gB gs, gCg gs, gVe gs, gAs gs, gMv gs, gPm gs, gPk gs, gPt gs, gPp gs, gPs gs, gMay gs)) := hD
            refine lv_aload_n hx hb dX5_test_57 rfl (lv_at hl 0 rfl) ?_
            refine va_get (D := D) (ci := 5) (v := .ref (z 3)) (C := RX5) (T := TX5) (N := 19) hx hb hts hin5 hown hK.1 hP 0 rfl rfl 4 (by decide) (hts (.fieldLink RX5 16 "TestPickerModel" "times" "[I") (by decide +kernel)) (fun _ h9 => h9) rfl dX5_test_58 ?_
            refine lv_aload_n hx hb dX5_test_61 rfl (lv_at hl 0 rfl) ?_
            refine va_get (D := D) (ci := 5) (v := .int (nI (gT gs))) (C := RX5) (T := TX5) (N := 19) hx hb hts hin5 hown hK.1 hP 0 rfl rfl 2 (by decide) (hts (.fieldLink RX5 52 "TestPickerModel" "tests" "I") (by decide +kernel)) (fun _ h9 => h9) rfl dX5_test_62 ?_
            refine lv_iload_n hx hb dX5_test_65 rfl (lv_at hl 2 rfl) ?_
            refine st_i hx hb hK hP hD hS 3 rfl (i := (gT gs)) (by omega) (by decide) dX5_test_66 (fun H locs hP hD hS => ?_)
            have hP : va_P D vwCl (wG z c (gFi gs, gFs gs, gT gs, (upd (gKd gs) (gT gs) k), (upd (gTi gs) (gT gs) tm), gNd gs, gMs gs, gBy gs, gB gs, gCg gs, gVe gs, gAs gs, gMv gs, gPm gs, gPk gs, gPt gs, gPp gs, gPs gs, gMay gs)) H := hP
            have hD : va_D (va_A (wG z c gs) s.heap.size) (wG z c (gFi gs, gFs gs, gT gs, (upd (gKd gs) (gT gs) k), (upd (gTi gs) (gT gs) tm), gNd gs, gMs gs, gBy gs, gB gs, gCg gs, gVe gs, gAs gs, gMv gs, gPm gs, gPk gs, gPt gs, gPp gs, gPs gs, gMay gs)) := hD
            refine lv_aload_n hx hb dX5_test_67 rfl (lv_at hl 0 rfl) ?_
            refine va_get (D := D) (ci := 5) (v := .ref (z 4)) (C := RX5) (T := TX5) (N := 19) hx hb hts hin5 hown hK.1 hP 0 rfl rfl 5 (by decide) (hts (.fieldLink RX5 19 "TestPickerModel" "needs" "[I") (by decide +kernel)) (fun _ h9 => h9) rfl dX5_test_68 ?_
            refine lv_aload_n hx hb dX5_test_71 rfl (lv_at hl 0 rfl) ?_
            refine va_get (D := D) (ci := 5) (v := .int (nI (gT gs))) (C := RX5) (T := TX5) (N := 19) hx hb hts hin5 hown hK.1 hP 0 rfl rfl 2 (by decide) (hts (.fieldLink RX5 52 "TestPickerModel" "tests" "I") (by decide +kernel)) (fun _ h9 => h9) rfl dX5_test_72 ?_
            refine lv_iload_n hx hb dX5_test_75 rfl (lv_at hl 1 rfl) ?_
            refine lv_iconst (v := 2) hx hb dX5_test_76 (by decide) ?_
            refine lv_icmp_ne (tgt := 84) hx hb dX5_test_77 (by decide) (fun c77 => ?_) (fun c77 => ?_)
            · -- 77 True
              exact absurd c22 c77
            · -- 77 False
              refine lv_iload_n hx hb dX5_test_80 rfl (lv_at hl 3 rfl) ?_
              refine lv_goto (tgt := 86) hx hb dX5_test_81 (by decide) ?_
              refine st_i hx hb hK hP hD hS 4 rfl (i := (gT gs)) (by omega) (by decide) dX5_test_86 (fun H locs hP hD hS => ?_)
              have hP : va_P D vwCl (wG z c (gFi gs, gFs gs, gT gs, (upd (gKd gs) (gT gs) k), (upd (gTi gs) (gT gs) tm), (upd (gNd gs) (gT gs) nd), gMs gs, gBy gs, gB gs, gCg gs, gVe gs, gAs gs, gMv gs, gPm gs, gPk gs, gPt gs, gPp gs, gPs gs, gMay gs)) H := hP
              have hD : va_D (va_A (wG z c gs) s.heap.size) (wG z c (gFi gs, gFs gs, gT gs, (upd (gKd gs) (gT gs) k), (upd (gTi gs) (gT gs) tm), (upd (gNd gs) (gT gs) nd), gMs gs, gBy gs, gB gs, gCg gs, gVe gs, gAs gs, gMv gs, gPm gs, gPk gs, gPt gs, gPp gs, gPs gs, gMay gs)) := hD
              refine lv_aload_n hx hb dX5_test_87 rfl (lv_at hl 0 rfl) ?_
              refine lv_dup hx hb dX5_test_88 rfl ?_
              refine va_get (D := D) (ci := 5) (v := .int (nI (gT gs))) (C := RX5) (T := TX5) (N := 19) hx hb hts hin5 hown hK.1 hP 0 rfl rfl 2 (by decide) (hts (.fieldLink RX5 52 "TestPickerModel" "tests" "I") (by decide +kernel)) (fun _ h9 => h9) rfl dX5_test_89 ?_
              refine lv_iconst (v := 1) hx hb dX5_test_92 (by decide) ?_
              refine lv_iadd hx hb dX5_test_93 ?_
              refine tp_i (z := nI (gT gs + 1)) (nI_1 _) ?_
              refine va_put (D := D) (ci := 5) (v := .int (nI (gT gs + 1))) (ty := .int) (C := RX5) (T := TX5) (N := 19) hx hb hts hin5 tyX5 tyX5_ok nmX5 hown hK.1 hP hD hS 0 rfl rfl 2 (by decide) (hts (.fieldLink RX5 52 "TestPickerModel" "tests" "I") (by decide +kernel)) (fun _ h9 => h9) rfl (by decide +kernel) rfl rfl (Nat.le_of_ble_eq_true rfl) dX5_test_94 (fun H locs hP hD hS => ?_)
              have hP : va_P D vwCl (wG z c (gFi gs, gFs gs, (gT gs + 1), (upd (gKd gs) (gT gs) k), (upd (gTi gs) (gT gs) tm), (upd (gNd gs) (gT gs) nd), gMs gs, gBy gs, gB gs, gCg gs, gVe gs, gAs gs, gMv gs, gPm gs, gPk gs, gPt gs, gPp gs, gPs gs, gMay gs)) H := hP
              have hD : va_D (va_A (wG z c gs) s.heap.size) (wG z c (gFi gs, gFs gs, (gT gs + 1), (upd (gKd gs) (gT gs) k), (upd (gTi gs) (gT gs) tm), (upd (gNd gs) (gT gs) nd), gMs gs, gBy gs, gB gs, gCg gs, gVe gs, gAs gs, gMv gs, gPm gs, gPk gs, gPt gs, gPp gs, gPs gs, gMay gs)) := hD
              refine lv_aload_n hx hb dX5_test_97 rfl (lv_at hl 0 rfl) ?_
              refine va_get (D := D) (ci := 5) (v := .int (nI (gT gs + 1))) (C := RX5) (T := TX5) (N := 19) hx hb hts hin5 hown hK.1 hP 0 rfl rfl 2 (by decide) (hts (.fieldLink RX5 52 "TestPickerModel" "tests" "I") (by decide +kernel)) (fun _ h9 => h9) rfl dX5_test_98 ?_
              refine lv_iconst (v := 1) hx hb dX5_test_101 (by decide) ?_
              refine lv_isub hx hb dX5_test_102 ?_
              refine tp_i (z := nI (gT gs)) (nI_pred _) ?_
              have e9 : gTest k tm nd gs = (nI (gT gs), (gFi gs, gFs gs, (gT gs + 1), (upd (gKd gs) (gT gs) k), (upd (gTi gs) (gT gs) tm), (upd (gNd gs) (gT gs) nd), gMs gs, gBy gs, gB gs, gCg gs, gVe gs, gAs gs, gMv gs, gPm gs, gPk gs, gPt gs, gPp gs, gPs gs, gMay gs)) := by simp [gTest, c6, c17, eq_true c22, c30, c41, eq_true c77]
              rw [e9]
              exact mu_reti hx hb hr hlk hP hD hS (rfl) dX5_test_103
          · -- 41 False
            have c41 : gT gs = 20 := (nI_eq (by omega) (by omega)).mp (show nI (gT gs) = nI 20 from c41)
            refine lv_bipush (v := (-2)) hx hb dX5_test_44 (by decide) ?_
            have e9 : gTest k tm nd gs = ((-2), gs) := by simp [gTest, c6, c17, eq_true c22, c30, eq_true c41]
            rw [e9]
            exact mu_reti hx hb hr hlk hP hD hS (rfl) dX5_test_46
        · -- 30 False
          have c30 := bI_z.mp c30
          refine lv_iconst (v := (-1)) hx hb dX5_test_33 (by decide) ?_
          have e9 : gTest k tm nd gs = ((-1), gs) := by simp [gTest, c6, c17, eq_true c22, c30]
          rw [e9]
          exact mu_reti hx hb hr hlk hP hD hS (rfl) dX5_test_34

set_option maxHeartbeats 4000000 in
set_option maxRecDepth 100000 in
theorem c_X5_turn (l : Launch) (D : va_G) (z : Nat → Nat) (c : CT) (gs : GS) (x k : Int32) (hT : gT gs ≤ 20) : MUi l yX5_turn wsX5_turn ({ frames := 2, cells := 0, slots := 0, locals := 43 } : Room) [.ref (z 0), .int x, .int k] D c (wG z c gs) (wG z c (gTurn x k gs).2) ((gTurn x k gs).1) := by
  refine mu_start (cc := cX5_turn) (maxL := 4) (ret := some .int) (by decide) rfl (Nat.le_of_ble_eq_true rfl) ?_
  intro p e s m args below meth c0 ls hx hb hr hml hown hts hlk hnm hP hK hD hS hA hl
  have hown : s.vm.findClass RX5 = some m.cls := hown
  have hl : lv_has ls 4 [(0, .ref (z 0)), (1, .int x), (2, .int k)] := hl
  have hin5 : ∀ w ∈ wsX50, w ∈ wsX5_turn := by decide +kernel
  refine lv_aload_n hx hb dX5_turn_0 rfl (lv_at hl 0 rfl) ?_
  refine lv_iload_n hx hb dX5_turn_1 rfl (lv_at hl 1 rfl) ?_
  refine ro_Vi (post := bI (inN x (gT gs))) (As := [.int x]) (rest := []) ⟨hx, hb, hml, hown, hts⟩ (c_X5_isTest l D z c gs x (by omega)) (cwV 1 hts gX5_turn_X5_isTest rfl rfl rfl (by decide +kernel) ⟨Nat.le_of_ble_eq_true rfl, Nat.le_of_ble_eq_true rfl⟩) hP hK (va_recv hK.1 hP (ci := 5) (q0 := 0) rfl rfl) rfl hl.1 rfl (Nat.le_of_ble_eq_true rfl) dX5_turn_2 ⟨Nat.le_of_ble_eq_true rfl, Nat.le_of_ble_eq_true rfl⟩ ?_
  refine lv_if_eq (tgt := 22) hx hb dX5_turn_5 (by decide) (fun c5 => ?_) (fun c5 => ?_)
  · -- 5 True
    have c5 := bI_z.mp c5
    refine lv_iconst (v := (-1)) hx hb dX5_turn_22 (by decide) ?_
    have e9 : gTurn x k gs = ((-1), gs) := by simp [gTurn, c5]
    rw [e9]
    exact mu_reti hx hb hr hlk hP hD hS (rfl) dX5_turn_23
  · -- 5 False
    have c5 := bI_nz.mp c5
    obtain ⟨t, ht, rfl⟩ := inN_ex (by omega) c5
    refine lv_iload_n hx hb dX5_turn_8 rfl (lv_at hl 2 rfl) ?_
    refine lv_iconst (v := 0) hx hb dX5_turn_9 (by decide) ?_
    refine lv_iconst (v := 3) hx hb dX5_turn_10 (by decide) ?_
    refine ro_Si (As := [.int k, .int 0, .int 3]) (rest := []) ⟨hx, hb, hml, hown, hts⟩ (c_X5_in l D c k 0 3) (va_cwS 3 hts gX5_turn_X5_in rfl rfl rfl (by decide +kernel) ⟨Nat.le_of_ble_eq_true rfl, Nat.le_of_ble_eq_true rfl⟩) va_P0 hK rfl hl.1 rfl (Nat.le_of_ble_eq_true rfl) dX5_turn_11 ⟨Nat.le_of_ble_eq_true rfl, Nat.le_of_ble_eq_true rfl⟩ ?_
    refine lv_if_eq (tgt := 22) hx hb dX5_turn_14 (by decide) (fun c14 => ?_) (fun c14 => ?_)
    · -- 14 True
      have c14 := bI_z.mp c14
      refine lv_iconst (v := (-1)) hx hb dX5_turn_22 (by decide) ?_
      have e9 : gTurn (nI t) k gs = ((-1), gs) := by simp [gTurn, c5, c14, nI_clamp (show t < 2 ^ 31 by omega)]
      rw [e9]
      exact mu_reti hx hb hr hlk hP hD hS (rfl) dX5_turn_23
    · -- 14 False
      have c14 := bI_nz.mp c14
      refine lv_iload_n hx hb dX5_turn_17 rfl (lv_at hl 2 rfl) ?_
      refine lv_iconst (v := 2) hx hb dX5_turn_18 (by decide) ?_
      refine lv_icmp_ne (tgt := 24) hx hb dX5_turn_19 (by decide) (fun c19 => ?_) (fun c19 => ?_)
      · -- 19 True
        refine lv_aload_n hx hb dX5_turn_24 rfl (lv_at hl 0 rfl) ?_
        refine va_get (D := D) (ci := 5) (v := .ref (z 2)) (C := RX5) (T := TX5) (N := 19) hx hb hts hin5 hown hK.1 hP 0 rfl rfl 3 (by decide) (hts (.fieldLink RX5 13 "TestPickerModel" "kinds" "[I") (by decide +kernel)) (fun _ h9 => h9) rfl dX5_turn_25 ?_
        refine lv_iload_n hx hb dX5_turn_28 rfl (lv_at hl 1 rfl) ?_
        refine ld_i hx hb hK hP 2 (f := gKd gs) rfl (i := t) (by omega) (by decide) dX5_turn_29 ?_
        refine lv_iconst (v := 2) hx hb dX5_turn_30 (by decide) ?_
        refine lv_icmp_ne (tgt := 40) hx hb dX5_turn_31 (by decide) (fun c31 => ?_) (fun c31 => ?_)
        · -- 31 True
          refine lv_aload_n hx hb dX5_turn_40 rfl (lv_at hl 0 rfl) ?_
          refine va_get (D := D) (ci := 5) (v := .ref (z 2)) (C := RX5) (T := TX5) (N := 19) hx hb hts hin5 hown hK.1 hP 0 rfl rfl 3 (by decide) (hts (.fieldLink RX5 13 "TestPickerModel" "kinds" "[I") (by decide +kernel)) (fun _ h9 => h9) rfl dX5_turn_41 ?_
          refine lv_iload_n hx hb dX5_turn_44 rfl (lv_at hl 1 rfl) ?_
          refine ld_i hx hb hK hP 2 (f := gKd gs) rfl (i := t) (by omega) (by decide) dX5_turn_45 ?_
          refine lv_istore_n (lv' := [(3, .int (gKd gs t)), (0, .ref (z 0)), (1, .int (nI t)), (2, .int k)]) hx hb dX5_turn_46 rfl hl (by decide) rfl (fun ls hl => ?_)
          refine lv_aload_n hx hb dX5_turn_47 rfl (lv_at hl 1 rfl) ?_
          refine va_get (D := D) (ci := 5) (v := .ref (z 2)) (C := RX5) (T := TX5) (N := 19) hx hb hts hin5 hown hK.1 hP 0 rfl rfl 3 (by decide) (hts (.fieldLink RX5 13 "TestPickerModel" "kinds" "[I") (by decide +kernel)) (fun _ h9 => h9) rfl dX5_turn_48 ?_
          refine lv_iload_n hx hb dX5_turn_51 rfl (lv_at hl 2 rfl) ?_
          refine lv_iload_n hx hb dX5_turn_52 rfl (lv_at hl 3 rfl) ?_
          refine st_i hx hb hK hP hD hS 2 rfl (i := t) (by omega) (by decide) dX5_turn_53 (fun H locs hP hD hS => ?_)
          have hP : va_P D vwCl (wG z c (gFi gs, gFs gs, gT gs, (upd (gKd gs) t k), gTi gs, gNd gs, gMs gs, gBy gs, gB gs, gCg gs, gVe gs, gAs gs, gMv gs, gPm gs, gPk gs, gPt gs, gPp gs, gPs gs, gMay gs)) H := hP
          have hD : va_D (va_A (wG z c gs) s.heap.size) (wG z c (gFi gs, gFs gs, gT gs, (upd (gKd gs) t k), gTi gs, gNd gs, gMs gs, gBy gs, gB gs, gCg gs, gVe gs, gAs gs, gMv gs, gPm gs, gPk gs, gPt gs, gPp gs, gPs gs, gMay gs)) := hD
          refine lv_iload_n hx hb dX5_turn_54 rfl (lv_at hl 0 rfl) ?_
          have e9 : gTurn (nI t) k gs = ((gKd gs t), (gFi gs, gFs gs, gT gs, (upd (gKd gs) t k), gTi gs, gNd gs, gMs gs, gBy gs, gB gs, gCg gs, gVe gs, gAs gs, gMv gs, gPm gs, gPk gs, gPt gs, gPp gs, gPs gs, gMay gs)) := by simp [gTurn, c5, c14, c19, c31, nI_clamp (show t < 2 ^ 31 by omega)]
          rw [e9]
          exact mu_reti hx hb hr hlk hP hD hS (rfl) dX5_turn_55
        · -- 31 False
          refine lv_aload_n hx hb dX5_turn_34 rfl (lv_at hl 0 rfl) ?_
          refine lv_iconst (v := 3) hx hb dX5_turn_35 (by decide) ?_
          refine mu_Vi (As := [.int 3]) (rest := []) (wr := []) (wk := wG z c (metG gs 3)) [0, 1, 2, 3, 4, 5, 6, 7, 8, 9, 10, 11] [] [0, 1, 2, 3, 4, 5, 6, 7, 8, 9, 10, 11] ⟨hx, hb, hml, hown, hts⟩ (c_X5_meets l D z c gs 3 (by omega)) (cwV 1 hts gX5_turn_X5_meets rfl rfl rfl (by decide +kernel) ⟨Nat.le_of_ble_eq_true rfl, Nat.le_of_ble_eq_true rfl⟩) hP hK hD hS hA (va_recv hK.1 hP (ci := 5) (q0 := 0) rfl rfl) rfl rfl (by decide) (by decide) (by decide) (by decide) rfl rfl hl.1 rfl (Nat.le_of_ble_eq_true rfl) dX5_turn_36 ⟨Nat.le_of_ble_eq_true rfl, Nat.le_of_ble_eq_true rfl⟩ (fun H locs hP hD hS => ?_)
          have e9 : gTurn (nI t) k gs = ((-3), (metG gs 3)) := by simp [gTurn, c5, c14, c19, eq_true c31, nI_clamp (show t < 2 ^ 31 by omega)]
          rw [e9]
          exact mu_reti hx hb hr hlk hP hD hS (rfl) dX5_turn_39
      · -- 19 False
        refine lv_iconst (v := (-1)) hx hb dX5_turn_22 (by decide) ?_
        have e9 : gTurn (nI t) k gs = ((-1), gs) := by simp [gTurn, c5, c14, eq_true c19, nI_clamp (show t < 2 ^ 31 by omega)]
        rw [e9]
        exact mu_reti hx hb hr hlk hP hD hS (rfl) dX5_turn_23

set_option maxHeartbeats 4000000 in
set_option maxRecDepth 100000 in
theorem c_X5_reach (l : Launch) (D : va_G) (z : Nat → Nat) (c : CT) (gs : GS) (x i b : Int32) (hT : gT gs ≤ 20) : MUi l yX5_reach wsX5_reach ({ frames := 2, cells := 0, slots := 0, locals := 43 } : Room) [.ref (z 0), .int x, .int i, .int b] D c (wG z c gs) (wG z c (gReach x i b gs).2) ((gReach x i b gs).1) := by
  refine mu_start (cc := cX5_reach) (maxL := 5) (ret := some .int) (by decide) rfl (Nat.le_of_ble_eq_true rfl) ?_
  intro p e s m args below meth c0 ls hx hb hr hml hown hts hlk hnm hP hK hD hS hA hl
  have hown : s.vm.findClass RX5 = some m.cls := hown
  have hl : lv_has ls 5 [(0, .ref (z 0)), (1, .int x), (2, .int i), (3, .int b)] := hl
  have hin5 : ∀ w ∈ wsX50, w ∈ wsX5_reach := by decide +kernel
  refine lv_aload_n hx hb dX5_reach_0 rfl (lv_at hl 0 rfl) ?_
  refine lv_iload_n hx hb dX5_reach_1 rfl (lv_at hl 1 rfl) ?_
  refine ro_Vi (post := bI (inN x (gT gs))) (As := [.int x]) (rest := []) ⟨hx, hb, hml, hown, hts⟩ (c_X5_isTest l D z c gs x (by omega)) (cwV 1 hts gX5_reach_X5_isTest rfl rfl rfl (by decide +kernel) ⟨Nat.le_of_ble_eq_true rfl, Nat.le_of_ble_eq_true rfl⟩) hP hK (va_recv hK.1 hP (ci := 5) (q0 := 0) rfl rfl) rfl hl.1 rfl (Nat.le_of_ble_eq_true rfl) dX5_reach_2 ⟨Nat.le_of_ble_eq_true rfl, Nat.le_of_ble_eq_true rfl⟩ ?_
  refine lv_if_eq (tgt := 19) hx hb dX5_reach_5 (by decide) (fun c5 => ?_) (fun c5 => ?_)
  · -- 5 True
    have c5 := bI_z.mp c5
    refine lv_iconst (v := (-1)) hx hb dX5_reach_19 (by decide) ?_
    have e9 : gReach x i b gs = ((-1), gs) := by simp [gReach, c5]
    rw [e9]
    exact mu_reti hx hb hr hlk hP hD hS (rfl) dX5_reach_20
  · -- 5 False
    have c5 := bI_nz.mp c5
    obtain ⟨t, ht, rfl⟩ := inN_ex (by omega) c5
    refine lv_iload_n hx hb dX5_reach_8 rfl (lv_at hl 3 rfl) ?_
    refine lv_iconst (v := 0) hx hb dX5_reach_9 (by decide) ?_
    refine lv_sipush (v := 255) hx hb dX5_reach_10 (by decide) ?_
    refine ro_Si (As := [.int b, .int 0, .int 255]) (rest := []) ⟨hx, hb, hml, hown, hts⟩ (c_X5_in l D c b 0 255) (va_cwS 3 hts gX5_reach_X5_in rfl rfl rfl (by decide +kernel) ⟨Nat.le_of_ble_eq_true rfl, Nat.le_of_ble_eq_true rfl⟩) va_P0 hK rfl hl.1 rfl (Nat.le_of_ble_eq_true rfl) dX5_reach_13 ⟨Nat.le_of_ble_eq_true rfl, Nat.le_of_ble_eq_true rfl⟩ ?_
    refine lv_if_ne (tgt := 21) hx hb dX5_reach_16 (by decide) (fun c16 => ?_) (fun c16 => ?_)
    · -- 16 True
      have c16 := bI_nz.mp c16
      refine lv_aload_n hx hb dX5_reach_21 rfl (lv_at hl 0 rfl) ?_
      refine va_get (D := D) (ci := 5) (v := .ref (z 5)) (C := RX5) (T := TX5) (N := 19) hx hb hts hin5 hown hK.1 hP 0 rfl rfl 6 (by decide) (hts (.fieldLink RX5 22 "TestPickerModel" "missing" "[Z") (by decide +kernel)) (fun _ h9 => h9) rfl dX5_reach_22 ?_
      refine lv_iload_n hx hb dX5_reach_25 rfl (lv_at hl 1 rfl) ?_
      refine ld_z hx hb hK hP 5 (f := gMs gs) rfl (i := t) (by omega) (by decide) dX5_reach_26 ?_
      refine lv_if_eq (tgt := 36) hx hb dX5_reach_27 (by decide) (fun c27 => ?_) (fun c27 => ?_)
      · -- 27 True
        refine lv_iload_n hx hb dX5_reach_36 rfl (lv_at hl 2 rfl) ?_
        refine lv_iconst (v := 0) hx hb dX5_reach_37 (by decide) ?_
        refine lv_iconst (v := 4) hx hb dX5_reach_38 (by decide) ?_
        refine ro_Si (As := [.int i, .int 0, .int 4]) (rest := []) ⟨hx, hb, hml, hown, hts⟩ (c_X5_in l D c i 0 4) (va_cwS 3 hts gX5_reach_X5_in rfl rfl rfl (by decide +kernel) ⟨Nat.le_of_ble_eq_true rfl, Nat.le_of_ble_eq_true rfl⟩) va_P0 hK rfl hl.1 rfl (Nat.le_of_ble_eq_true rfl) dX5_reach_39 ⟨Nat.le_of_ble_eq_true rfl, Nat.le_of_ble_eq_true rfl⟩ ?_
        refine lv_if_ne (tgt := 51) hx hb dX5_reach_42 (by decide) (fun c42 => ?_) (fun c42 => ?_)
        · -- 42 True
          have c42 := bI_nz.mp c42
          obtain ⟨j, hj, rfl⟩ := rg_ex (N := 4) rfl c42
          refine lv_aload_n hx hb dX5_reach_51 rfl (lv_at hl 0 rfl) ?_
          refine va_get (D := D) (ci := 5) (v := .ref (z 6)) (C := RX5) (T := TX5) (N := 19) hx hb hts hin5 hown hK.1 hP 0 rfl rfl 7 (by decide) (hts (.fieldLink RX5 26 "TestPickerModel" "bytes" "[I") (by decide +kernel)) (fun _ h9 => h9) rfl dX5_reach_52 ?_
          refine lv_iconst (v := 5) hx hb dX5_reach_55 (by decide) ?_
          refine lv_iload_n hx hb dX5_reach_56 rfl (lv_at hl 1 rfl) ?_
          refine lv_imul hx hb dX5_reach_57 ?_
          refine lv_iload_n hx hb dX5_reach_58 rfl (lv_at hl 2 rfl) ?_
          refine lv_iadd hx hb dX5_reach_59 ?_
          refine tp_i (z := nI (5 * t + j)) (ix5 _ _) ?_
          refine ld_i hx hb hK hP 6 (f := gBy gs) rfl (i := (5 * t + j)) (by omega) (by decide) dX5_reach_60 ?_
          refine lv_istore (lv' := [(4, .int (gBy gs (5 * t + j))), (0, .ref (z 0)), (1, .int (nI t)), (2, .int (nI j)), (3, .int b)]) hx hb dX5_reach_61 hl (by decide) rfl (fun ls hl => ?_)
          refine lv_aload_n hx hb dX5_reach_63 rfl (lv_at hl 1 rfl) ?_
          refine va_get (D := D) (ci := 5) (v := .ref (z 6)) (C := RX5) (T := TX5) (N := 19) hx hb hts hin5 hown hK.1 hP 0 rfl rfl 7 (by decide) (hts (.fieldLink RX5 26 "TestPickerModel" "bytes" "[I") (by decide +kernel)) (fun _ h9 => h9) rfl dX5_reach_64 ?_
          refine lv_iconst (v := 5) hx hb dX5_reach_67 (by decide) ?_
          refine lv_iload_n hx hb dX5_reach_68 rfl (lv_at hl 2 rfl) ?_
          refine lv_imul hx hb dX5_reach_69 ?_
          refine lv_iload_n hx hb dX5_reach_70 rfl (lv_at hl 3 rfl) ?_
          refine lv_iadd hx hb dX5_reach_71 ?_
          refine tp_i (z := nI (5 * t + j)) (ix5 _ _) ?_
          refine lv_iload_n hx hb dX5_reach_72 rfl (lv_at hl 4 rfl) ?_
          refine st_i hx hb hK hP hD hS 6 rfl (i := (5 * t + j)) (by omega) (by decide) dX5_reach_73 (fun H locs hP hD hS => ?_)
          have hP : va_P D vwCl (wG z c (gFi gs, gFs gs, gT gs, gKd gs, gTi gs, gNd gs, gMs gs, (upd (gBy gs) (5 * t + j) b), gB gs, gCg gs, gVe gs, gAs gs, gMv gs, gPm gs, gPk gs, gPt gs, gPp gs, gPs gs, gMay gs)) H := hP
          have hD : va_D (va_A (wG z c gs) s.heap.size) (wG z c (gFi gs, gFs gs, gT gs, gKd gs, gTi gs, gNd gs, gMs gs, (upd (gBy gs) (5 * t + j) b), gB gs, gCg gs, gVe gs, gAs gs, gMv gs, gPm gs, gPk gs, gPt gs, gPp gs, gPs gs, gMay gs)) := hD
          refine lv_iload hx hb dX5_reach_74 (lv_at hl 0 rfl) ?_
          have e9 : gReach (nI t) (nI j) b gs = ((gBy gs (5 * t + j)), (gFi gs, gFs gs, gT gs, gKd gs, gTi gs, gNd gs, gMs gs, (upd (gBy gs) (5 * t + j) b), gB gs, gCg gs, gVe gs, gAs gs, gMv gs, gPm gs, gPk gs, gPt gs, gPp gs, gPs gs, gMay gs)) := by simp [gReach, c5, c16, eq_true c27, c42, nI_clamp (show t < 2 ^ 31 by omega), nI_clamp (show j < 2 ^ 31 by omega)]
          rw [e9]
          exact mu_reti hx hb hr hlk hP hD hS (rfl) dX5_reach_76
        · -- 42 False
          have c42 := bI_z.mp c42
          refine lv_aload_n hx hb dX5_reach_45 rfl (lv_at hl 0 rfl) ?_
          refine lv_iconst (v := 2) hx hb dX5_reach_46 (by decide) ?_
          refine mu_Vi (As := [.int 2]) (rest := []) (wr := []) (wk := wG z c (metG gs 2)) [0, 1, 2, 3, 4, 5, 6, 7, 8, 9, 10, 11] [] [0, 1, 2, 3, 4, 5, 6, 7, 8, 9, 10, 11] ⟨hx, hb, hml, hown, hts⟩ (c_X5_meets l D z c gs 2 (by omega)) (cwV 1 hts gX5_reach_X5_meets rfl rfl rfl (by decide +kernel) ⟨Nat.le_of_ble_eq_true rfl, Nat.le_of_ble_eq_true rfl⟩) hP hK hD hS hA (va_recv hK.1 hP (ci := 5) (q0 := 0) rfl rfl) rfl rfl (by decide) (by decide) (by decide) (by decide) rfl rfl hl.1 rfl (Nat.le_of_ble_eq_true rfl) dX5_reach_47 ⟨Nat.le_of_ble_eq_true rfl, Nat.le_of_ble_eq_true rfl⟩ (fun H locs hP hD hS => ?_)
          have e9 : gReach (nI t) i b gs = ((-3), (metG gs 2)) := by simp [gReach, c5, c16, eq_true c27, c42, nI_clamp (show t < 2 ^ 31 by omega)]
          rw [e9]
          exact mu_reti hx hb hr hlk hP hD hS (rfl) dX5_reach_50
      · -- 27 False
        refine lv_aload_n hx hb dX5_reach_30 rfl (lv_at hl 0 rfl) ?_
        refine lv_iconst (v := 1) hx hb dX5_reach_31 (by decide) ?_
        refine mu_Vi (As := [.int 1]) (rest := []) (wr := []) (wk := wG z c (metG gs 1)) [0, 1, 2, 3, 4, 5, 6, 7, 8, 9, 10, 11] [] [0, 1, 2, 3, 4, 5, 6, 7, 8, 9, 10, 11] ⟨hx, hb, hml, hown, hts⟩ (c_X5_meets l D z c gs 1 (by omega)) (cwV 1 hts gX5_reach_X5_meets rfl rfl rfl (by decide +kernel) ⟨Nat.le_of_ble_eq_true rfl, Nat.le_of_ble_eq_true rfl⟩) hP hK hD hS hA (va_recv hK.1 hP (ci := 5) (q0 := 0) rfl rfl) rfl rfl (by decide) (by decide) (by decide) (by decide) rfl rfl hl.1 rfl (Nat.le_of_ble_eq_true rfl) dX5_reach_32 ⟨Nat.le_of_ble_eq_true rfl, Nat.le_of_ble_eq_true rfl⟩ (fun H locs hP hD hS => ?_)
        have e9 : gReach (nI t) i b gs = ((-3), (metG gs 1)) := by simp [gReach, c5, c16, c27, nI_clamp (show t < 2 ^ 31 by omega)]
        rw [e9]
        exact mu_reti hx hb hr hlk hP hD hS (rfl) dX5_reach_35
    · -- 16 False
      have c16 := bI_z.mp c16
      refine lv_iconst (v := (-1)) hx hb dX5_reach_19 (by decide) ?_
      have e9 : gReach (nI t) i b gs = ((-1), gs) := by simp [gReach, c5, c16, nI_clamp (show t < 2 ^ 31 by omega)]
      rw [e9]
      exact mu_reti hx hb hr hlk hP hD hS (rfl) dX5_reach_20

set_option maxHeartbeats 4000000 in
set_option maxRecDepth 100000 in
theorem c_X5_byteOf (l : Launch) (D : va_G) (z : Nat → Nat) (c : CT) (gs : GS) (x i : Int32) (hT : gT gs ≤ 20) : MUi l yX5_byteOf wsX5_byteOf ({ frames := 2, cells := 0, slots := 0, locals := 43 } : Room) [.ref (z 0), .int x, .int i] D c (wG z c gs) (wG z c (gByteOf x i gs).2) ((gByteOf x i gs).1) := by
  refine mu_start (cc := cX5_byteOf) (maxL := 3) (ret := some .int) (by decide) rfl (Nat.le_of_ble_eq_true rfl) ?_
  intro p e s m args below meth c0 ls hx hb hr hml hown hts hlk hnm hP hK hD hS hA hl
  have hown : s.vm.findClass RX5 = some m.cls := hown
  have hl : lv_has ls 3 [(0, .ref (z 0)), (1, .int x), (2, .int i)] := hl
  have hin5 : ∀ w ∈ wsX50, w ∈ wsX5_byteOf := by decide +kernel
  refine lv_aload_n hx hb dX5_byteOf_0 rfl (lv_at hl 0 rfl) ?_
  refine lv_iload_n hx hb dX5_byteOf_1 rfl (lv_at hl 1 rfl) ?_
  refine ro_Vi (post := bI (inN x (gT gs))) (As := [.int x]) (rest := []) ⟨hx, hb, hml, hown, hts⟩ (c_X5_isTest l D z c gs x (by omega)) (cwV 1 hts gX5_byteOf_X5_isTest rfl rfl rfl (by decide +kernel) ⟨Nat.le_of_ble_eq_true rfl, Nat.le_of_ble_eq_true rfl⟩) hP hK (va_recv hK.1 hP (ci := 5) (q0 := 0) rfl rfl) rfl hl.1 rfl (Nat.le_of_ble_eq_true rfl) dX5_byteOf_2 ⟨Nat.le_of_ble_eq_true rfl, Nat.le_of_ble_eq_true rfl⟩ ?_
  refine lv_if_ne (tgt := 10) hx hb dX5_byteOf_5 (by decide) (fun c5 => ?_) (fun c5 => ?_)
  · -- 5 True
    have c5 := bI_nz.mp c5
    obtain ⟨t, ht, rfl⟩ := inN_ex (by omega) c5
    refine lv_aload_n hx hb dX5_byteOf_10 rfl (lv_at hl 0 rfl) ?_
    refine va_get (D := D) (ci := 5) (v := .ref (z 5)) (C := RX5) (T := TX5) (N := 19) hx hb hts hin5 hown hK.1 hP 0 rfl rfl 6 (by decide) (hts (.fieldLink RX5 22 "TestPickerModel" "missing" "[Z") (by decide +kernel)) (fun _ h9 => h9) rfl dX5_byteOf_11 ?_
    refine lv_iload_n hx hb dX5_byteOf_14 rfl (lv_at hl 1 rfl) ?_
    refine ld_z hx hb hK hP 5 (f := gMs gs) rfl (i := t) (by omega) (by decide) dX5_byteOf_15 ?_
    refine lv_if_eq (tgt := 25) hx hb dX5_byteOf_16 (by decide) (fun c16 => ?_) (fun c16 => ?_)
    · -- 16 True
      refine lv_iload_n hx hb dX5_byteOf_25 rfl (lv_at hl 2 rfl) ?_
      refine lv_iconst (v := 0) hx hb dX5_byteOf_26 (by decide) ?_
      refine lv_iconst (v := 4) hx hb dX5_byteOf_27 (by decide) ?_
      refine ro_Si (As := [.int i, .int 0, .int 4]) (rest := []) ⟨hx, hb, hml, hown, hts⟩ (c_X5_in l D c i 0 4) (va_cwS 3 hts gX5_byteOf_X5_in rfl rfl rfl (by decide +kernel) ⟨Nat.le_of_ble_eq_true rfl, Nat.le_of_ble_eq_true rfl⟩) va_P0 hK rfl hl.1 rfl (Nat.le_of_ble_eq_true rfl) dX5_byteOf_28 ⟨Nat.le_of_ble_eq_true rfl, Nat.le_of_ble_eq_true rfl⟩ ?_
      refine lv_if_eq (tgt := 47) hx hb dX5_byteOf_31 (by decide) (fun c31 => ?_) (fun c31 => ?_)
      · -- 31 True
        have c31 := bI_z.mp c31
        refine lv_aload_n hx hb dX5_byteOf_47 rfl (lv_at hl 0 rfl) ?_
        refine lv_iconst (v := 2) hx hb dX5_byteOf_48 (by decide) ?_
        refine mu_Vi (As := [.int 2]) (rest := []) (wr := []) (wk := wG z c (metG gs 2)) [0, 1, 2, 3, 4, 5, 6, 7, 8, 9, 10, 11] [] [0, 1, 2, 3, 4, 5, 6, 7, 8, 9, 10, 11] ⟨hx, hb, hml, hown, hts⟩ (c_X5_meets l D z c gs 2 (by omega)) (cwV 1 hts gX5_byteOf_X5_meets rfl rfl rfl (by decide +kernel) ⟨Nat.le_of_ble_eq_true rfl, Nat.le_of_ble_eq_true rfl⟩) hP hK hD hS hA (va_recv hK.1 hP (ci := 5) (q0 := 0) rfl rfl) rfl rfl (by decide) (by decide) (by decide) (by decide) rfl rfl hl.1 rfl (Nat.le_of_ble_eq_true rfl) dX5_byteOf_49 ⟨Nat.le_of_ble_eq_true rfl, Nat.le_of_ble_eq_true rfl⟩ (fun H locs hP hD hS => ?_)
        have e9 : gByteOf (nI t) i gs = ((-3), (metG gs 2)) := by simp [gByteOf, c5, eq_true c16, c31, nI_clamp (show t < 2 ^ 31 by omega)]
        rw [e9]
        exact mu_reti hx hb hr hlk hP hD hS (rfl) dX5_byteOf_52
      · -- 31 False
        have c31 := bI_nz.mp c31
        obtain ⟨j, hj, rfl⟩ := rg_ex (N := 4) rfl c31
        refine lv_aload_n hx hb dX5_byteOf_34 rfl (lv_at hl 0 rfl) ?_
        refine va_get (D := D) (ci := 5) (v := .ref (z 6)) (C := RX5) (T := TX5) (N := 19) hx hb hts hin5 hown hK.1 hP 0 rfl rfl 7 (by decide) (hts (.fieldLink RX5 26 "TestPickerModel" "bytes" "[I") (by decide +kernel)) (fun _ h9 => h9) rfl dX5_byteOf_35 ?_
        refine lv_iconst (v := 5) hx hb dX5_byteOf_38 (by decide) ?_
        refine lv_iload_n hx hb dX5_byteOf_39 rfl (lv_at hl 1 rfl) ?_
        refine lv_imul hx hb dX5_byteOf_40 ?_
        refine lv_iload_n hx hb dX5_byteOf_41 rfl (lv_at hl 2 rfl) ?_
        refine lv_iadd hx hb dX5_byteOf_42 ?_
        refine tp_i (z := nI (5 * t + j)) (ix5 _ _) ?_
        refine ld_i hx hb hK hP 6 (f := gBy gs) rfl (i := (5 * t + j)) (by omega) (by decide) dX5_byteOf_43 ?_
        refine lv_goto (tgt := 52) hx hb dX5_byteOf_44 (by decide) ?_
        have e9 : gByteOf (nI t) (nI j) gs = ((gBy gs (5 * t + j)), gs) := by simp [gByteOf, c5, eq_true c16, c31, nI_clamp (show t < 2 ^ 31 by omega), nI_clamp (show j < 2 ^ 31 by omega)]
        rw [e9]
        exact mu_reti hx hb hr hlk hP hD hS (rfl) dX5_byteOf_52
    · -- 16 False
      refine lv_aload_n hx hb dX5_byteOf_19 rfl (lv_at hl 0 rfl) ?_
      refine lv_iconst (v := 1) hx hb dX5_byteOf_20 (by decide) ?_
      refine mu_Vi (As := [.int 1]) (rest := []) (wr := []) (wk := wG z c (metG gs 1)) [0, 1, 2, 3, 4, 5, 6, 7, 8, 9, 10, 11] [] [0, 1, 2, 3, 4, 5, 6, 7, 8, 9, 10, 11] ⟨hx, hb, hml, hown, hts⟩ (c_X5_meets l D z c gs 1 (by omega)) (cwV 1 hts gX5_byteOf_X5_meets rfl rfl rfl (by decide +kernel) ⟨Nat.le_of_ble_eq_true rfl, Nat.le_of_ble_eq_true rfl⟩) hP hK hD hS hA (va_recv hK.1 hP (ci := 5) (q0 := 0) rfl rfl) rfl rfl (by decide) (by decide) (by decide) (by decide) rfl rfl hl.1 rfl (Nat.le_of_ble_eq_true rfl) dX5_byteOf_21 ⟨Nat.le_of_ble_eq_true rfl, Nat.le_of_ble_eq_true rfl⟩ (fun H locs hP hD hS => ?_)
      have e9 : gByteOf (nI t) i gs = ((-3), (metG gs 1)) := by simp [gByteOf, c5, c16, nI_clamp (show t < 2 ^ 31 by omega)]
      rw [e9]
      exact mu_reti hx hb hr hlk hP hD hS (rfl) dX5_byteOf_24
  · -- 5 False
    have c5 := bI_z.mp c5
    refine lv_iconst (v := (-1)) hx hb dX5_byteOf_8 (by decide) ?_
    have e9 : gByteOf x i gs = ((-1), gs) := by simp [gByteOf, c5]
    rw [e9]
    exact mu_reti hx hb hr hlk hP hD hS (rfl) dX5_byteOf_9

set_option maxHeartbeats 4000000 in
set_option maxRecDepth 100000 in
theorem c_X5_tear (l : Launch) (D : va_G) (z : Nat → Nat) (c : CT) (gs : GS) (x : Int32) (hT : gT gs ≤ 20) : MUi l yX5_tear wsX5_tear ({ frames := 2, cells := 0, slots := 0, locals := 43 } : Room) [.ref (z 0), .int x] D c (wG z c gs) (wG z c (gTear x gs).2) ((gTear x gs).1) := by
  refine mu_start (cc := cX5_tear) (maxL := 2) (ret := some .int) (by decide) rfl (Nat.le_of_ble_eq_true rfl) ?_
  intro p e s m args below meth c0 ls hx hb hr hml hown hts hlk hnm hP hK hD hS hA hl
  have hown : s.vm.findClass RX5 = some m.cls := hown
  have hl : lv_has ls 2 [(0, .ref (z 0)), (1, .int x)] := hl
  have hin5 : ∀ w ∈ wsX50, w ∈ wsX5_tear := by decide +kernel
  refine lv_aload_n hx hb dX5_tear_0 rfl (lv_at hl 0 rfl) ?_
  refine lv_iload_n hx hb dX5_tear_1 rfl (lv_at hl 1 rfl) ?_
  refine ro_Vi (post := bI (inN x (gT gs))) (As := [.int x]) (rest := []) ⟨hx, hb, hml, hown, hts⟩ (c_X5_isTest l D z c gs x (by omega)) (cwV 1 hts gX5_tear_X5_isTest rfl rfl rfl (by decide +kernel) ⟨Nat.le_of_ble_eq_true rfl, Nat.le_of_ble_eq_true rfl⟩) hP hK (va_recv hK.1 hP (ci := 5) (q0 := 0) rfl rfl) rfl hl.1 rfl (Nat.le_of_ble_eq_true rfl) dX5_tear_2 ⟨Nat.le_of_ble_eq_true rfl, Nat.le_of_ble_eq_true rfl⟩ ?_
  refine lv_if_ne (tgt := 10) hx hb dX5_tear_5 (by decide) (fun c5 => ?_) (fun c5 => ?_)
  · -- 5 True
    have c5 := bI_nz.mp c5
    obtain ⟨t, ht, rfl⟩ := inN_ex (by omega) c5
    refine lv_aload_n hx hb dX5_tear_10 rfl (lv_at hl 0 rfl) ?_
    refine va_get (D := D) (ci := 5) (v := .ref (z 5)) (C := RX5) (T := TX5) (N := 19) hx hb hts hin5 hown hK.1 hP 0 rfl rfl 6 (by decide) (hts (.fieldLink RX5 22 "TestPickerModel" "missing" "[Z") (by decide +kernel)) (fun _ h9 => h9) rfl dX5_tear_11 ?_
    refine lv_iload_n hx hb dX5_tear_14 rfl (lv_at hl 1 rfl) ?_
    refine ld_z hx hb hK hP 5 (f := gMs gs) rfl (i := t) (by omega) (by decide) dX5_tear_15 ?_
    refine lv_if_eq (tgt := 25) hx hb dX5_tear_16 (by decide) (fun c16 => ?_) (fun c16 => ?_)
    · -- 16 True
      refine lv_aload_n hx hb dX5_tear_25 rfl (lv_at hl 0 rfl) ?_
      refine va_get (D := D) (ci := 5) (v := .ref (z 5)) (C := RX5) (T := TX5) (N := 19) hx hb hts hin5 hown hK.1 hP 0 rfl rfl 6 (by decide) (hts (.fieldLink RX5 22 "TestPickerModel" "missing" "[Z") (by decide +kernel)) (fun _ h9 => h9) rfl dX5_tear_26 ?_
      refine lv_iload_n hx hb dX5_tear_29 rfl (lv_at hl 1 rfl) ?_
      refine lv_iconst (v := 1) hx hb dX5_tear_30 (by decide) ?_
      refine st_z hx hb hK hP hD hS 5 rfl (i := t) (by omega) (by decide) (by decide) dX5_tear_31 (fun H locs hP hD hS => ?_)
      have hP : va_P D vwCl (wG z c (gFi gs, gFs gs, gT gs, gKd gs, gTi gs, gNd gs, (upd (gMs gs) t 1), gBy gs, gB gs, gCg gs, gVe gs, gAs gs, gMv gs, gPm gs, gPk gs, gPt gs, gPp gs, gPs gs, gMay gs)) H := hP
      have hD : va_D (va_A (wG z c gs) s.heap.size) (wG z c (gFi gs, gFs gs, gT gs, gKd gs, gTi gs, gNd gs, (upd (gMs gs) t 1), gBy gs, gB gs, gCg gs, gVe gs, gAs gs, gMv gs, gPm gs, gPk gs, gPt gs, gPp gs, gPs gs, gMay gs)) := hD
      refine lv_iconst (v := 1) hx hb dX5_tear_32 (by decide) ?_
      have e9 : gTear (nI t) gs = (1, (gFi gs, gFs gs, gT gs, gKd gs, gTi gs, gNd gs, (upd (gMs gs) t 1), gBy gs, gB gs, gCg gs, gVe gs, gAs gs, gMv gs, gPm gs, gPk gs, gPt gs, gPp gs, gPs gs, gMay gs)) := by simp [gTear, c5, eq_true c16, nI_clamp (show t < 2 ^ 31 by omega)]
      rw [e9]
      exact mu_reti hx hb hr hlk hP hD hS (rfl) dX5_tear_33
    · -- 16 False
      refine lv_aload_n hx hb dX5_tear_19 rfl (lv_at hl 0 rfl) ?_
      refine lv_iconst (v := 1) hx hb dX5_tear_20 (by decide) ?_
      refine mu_Vi (As := [.int 1]) (rest := []) (wr := []) (wk := wG z c (metG gs 1)) [0, 1, 2, 3, 4, 5, 6, 7, 8, 9, 10, 11] [] [0, 1, 2, 3, 4, 5, 6, 7, 8, 9, 10, 11] ⟨hx, hb, hml, hown, hts⟩ (c_X5_meets l D z c gs 1 (by omega)) (cwV 1 hts gX5_tear_X5_meets rfl rfl rfl (by decide +kernel) ⟨Nat.le_of_ble_eq_true rfl, Nat.le_of_ble_eq_true rfl⟩) hP hK hD hS hA (va_recv hK.1 hP (ci := 5) (q0 := 0) rfl rfl) rfl rfl (by decide) (by decide) (by decide) (by decide) rfl rfl hl.1 rfl (Nat.le_of_ble_eq_true rfl) dX5_tear_21 ⟨Nat.le_of_ble_eq_true rfl, Nat.le_of_ble_eq_true rfl⟩ (fun H locs hP hD hS => ?_)
      have e9 : gTear (nI t) gs = ((-3), (metG gs 1)) := by simp [gTear, c5, c16, nI_clamp (show t < 2 ^ 31 by omega)]
      rw [e9]
      exact mu_reti hx hb hr hlk hP hD hS (rfl) dX5_tear_24
  · -- 5 False
    have c5 := bI_z.mp c5
    refine lv_iconst (v := (-1)) hx hb dX5_tear_8 (by decide) ?_
    have e9 : gTear x gs = ((-1), gs) := by simp [gTear, c5]
    rw [e9]
    exact mu_reti hx hb hr hlk hP hD hS (rfl) dX5_tear_9

set_option maxHeartbeats 4000000 in
set_option maxRecDepth 100000 in
theorem c_X5_anew (l : Launch) (D : va_G) (z : Nat → Nat) (c : CT) (gs : GS) (x : Int32) (hT : gT gs ≤ 20) : MUi l yX5_anew wsX5_anew ({ frames := 2, cells := 0, slots := 0, locals := 43 } : Room) [.ref (z 0), .int x] D c (wG z c gs) (wG z c (gAnew x gs).2) ((gAnew x gs).1) := by
  refine mu_start (cc := cX5_anew) (maxL := 4) (ret := some .int) (by decide) rfl (Nat.le_of_ble_eq_true rfl) ?_
  intro p e s m args below meth c0 ls hx hb hr hml hown hts hlk hnm hP hK hD hS hA hl
  have hown : s.vm.findClass RX5 = some m.cls := hown
  have hl : lv_has ls 4 [(0, .ref (z 0)), (1, .int x)] := hl
  have hin5 : ∀ w ∈ wsX50, w ∈ wsX5_anew := by decide +kernel
  refine lv_aload_n hx hb dX5_anew_0 rfl (lv_at hl 0 rfl) ?_
  refine lv_iload_n hx hb dX5_anew_1 rfl (lv_at hl 1 rfl) ?_
  refine ro_Vi (post := bI (inN x (gT gs))) (As := [.int x]) (rest := []) ⟨hx, hb, hml, hown, hts⟩ (c_X5_isTest l D z c gs x (by omega)) (cwV 1 hts gX5_anew_X5_isTest rfl rfl rfl (by decide +kernel) ⟨Nat.le_of_ble_eq_true rfl, Nat.le_of_ble_eq_true rfl⟩) hP hK (va_recv hK.1 hP (ci := 5) (q0 := 0) rfl rfl) rfl hl.1 rfl (Nat.le_of_ble_eq_true rfl) dX5_anew_2 ⟨Nat.le_of_ble_eq_true rfl, Nat.le_of_ble_eq_true rfl⟩ ?_
  refine lv_if_ne (tgt := 10) hx hb dX5_anew_5 (by decide) (fun c5 => ?_) (fun c5 => ?_)
  · -- 5 True
    have c5 := bI_nz.mp c5
    obtain ⟨t, ht, rfl⟩ := inN_ex (by omega) c5
    refine lv_aload_n hx hb dX5_anew_10 rfl (lv_at hl 0 rfl) ?_
    refine va_get (D := D) (ci := 5) (v := .ref (z 5)) (C := RX5) (T := TX5) (N := 19) hx hb hts hin5 hown hK.1 hP 0 rfl rfl 6 (by decide) (hts (.fieldLink RX5 22 "TestPickerModel" "missing" "[Z") (by decide +kernel)) (fun _ h9 => h9) rfl dX5_anew_11 ?_
    refine lv_iload_n hx hb dX5_anew_14 rfl (lv_at hl 1 rfl) ?_
    refine ld_z hx hb hK hP 5 (f := gMs gs) rfl (i := t) (by omega) (by decide) dX5_anew_15 ?_
    refine lv_if_eq (tgt := 23) hx hb dX5_anew_16 (by decide) (fun c16 => ?_) (fun c16 => ?_)
    · -- 16 True
      refine lv_iconst (v := 1) hx hb dX5_anew_23 (by decide) ?_
      refine lv_istore_n (lv' := [(2, .int 1), (0, .ref (z 0)), (1, .int (nI t))]) hx hb dX5_anew_24 rfl hl (by decide) rfl (fun ls hl => ?_)
      refine lv_aload_n hx hb dX5_anew_25 rfl (lv_at hl 1 rfl) ?_
      refine va_get (D := D) (ci := 5) (v := .ref (z 5)) (C := RX5) (T := TX5) (N := 19) hx hb hts hin5 hown hK.1 hP 0 rfl rfl 6 (by decide) (hts (.fieldLink RX5 22 "TestPickerModel" "missing" "[Z") (by decide +kernel)) (fun _ h9 => h9) rfl dX5_anew_26 ?_
      refine lv_iload_n hx hb dX5_anew_29 rfl (lv_at hl 2 rfl) ?_
      refine lv_iconst (v := 0) hx hb dX5_anew_30 (by decide) ?_
      refine st_z hx hb hK hP hD hS 5 rfl (i := t) (by omega) (by decide) (by decide) dX5_anew_31 (fun H locs hP hD hS => ?_)
      have hP : va_P D vwCl (wG z c (gFi gs, gFs gs, gT gs, gKd gs, gTi gs, gNd gs, (upd (gMs gs) t 0), gBy gs, gB gs, gCg gs, gVe gs, gAs gs, gMv gs, gPm gs, gPk gs, gPt gs, gPp gs, gPs gs, gMay gs)) H := hP
      have hD : va_D (va_A (wG z c gs) s.heap.size) (wG z c (gFi gs, gFs gs, gT gs, gKd gs, gTi gs, gNd gs, (upd (gMs gs) t 0), gBy gs, gB gs, gCg gs, gVe gs, gAs gs, gMv gs, gPm gs, gPk gs, gPt gs, gPp gs, gPs gs, gMay gs)) := hD
      refine lv_iconst (v := 0) hx hb dX5_anew_32 (by decide) ?_
      refine lv_istore_n (lv' := [(3, .int 0), (2, .int 1), (0, .ref (z 0)), (1, .int (nI t))]) hx hb dX5_anew_33 rfl hl (by decide) rfl (fun ls hl => ?_)
      have L34 : ∀ (n : Nat) (i : Nat) (bs : Nat → Int32), (i ≤ 5) → (5 < i + n) → (bs = zrR (gBy gs) (5 * t) i) → ∀ (H : Heap) (locs : List Loc), va_P D vwCl (wG z c (gFi gs, gFs gs, gT gs, gKd gs, gTi gs, gNd gs, (upd (gMs gs) t 0), bs, gB gs, gCg gs, gVe gs, gAs gs, gMv gs, gPm gs, gPk gs, gPt gs, gPp gs, gPs gs, gMay gs)) H → va_D (va_A (wG z c gs) s.heap.size) (wG z c (gFi gs, gFs gs, gT gs, gKd gs, gTi gs, gNd gs, (upd (gMs gs) t 0), bs, gB gs, gCg gs, gVe gs, gAs gs, gMv gs, gPm gs, gPk gs, gPt gs, gPp gs, gPs gs, gMay gs)) → va_S (va_A (wG z c gs) s.heap.size) s.heap H locs → ∀ ls : Array Slot, lv_has ls 4 [(3, .int (nI i)), (2, .int 1), (0, .ref (z 0)), (1, .int (nI t))] → W p l e ({ frames := 2, cells := 0, slots := 0, locals := 43 } : Room) s m args below meth c0 H locs 0 0 (QMi below args s D c (wG z c gs) (wG z c (gAnew (nI t) gs).2) ((gAnew (nI t) gs).1)) (F0 m 34 ls []) := by
        intro n
        induction n with
        | zero => intro i bs hi hn hq H locs hP hD hS ls hl; exact absurd hn (by omega)
        | succ n ih34 =>
          intro i bs hi hn hq H locs hP hD hS ls hl
          refine lv_iload_n hx hb dX5_anew_34 rfl (lv_at hl 0 rfl) ?_
          refine lv_iconst (v := 5) hx hb dX5_anew_35 (by decide) ?_
          refine lv_icmp_ge (tgt := 56) hx hb dX5_anew_36 (by decide) (fun c36 => ?_) (fun c36 => ?_)
          · -- 36 True
            have c36 : 5 ≤ i := (nI_leI (a := 5) (b := i) (by omega) (by omega)).mp c36
            refine lv_iload_n hx hb dX5_anew_56 rfl (lv_at hl 1 rfl) ?_
            have hie : bs = zrR (gBy gs) (5 * t) 5 := by rw [hq, show i = 5 by omega]
            have e9 : gAnew (nI t) gs = (1, (gFi gs, gFs gs, gT gs, gKd gs, gTi gs, gNd gs, (upd (gMs gs) t 0), bs, gB gs, gCg gs, gVe gs, gAs gs, gMv gs, gPm gs, gPk gs, gPt gs, gPp gs, gPs gs, gMay gs)) := by simp [gAnew, c5, eq_true c16, c36, nI_clamp (show t < 2 ^ 31 by omega), hie]
            rw [e9]
            exact mu_reti hx hb hr hlk hP hD hS (rfl) dX5_anew_57
          · -- 36 False
            have c36 : i < 5 := (Nat.not_le.mp (fun z => c36 ((nI_leI (a := 5) (b := i) (by omega) (by omega)).mpr z)))
            refine lv_aload_n hx hb dX5_anew_39 rfl (lv_at hl 2 rfl) ?_
            refine va_get (D := D) (ci := 5) (v := .ref (z 6)) (C := RX5) (T := TX5) (N := 19) hx hb hts hin5 hown hK.1 hP 0 rfl rfl 7 (by decide) (hts (.fieldLink RX5 26 "TestPickerModel" "bytes" "[I") (by decide +kernel)) (fun _ h9 => h9) rfl dX5_anew_40 ?_
            refine lv_iconst (v := 5) hx hb dX5_anew_43 (by decide) ?_
            refine lv_iload_n hx hb dX5_anew_44 rfl (lv_at hl 3 rfl) ?_
            refine lv_imul hx hb dX5_anew_45 ?_
            refine lv_iload_n hx hb dX5_anew_46 rfl (lv_at hl 0 rfl) ?_
            refine lv_iadd hx hb dX5_anew_47 ?_
            refine tp_i (z := nI (5 * t + i)) (ix5 _ _) ?_
            refine lv_iconst (v := 0) hx hb dX5_anew_48 (by decide) ?_
            refine st_i hx hb hK hP hD hS 6 rfl (i := (5 * t + i)) (by omega) (by decide) dX5_anew_49 (fun H locs hP hD hS => ?_)
            have hP : va_P D vwCl (wG z c (gFi gs, gFs gs, gT gs, gKd gs, gTi gs, gNd gs, (upd (gMs gs) t 0), (upd bs (5 * t + i) 0), gB gs, gCg gs, gVe gs, gAs gs, gMv gs, gPm gs, gPk gs, gPt gs, gPp gs, gPs gs, gMay gs)) H := hP
            have hD : va_D (va_A (wG z c gs) s.heap.size) (wG z c (gFi gs, gFs gs, gT gs, gKd gs, gTi gs, gNd gs, (upd (gMs gs) t 0), (upd bs (5 * t + i) 0), gB gs, gCg gs, gVe gs, gAs gs, gMv gs, gPm gs, gPk gs, gPt gs, gPp gs, gPs gs, gMay gs)) := hD
            refine lv_iinc (v := nI (i + 1)) (lv' := [(3, .int (nI (i + 1))), (2, .int 1), (0, .ref (z 0)), (1, .int (nI t))]) hx hb dX5_anew_50 hl (k := 0) rfl (nI_inc _) (by decide) rfl (fun ls hl => ?_)
            refine lv_goto (tgt := 34) hx hb dX5_anew_53 (by decide) ?_
            exact ih34 (i + 1) (upd bs (5 * t + i) 0) (by omega) (by omega) (by rw [hq]; rfl) _ _ hP hD hS ls (lv_sub hl [0, 1, 2, 3] rfl)
      exact L34 (6) 0 (gBy gs) (by omega) (by omega) (rfl) _ _ hP hD hS ls (lv_sub hl [0, 1, 2, 3] rfl)
    · -- 16 False
      refine lv_iconst (v := 0) hx hb dX5_anew_19 (by decide) ?_
      refine lv_goto (tgt := 24) hx hb dX5_anew_20 (by decide) ?_
      refine lv_istore_n (lv' := [(2, .int 0), (0, .ref (z 0)), (1, .int (nI t))]) hx hb dX5_anew_24 rfl hl (by decide) rfl (fun ls hl => ?_)
      refine lv_aload_n hx hb dX5_anew_25 rfl (lv_at hl 1 rfl) ?_
      refine va_get (D := D) (ci := 5) (v := .ref (z 5)) (C := RX5) (T := TX5) (N := 19) hx hb hts hin5 hown hK.1 hP 0 rfl rfl 6 (by decide) (hts (.fieldLink RX5 22 "TestPickerModel" "missing" "[Z") (by decide +kernel)) (fun _ h9 => h9) rfl dX5_anew_26 ?_
      refine lv_iload_n hx hb dX5_anew_29 rfl (lv_at hl 2 rfl) ?_
      refine lv_iconst (v := 0) hx hb dX5_anew_30 (by decide) ?_
      refine st_z hx hb hK hP hD hS 5 rfl (i := t) (by omega) (by decide) (by decide) dX5_anew_31 (fun H locs hP hD hS => ?_)
      have hP : va_P D vwCl (wG z c (gFi gs, gFs gs, gT gs, gKd gs, gTi gs, gNd gs, (upd (gMs gs) t 0), gBy gs, gB gs, gCg gs, gVe gs, gAs gs, gMv gs, gPm gs, gPk gs, gPt gs, gPp gs, gPs gs, gMay gs)) H := hP
      have hD : va_D (va_A (wG z c gs) s.heap.size) (wG z c (gFi gs, gFs gs, gT gs, gKd gs, gTi gs, gNd gs, (upd (gMs gs) t 0), gBy gs, gB gs, gCg gs, gVe gs, gAs gs, gMv gs, gPm gs, gPk gs, gPt gs, gPp gs, gPs gs, gMay gs)) := hD
      refine lv_iconst (v := 0) hx hb dX5_anew_32 (by decide) ?_
      refine lv_istore_n (lv' := [(3, .int 0), (2, .int 0), (0, .ref (z 0)), (1, .int (nI t))]) hx hb dX5_anew_33 rfl hl (by decide) rfl (fun ls hl => ?_)
      have L34 : ∀ (n : Nat) (i : Nat) (bs : Nat → Int32), (i ≤ 5) → (5 < i + n) → (bs = zrR (gBy gs) (5 * t) i) → ∀ (H : Heap) (locs : List Loc), va_P D vwCl (wG z c (gFi gs, gFs gs, gT gs, gKd gs, gTi gs, gNd gs, (upd (gMs gs) t 0), bs, gB gs, gCg gs, gVe gs, gAs gs, gMv gs, gPm gs, gPk gs, gPt gs, gPp gs, gPs gs, gMay gs)) H → va_D (va_A (wG z c gs) s.heap.size) (wG z c (gFi gs, gFs gs, gT gs, gKd gs, gTi gs, gNd gs, (upd (gMs gs) t 0), bs, gB gs, gCg gs, gVe gs, gAs gs, gMv gs, gPm gs, gPk gs, gPt gs, gPp gs, gPs gs, gMay gs)) → va_S (va_A (wG z c gs) s.heap.size) s.heap H locs → ∀ ls : Array Slot, lv_has ls 4 [(3, .int (nI i)), (2, .int 0), (0, .ref (z 0)), (1, .int (nI t))] → W p l e ({ frames := 2, cells := 0, slots := 0, locals := 43 } : Room) s m args below meth c0 H locs 0 0 (QMi below args s D c (wG z c gs) (wG z c (gAnew (nI t) gs).2) ((gAnew (nI t) gs).1)) (F0 m 34 ls []) := by
        intro n
        induction n with
        | zero => intro i bs hi hn hq H locs hP hD hS ls hl; exact absurd hn (by omega)
        | succ n ih34 =>
          intro i bs hi hn hq H locs hP hD hS ls hl
          refine lv_iload_n hx hb dX5_anew_34 rfl (lv_at hl 0 rfl) ?_
          refine lv_iconst (v := 5) hx hb dX5_anew_35 (by decide) ?_
          refine lv_icmp_ge (tgt := 56) hx hb dX5_anew_36 (by decide) (fun c36 => ?_) (fun c36 => ?_)
          · -- 36 True
            have c36 : 5 ≤ i := (nI_leI (a := 5) (b := i) (by omega) (by omega)).mp c36
            refine lv_iload_n hx hb dX5_anew_56 rfl (lv_at hl 1 rfl) ?_
            have hie : bs = zrR (gBy gs) (5 * t) 5 := by rw [hq, show i = 5 by omega]
            have e9 : gAnew (nI t) gs = (0, (gFi gs, gFs gs, gT gs, gKd gs, gTi gs, gNd gs, (upd (gMs gs) t 0), bs, gB gs, gCg gs, gVe gs, gAs gs, gMv gs, gPm gs, gPk gs, gPt gs, gPp gs, gPs gs, gMay gs)) := by simp [gAnew, c5, c16, c36, nI_clamp (show t < 2 ^ 31 by omega), hie]
            rw [e9]
            exact mu_reti hx hb hr hlk hP hD hS (rfl) dX5_anew_57
          · -- 36 False
            have c36 : i < 5 := (Nat.not_le.mp (fun z => c36 ((nI_leI (a := 5) (b := i) (by omega) (by omega)).mpr z)))
            refine lv_aload_n hx hb dX5_anew_39 rfl (lv_at hl 2 rfl) ?_
            refine va_get (D := D) (ci := 5) (v := .ref (z 6)) (C := RX5) (T := TX5) (N := 19) hx hb hts hin5 hown hK.1 hP 0 rfl rfl 7 (by decide) (hts (.fieldLink RX5 26 "TestPickerModel" "bytes" "[I") (by decide +kernel)) (fun _ h9 => h9) rfl dX5_anew_40 ?_
            refine lv_iconst (v := 5) hx hb dX5_anew_43 (by decide) ?_
            refine lv_iload_n hx hb dX5_anew_44 rfl (lv_at hl 3 rfl) ?_
            refine lv_imul hx hb dX5_anew_45 ?_
            refine lv_iload_n hx hb dX5_anew_46 rfl (lv_at hl 0 rfl) ?_
            refine lv_iadd hx hb dX5_anew_47 ?_
            refine tp_i (z := nI (5 * t + i)) (ix5 _ _) ?_
            refine lv_iconst (v := 0) hx hb dX5_anew_48 (by decide) ?_
            refine st_i hx hb hK hP hD hS 6 rfl (i := (5 * t + i)) (by omega) (by decide) dX5_anew_49 (fun H locs hP hD hS => ?_)
            have hP : va_P D vwCl (wG z c (gFi gs, gFs gs, gT gs, gKd gs, gTi gs, gNd gs, (upd (gMs gs) t 0), (upd bs (5 * t + i) 0), gB gs, gCg gs, gVe gs, gAs gs, gMv gs, gPm gs, gPk gs, gPt gs, gPp gs, gPs gs, gMay gs)) H := hP
            have hD : va_D (va_A (wG z c gs) s.heap.size) (wG z c (gFi gs, gFs gs, gT gs, gKd gs, gTi gs, gNd gs, (upd (gMs gs) t 0), (upd bs (5 * t + i) 0), gB gs, gCg gs, gVe gs, gAs gs, gMv gs, gPm gs, gPk gs, gPt gs, gPp gs, gPs gs, gMay gs)) := hD
            refine lv_iinc (v := nI (i + 1)) (lv' := [(3, .int (nI (i + 1))), (2, .int 0), (0, .ref (z 0)), (1, .int (nI t))]) hx hb dX5_anew_50 hl (k := 0) rfl (nI_inc _) (by decide) rfl (fun ls hl => ?_)
            refine lv_goto (tgt := 34) hx hb dX5_anew_53 (by decide) ?_
            exact ih34 (i + 1) (upd bs (5 * t + i) 0) (by omega) (by omega) (by rw [hq]; rfl) _ _ hP hD hS ls (lv_sub hl [0, 1, 2, 3] rfl)
      exact L34 (6) 0 (gBy gs) (by omega) (by omega) (rfl) _ _ hP hD hS ls (lv_sub hl [0, 1, 2, 3] rfl)
  · -- 5 False
    have c5 := bI_z.mp c5
    refine lv_iconst (v := (-1)) hx hb dX5_anew_8 (by decide) ?_
    have e9 : gAnew x gs = ((-1), gs) := by simp [gAnew, c5]
    rw [e9]
    exact mu_reti hx hb hr hlk hP hD hS (rfl) dX5_anew_9

set_option maxHeartbeats 4000000 in
set_option maxRecDepth 100000 in
theorem c_X5_copy (l : Launch) (D : va_G) (z : Nat → Nat) (c : CT) (gs : GS) (x i o j n : Int32) (hT : gT gs ≤ 20) : MUi l yX5_copy wsX5_copy ({ frames := 2, cells := 0, slots := 0, locals := 43 } : Room) [.ref (z 0), .int x, .int i, .int o, .int j, .int n] D c (wG z c gs) (wG z c (gCopy x i o j n gs).2) ((gCopy x i o j n gs).1) := by
  refine mu_start (cc := cX5_copy) (maxL := 7) (ret := some .int) (by decide) rfl (Nat.le_of_ble_eq_true rfl) ?_
  intro p e s m args below meth c0 ls hx hb hr hml hown hts hlk hnm hP hK hD hS hA hl
  have hown : s.vm.findClass RX5 = some m.cls := hown
  have hl : lv_has ls 7 [(0, .ref (z 0)), (1, .int x), (2, .int i), (3, .int o), (4, .int j), (5, .int n)] := hl
  have hin5 : ∀ w ∈ wsX50, w ∈ wsX5_copy := by decide +kernel
  refine lv_aload_n hx hb dX5_copy_0 rfl (lv_at hl 0 rfl) ?_
  refine lv_iload_n hx hb dX5_copy_1 rfl (lv_at hl 1 rfl) ?_
  refine ro_Vi (post := bI (inN x (gT gs))) (As := [.int x]) (rest := []) ⟨hx, hb, hml, hown, hts⟩ (c_X5_isTest l D z c gs x (by omega)) (cwV 1 hts gX5_copy_X5_isTest rfl rfl rfl (by decide +kernel) ⟨Nat.le_of_ble_eq_true rfl, Nat.le_of_ble_eq_true rfl⟩) hP hK (va_recv hK.1 hP (ci := 5) (q0 := 0) rfl rfl) rfl hl.1 rfl (Nat.le_of_ble_eq_true rfl) dX5_copy_2 ⟨Nat.le_of_ble_eq_true rfl, Nat.le_of_ble_eq_true rfl⟩ ?_
  refine lv_if_eq (tgt := 16) hx hb dX5_copy_5 (by decide) (fun c5 => ?_) (fun c5 => ?_)
  · -- 5 True
    have c5 := bI_z.mp c5
    refine lv_iconst (v := (-1)) hx hb dX5_copy_16 (by decide) ?_
    have e9 : gCopy x i o j n gs = ((-1), gs) := by simp [gCopy, c5]
    rw [e9]
    exact mu_reti hx hb hr hlk hP hD hS (rfl) dX5_copy_17
  · -- 5 False
    have c5 := bI_nz.mp c5
    obtain ⟨t, ht, rfl⟩ := inN_ex (by omega) c5
    refine lv_aload_n hx hb dX5_copy_8 rfl (lv_at hl 0 rfl) ?_
    refine lv_iload_n hx hb dX5_copy_9 rfl (lv_at hl 3 rfl) ?_
    refine ro_Vi (post := bI (inN o (gT gs))) (As := [.int o]) (rest := []) ⟨hx, hb, hml, hown, hts⟩ (c_X5_isTest l D z c gs o (by omega)) (cwV 1 hts gX5_copy_X5_isTest rfl rfl rfl (by decide +kernel) ⟨Nat.le_of_ble_eq_true rfl, Nat.le_of_ble_eq_true rfl⟩) hP hK (va_recv hK.1 hP (ci := 5) (q0 := 0) rfl rfl) rfl hl.1 rfl (Nat.le_of_ble_eq_true rfl) dX5_copy_10 ⟨Nat.le_of_ble_eq_true rfl, Nat.le_of_ble_eq_true rfl⟩ ?_
    refine lv_if_ne (tgt := 18) hx hb dX5_copy_13 (by decide) (fun c13 => ?_) (fun c13 => ?_)
    · -- 13 True
      have c13 := bI_nz.mp c13
      obtain ⟨u, hu, rfl⟩ := inN_ex (by omega) c13
      refine lv_iload hx hb dX5_copy_18 (lv_at hl 5 rfl) ?_
      refine lv_if_ge (tgt := 29) hx hb dX5_copy_20 (by decide) (fun c20 => ?_) (fun c20 => ?_)
      · -- 20 True
        refine lv_aload_n hx hb dX5_copy_29 rfl (lv_at hl 0 rfl) ?_
        refine va_get (D := D) (ci := 5) (v := .ref (z 5)) (C := RX5) (T := TX5) (N := 19) hx hb hts hin5 hown hK.1 hP 0 rfl rfl 6 (by decide) (hts (.fieldLink RX5 22 "TestPickerModel" "missing" "[Z") (by decide +kernel)) (fun _ h9 => h9) rfl dX5_copy_30 ?_
        refine lv_iload_n hx hb dX5_copy_33 rfl (lv_at hl 1 rfl) ?_
        refine ld_z hx hb hK hP 5 (f := gMs gs) rfl (i := t) (by omega) (by decide) dX5_copy_34 ?_
        refine lv_if_ne (tgt := 47) hx hb dX5_copy_35 (by decide) (fun c35 => ?_) (fun c35 => ?_)
        · -- 35 True
          refine lv_aload_n hx hb dX5_copy_47 rfl (lv_at hl 0 rfl) ?_
          refine lv_iconst (v := 1) hx hb dX5_copy_48 (by decide) ?_
          refine mu_Vi (As := [.int 1]) (rest := []) (wr := []) (wk := wG z c (metG gs 1)) [0, 1, 2, 3, 4, 5, 6, 7, 8, 9, 10, 11] [] [0, 1, 2, 3, 4, 5, 6, 7, 8, 9, 10, 11] ⟨hx, hb, hml, hown, hts⟩ (c_X5_meets l D z c gs 1 (by omega)) (cwV 1 hts gX5_copy_X5_meets rfl rfl rfl (by decide +kernel) ⟨Nat.le_of_ble_eq_true rfl, Nat.le_of_ble_eq_true rfl⟩) hP hK hD hS hA (va_recv hK.1 hP (ci := 5) (q0 := 0) rfl rfl) rfl rfl (by decide) (by decide) (by decide) (by decide) rfl rfl hl.1 rfl (Nat.le_of_ble_eq_true rfl) dX5_copy_49 ⟨Nat.le_of_ble_eq_true rfl, Nat.le_of_ble_eq_true rfl⟩ (fun H locs hP hD hS => ?_)
          have e9 : gCopy (nI t) i (nI u) j n gs = ((-3), (metG gs 1)) := by simp [gCopy, c5, c13, c20, c35, nI_clamp (show t < 2 ^ 31 by omega), nI_clamp (show u < 2 ^ 31 by omega)]
          rw [e9]
          exact mu_reti hx hb hr hlk hP hD hS (rfl) dX5_copy_52
        · -- 35 False
          refine lv_aload_n hx hb dX5_copy_38 rfl (lv_at hl 0 rfl) ?_
          refine va_get (D := D) (ci := 5) (v := .ref (z 5)) (C := RX5) (T := TX5) (N := 19) hx hb hts hin5 hown hK.1 hP 0 rfl rfl 6 (by decide) (hts (.fieldLink RX5 22 "TestPickerModel" "missing" "[Z") (by decide +kernel)) (fun _ h9 => h9) rfl dX5_copy_39 ?_
          refine lv_iload_n hx hb dX5_copy_42 rfl (lv_at hl 3 rfl) ?_
          refine ld_z hx hb hK hP 5 (f := gMs gs) rfl (i := u) (by omega) (by decide) dX5_copy_43 ?_
          refine lv_if_eq (tgt := 53) hx hb dX5_copy_44 (by decide) (fun c44 => ?_) (fun c44 => ?_)
          · -- 44 True
            refine lv_iload_n hx hb dX5_copy_53 rfl (lv_at hl 2 rfl) ?_
            refine lv_if_lt (tgt := 89) hx hb dX5_copy_54 (by decide) (fun c54 => ?_) (fun c54 => ?_)
            · -- 54 True
              refine lv_aload_n hx hb dX5_copy_89 rfl (lv_at hl 0 rfl) ?_
              refine lv_iconst (v := 2) hx hb dX5_copy_90 (by decide) ?_
              refine mu_Vi (As := [.int 2]) (rest := []) (wr := []) (wk := wG z c (metG gs 2)) [0, 1, 2, 3, 4, 5, 6, 7, 8, 9, 10, 11] [] [0, 1, 2, 3, 4, 5, 6, 7, 8, 9, 10, 11] ⟨hx, hb, hml, hown, hts⟩ (c_X5_meets l D z c gs 2 (by omega)) (cwV 1 hts gX5_copy_X5_meets rfl rfl rfl (by decide +kernel) ⟨Nat.le_of_ble_eq_true rfl, Nat.le_of_ble_eq_true rfl⟩) hP hK hD hS hA (va_recv hK.1 hP (ci := 5) (q0 := 0) rfl rfl) rfl rfl (by decide) (by decide) (by decide) (by decide) rfl rfl hl.1 rfl (Nat.le_of_ble_eq_true rfl) dX5_copy_91 ⟨Nat.le_of_ble_eq_true rfl, Nat.le_of_ble_eq_true rfl⟩ (fun H locs hP hD hS => ?_)
              have e9 : gCopy (nI t) i (nI u) j n gs = ((-3), (metG gs 2)) := by simp [gCopy, c5, c13, c20, eq_true c35, eq_true c44, c54, nI_clamp (show t < 2 ^ 31 by omega), nI_clamp (show u < 2 ^ 31 by omega)]
              rw [e9]
              exact mu_reti hx hb hr hlk hP hD hS (rfl) dX5_copy_94
            · -- 54 False
              refine lv_iload hx hb dX5_copy_57 (lv_at hl 4 rfl) ?_
              refine lv_if_lt (tgt := 89) hx hb dX5_copy_59 (by decide) (fun c59 => ?_) (fun c59 => ?_)
              · -- 59 True
                refine lv_aload_n hx hb dX5_copy_89 rfl (lv_at hl 0 rfl) ?_
                refine lv_iconst (v := 2) hx hb dX5_copy_90 (by decide) ?_
                refine mu_Vi (As := [.int 2]) (rest := []) (wr := []) (wk := wG z c (metG gs 2)) [0, 1, 2, 3, 4, 5, 6, 7, 8, 9, 10, 11] [] [0, 1, 2, 3, 4, 5, 6, 7, 8, 9, 10, 11] ⟨hx, hb, hml, hown, hts⟩ (c_X5_meets l D z c gs 2 (by omega)) (cwV 1 hts gX5_copy_X5_meets rfl rfl rfl (by decide +kernel) ⟨Nat.le_of_ble_eq_true rfl, Nat.le_of_ble_eq_true rfl⟩) hP hK hD hS hA (va_recv hK.1 hP (ci := 5) (q0 := 0) rfl rfl) rfl rfl (by decide) (by decide) (by decide) (by decide) rfl rfl hl.1 rfl (Nat.le_of_ble_eq_true rfl) dX5_copy_91 ⟨Nat.le_of_ble_eq_true rfl, Nat.le_of_ble_eq_true rfl⟩ (fun H locs hP hD hS => ?_)
                have e9 : gCopy (nI t) i (nI u) j n gs = ((-3), (metG gs 2)) := by simp [gCopy, c5, c13, c20, eq_true c35, eq_true c44, c54, c59, nI_clamp (show t < 2 ^ 31 by omega), nI_clamp (show u < 2 ^ 31 by omega)]
                rw [e9]
                exact mu_reti hx hb hr hlk hP hD hS (rfl) dX5_copy_94
              · -- 59 False
                refine lv_iload_n hx hb dX5_copy_62 rfl (lv_at hl 2 rfl) ?_
                refine lv_i2l (v := i.toInt64) hx hb dX5_copy_63 rfl ?_
                refine lv_iload hx hb dX5_copy_64 (lv_at hl 5 rfl) ?_
                refine lv_i2l (v := n.toInt64) hx hb dX5_copy_66 rfl ?_
                refine lv_ladd hx hb dX5_copy_67 ?_
                refine lv_ldc2 (own := RX5) (v := (5)) hx hb hown (hts (.constantLong RX5 70 (5)) (by decide +kernel)) dX5_copy_68 ?_
                refine W.lcmp hx hb dX5_copy_71 ?_
                refine lv_if_gt (tgt := 89) hx hb dX5_copy_72 (by decide) (fun c72 => ?_) (fun c72 => ?_)
                · -- 72 True
                  have c72 := (lg_cmp_gt _ _).mp c72
                  refine lv_aload_n hx hb dX5_copy_89 rfl (lv_at hl 0 rfl) ?_
                  refine lv_iconst (v := 2) hx hb dX5_copy_90 (by decide) ?_
                  refine mu_Vi (As := [.int 2]) (rest := []) (wr := []) (wk := wG z c (metG gs 2)) [0, 1, 2, 3, 4, 5, 6, 7, 8, 9, 10, 11] [] [0, 1, 2, 3, 4, 5, 6, 7, 8, 9, 10, 11] ⟨hx, hb, hml, hown, hts⟩ (c_X5_meets l D z c gs 2 (by omega)) (cwV 1 hts gX5_copy_X5_meets rfl rfl rfl (by decide +kernel) ⟨Nat.le_of_ble_eq_true rfl, Nat.le_of_ble_eq_true rfl⟩) hP hK hD hS hA (va_recv hK.1 hP (ci := 5) (q0 := 0) rfl rfl) rfl rfl (by decide) (by decide) (by decide) (by decide) rfl rfl hl.1 rfl (Nat.le_of_ble_eq_true rfl) dX5_copy_91 ⟨Nat.le_of_ble_eq_true rfl, Nat.le_of_ble_eq_true rfl⟩ (fun H locs hP hD hS => ?_)
                  have e9 : gCopy (nI t) i (nI u) j n gs = ((-3), (metG gs 2)) := by simp [gCopy, c5, c13, c20, eq_true c35, eq_true c44, c54, c59, c72, nI_clamp (show t < 2 ^ 31 by omega), nI_clamp (show u < 2 ^ 31 by omega)]
                  rw [e9]
                  exact mu_reti hx hb hr hlk hP hD hS (rfl) dX5_copy_94
                · -- 72 False
                  have c72 := lg_ngt.mp c72
                  refine lv_iload hx hb dX5_copy_75 (lv_at hl 4 rfl) ?_
                  refine lv_i2l (v := j.toInt64) hx hb dX5_copy_77 rfl ?_
                  refine lv_iload hx hb dX5_copy_78 (lv_at hl 5 rfl) ?_
                  refine lv_i2l (v := n.toInt64) hx hb dX5_copy_80 rfl ?_
                  refine lv_ladd hx hb dX5_copy_81 ?_
                  refine lv_ldc2 (own := RX5) (v := (5)) hx hb hown (hts (.constantLong RX5 70 (5)) (by decide +kernel)) dX5_copy_82 ?_
                  refine W.lcmp hx hb dX5_copy_85 ?_
                  refine lv_if_le (tgt := 95) hx hb dX5_copy_86 (by decide) (fun c86 => ?_) (fun c86 => ?_)
                  · -- 86 True
                    have c86 := (lg_cmp_le _ _).mp c86
                    obtain ⟨a, b, hab, rfl, rfl⟩ := cp_ex c20 c54 c72
                    obtain ⟨a2, b2, hab2, rfl, hbb⟩ := cp_ex c20 c59 c86
                    have hbe : b = b2 := (nI_eq (by omega) (by omega)).mp hbb
                    subst hbe
                    refine lv_iconst (v := 0) hx hb dX5_copy_95 (by decide) ?_
                    refine lv_istore (lv' := [(6, .int 0), (0, .ref (z 0)), (1, .int (nI t)), (2, .int (nI a)), (3, .int (nI u)), (4, .int (nI a2)), (5, .int (nI b))]) hx hb dX5_copy_96 hl (by decide) rfl (fun ls hl => ?_)
                    have L98 : ∀ (n1 : Nat) (k : Nat) (mv : Nat → Int32), (k ≤ b) → (b < k + n1) → (mv = mvR (gBy gs) (5 * t + a) (gMv gs) k) → ∀ (H : Heap) (locs : List Loc), va_P D vwCl (wG z c (gFi gs, gFs gs, gT gs, gKd gs, gTi gs, gNd gs, gMs gs, gBy gs, gB gs, gCg gs, gVe gs, gAs gs, mv, gPm gs, gPk gs, gPt gs, gPp gs, gPs gs, gMay gs)) H → va_D (va_A (wG z c gs) s.heap.size) (wG z c (gFi gs, gFs gs, gT gs, gKd gs, gTi gs, gNd gs, gMs gs, gBy gs, gB gs, gCg gs, gVe gs, gAs gs, mv, gPm gs, gPk gs, gPt gs, gPp gs, gPs gs, gMay gs)) → va_S (va_A (wG z c gs) s.heap.size) s.heap H locs → ∀ ls : Array Slot, lv_has ls 7 [(6, .int (nI k)), (0, .ref (z 0)), (1, .int (nI t)), (2, .int (nI a)), (3, .int (nI u)), (4, .int (nI a2)), (5, .int (nI b))] → W p l e ({ frames := 2, cells := 0, slots := 0, locals := 43 } : Room) s m args below meth c0 H locs 0 0 (QMi below args s D c (wG z c gs) (wG z c (gCopy (nI t) (nI a) (nI u) (nI a2) (nI b) gs).2) ((gCopy (nI t) (nI a) (nI u) (nI a2) (nI b) gs).1)) (F0 m 98 ls []) := by
                      intro n1
                      induction n1 with
                      | zero => intro k mv hk hn hq H locs hP hD hS ls hl; exact absurd hn (by omega)
                      | succ n1 ih98 =>
                        intro k mv hk hn hq H locs hP hD hS ls hl
                        refine lv_iload hx hb dX5_copy_98 (lv_at hl 0 rfl) ?_
                        refine lv_iload hx hb dX5_copy_100 (lv_at hl 6 rfl) ?_
                        refine lv_icmp_ge (tgt := 131) hx hb dX5_copy_102 (by decide) (fun c102 => ?_) (fun c102 => ?_)
                        · -- 102 True
                          have c102 : b ≤ k := (nI_leI (a := b) (b := k) (by omega) (by omega)).mp c102
                          refine lv_iconst (v := 0) hx hb dX5_copy_131 (by decide) ?_
                          refine lv_istore (lv' := [(6, .int 0), (0, .ref (z 0)), (1, .int (nI t)), (2, .int (nI a)), (3, .int (nI u)), (4, .int (nI a2)), (5, .int (nI b))]) hx hb dX5_copy_132 hl (by decide) rfl (fun ls hl => ?_)
                          have L134 : ∀ (n2 : Nat) (k2 : Nat) (bs : Nat → Int32), (k2 ≤ b) → (b < k2 + n2) → (bs = cpR mv (5 * u + a2) (gBy gs) k2) → ∀ (H : Heap) (locs : List Loc), va_P D vwCl (wG z c (gFi gs, gFs gs, gT gs, gKd gs, gTi gs, gNd gs, gMs gs, bs, gB gs, gCg gs, gVe gs, gAs gs, mv, gPm gs, gPk gs, gPt gs, gPp gs, gPs gs, gMay gs)) H → va_D (va_A (wG z c gs) s.heap.size) (wG z c (gFi gs, gFs gs, gT gs, gKd gs, gTi gs, gNd gs, gMs gs, bs, gB gs, gCg gs, gVe gs, gAs gs, mv, gPm gs, gPk gs, gPt gs, gPp gs, gPs gs, gMay gs)) → va_S (va_A (wG z c gs) s.heap.size) s.heap H locs → ∀ ls : Array Slot, lv_has ls 7 [(6, .int (nI k2)), (0, .ref (z 0)), (1, .int (nI t)), (2, .int (nI a)), (3, .int (nI u)), (4, .int (nI a2)), (5, .int (nI b))] → W p l e ({ frames := 2, cells := 0, slots := 0, locals := 43 } : Room) s m args below meth c0 H locs 0 0 (QMi below args s D c (wG z c gs) (wG z c (gCopy (nI t) (nI a) (nI u) (nI a2) (nI b) gs).2) ((gCopy (nI t) (nI a) (nI u) (nI a2) (nI b) gs).1)) (F0 m 134 ls []) := by
                            intro n2
                            induction n2 with
                            | zero => intro k2 bs hk2 hn2 hq2 H locs hP hD hS ls hl; exact absurd hn2 (by omega)
                            | succ n2 ih134 =>
                              intro k2 bs hk2 hn2 hq2 H locs hP hD hS ls hl
                              refine lv_iload hx hb dX5_copy_134 (lv_at hl 0 rfl) ?_
                              refine lv_iload hx hb dX5_copy_136 (lv_at hl 6 rfl) ?_
                              refine lv_icmp_ge (tgt := 168) hx hb dX5_copy_138 (by decide) (fun c138 => ?_) (fun c138 => ?_)
                              · -- 138 True
                                have c138 : b ≤ k2 := (nI_leI (a := b) (b := k2) (by omega) (by omega)).mp c138
                                refine lv_iconst (v := 1) hx hb dX5_copy_168 (by decide) ?_
                                have h1 : mv = mvR (gBy gs) (5 * t + a) (gMv gs) b := by rw [hq, show k = b by omega]
                                have h2 : bs = cpR mv (5 * u + a2) (gBy gs) b := by rw [hq2, show k2 = b by omega]
                                have e9 : gCopy (nI t) (nI a) (nI u) (nI a2) (nI b) gs = (1, (gFi gs, gFs gs, gT gs, gKd gs, gTi gs, gNd gs, gMs gs, bs, gB gs, gCg gs, gVe gs, gAs gs, mv, gPm gs, gPk gs, gPt gs, gPp gs, gPs gs, gMay gs)) := by rw [gCopy, if_neg (by rw [c5]; decide), if_neg (by rw [c13]; decide), if_neg (fun z => z c20), if_neg (fun z => z (by rw [nI_clamp (show t < 2 ^ 31 by omega)]; exact c35)), if_neg (fun z => z (by rw [nI_clamp (show u < 2 ^ 31 by omega)]; exact c44)), if_neg (fun h => h.elim c54 (fun h => h.elim c59 (fun h => h.elim (fun y => absurd y (Int64.not_lt.mpr c72)) (fun y => absurd y (Int64.not_lt.mpr c86))))), nI_clamp (show t < 2 ^ 31 by omega), nI_clamp (show u < 2 ^ 31 by omega), nI_clamp (show a < 2 ^ 31 by omega), nI_clamp (show a2 < 2 ^ 31 by omega), nI_clamp (show b < 2 ^ 31 by omega), ← h1, ← h2]
                                rw [e9]
                                exact mu_reti hx hb hr hlk hP hD hS (rfl) dX5_copy_169
                              · -- 138 False
                                have c138 : k2 < b := (Nat.not_le.mp (fun z => c138 ((nI_leI (a := b) (b := k2) (by omega) (by omega)).mpr z)))
                                refine lv_aload_n hx hb dX5_copy_141 rfl (lv_at hl 1 rfl) ?_
                                refine va_get (D := D) (ci := 5) (v := .ref (z 6)) (C := RX5) (T := TX5) (N := 19) hx hb hts hin5 hown hK.1 hP 0 rfl rfl 7 (by decide) (hts (.fieldLink RX5 26 "TestPickerModel" "bytes" "[I") (by decide +kernel)) (fun _ h9 => h9) rfl dX5_copy_142 ?_
                                refine lv_iconst (v := 5) hx hb dX5_copy_145 (by decide) ?_
                                refine lv_iload_n hx hb dX5_copy_146 rfl (lv_at hl 4 rfl) ?_
                                refine lv_imul hx hb dX5_copy_147 ?_
                                refine lv_iload hx hb dX5_copy_148 (lv_at hl 5 rfl) ?_
                                refine lv_iadd hx hb dX5_copy_150 ?_
                                refine tp_i (z := nI (5 * u + a2)) (ix5 _ _) ?_
                                refine lv_iload hx hb dX5_copy_151 (lv_at hl 0 rfl) ?_
                                refine lv_iadd hx hb dX5_copy_153 ?_
                                refine tp_i (z := nI (5 * u + a2 + k2)) (nI_add _ _) ?_
                                refine lv_aload_n hx hb dX5_copy_154 rfl (lv_at hl 1 rfl) ?_
                                refine va_get (D := D) (ci := 5) (v := .ref (z 9)) (C := RX5) (T := TX5) (N := 19) hx hb hts hin5 hown hK.1 hP 0 rfl rfl 12 (by decide) (hts (.fieldLink RX5 36 "TestPickerModel" "moving" "[I") (by decide +kernel)) (fun _ h9 => h9) rfl dX5_copy_155 ?_
                                refine lv_iload hx hb dX5_copy_158 (lv_at hl 0 rfl) ?_
                                refine ld_i hx hb hK hP 9 (f := mv) rfl (i := k2) (by omega) (by decide) dX5_copy_160 ?_
                                refine st_i hx hb hK hP hD hS 6 rfl (i := (5 * u + a2 + k2)) (by omega) (by decide) dX5_copy_161 (fun H locs hP hD hS => ?_)
                                have hP : va_P D vwCl (wG z c (gFi gs, gFs gs, gT gs, gKd gs, gTi gs, gNd gs, gMs gs, (upd bs (5 * u + a2 + k2) (mv k2)), gB gs, gCg gs, gVe gs, gAs gs, mv, gPm gs, gPk gs, gPt gs, gPp gs, gPs gs, gMay gs)) H := hP
                                have hD : va_D (va_A (wG z c gs) s.heap.size) (wG z c (gFi gs, gFs gs, gT gs, gKd gs, gTi gs, gNd gs, gMs gs, (upd bs (5 * u + a2 + k2) (mv k2)), gB gs, gCg gs, gVe gs, gAs gs, mv, gPm gs, gPk gs, gPt gs, gPp gs, gPs gs, gMay gs)) := hD
                                refine lv_iinc (v := nI (k2 + 1)) (lv' := [(6, .int (nI (k2 + 1))), (0, .ref (z 0)), (1, .int (nI t)), (2, .int (nI a)), (3, .int (nI u)), (4, .int (nI a2)), (5, .int (nI b))]) hx hb dX5_copy_162 hl (k := 0) rfl (nI_inc _) (by decide) rfl (fun ls hl => ?_)
                                refine lv_goto (tgt := 134) hx hb dX5_copy_165 (by decide) ?_
                                exact ih134 (k2 + 1) (upd bs (5 * u + a2 + k2) (mv k2)) (by omega) (by omega) (by rw [hq2]; rfl) _ _ hP hD hS ls (lv_sub hl [0, 1, 2, 3, 4, 5, 6] rfl)
                          exact L134 (b + 1) 0 (gBy gs) (by omega) (by omega) (rfl) _ _ hP hD hS ls (lv_sub hl [0, 1, 2, 3, 4, 5, 6] rfl)
                        · -- 102 False
                          have c102 : k < b := (Nat.not_le.mp (fun z => c102 ((nI_leI (a := b) (b := k) (by omega) (by omega)).mpr z)))
                          refine lv_aload_n hx hb dX5_copy_105 rfl (lv_at hl 1 rfl) ?_
                          refine va_get (D := D) (ci := 5) (v := .ref (z 9)) (C := RX5) (T := TX5) (N := 19) hx hb hts hin5 hown hK.1 hP 0 rfl rfl 12 (by decide) (hts (.fieldLink RX5 36 "TestPickerModel" "moving" "[I") (by decide +kernel)) (fun _ h9 => h9) rfl dX5_copy_106 ?_
                          refine lv_iload hx hb dX5_copy_109 (lv_at hl 0 rfl) ?_
                          refine lv_aload_n hx hb dX5_copy_111 rfl (lv_at hl 1 rfl) ?_
                          refine va_get (D := D) (ci := 5) (v := .ref (z 6)) (C := RX5) (T := TX5) (N := 19) hx hb hts hin5 hown hK.1 hP 0 rfl rfl 7 (by decide) (hts (.fieldLink RX5 26 "TestPickerModel" "bytes" "[I") (by decide +kernel)) (fun _ h9 => h9) rfl dX5_copy_112 ?_
                          refine lv_iconst (v := 5) hx hb dX5_copy_115 (by decide) ?_
                          refine lv_iload_n hx hb dX5_copy_116 rfl (lv_at hl 2 rfl) ?_
                          refine lv_imul hx hb dX5_copy_117 ?_
                          refine lv_iload_n hx hb dX5_copy_118 rfl (lv_at hl 3 rfl) ?_
                          refine lv_iadd hx hb dX5_copy_119 ?_
                          refine tp_i (z := nI (5 * t + a)) (ix5 _ _) ?_
                          refine lv_iload hx hb dX5_copy_120 (lv_at hl 0 rfl) ?_
                          refine lv_iadd hx hb dX5_copy_122 ?_
                          refine tp_i (z := nI (5 * t + a + k)) (nI_add _ _) ?_
                          refine ld_i hx hb hK hP 6 (f := gBy gs) rfl (i := (5 * t + a + k)) (by omega) (by decide) dX5_copy_123 ?_
                          refine st_i hx hb hK hP hD hS 9 rfl (i := k) (by omega) (by decide) dX5_copy_124 (fun H locs hP hD hS => ?_)
                          have hP : va_P D vwCl (wG z c (gFi gs, gFs gs, gT gs, gKd gs, gTi gs, gNd gs, gMs gs, gBy gs, gB gs, gCg gs, gVe gs, gAs gs, (upd mv k (gBy gs (5 * t + a + k))), gPm gs, gPk gs, gPt gs, gPp gs, gPs gs, gMay gs)) H := hP
                          have hD : va_D (va_A (wG z c gs) s.heap.size) (wG z c (gFi gs, gFs gs, gT gs, gKd gs, gTi gs, gNd gs, gMs gs, gBy gs, gB gs, gCg gs, gVe gs, gAs gs, (upd mv k (gBy gs (5 * t + a + k))), gPm gs, gPk gs, gPt gs, gPp gs, gPs gs, gMay gs)) := hD
                          refine lv_iinc (v := nI (k + 1)) (lv' := [(6, .int (nI (k + 1))), (0, .ref (z 0)), (1, .int (nI t)), (2, .int (nI a)), (3, .int (nI u)), (4, .int (nI a2)), (5, .int (nI b))]) hx hb dX5_copy_125 hl (k := 0) rfl (nI_inc _) (by decide) rfl (fun ls hl => ?_)
                          refine lv_goto (tgt := 98) hx hb dX5_copy_128 (by decide) ?_
                          exact ih98 (k + 1) (upd mv k (gBy gs (5 * t + a + k))) (by omega) (by omega) (by rw [hq]; rfl) _ _ hP hD hS ls (lv_sub hl [0, 1, 2, 3, 4, 5, 6] rfl)
                    exact L98 (b + 1) 0 (gMv gs) (by omega) (by omega) (rfl) _ _ hP hD hS ls (lv_sub hl [0, 1, 2, 3, 4, 5, 6] rfl)
                  · -- 86 False
                    have c86 := lg_nle.mp c86
                    refine lv_aload_n hx hb dX5_copy_89 rfl (lv_at hl 0 rfl) ?_
                    refine lv_iconst (v := 2) hx hb dX5_copy_90 (by decide) ?_
                    refine mu_Vi (As := [.int 2]) (rest := []) (wr := []) (wk := wG z c (metG gs 2)) [0, 1, 2, 3, 4, 5, 6, 7, 8, 9, 10, 11] [] [0, 1, 2, 3, 4, 5, 6, 7, 8, 9, 10, 11] ⟨hx, hb, hml, hown, hts⟩ (c_X5_meets l D z c gs 2 (by omega)) (cwV 1 hts gX5_copy_X5_meets rfl rfl rfl (by decide +kernel) ⟨Nat.le_of_ble_eq_true rfl, Nat.le_of_ble_eq_true rfl⟩) hP hK hD hS hA (va_recv hK.1 hP (ci := 5) (q0 := 0) rfl rfl) rfl rfl (by decide) (by decide) (by decide) (by decide) rfl rfl hl.1 rfl (Nat.le_of_ble_eq_true rfl) dX5_copy_91 ⟨Nat.le_of_ble_eq_true rfl, Nat.le_of_ble_eq_true rfl⟩ (fun H locs hP hD hS => ?_)
                    have e9 : gCopy (nI t) i (nI u) j n gs = ((-3), (metG gs 2)) := by simp [gCopy, c5, c13, c20, eq_true c35, eq_true c44, c54, c59, c72, c86, nI_clamp (show t < 2 ^ 31 by omega), nI_clamp (show u < 2 ^ 31 by omega)]
                    rw [e9]
                    exact mu_reti hx hb hr hlk hP hD hS (rfl) dX5_copy_94
          · -- 44 False
            refine lv_aload_n hx hb dX5_copy_47 rfl (lv_at hl 0 rfl) ?_
            refine lv_iconst (v := 1) hx hb dX5_copy_48 (by decide) ?_
            refine mu_Vi (As := [.int 1]) (rest := []) (wr := []) (wk := wG z c (metG gs 1)) [0, 1, 2, 3, 4, 5, 6, 7, 8, 9, 10, 11] [] [0, 1, 2, 3, 4, 5, 6, 7, 8, 9, 10, 11] ⟨hx, hb, hml, hown, hts⟩ (c_X5_meets l D z c gs 1 (by omega)) (cwV 1 hts gX5_copy_X5_meets rfl rfl rfl (by decide +kernel) ⟨Nat.le_of_ble_eq_true rfl, Nat.le_of_ble_eq_true rfl⟩) hP hK hD hS hA (va_recv hK.1 hP (ci := 5) (q0 := 0) rfl rfl) rfl rfl (by decide) (by decide) (by decide) (by decide) rfl rfl hl.1 rfl (Nat.le_of_ble_eq_true rfl) dX5_copy_49 ⟨Nat.le_of_ble_eq_true rfl, Nat.le_of_ble_eq_true rfl⟩ (fun H locs hP hD hS => ?_)
            have e9 : gCopy (nI t) i (nI u) j n gs = ((-3), (metG gs 1)) := by simp [gCopy, c5, c13, c20, eq_true c35, c44, nI_clamp (show t < 2 ^ 31 by omega), nI_clamp (show u < 2 ^ 31 by omega)]
            rw [e9]
            exact mu_reti hx hb hr hlk hP hD hS (rfl) dX5_copy_52
      · -- 20 False
        refine lv_aload_n hx hb dX5_copy_23 rfl (lv_at hl 0 rfl) ?_
        refine lv_iconst (v := 4) hx hb dX5_copy_24 (by decide) ?_
        refine mu_Vi (As := [.int 4]) (rest := []) (wr := []) (wk := wG z c (metG gs 4)) [0, 1, 2, 3, 4, 5, 6, 7, 8, 9, 10, 11] [] [0, 1, 2, 3, 4, 5, 6, 7, 8, 9, 10, 11] ⟨hx, hb, hml, hown, hts⟩ (c_X5_meets l D z c gs 4 (by omega)) (cwV 1 hts gX5_copy_X5_meets rfl rfl rfl (by decide +kernel) ⟨Nat.le_of_ble_eq_true rfl, Nat.le_of_ble_eq_true rfl⟩) hP hK hD hS hA (va_recv hK.1 hP (ci := 5) (q0 := 0) rfl rfl) rfl rfl (by decide) (by decide) (by decide) (by decide) rfl rfl hl.1 rfl (Nat.le_of_ble_eq_true rfl) dX5_copy_25 ⟨Nat.le_of_ble_eq_true rfl, Nat.le_of_ble_eq_true rfl⟩ (fun H locs hP hD hS => ?_)
        have e9 : gCopy (nI t) i (nI u) j n gs = ((-3), (metG gs 4)) := by simp [gCopy, c5, c13, c20, nI_clamp (show t < 2 ^ 31 by omega), nI_clamp (show u < 2 ^ 31 by omega)]
        rw [e9]
        exact mu_reti hx hb hr hlk hP hD hS (rfl) dX5_copy_28
    · -- 13 False
      have c13 := bI_z.mp c13
      refine lv_iconst (v := (-1)) hx hb dX5_copy_16 (by decide) ?_
      have e9 : gCopy (nI t) i o j n gs = ((-1), gs) := by simp [gCopy, c5, c13, nI_clamp (show t < 2 ^ 31 by omega)]
      rw [e9]
      exact mu_reti hx hb hr hlk hP hD hS (rfl) dX5_copy_17

set_option maxHeartbeats 4000000 in
set_option maxRecDepth 100000 in
theorem c_X5_told (l : Launch) (D : va_G) (z : Nat → Nat) (c : CT) (gs : GS) (x y : Int32) (hT : gT gs ≤ 20) (hB60 : gB gs ≤ 60) (hN : WN (gNd gs) (gT gs)) : ROi l yX5_told wsX5_told ({ frames := 4, cells := 0, slots := 0, locals := 97 } : Room) [.ref (z 0), .int x, .int y] D c (wG z c gs) (gTold x y gs) := by
  refine ro_starti (cc := cX5_told) (maxL := 3) (ret := some .int) (by decide) rfl (Nat.le_of_ble_eq_true rfl) ?_
  intro p e s m args below meth c0 ls hx hb hr hml hown hts hlk hP hK hl
  have hown : s.vm.findClass RX5 = some m.cls := hown
  have hl : lv_has ls 3 [(0, .ref (z 0)), (1, .int x), (2, .int y)] := hl
  refine lv_aload_n hx hb dX5_told_0 rfl (lv_at hl 0 rfl) ?_
  refine lv_iload_n hx hb dX5_told_1 rfl (lv_at hl 1 rfl) ?_
  refine ro_Vi (post := bI (inN x (gT gs))) (As := [.int x]) (rest := []) ⟨hx, hb, hml, hown, hts⟩ (c_X5_isTest l D z c gs x (by omega)) (cwV 1 hts gX5_told_X5_isTest rfl rfl rfl (by decide +kernel) ⟨Nat.le_of_ble_eq_true rfl, Nat.le_of_ble_eq_true rfl⟩) hP hK (va_recv hK.1 hP (ci := 5) (q0 := 0) rfl rfl) rfl hl.1 rfl (Nat.le_of_ble_eq_true rfl) dX5_told_2 ⟨Nat.le_of_ble_eq_true rfl, Nat.le_of_ble_eq_true rfl⟩ ?_
  refine lv_if_eq (tgt := 27) hx hb dX5_told_5 (by decide) (fun c5 => ?_) (fun c5 => ?_)
  · -- 5 True
    have c5 := bI_z.mp c5
    refine lv_iconst (v := (-1)) hx hb dX5_told_27 (by decide) ?_
    exact ro_reti hx hb hr hlk (by simp [gTold, c5]) dX5_told_28
  · -- 5 False
    have c5 := bI_nz.mp c5
    obtain ⟨t, ht, rfl⟩ := inN_ex (by omega) c5
    refine lv_iload_n hx hb dX5_told_8 rfl (lv_at hl 2 rfl) ?_
    refine lv_iconst (v := 0) hx hb dX5_told_9 (by decide) ?_
    refine lv_bipush (v := 6) hx hb dX5_told_10 (by decide) ?_
    refine ro_Si (As := [.int y, .int 0, .int 6]) (rest := []) ⟨hx, hb, hml, hown, hts⟩ (c_X5_in l D c y 0 6) (va_cwS 3 hts gX5_told_X5_in rfl rfl rfl (by decide +kernel) ⟨Nat.le_of_ble_eq_true rfl, Nat.le_of_ble_eq_true rfl⟩) va_P0 hK rfl hl.1 rfl (Nat.le_of_ble_eq_true rfl) dX5_told_12 ⟨Nat.le_of_ble_eq_true rfl, Nat.le_of_ble_eq_true rfl⟩ ?_
    refine lv_if_eq (tgt := 27) hx hb dX5_told_15 (by decide) (fun c15 => ?_) (fun c15 => ?_)
    · -- 15 True
      have c15 := bI_z.mp c15
      refine lv_iconst (v := (-1)) hx hb dX5_told_27 (by decide) ?_
      exact ro_reti hx hb hr hlk (by simp [gTold, c5, c15, nI_clamp (show t < 2 ^ 31 by omega)]) dX5_told_28
    · -- 15 False
      have c15 := bI_nz.mp c15
      refine lv_aload_n hx hb dX5_told_18 rfl (lv_at hl 0 rfl) ?_
      refine lv_iload_n hx hb dX5_told_19 rfl (lv_at hl 1 rfl) ?_
      refine lv_iload_n hx hb dX5_told_20 rfl (lv_at hl 2 rfl) ?_
      refine ro_Vi (post := (gTl gs t y)) (As := [.int (nI t), .int y]) (rest := []) ⟨hx, hb, hml, hown, hts⟩ (c_X5_tells l D z c gs t y (by omega) (by omega) (by omega) hN) (cwV 2 hts gX5_told_X5_tells rfl rfl rfl (by decide +kernel) ⟨Nat.le_of_ble_eq_true rfl, Nat.le_of_ble_eq_true rfl⟩) hP hK (va_recv hK.1 hP (ci := 5) (q0 := 0) rfl rfl) rfl hl.1 rfl (Nat.le_of_ble_eq_true rfl) dX5_told_21 ⟨Nat.le_of_ble_eq_true rfl, Nat.le_of_ble_eq_true rfl⟩ ?_
      refine lv_goto (tgt := 28) hx hb dX5_told_24 (by decide) ?_
      exact ro_reti hx hb hr hlk (by simp [gTold, c5, c15, nI_clamp (show t < 2 ^ 31 by omega)]) dX5_told_28

set_option maxHeartbeats 4000000 in
set_option maxRecDepth 100000 in
theorem c_X5_time (l : Launch) (D : va_G) (z : Nat → Nat) (c : CT) (gs : GS) (x k : Int32) (hT : gT gs ≤ 20) : MUi l yX5_time wsX5_time ({ frames := 2, cells := 0, slots := 0, locals := 43 } : Room) [.ref (z 0), .int x, .int k] D c (wG z c gs) (wG z c (gTime x k gs).2) ((gTime x k gs).1) := by
  refine mu_start (cc := cX5_time) (maxL := 3) (ret := some .int) (by decide) rfl (Nat.le_of_ble_eq_true rfl) ?_
  intro p e s m args below meth c0 ls hx hb hr hml hown hts hlk hnm hP hK hD hS hA hl
  have hown : s.vm.findClass RX5 = some m.cls := hown
  have hl : lv_has ls 3 [(0, .ref (z 0)), (1, .int x), (2, .int k)] := hl
  have hin5 : ∀ w ∈ wsX50, w ∈ wsX5_time := by decide +kernel
  refine lv_aload_n hx hb dX5_time_0 rfl (lv_at hl 0 rfl) ?_
  refine lv_iload_n hx hb dX5_time_1 rfl (lv_at hl 1 rfl) ?_
  refine ro_Vi (post := bI (inN x (gT gs))) (As := [.int x]) (rest := []) ⟨hx, hb, hml, hown, hts⟩ (c_X5_isTest l D z c gs x (by omega)) (cwV 1 hts gX5_time_X5_isTest rfl rfl rfl (by decide +kernel) ⟨Nat.le_of_ble_eq_true rfl, Nat.le_of_ble_eq_true rfl⟩) hP hK (va_recv hK.1 hP (ci := 5) (q0 := 0) rfl rfl) rfl hl.1 rfl (Nat.le_of_ble_eq_true rfl) dX5_time_2 ⟨Nat.le_of_ble_eq_true rfl, Nat.le_of_ble_eq_true rfl⟩ ?_
  refine lv_if_eq (tgt := 17) hx hb dX5_time_5 (by decide) (fun c5 => ?_) (fun c5 => ?_)
  · -- 5 True
    have c5 := bI_z.mp c5
    refine lv_iconst (v := (-1)) hx hb dX5_time_17 (by decide) ?_
    have e9 : gTime x k gs = ((-1), gs) := by simp [gTime, c5]
    rw [e9]
    exact mu_reti hx hb hr hlk hP hD hS (rfl) dX5_time_18
  · -- 5 False
    have c5 := bI_nz.mp c5
    obtain ⟨t, ht, rfl⟩ := inN_ex (by omega) c5
    refine lv_iload_n hx hb dX5_time_8 rfl (lv_at hl 2 rfl) ?_
    refine lv_iconst (v := 0) hx hb dX5_time_9 (by decide) ?_
    refine lv_iconst (v := 3) hx hb dX5_time_10 (by decide) ?_
    refine ro_Si (As := [.int k, .int 0, .int 3]) (rest := []) ⟨hx, hb, hml, hown, hts⟩ (c_X5_in l D c k 0 3) (va_cwS 3 hts gX5_time_X5_in rfl rfl rfl (by decide +kernel) ⟨Nat.le_of_ble_eq_true rfl, Nat.le_of_ble_eq_true rfl⟩) va_P0 hK rfl hl.1 rfl (Nat.le_of_ble_eq_true rfl) dX5_time_11 ⟨Nat.le_of_ble_eq_true rfl, Nat.le_of_ble_eq_true rfl⟩ ?_
    refine lv_if_ne (tgt := 19) hx hb dX5_time_14 (by decide) (fun c14 => ?_) (fun c14 => ?_)
    · -- 14 True
      have c14 := bI_nz.mp c14
      refine lv_iload_n hx hb dX5_time_19 rfl (lv_at hl 2 rfl) ?_
      refine lv_if_eq (tgt := 33) hx hb dX5_time_20 (by decide) (fun c20 => ?_) (fun c20 => ?_)
      · -- 20 True
        refine lv_aload_n hx hb dX5_time_33 rfl (lv_at hl 0 rfl) ?_
        refine va_get (D := D) (ci := 5) (v := .ref (z 3)) (C := RX5) (T := TX5) (N := 19) hx hb hts hin5 hown hK.1 hP 0 rfl rfl 4 (by decide) (hts (.fieldLink RX5 16 "TestPickerModel" "times" "[I") (by decide +kernel)) (fun _ h9 => h9) rfl dX5_time_34 ?_
        refine lv_iload_n hx hb dX5_time_37 rfl (lv_at hl 1 rfl) ?_
        refine ld_i hx hb hK hP 3 (f := gTi gs) rfl (i := t) (by omega) (by decide) dX5_time_38 ?_
        refine lv_goto (tgt := 47) hx hb dX5_time_39 (by decide) ?_
        have e9 : gTime (nI t) k gs = ((gTi gs t), gs) := by simp [gTime, c5, c14, eq_true c20, nI_clamp (show t < 2 ^ 31 by omega)]
        rw [e9]
        exact mu_reti hx hb hr hlk hP hD hS (rfl) dX5_time_47
      · -- 20 False
        refine lv_iload_n hx hb dX5_time_23 rfl (lv_at hl 2 rfl) ?_
        refine lv_aload_n hx hb dX5_time_24 rfl (lv_at hl 0 rfl) ?_
        refine va_get (D := D) (ci := 5) (v := .ref (z 2)) (C := RX5) (T := TX5) (N := 19) hx hb hts hin5 hown hK.1 hP 0 rfl rfl 3 (by decide) (hts (.fieldLink RX5 13 "TestPickerModel" "kinds" "[I") (by decide +kernel)) (fun _ h9 => h9) rfl dX5_time_25 ?_
        refine lv_iload_n hx hb dX5_time_28 rfl (lv_at hl 1 rfl) ?_
        refine ld_i hx hb hK hP 2 (f := gKd gs) rfl (i := t) (by omega) (by decide) dX5_time_29 ?_
        refine lv_icmp_ne (tgt := 42) hx hb dX5_time_30 (by decide) (fun c30 => ?_) (fun c30 => ?_)
        · -- 30 True
          refine lv_aload_n hx hb dX5_time_42 rfl (lv_at hl 0 rfl) ?_
          refine lv_iconst (v := 3) hx hb dX5_time_43 (by decide) ?_
          refine mu_Vi (As := [.int 3]) (rest := []) (wr := []) (wk := wG z c (metG gs 3)) [0, 1, 2, 3, 4, 5, 6, 7, 8, 9, 10, 11] [] [0, 1, 2, 3, 4, 5, 6, 7, 8, 9, 10, 11] ⟨hx, hb, hml, hown, hts⟩ (c_X5_meets l D z c gs 3 (by omega)) (cwV 1 hts gX5_time_X5_meets rfl rfl rfl (by decide +kernel) ⟨Nat.le_of_ble_eq_true rfl, Nat.le_of_ble_eq_true rfl⟩) hP hK hD hS hA (va_recv hK.1 hP (ci := 5) (q0 := 0) rfl rfl) rfl rfl (by decide) (by decide) (by decide) (by decide) rfl rfl hl.1 rfl (Nat.le_of_ble_eq_true rfl) dX5_time_44 ⟨Nat.le_of_ble_eq_true rfl, Nat.le_of_ble_eq_true rfl⟩ (fun H locs hP hD hS => ?_)
          have e9 : gTime (nI t) k gs = ((-3), (metG gs 3)) := by simp [gTime, c5, c14, c20, c30, nI_clamp (show t < 2 ^ 31 by omega)]
          rw [e9]
          exact mu_reti hx hb hr hlk hP hD hS (rfl) dX5_time_47
        · -- 30 False
          refine lv_aload_n hx hb dX5_time_33 rfl (lv_at hl 0 rfl) ?_
          refine va_get (D := D) (ci := 5) (v := .ref (z 3)) (C := RX5) (T := TX5) (N := 19) hx hb hts hin5 hown hK.1 hP 0 rfl rfl 4 (by decide) (hts (.fieldLink RX5 16 "TestPickerModel" "times" "[I") (by decide +kernel)) (fun _ h9 => h9) rfl dX5_time_34 ?_
          refine lv_iload_n hx hb dX5_time_37 rfl (lv_at hl 1 rfl) ?_
          refine ld_i hx hb hK hP 3 (f := gTi gs) rfl (i := t) (by omega) (by decide) dX5_time_38 ?_
          refine lv_goto (tgt := 47) hx hb dX5_time_39 (by decide) ?_
          have e9 : gTime (nI t) k gs = ((gTi gs t), gs) := by simp [gTime, c5, c14, c20, eq_true c30, nI_clamp (show t < 2 ^ 31 by omega)]
          rw [e9]
          exact mu_reti hx hb hr hlk hP hD hS (rfl) dX5_time_47
    · -- 14 False
      have c14 := bI_z.mp c14
      refine lv_iconst (v := (-1)) hx hb dX5_time_17 (by decide) ?_
      have e9 : gTime (nI t) k gs = ((-1), gs) := by simp [gTime, c5, c14, nI_clamp (show t < 2 ^ 31 by omega)]
      rw [e9]
      exact mu_reti hx hb hr hlk hP hD hS (rfl) dX5_time_18

set_option maxHeartbeats 4000000 in
set_option maxRecDepth 100000 in
theorem c_X5_build (l : Launch) (D : va_G) (z : Nat → Nat) (c : CT) (gs : GS) (x : Int64) (hB60 : gB gs ≤ 60) : MUi l yX5_build wsX5_build ({ frames := 0, cells := 0, slots := 0, locals := 0 } : Room) [.ref (z 0), .long x] D c (wG z c gs) (wG z c (gBuild x gs).2) ((gBuild x gs).1) := by
  refine mu_start (cc := cX5_build) (maxL := 3) (ret := some .int) (by decide) rfl (Nat.le_of_ble_eq_true rfl) ?_
  intro p e s m args below meth c0 ls hx hb hr hml hown hts hlk hnm hP hK hD hS hA hl
  have hown : s.vm.findClass RX5 = some m.cls := hown
  have hl : lv_has ls 3 [(0, .ref (z 0)), (1, .long x)] := hl
  have hin5 : ∀ w ∈ wsX50, w ∈ wsX5_build := by decide +kernel
  refine lv_lload_n hx hb dX5_build_0 rfl (lv_at hl 1 rfl) ?_
  refine lv_ldc2 (own := RX5) (v := (-1099511627776)) hx hb hown (hts (.constantLong RX5 99 (-1099511627776)) (by decide +kernel)) dX5_build_1 ?_
  refine lv_land hx hb dX5_build_4 ?_
  refine lv_lconst (v := 0) hx hb dX5_build_5 (by decide) ?_
  refine W.lcmp hx hb dX5_build_6 ?_
  refine lv_if_eq (tgt := 12) hx hb dX5_build_7 (by decide) (fun c7 => ?_) (fun c7 => ?_)
  · -- 7 True
    have c7 := (lg_cmp_eq _ _).mp c7
    refine lv_aload_n hx hb dX5_build_12 rfl (lv_at hl 0 rfl) ?_
    refine va_get (D := D) (ci := 5) (v := .int (nI (gB gs))) (C := RX5) (T := TX5) (N := 19) hx hb hts hin5 hown hK.1 hP 0 rfl rfl 8 (by decide) (hts (.fieldLink RX5 59 "TestPickerModel" "builds" "I") (by decide +kernel)) (fun _ h9 => h9) rfl dX5_build_13 ?_
    refine lv_bipush (v := 60) hx hb dX5_build_16 (by decide) ?_
    refine lv_icmp_ne (tgt := 24) hx hb dX5_build_18 (by decide) (fun c18 => ?_) (fun c18 => ?_)
    · -- 18 True
      have c18 : ¬ gB gs = 60 := fun z => c18 (by rw [z]; rfl)
      have c18b : gB gs < 60 := by omega
      refine lv_aload_n hx hb dX5_build_24 rfl (lv_at hl 0 rfl) ?_
      refine va_get (D := D) (ci := 5) (v := .ref (z 7)) (C := RX5) (T := TX5) (N := 19) hx hb hts hin5 hown hK.1 hP 0 rfl rfl 9 (by decide) (hts (.fieldLink RX5 29 "TestPickerModel" "changes" "[J") (by decide +kernel)) (fun _ h9 => h9) rfl dX5_build_25 ?_
      refine lv_aload_n hx hb dX5_build_28 rfl (lv_at hl 0 rfl) ?_
      refine va_get (D := D) (ci := 5) (v := .int (nI (gB gs))) (C := RX5) (T := TX5) (N := 19) hx hb hts hin5 hown hK.1 hP 0 rfl rfl 8 (by decide) (hts (.fieldLink RX5 59 "TestPickerModel" "builds" "I") (by decide +kernel)) (fun _ h9 => h9) rfl dX5_build_29 ?_
      refine lv_lload_n hx hb dX5_build_32 rfl (lv_at hl 1 rfl) ?_
      refine st_l hx hb hK hP hD hS 7 rfl (i := (gB gs)) (by omega) (by decide) dX5_build_33 (fun H locs hP hD hS => ?_)
      have hP : va_P D vwCl (wG z c (gFi gs, gFs gs, gT gs, gKd gs, gTi gs, gNd gs, gMs gs, gBy gs, gB gs, (vp_updL (gCg gs) (gB gs) x), gVe gs, gAs gs, gMv gs, gPm gs, gPk gs, gPt gs, gPp gs, gPs gs, gMay gs)) H := hP
      have hD : va_D (va_A (wG z c gs) s.heap.size) (wG z c (gFi gs, gFs gs, gT gs, gKd gs, gTi gs, gNd gs, gMs gs, gBy gs, gB gs, (vp_updL (gCg gs) (gB gs) x), gVe gs, gAs gs, gMv gs, gPm gs, gPk gs, gPt gs, gPp gs, gPs gs, gMay gs)) := hD
      refine lv_aload_n hx hb dX5_build_34 rfl (lv_at hl 0 rfl) ?_
      refine lv_dup hx hb dX5_build_35 rfl ?_
      refine va_get (D := D) (ci := 5) (v := .int (nI (gB gs))) (C := RX5) (T := TX5) (N := 19) hx hb hts hin5 hown hK.1 hP 0 rfl rfl 8 (by decide) (hts (.fieldLink RX5 59 "TestPickerModel" "builds" "I") (by decide +kernel)) (fun _ h9 => h9) rfl dX5_build_36 ?_
      refine lv_iconst (v := 1) hx hb dX5_build_39 (by decide) ?_
      refine lv_iadd hx hb dX5_build_40 ?_
      refine tp_i (z := nI (gB gs + 1)) (nI_1 _) ?_
      refine va_put (D := D) (ci := 5) (v := .int (nI (gB gs + 1))) (ty := .int) (C := RX5) (T := TX5) (N := 19) hx hb hts hin5 tyX5 tyX5_ok nmX5 hown hK.1 hP hD hS 0 rfl rfl 8 (by decide) (hts (.fieldLink RX5 59 "TestPickerModel" "builds" "I") (by decide +kernel)) (fun _ h9 => h9) rfl (by decide +kernel) rfl rfl (Nat.le_of_ble_eq_true rfl) dX5_build_41 (fun H locs hP hD hS => ?_)
      have hP : va_P D vwCl (wG z c (gFi gs, gFs gs, gT gs, gKd gs, gTi gs, gNd gs, gMs gs, gBy gs, (gB gs + 1), (vp_updL (gCg gs) (gB gs) x), gVe gs, gAs gs, gMv gs, gPm gs, gPk gs, gPt gs, gPp gs, gPs gs, gMay gs)) H := hP
      have hD : va_D (va_A (wG z c gs) s.heap.size) (wG z c (gFi gs, gFs gs, gT gs, gKd gs, gTi gs, gNd gs, gMs gs, gBy gs, (gB gs + 1), (vp_updL (gCg gs) (gB gs) x), gVe gs, gAs gs, gMv gs, gPm gs, gPk gs, gPt gs, gPp gs, gPs gs, gMay gs)) := hD
      refine lv_aload_n hx hb dX5_build_44 rfl (lv_at hl 0 rfl) ?_
      refine lv_bipush (v := (-9)) hx hb dX5_build_45 (by decide) ?_
      refine va_put (D := D) (ci := 5) (v := .int (-9)) (ty := .int) (C := RX5) (T := TX5) (N := 19) hx hb hts hin5 tyX5 tyX5_ok nmX5 hown hK.1 hP hD hS 0 rfl rfl 13 (by decide) (hts (.fieldLink RX5 39 "TestPickerModel" "pickMany" "I") (by decide +kernel)) (fun _ h9 => h9) rfl (by decide +kernel) rfl rfl (Nat.le_of_ble_eq_true rfl) dX5_build_47 (fun H locs hP hD hS => ?_)
      have hP : va_P D vwCl (wG z c (gFi gs, gFs gs, gT gs, gKd gs, gTi gs, gNd gs, gMs gs, gBy gs, (gB gs + 1), (vp_updL (gCg gs) (gB gs) x), gVe gs, gAs gs, gMv gs, (-9), gPk gs, gPt gs, gPp gs, gPs gs, gMay gs)) H := hP
      have hD : va_D (va_A (wG z c gs) s.heap.size) (wG z c (gFi gs, gFs gs, gT gs, gKd gs, gTi gs, gNd gs, gMs gs, gBy gs, (gB gs + 1), (vp_updL (gCg gs) (gB gs) x), gVe gs, gAs gs, gMv gs, (-9), gPk gs, gPt gs, gPp gs, gPs gs, gMay gs)) := hD
      refine lv_aload_n hx hb dX5_build_50 rfl (lv_at hl 0 rfl) ?_
      refine va_get (D := D) (ci := 5) (v := .int (nI (gB gs + 1))) (C := RX5) (T := TX5) (N := 19) hx hb hts hin5 hown hK.1 hP 0 rfl rfl 8 (by decide) (hts (.fieldLink RX5 59 "TestPickerModel" "builds" "I") (by decide +kernel)) (fun _ h9 => h9) rfl dX5_build_51 ?_
      refine lv_iconst (v := 1) hx hb dX5_build_54 (by decide) ?_
      refine lv_isub hx hb dX5_build_55 ?_
      refine tp_i (z := nI (gB gs)) (nI_pred _) ?_
      have e9 : gBuild x gs = (nI (gB gs), (gFi gs, gFs gs, gT gs, gKd gs, gTi gs, gNd gs, gMs gs, gBy gs, (gB gs + 1), (vp_updL (gCg gs) (gB gs) x), gVe gs, gAs gs, gMv gs, (-9), gPk gs, gPt gs, gPp gs, gPs gs, gMay gs)) := by simp [gBuild, eq_true c7, c18]
      rw [e9]
      exact mu_reti hx hb hr hlk hP hD hS (rfl) dX5_build_56
    · -- 18 False
      have c18 : gB gs = 60 := (nI_eq (by omega) (by omega)).mp (show nI (gB gs) = nI 60 from c18)
      refine lv_bipush (v := (-2)) hx hb dX5_build_21 (by decide) ?_
      have e9 : gBuild x gs = ((-2), gs) := by simp [gBuild, eq_true c7, eq_true c18]
      rw [e9]
      exact mu_reti hx hb hr hlk hP hD hS (rfl) dX5_build_23
  · -- 7 False
    have c7 := lg_ne.mp c7
    refine lv_iconst (v := (-1)) hx hb dX5_build_10 (by decide) ?_
    have e9 : gBuild x gs = ((-1), gs) := by simp [gBuild, c7]
    rw [e9]
    exact mu_reti hx hb hr hlk hP hD hS (rfl) dX5_build_11

set_option maxHeartbeats 4000000 in
set_option maxRecDepth 100000 in
theorem c_X5_verdict (l : Launch) (D : va_G) (z : Nat → Nat) (c : CT) (gs : GS) (x : Int32) (f : Bool) (hT : gT gs ≤ 20) (hB60 : gB gs ≤ 60) : MUi l yX5_verdict wsX5_verdict ({ frames := 2, cells := 0, slots := 0, locals := 43 } : Room) [.ref (z 0), .int x, .int (bI f)] D c (wG z c gs) (wG z c (gVerdict x f gs).2) ((gVerdict x f gs).1) := by
  refine mu_start (cc := cX5_verdict) (maxL := 3) (ret := some .int) (by decide) rfl (Nat.le_of_ble_eq_true rfl) ?_
  intro p e s m args below meth c0 ls hx hb hr hml hown hts hlk hnm hP hK hD hS hA hl
  have hown : s.vm.findClass RX5 = some m.cls := hown
  have hl : lv_has ls 3 [(0, .ref (z 0)), (1, .int x), (2, .int (bI f))] := hl
  have hin5 : ∀ w ∈ wsX50, w ∈ wsX5_verdict := by decide +kernel
  refine lv_aload_n hx hb dX5_verdict_0 rfl (lv_at hl 0 rfl) ?_
  refine lv_iload_n hx hb dX5_verdict_1 rfl (lv_at hl 1 rfl) ?_
  refine ro_Vi (post := bI (inN x (gT gs))) (As := [.int x]) (rest := []) ⟨hx, hb, hml, hown, hts⟩ (c_X5_isTest l D z c gs x (by omega)) (cwV 1 hts gX5_verdict_X5_isTest rfl rfl rfl (by decide +kernel) ⟨Nat.le_of_ble_eq_true rfl, Nat.le_of_ble_eq_true rfl⟩) hP hK (va_recv hK.1 hP (ci := 5) (q0 := 0) rfl rfl) rfl hl.1 rfl (Nat.le_of_ble_eq_true rfl) dX5_verdict_2 ⟨Nat.le_of_ble_eq_true rfl, Nat.le_of_ble_eq_true rfl⟩ ?_
  refine lv_if_ne (tgt := 12) hx hb dX5_verdict_5 (by decide) (fun c5 => ?_) (fun c5 => ?_)
  · -- 5 True
    have c5 := bI_nz.mp c5
    obtain ⟨t, ht, rfl⟩ := inN_ex (by omega) c5
    refine lv_aload_n hx hb dX5_verdict_12 rfl (lv_at hl 0 rfl) ?_
    refine va_get (D := D) (ci := 5) (v := .int (nI (gB gs))) (C := RX5) (T := TX5) (N := 19) hx hb hts hin5 hown hK.1 hP 0 rfl rfl 8 (by decide) (hts (.fieldLink RX5 59 "TestPickerModel" "builds" "I") (by decide +kernel)) (fun _ h9 => h9) rfl dX5_verdict_13 ?_
    refine lv_if_ne (tgt := 24) hx hb dX5_verdict_16 (by decide) (fun c16 => ?_) (fun c16 => ?_)
    · -- 16 True
      have c16 : ¬ (gB gs) = 0 := fun z => c16 ((nI_eq (b := 0) (by omega) (by omega)).mpr z)
      refine lv_aload_n hx hb dX5_verdict_24 rfl (lv_at hl 0 rfl) ?_
      refine lv_iload_n hx hb dX5_verdict_25 rfl (lv_at hl 1 rfl) ?_
      refine lv_iload_n hx hb dX5_verdict_26 rfl (lv_at hl 2 rfl) ?_
      refine mu_Vi (As := [.int (nI t), .int (bI f)]) (rest := []) (wr := []) (wk := wG z c (judG gs t f)) [0, 1, 2, 3, 4, 5, 6, 7, 8, 9, 10, 11] [] [0, 1, 2, 3, 4, 5, 6, 7, 8, 9, 10, 11] ⟨hx, hb, hml, hown, hts⟩ (c_X5_judge l D z c gs t f (by omega) (by omega) (by omega)) (cwV 2 hts gX5_verdict_X5_judge rfl rfl rfl (by decide +kernel) ⟨Nat.le_of_ble_eq_true rfl, Nat.le_of_ble_eq_true rfl⟩) hP hK hD hS hA (va_recv hK.1 hP (ci := 5) (q0 := 0) rfl rfl) rfl rfl (by decide) (by decide) (by decide) (by decide) rfl rfl hl.1 rfl (Nat.le_of_ble_eq_true rfl) dX5_verdict_27 ⟨Nat.le_of_ble_eq_true rfl, Nat.le_of_ble_eq_true rfl⟩ (fun H locs hP hD hS => ?_)
      have e9 : gVerdict (nI t) f gs = (bI (!decide (gVe gs (20 * (gB gs - 1) + t) < 0)), (judG gs t f)) := by simp [gVerdict, c5, c16, nI_clamp (show t < 2 ^ 31 by omega)]
      rw [e9]
      exact mu_reti hx hb hr hlk hP hD hS (rfl) dX5_verdict_30
    · -- 16 False
      have c16 : (gB gs) = 0 := (nI_eq (b := 0) (by omega) (by omega)).mp c16
      refine lv_bipush (v := (-4)) hx hb dX5_verdict_19 (by decide) ?_
      refine lv_goto (tgt := 30) hx hb dX5_verdict_21 (by decide) ?_
      have e9 : gVerdict (nI t) f gs = ((-4), gs) := by simp [gVerdict, c5, eq_true c16, nI_clamp (show t < 2 ^ 31 by omega)]
      rw [e9]
      exact mu_reti hx hb hr hlk hP hD hS (rfl) dX5_verdict_30
  · -- 5 False
    have c5 := bI_z.mp c5
    refine lv_iconst (v := (-1)) hx hb dX5_verdict_8 (by decide) ?_
    refine lv_goto (tgt := 30) hx hb dX5_verdict_9 (by decide) ?_
    have e9 : gVerdict x f gs = ((-1), gs) := by simp [gVerdict, c5]
    rw [e9]
    exact mu_reti hx hb hr hlk hP hD hS (rfl) dX5_verdict_30

set_option maxHeartbeats 4000000 in
set_option maxRecDepth 100000 in
theorem c_X5_was (l : Launch) (D : va_G) (z : Nat → Nat) (c : CT) (gs : GS) (x b : Int32) (hT : gT gs ≤ 20) (hB60 : gB gs ≤ 60) : ROi l yX5_was wsX5_was ({ frames := 2, cells := 0, slots := 0, locals := 43 } : Room) [.ref (z 0), .int x, .int b] D c (wG z c gs) (gWas x b gs) := by
  refine ro_starti (cc := cX5_was) (maxL := 3) (ret := some .int) (by decide) rfl (Nat.le_of_ble_eq_true rfl) ?_
  intro p e s m args below meth c0 ls hx hb hr hml hown hts hlk hP hK hl
  have hown : s.vm.findClass RX5 = some m.cls := hown
  have hl : lv_has ls 3 [(0, .ref (z 0)), (1, .int x), (2, .int b)] := hl
  have hin5 : ∀ w ∈ wsX50, w ∈ wsX5_was := by decide +kernel
  refine lv_aload_n hx hb dX5_was_0 rfl (lv_at hl 0 rfl) ?_
  refine lv_iload_n hx hb dX5_was_1 rfl (lv_at hl 1 rfl) ?_
  refine ro_Vi (post := bI (inN x (gT gs))) (As := [.int x]) (rest := []) ⟨hx, hb, hml, hown, hts⟩ (c_X5_isTest l D z c gs x (by omega)) (cwV 1 hts gX5_was_X5_isTest rfl rfl rfl (by decide +kernel) ⟨Nat.le_of_ble_eq_true rfl, Nat.le_of_ble_eq_true rfl⟩) hP hK (va_recv hK.1 hP (ci := 5) (q0 := 0) rfl rfl) rfl hl.1 rfl (Nat.le_of_ble_eq_true rfl) dX5_was_2 ⟨Nat.le_of_ble_eq_true rfl, Nat.le_of_ble_eq_true rfl⟩ ?_
  refine lv_if_eq (tgt := 30) hx hb dX5_was_5 (by decide) (fun c5 => ?_) (fun c5 => ?_)
  · -- 5 True
    have c5 := bI_z.mp c5
    refine lv_iconst (v := (-1)) hx hb dX5_was_30 (by decide) ?_
    exact ro_reti hx hb hr hlk (by simp [gWas, c5]) dX5_was_31
  · -- 5 False
    have c5 := bI_nz.mp c5
    obtain ⟨t, ht, rfl⟩ := inN_ex (by omega) c5
    refine lv_aload_n hx hb dX5_was_8 rfl (lv_at hl 0 rfl) ?_
    refine lv_iload_n hx hb dX5_was_9 rfl (lv_at hl 2 rfl) ?_
    refine ro_Vi (post := bI (inN b (gB gs))) (As := [.int b]) (rest := []) ⟨hx, hb, hml, hown, hts⟩ (c_X5_isBuild l D z c gs b (by omega)) (cwV 1 hts gX5_was_X5_isBuild rfl rfl rfl (by decide +kernel) ⟨Nat.le_of_ble_eq_true rfl, Nat.le_of_ble_eq_true rfl⟩) hP hK (va_recv hK.1 hP (ci := 5) (q0 := 0) rfl rfl) rfl hl.1 rfl (Nat.le_of_ble_eq_true rfl) dX5_was_10 ⟨Nat.le_of_ble_eq_true rfl, Nat.le_of_ble_eq_true rfl⟩ ?_
    refine lv_if_eq (tgt := 30) hx hb dX5_was_13 (by decide) (fun c13 => ?_) (fun c13 => ?_)
    · -- 13 True
      have c13 := bI_z.mp c13
      refine lv_iconst (v := (-1)) hx hb dX5_was_30 (by decide) ?_
      exact ro_reti hx hb hr hlk (by simp [gWas, c5, c13, nI_clamp (show t < 2 ^ 31 by omega)]) dX5_was_31
    · -- 13 False
      have c13 := bI_nz.mp c13
      obtain ⟨u, hu, rfl⟩ := inN_ex (by omega) c13
      refine lv_aload_n hx hb dX5_was_16 rfl (lv_at hl 0 rfl) ?_
      refine va_get (D := D) (ci := 5) (v := .ref (z 8)) (C := RX5) (T := TX5) (N := 19) hx hb hts hin5 hown hK.1 hP 0 rfl rfl 10 (by decide) (hts (.fieldLink RX5 33 "TestPickerModel" "verdicts" "[I") (by decide +kernel)) (fun _ h9 => h9) rfl dX5_was_17 ?_
      refine lv_bipush (v := 20) hx hb dX5_was_20 (by decide) ?_
      refine lv_iload_n hx hb dX5_was_22 rfl (lv_at hl 2 rfl) ?_
      refine lv_imul hx hb dX5_was_23 ?_
      refine lv_iload_n hx hb dX5_was_24 rfl (lv_at hl 1 rfl) ?_
      refine lv_iadd hx hb dX5_was_25 ?_
      refine tp_i (z := nI (20 * u + t)) (ix20 _ _) ?_
      refine ld_i hx hb hK hP 8 (f := gVe gs) rfl (i := (20 * u + t)) (by omega) (by decide) dX5_was_26 ?_
      refine lv_goto (tgt := 31) hx hb dX5_was_27 (by decide) ?_
      exact ro_reti hx hb hr hlk (by simp [gWas, c5, c13, nI_clamp (show t < 2 ^ 31 by omega), nI_clamp (show u < 2 ^ 31 by omega)]) dX5_was_31

set_option maxHeartbeats 4000000 in
set_option maxRecDepth 100000 in
theorem c_X5_change (l : Launch) (D : va_G) (z : Nat → Nat) (c : CT) (gs : GS) (b : Int32) (hB60 : gB gs ≤ 60) : MUi l yX5_change wsX5_change ({ frames := 2, cells := 0, slots := 0, locals := 43 } : Room) [.ref (z 0), .int b] D c (wG z c gs) (wG z c (gChange b gs).2) ((gChange b gs).1) := by
  refine mu_start (cc := cX5_change) (maxL := 2) (ret := some .int) (by decide) rfl (Nat.le_of_ble_eq_true rfl) ?_
  intro p e s m args below meth c0 ls hx hb hr hml hown hts hlk hnm hP hK hD hS hA hl
  have hown : s.vm.findClass RX5 = some m.cls := hown
  have hl : lv_has ls 2 [(0, .ref (z 0)), (1, .int b)] := hl
  have hin5 : ∀ w ∈ wsX50, w ∈ wsX5_change := by decide +kernel
  refine lv_aload_n hx hb dX5_change_0 rfl (lv_at hl 0 rfl) ?_
  refine lv_iload_n hx hb dX5_change_1 rfl (lv_at hl 1 rfl) ?_
  refine ro_Vi (post := bI (inN b (gB gs))) (As := [.int b]) (rest := []) ⟨hx, hb, hml, hown, hts⟩ (c_X5_isBuild l D z c gs b (by omega)) (cwV 1 hts gX5_change_X5_isBuild rfl rfl rfl (by decide +kernel) ⟨Nat.le_of_ble_eq_true rfl, Nat.le_of_ble_eq_true rfl⟩) hP hK (va_recv hK.1 hP (ci := 5) (q0 := 0) rfl rfl) rfl hl.1 rfl (Nat.le_of_ble_eq_true rfl) dX5_change_2 ⟨Nat.le_of_ble_eq_true rfl, Nat.le_of_ble_eq_true rfl⟩ ?_
  refine lv_if_ne (tgt := 10) hx hb dX5_change_5 (by decide) (fun c5 => ?_) (fun c5 => ?_)
  · -- 5 True
    have c5 := bI_nz.mp c5
    obtain ⟨u, hu, rfl⟩ := inN_ex (by omega) c5
    refine lv_aload_n hx hb dX5_change_10 rfl (lv_at hl 0 rfl) ?_
    refine lv_aload_n hx hb dX5_change_11 rfl (lv_at hl 0 rfl) ?_
    refine va_get (D := D) (ci := 5) (v := .ref (z 7)) (C := RX5) (T := TX5) (N := 19) hx hb hts hin5 hown hK.1 hP 0 rfl rfl 9 (by decide) (hts (.fieldLink RX5 29 "TestPickerModel" "changes" "[J") (by decide +kernel)) (fun _ h9 => h9) rfl dX5_change_12 ?_
    refine lv_iload_n hx hb dX5_change_15 rfl (lv_at hl 1 rfl) ?_
    refine ld_l hx hb hK hP 7 (f := gCg gs) rfl (i := u) (by omega) (by decide) dX5_change_16 ?_
    refine va_put (D := D) (ci := 5) (v := .long (gCg gs u)) (ty := .long) (C := RX5) (T := TX5) (N := 19) hx hb hts hin5 tyX5 tyX5_ok nmX5 hown hK.1 hP hD hS 0 rfl rfl 11 (by decide) (hts (.fieldLink RX5 108 "TestPickerModel" "asked" "J") (by decide +kernel)) (fun _ h9 => h9) rfl (by decide +kernel) rfl rfl (Nat.le_of_ble_eq_true rfl) dX5_change_17 (fun H locs hP hD hS => ?_)
    have hP : va_P D vwCl (wG z c (gFi gs, gFs gs, gT gs, gKd gs, gTi gs, gNd gs, gMs gs, gBy gs, gB gs, gCg gs, gVe gs, (gCg gs u), gMv gs, gPm gs, gPk gs, gPt gs, gPp gs, gPs gs, gMay gs)) H := hP
    have hD : va_D (va_A (wG z c gs) s.heap.size) (wG z c (gFi gs, gFs gs, gT gs, gKd gs, gTi gs, gNd gs, gMs gs, gBy gs, gB gs, gCg gs, gVe gs, (gCg gs u), gMv gs, gPm gs, gPk gs, gPt gs, gPp gs, gPs gs, gMay gs)) := hD
    refine lv_iconst (v := 1) hx hb dX5_change_20 (by decide) ?_
    have e9 : gChange (nI u) gs = (1, (gFi gs, gFs gs, gT gs, gKd gs, gTi gs, gNd gs, gMs gs, gBy gs, gB gs, gCg gs, gVe gs, (gCg gs u), gMv gs, gPm gs, gPk gs, gPt gs, gPp gs, gPs gs, gMay gs)) := by simp [gChange, c5, nI_clamp (show u < 2 ^ 31 by omega)]
    rw [e9]
    exact mu_reti hx hb hr hlk hP hD hS (rfl) dX5_change_21
  · -- 5 False
    have c5 := bI_z.mp c5
    refine lv_iconst (v := (-1)) hx hb dX5_change_8 (by decide) ?_
    have e9 : gChange b gs = ((-1), gs) := by simp [gChange, c5]
    rw [e9]
    exact mu_reti hx hb hr hlk hP hD hS (rfl) dX5_change_9

set_option maxHeartbeats 4000000 in
set_option maxRecDepth 100000 in
theorem c_X5_often (l : Launch) (D : va_G) (z : Nat → Nat) (c : CT) (gs : GS) (x y : Int32) (hT : gT gs ≤ 20) (hB60 : gB gs ≤ 60) : ROi l yX5_often wsX5_often ({ frames := 2, cells := 0, slots := 0, locals := 43 } : Room) [.ref (z 0), .int x, .int y] D c (wG z c gs) (gOften x y gs) := by
  refine ro_starti (cc := cX5_often) (maxL := 6) (ret := some .int) (by decide) rfl (Nat.le_of_ble_eq_true rfl) ?_
  intro p e s m args below meth c0 ls hx hb hr hml hown hts hlk hP hK hl
  have hown : s.vm.findClass RX5 = some m.cls := hown
  have hl : lv_has ls 6 [(0, .ref (z 0)), (1, .int x), (2, .int y)] := hl
  have hin5 : ∀ w ∈ wsX50, w ∈ wsX5_often := by decide +kernel
  refine lv_aload_n hx hb dX5_often_0 rfl (lv_at hl 0 rfl) ?_
  refine lv_iload_n hx hb dX5_often_1 rfl (lv_at hl 1 rfl) ?_
  refine ro_Vi (post := bI (inN x (gT gs))) (As := [.int x]) (rest := []) ⟨hx, hb, hml, hown, hts⟩ (c_X5_isTest l D z c gs x (by omega)) (cwV 1 hts gX5_often_X5_isTest rfl rfl rfl (by decide +kernel) ⟨Nat.le_of_ble_eq_true rfl, Nat.le_of_ble_eq_true rfl⟩) hP hK (va_recv hK.1 hP (ci := 5) (q0 := 0) rfl rfl) rfl hl.1 rfl (Nat.le_of_ble_eq_true rfl) dX5_often_2 ⟨Nat.le_of_ble_eq_true rfl, Nat.le_of_ble_eq_true rfl⟩ ?_
  refine lv_if_eq (tgt := 17) hx hb dX5_often_5 (by decide) (fun c5 => ?_) (fun c5 => ?_)
  · -- 5 True
    have c5 := bI_z.mp c5
    refine lv_iconst (v := (-1)) hx hb dX5_often_17 (by decide) ?_
    exact ro_reti hx hb hr hlk (by simp [gOften, c5]) dX5_often_18
  · -- 5 False
    have c5 := bI_nz.mp c5
    obtain ⟨t, ht, rfl⟩ := inN_ex (by omega) c5
    refine lv_iload_n hx hb dX5_often_8 rfl (lv_at hl 2 rfl) ?_
    refine lv_iconst (v := 0) hx hb dX5_often_9 (by decide) ?_
    refine lv_iconst (v := 2) hx hb dX5_often_10 (by decide) ?_
    refine ro_Si (As := [.int y, .int 0, .int 2]) (rest := []) ⟨hx, hb, hml, hown, hts⟩ (c_X5_in l D c y 0 2) (va_cwS 3 hts gX5_often_X5_in rfl rfl rfl (by decide +kernel) ⟨Nat.le_of_ble_eq_true rfl, Nat.le_of_ble_eq_true rfl⟩) va_P0 hK rfl hl.1 rfl (Nat.le_of_ble_eq_true rfl) dX5_often_11 ⟨Nat.le_of_ble_eq_true rfl, Nat.le_of_ble_eq_true rfl⟩ ?_
    refine lv_if_ne (tgt := 19) hx hb dX5_often_14 (by decide) (fun c14 => ?_) (fun c14 => ?_)
    · -- 14 True
      have c14 := bI_nz.mp c14
      have J38 : ∀ (du : Int32), du = (if y = 0 then 1 else if y = 1 then 0 else -9) → W p l e ({ frames := 2, cells := 0, slots := 0, locals := 43 } : Room) s m args below meth c0 s.heap [] 0 0 (QRi below args s (gOften (nI t) y gs)) (F0 m 38 ls [.int du]) := by
        intro du hdu
        refine lv_istore_n (lv' := [(3, .int du), (0, .ref (z 0)), (1, .int (nI t)), (2, .int y)]) hx hb dX5_often_38 rfl hl (by decide) rfl (fun ls hl => ?_)
        refine lv_iconst (v := 0) hx hb dX5_often_39 (by decide) ?_
        refine lv_istore (lv' := [(4, .int 0), (3, .int du), (0, .ref (z 0)), (1, .int (nI t)), (2, .int y)]) hx hb dX5_often_40 hl (by decide) rfl (fun ls hl => ?_)
        refine lv_iconst (v := 0) hx hb dX5_often_42 (by decide) ?_
        refine lv_istore (lv' := [(5, .int 0), (4, .int 0), (3, .int du), (0, .ref (z 0)), (1, .int (nI t)), (2, .int y)]) hx hb dX5_often_43 hl (by decide) rfl (fun ls hl => ?_)
        have L45 : ∀ (n : Nat) (b : Nat) (a : Int32), (b ≤ gB gs) → (gB gs < b + n) → (a = cnV (gV gs t) (if y = 0 then 1 else if y = 1 then 0 else -9) b) → ∀ ls : Array Slot, lv_has ls 6 [(5, .int (nI b)), (4, .int a), (3, .int du), (0, .ref (z 0)), (1, .int (nI t)), (2, .int y)] → W p l e ({ frames := 2, cells := 0, slots := 0, locals := 43 } : Room) s m args below meth c0 s.heap [] 0 0 (QRi below args s (gOften (nI t) y gs)) (F0 m 45 ls []) := by
          intro n
          induction n with
          | zero => intro b a hbB hn ha ls hl; exact absurd hn (by omega)
          | succ n ih45 =>
            intro b a hbB hn ha ls hl
            refine lv_iload hx hb dX5_often_45 (lv_at hl 0 rfl) ?_
            refine lv_aload_n hx hb dX5_often_47 rfl (lv_at hl 3 rfl) ?_
            refine va_get (D := D) (ci := 5) (v := .int (nI (gB gs))) (C := RX5) (T := TX5) (N := 19) hx hb hts hin5 hown hK.1 hP 0 rfl rfl 8 (by decide) (hts (.fieldLink RX5 59 "TestPickerModel" "builds" "I") (by decide +kernel)) (fun _ h9 => h9) rfl dX5_often_48 ?_
            refine lv_icmp_ge (tgt := 86) hx hb dX5_often_51 (by decide) (fun c51 => ?_) (fun c51 => ?_)
            · -- 51 True
              have c51 : (gB gs) ≤ b := (nI_leI (a := (gB gs)) (b := b) (by omega) (by omega)).mp c51
              refine lv_iload hx hb dX5_often_86 (lv_at hl 1 rfl) ?_
              exact ro_reti hx hb hr hlk (by rw [gOften, if_neg (by rw [c5]; decide), if_neg (by rw [c14]; decide), nI_clamp (show t < 2 ^ 31 by omega), ha, show b = gB gs by omega]) dX5_often_88
            · -- 51 False
              have c51 : b < (gB gs) := (Nat.not_le.mp (fun z => c51 ((nI_leI (a := (gB gs)) (b := b) (by omega) (by omega)).mpr z)))
              refine lv_iload hx hb dX5_often_54 (lv_at hl 1 rfl) ?_
              refine lv_aload_n hx hb dX5_often_56 rfl (lv_at hl 3 rfl) ?_
              refine va_get (D := D) (ci := 5) (v := .ref (z 8)) (C := RX5) (T := TX5) (N := 19) hx hb hts hin5 hown hK.1 hP 0 rfl rfl 10 (by decide) (hts (.fieldLink RX5 33 "TestPickerModel" "verdicts" "[I") (by decide +kernel)) (fun _ h9 => h9) rfl dX5_often_57 ?_
              refine lv_bipush (v := 20) hx hb dX5_often_60 (by decide) ?_
              refine lv_iload hx hb dX5_often_62 (lv_at hl 0 rfl) ?_
              refine lv_imul hx hb dX5_often_64 ?_
              refine lv_iload_n hx hb dX5_often_65 rfl (lv_at hl 4 rfl) ?_
              refine lv_iadd hx hb dX5_often_66 ?_
              refine tp_i (z := nI (20 * b + t)) (ix20 _ _) ?_
              refine ld_i hx hb hK hP 8 (f := gVe gs) rfl (i := (20 * b + t)) (by omega) (by decide) dX5_often_67 ?_
              refine lv_iload_n hx hb dX5_often_68 rfl (lv_at hl 2 rfl) ?_
              refine lv_icmp_ne (tgt := 76) hx hb dX5_often_69 (by decide) (fun c69 => ?_) (fun c69 => ?_)
              · -- 69 True
                refine lv_iconst (v := 0) hx hb dX5_often_76 (by decide) ?_
                refine lv_iadd hx hb dX5_often_77 ?_
                refine lv_istore (lv' := [(4, .int (a + 0)), (5, .int (nI b)), (3, .int du), (0, .ref (z 0)), (1, .int (nI t)), (2, .int y)]) hx hb dX5_often_78 hl (by decide) rfl (fun ls hl => ?_)
                refine lv_iinc (v := nI (b + 1)) (lv' := [(5, .int (nI (b + 1))), (4, .int (a + 0)), (3, .int du), (0, .ref (z 0)), (1, .int (nI t)), (2, .int y)]) hx hb dX5_often_80 hl (k := 1) rfl (nI_inc _) (by decide) rfl (fun ls hl => ?_)
                refine lv_goto (tgt := 45) hx hb dX5_often_83 (by decide) ?_
                exact ih45 (b + 1) (a + 0) (by omega) (by omega) (by rw [ha, cnV, ← hdu]; simp [c69]) ls (lv_sub hl [0, 1, 2, 3, 4, 5] rfl)
              · -- 69 False
                refine lv_iconst (v := 1) hx hb dX5_often_72 (by decide) ?_
                refine lv_goto (tgt := 77) hx hb dX5_often_73 (by decide) ?_
                refine lv_iadd hx hb dX5_often_77 ?_
                refine lv_istore (lv' := [(4, .int (a + 1)), (5, .int (nI b)), (3, .int du), (0, .ref (z 0)), (1, .int (nI t)), (2, .int y)]) hx hb dX5_often_78 hl (by decide) rfl (fun ls hl => ?_)
                refine lv_iinc (v := nI (b + 1)) (lv' := [(5, .int (nI (b + 1))), (4, .int (a + 1)), (3, .int du), (0, .ref (z 0)), (1, .int (nI t)), (2, .int y)]) hx hb dX5_often_80 hl (k := 1) rfl (nI_inc _) (by decide) rfl (fun ls hl => ?_)
                refine lv_goto (tgt := 45) hx hb dX5_often_83 (by decide) ?_
                exact ih45 (b + 1) (a + 1) (by omega) (by omega) (by rw [ha, cnV, ← hdu]; simp [c69]) ls (lv_sub hl [0, 1, 2, 3, 4, 5] rfl)
        exact L45 (gB gs + 1) 0 0 (by omega) (by omega) (rfl) ls (lv_sub hl [0, 1, 2, 3, 4, 5] rfl)
      refine lv_iload_n hx hb dX5_often_19 rfl (lv_at hl 2 rfl) ?_
      refine lv_if_ne (tgt := 27) hx hb dX5_often_20 (by decide) (fun c20 => ?_) (fun c20 => ?_)
      · -- 20 True
        refine lv_iload_n hx hb dX5_often_27 rfl (lv_at hl 2 rfl) ?_
        refine lv_iconst (v := 1) hx hb dX5_often_28 (by decide) ?_
        refine lv_icmp_ne (tgt := 36) hx hb dX5_often_29 (by decide) (fun c29 => ?_) (fun c29 => ?_)
        · -- 29 True
          refine lv_bipush (v := (-9)) hx hb dX5_often_36 (by decide) ?_
          exact J38 (-9) (by simp [c20, c29])
        · -- 29 False
          refine lv_iconst (v := 0) hx hb dX5_often_32 (by decide) ?_
          refine lv_goto (tgt := 38) hx hb dX5_often_33 (by decide) ?_
          exact J38 0 (by simp [c20, eq_true c29])
      · -- 20 False
        refine lv_iconst (v := 1) hx hb dX5_often_23 (by decide) ?_
        refine lv_goto (tgt := 38) hx hb dX5_often_24 (by decide) ?_
        exact J38 1 (by simp [eq_true c20])
    · -- 14 False
      have c14 := bI_z.mp c14
      refine lv_iconst (v := (-1)) hx hb dX5_often_17 (by decide) ?_
      exact ro_reti hx hb hr hlk (by simp [gOften, c5, c14, nI_clamp (show t < 2 ^ 31 by omega)]) dX5_often_18

set_option maxHeartbeats 4000000 in
set_option maxRecDepth 100000 in
theorem c_X5_picked (l : Launch) (D : va_G) (z : Nat → Nat) (c : CT) (gs : GS) (i : Int32) (hpm : gPm gs - 1 < 20) : ROi l yX5_picked wsX5_picked ({ frames := 1, cells := 0, slots := 0, locals := 22 } : Room) [.ref (z 0), .int i] D c (wG z c gs) (gPicked i gs) := by
  refine ro_starti (cc := cX5_picked) (maxL := 2) (ret := some .int) (by decide) rfl (Nat.le_of_ble_eq_true rfl) ?_
  intro p e s m args below meth c0 ls hx hb hr hml hown hts hlk hP hK hl
  have hown : s.vm.findClass RX5 = some m.cls := hown
  have hl : lv_has ls 2 [(0, .ref (z 0)), (1, .int i)] := hl
  have hin5 : ∀ w ∈ wsX50, w ∈ wsX5_picked := by decide +kernel
  refine lv_iload_n hx hb dX5_picked_0 rfl (lv_at hl 1 rfl) ?_
  refine lv_iconst (v := 0) hx hb dX5_picked_1 (by decide) ?_
  refine lv_aload_n hx hb dX5_picked_2 rfl (lv_at hl 0 rfl) ?_
  refine va_get (D := D) (ci := 5) (v := .int (gPm gs)) (C := RX5) (T := TX5) (N := 19) hx hb hts hin5 hown hK.1 hP 0 rfl rfl 13 (by decide) (hts (.fieldLink RX5 39 "TestPickerModel" "pickMany" "I") (by decide +kernel)) (fun _ h9 => h9) rfl dX5_picked_3 ?_
  refine lv_iconst (v := 1) hx hb dX5_picked_6 (by decide) ?_
  refine lv_isub hx hb dX5_picked_7 ?_
  refine ro_Si (As := [.int i, .int 0, .int (gPm gs - 1)]) (rest := []) ⟨hx, hb, hml, hown, hts⟩ (c_X5_in l D c i 0 (gPm gs - 1)) (va_cwS 3 hts gX5_picked_X5_in rfl rfl rfl (by decide +kernel) ⟨Nat.le_of_ble_eq_true rfl, Nat.le_of_ble_eq_true rfl⟩) va_P0 hK rfl hl.1 rfl (Nat.le_of_ble_eq_true rfl) dX5_picked_8 ⟨Nat.le_of_ble_eq_true rfl, Nat.le_of_ble_eq_true rfl⟩ ?_
  refine lv_if_eq (tgt := 23) hx hb dX5_picked_11 (by decide) (fun c11 => ?_) (fun c11 => ?_)
  · -- 11 True
    have c11 := bI_z.mp c11
    refine lv_bipush (v := (-9)) hx hb dX5_picked_23 (by decide) ?_
    exact ro_reti hx hb hr hlk (by simp [gPicked, c11]) dX5_picked_25
  · -- 11 False
    have c11 := bI_nz.mp c11
    obtain ⟨j, hj, rfl⟩ := pd_ex hpm c11
    refine lv_aload_n hx hb dX5_picked_14 rfl (lv_at hl 0 rfl) ?_
    refine va_get (D := D) (ci := 5) (v := .ref (z 10)) (C := RX5) (T := TX5) (N := 19) hx hb hts hin5 hown hK.1 hP 0 rfl rfl 14 (by decide) (hts (.fieldLink RX5 43 "TestPickerModel" "picks" "[I") (by decide +kernel)) (fun _ h9 => h9) rfl dX5_picked_15 ?_
    refine lv_iload_n hx hb dX5_picked_18 rfl (lv_at hl 1 rfl) ?_
    refine ld_i hx hb hK hP 10 (f := gPk gs) rfl (i := j) (by omega) (by decide) dX5_picked_19 ?_
    refine lv_goto (tgt := 25) hx hb dX5_picked_20 (by decide) ?_
    exact ro_reti hx hb hr hlk (by simp [gPicked, c11, nI_clamp (show j < 2 ^ 31 by omega)]) dX5_picked_25

set_option maxHeartbeats 4000000 in
set_option maxRecDepth 100000 in
theorem c_X5_about (l : Launch) (D : va_G) (z : Nat → Nat) (c : CT) (gs : GS) (y : Int32)  : ROi l yX5_about wsX5_about ({ frames := 1, cells := 0, slots := 0, locals := 22 } : Room) [.ref (z 0), .int y] D c (wG z c gs) (gAbout y gs) := by
  refine ro_starti (cc := cX5_about) (maxL := 2) (ret := some .int) (by decide) rfl (Nat.le_of_ble_eq_true rfl) ?_
  intro p e s m args below meth c0 ls hx hb hr hml hown hts hlk hP hK hl
  have hown : s.vm.findClass RX5 = some m.cls := hown
  have hl : lv_has ls 2 [(0, .ref (z 0)), (1, .int y)] := hl
  have hin5 : ∀ w ∈ wsX50, w ∈ wsX5_about := by decide +kernel
  refine lv_iload_n hx hb dX5_about_0 rfl (lv_at hl 1 rfl) ?_
  refine lv_iconst (v := 0) hx hb dX5_about_1 (by decide) ?_
  refine lv_iconst (v := 2) hx hb dX5_about_2 (by decide) ?_
  refine ro_Si (As := [.int y, .int 0, .int 2]) (rest := []) ⟨hx, hb, hml, hown, hts⟩ (c_X5_in l D c y 0 2) (va_cwS 3 hts gX5_about_X5_in rfl rfl rfl (by decide +kernel) ⟨Nat.le_of_ble_eq_true rfl, Nat.le_of_ble_eq_true rfl⟩) va_P0 hK rfl hl.1 rfl (Nat.le_of_ble_eq_true rfl) dX5_about_3 ⟨Nat.le_of_ble_eq_true rfl, Nat.le_of_ble_eq_true rfl⟩ ?_
  refine lv_if_ne (tgt := 11) hx hb dX5_about_6 (by decide) (fun c6 => ?_) (fun c6 => ?_)
  · -- 6 True
    have c6 := bI_nz.mp c6
    refine lv_aload_n hx hb dX5_about_11 rfl (lv_at hl 0 rfl) ?_
    refine va_get (D := D) (ci := 5) (v := .int (gPm gs)) (C := RX5) (T := TX5) (N := 19) hx hb hts hin5 hown hK.1 hP 0 rfl rfl 13 (by decide) (hts (.fieldLink RX5 39 "TestPickerModel" "pickMany" "I") (by decide +kernel)) (fun _ h9 => h9) rfl dX5_about_12 ?_
    refine lv_if_ge (tgt := 21) hx hb dX5_about_15 (by decide) (fun c15 => ?_) (fun c15 => ?_)
    · -- 15 True
      refine lv_iload_n hx hb dX5_about_21 rfl (lv_at hl 1 rfl) ?_
      refine lv_if_ne (tgt := 32) hx hb dX5_about_22 (by decide) (fun c22 => ?_) (fun c22 => ?_)
      · -- 22 True
        refine lv_iload_n hx hb dX5_about_32 rfl (lv_at hl 1 rfl) ?_
        refine lv_iconst (v := 1) hx hb dX5_about_33 (by decide) ?_
        refine lv_icmp_ne (tgt := 44) hx hb dX5_about_34 (by decide) (fun c34 => ?_) (fun c34 => ?_)
        · -- 34 True
          refine lv_aload_n hx hb dX5_about_44 rfl (lv_at hl 0 rfl) ?_
          refine va_get (D := D) (ci := 5) (v := .int (gPs gs)) (C := RX5) (T := TX5) (N := 19) hx hb hts hin5 hown hK.1 hP 0 rfl rfl 17 (by decide) (hts (.fieldLink RX5 116 "TestPickerModel" "pickSet" "I") (by decide +kernel)) (fun _ h9 => h9) rfl dX5_about_45 ?_
          exact ro_reti hx hb hr hlk (by simp [gAbout, c6, c15, c22, c34]) dX5_about_48
        · -- 34 False
          refine lv_aload_n hx hb dX5_about_37 rfl (lv_at hl 0 rfl) ?_
          refine va_get (D := D) (ci := 5) (v := .int (gPp gs)) (C := RX5) (T := TX5) (N := 19) hx hb hts hin5 hown hK.1 hP 0 rfl rfl 16 (by decide) (hts (.fieldLink RX5 137 "TestPickerModel" "pickParts" "I") (by decide +kernel)) (fun _ h9 => h9) rfl dX5_about_38 ?_
          refine lv_goto (tgt := 48) hx hb dX5_about_41 (by decide) ?_
          exact ro_reti hx hb hr hlk (by simp [gAbout, c6, c15, c22, eq_true c34]) dX5_about_48
      · -- 22 False
        refine lv_aload_n hx hb dX5_about_25 rfl (lv_at hl 0 rfl) ?_
        refine va_get (D := D) (ci := 5) (v := .int (gPt gs)) (C := RX5) (T := TX5) (N := 19) hx hb hts hin5 hown hK.1 hP 0 rfl rfl 15 (by decide) (hts (.fieldLink RX5 134 "TestPickerModel" "pickTime" "I") (by decide +kernel)) (fun _ h9 => h9) rfl dX5_about_26 ?_
        refine lv_goto (tgt := 48) hx hb dX5_about_29 (by decide) ?_
        exact ro_reti hx hb hr hlk (by simp [gAbout, c6, c15, eq_true c22]) dX5_about_48
    · -- 15 False
      refine lv_bipush (v := (-9)) hx hb dX5_about_18 (by decide) ?_
      exact ro_reti hx hb hr hlk (by simp [gAbout, c6, c15]) dX5_about_20
  · -- 6 False
    have c6 := bI_z.mp c6
    refine lv_iconst (v := (-1)) hx hb dX5_about_9 (by decide) ?_
    exact ro_reti hx hb hr hlk (by simp [gAbout, c6]) dX5_about_10

set_option maxHeartbeats 4000000 in
set_option maxRecDepth 100000 in
theorem c_X5_findings (l : Launch) (D : va_G) (z : Nat → Nat) (c : CT) (gs : GS) (x : Int32)  : ROi l yX5_findings wsX5_findings ({ frames := 1, cells := 0, slots := 0, locals := 22 } : Room) [.ref (z 0), .int x] D c (wG z c gs) (gFindings x gs) := by
  refine ro_starti (cc := cX5_findings) (maxL := 2) (ret := some .int) (by decide) rfl (Nat.le_of_ble_eq_true rfl) ?_
  intro p e s m args below meth c0 ls hx hb hr hml hown hts hlk hP hK hl
  have hown : s.vm.findClass RX5 = some m.cls := hown
  have hl : lv_has ls 2 [(0, .ref (z 0)), (1, .int x)] := hl
  have hin5 : ∀ w ∈ wsX50, w ∈ wsX5_findings := by decide +kernel
  refine lv_iload_n hx hb dX5_findings_0 rfl (lv_at hl 1 rfl) ?_
  refine lv_iconst (v := 1) hx hb dX5_findings_1 (by decide) ?_
  refine lv_iconst (v := 4) hx hb dX5_findings_2 (by decide) ?_
  refine ro_Si (As := [.int x, .int 1, .int 4]) (rest := []) ⟨hx, hb, hml, hown, hts⟩ (c_X5_in l D c x 1 4) (va_cwS 3 hts gX5_findings_X5_in rfl rfl rfl (by decide +kernel) ⟨Nat.le_of_ble_eq_true rfl, Nat.le_of_ble_eq_true rfl⟩) va_P0 hK rfl hl.1 rfl (Nat.le_of_ble_eq_true rfl) dX5_findings_3 ⟨Nat.le_of_ble_eq_true rfl, Nat.le_of_ble_eq_true rfl⟩ ?_
  refine lv_if_eq (tgt := 18) hx hb dX5_findings_6 (by decide) (fun c6 => ?_) (fun c6 => ?_)
  · -- 6 True
    have c6 := bI_z.mp c6
    refine lv_iconst (v := (-1)) hx hb dX5_findings_18 (by decide) ?_
    exact ro_reti hx hb hr hlk (by simp [gFindings, c6]) dX5_findings_19
  · -- 6 False
    have c6 := bI_nz.mp c6
    obtain ⟨k, hk, rfl⟩ := rg1_ex c6
    refine lv_aload_n hx hb dX5_findings_9 rfl (lv_at hl 0 rfl) ?_
    refine va_get (D := D) (ci := 5) (v := .ref (z 1)) (C := RX5) (T := TX5) (N := 19) hx hb hts hin5 hown hK.1 hP 0 rfl rfl 1 (by decide) (hts (.fieldLink RX5 7 "TestPickerModel" "findings" "[I") (by decide +kernel)) (fun _ h9 => h9) rfl dX5_findings_10 ?_
    refine lv_iload_n hx hb dX5_findings_13 rfl (lv_at hl 1 rfl) ?_
    refine ld_i hx hb hK hP 1 (f := gFs gs) rfl (i := k) (by omega) (by decide) dX5_findings_14 ?_
    refine lv_goto (tgt := 19) hx hb dX5_findings_15 (by decide) ?_
    exact ro_reti hx hb hr hlk (by simp [gFindings, c6, nI_clamp (show k < 2 ^ 31 by omega)]) dX5_findings_19

set_option maxHeartbeats 4000000 in
set_option maxRecDepth 100000 in
theorem c_X5_asked (l : Launch) (D : va_G) (z : Nat → Nat) (c : CT) (gs : GS)  : ROl l yX5_asked wsX5_asked ({ frames := 0, cells := 0, slots := 0, locals := 0 } : Room) [.ref (z 0)] D c (wG z c gs) (gAs gs) := by
  refine ro_startl (cc := cX5_asked) (maxL := 1) (ret := some .long) (by decide) rfl (Nat.le_of_ble_eq_true rfl) ?_
  intro p e s m args below meth c0 ls hx hb hr hml hown hts hlk hP hK hl
  have hown : s.vm.findClass RX5 = some m.cls := hown
  have hl : lv_has ls 1 [(0, .ref (z 0))] := hl
  have hin5 : ∀ w ∈ wsX50, w ∈ wsX5_asked := by decide +kernel
  refine lv_aload_n hx hb dX5_asked_0 rfl (lv_at hl 0 rfl) ?_
  refine va_get (D := D) (ci := 5) (v := .long (gAs gs)) (C := RX5) (T := TX5) (N := 19) hx hb hts hin5 hown hK.1 hP 0 rfl rfl 11 (by decide) (hts (.fieldLink RX5 108 "TestPickerModel" "asked" "J") (by decide +kernel)) (fun _ h9 => h9) rfl dX5_asked_1 ?_
  exact ro_retl hx hb hr hlk (rfl) dX5_asked_4

set_option maxHeartbeats 4000000 in
set_option maxRecDepth 100000 in
theorem c_X5_finding (l : Launch) (D : va_G) (z : Nat → Nat) (c : CT) (gs : GS)  : ROi l yX5_finding wsX5_finding ({ frames := 0, cells := 0, slots := 0, locals := 0 } : Room) [.ref (z 0)] D c (wG z c gs) (gFi gs) := by
  refine ro_starti (cc := cX5_finding) (maxL := 1) (ret := some .int) (by decide) rfl (Nat.le_of_ble_eq_true rfl) ?_
  intro p e s m args below meth c0 ls hx hb hr hml hown hts hlk hP hK hl
  have hown : s.vm.findClass RX5 = some m.cls := hown
  have hl : lv_has ls 1 [(0, .ref (z 0))] := hl
  have hin5 : ∀ w ∈ wsX50, w ∈ wsX5_finding := by decide +kernel
  refine lv_aload_n hx hb dX5_finding_0 rfl (lv_at hl 0 rfl) ?_
  refine va_get (D := D) (ci := 5) (v := .int (gFi gs)) (C := RX5) (T := TX5) (N := 19) hx hb hts hin5 hown hK.1 hP 0 rfl rfl 0 (by decide) (hts (.fieldLink RX5 49 "TestPickerModel" "finding" "I") (by decide +kernel)) (fun _ h9 => h9) rfl dX5_finding_1 ?_
  exact ro_reti hx hb hr hlk (rfl) dX5_finding_4
