theorem pk_zero {be : Int32} {k T : Nat} (h1 : be < 0 → 0 < 0) (h2 : ¬ be < 0 → T + 2 < k + 0) (hk : k ≤ T) : False := by
  by_cases h : be < 0
  · exact absurd (h1 h) (by omega)
  · have := h2 h
    omega
theorem cN_zero : ∀ n, cN 0 n = 0
  | 0 => rfl
  | n + 1 => by unfold cN; rw [cN_zero n, b_0]; rfl
set_option maxHeartbeats 4000000 in
set_option maxRecDepth 100000 in
theorem c_X5_pick (l : Launch) (D : va_G) (z : Nat → Nat) (c : CT) (gs : GS) (tm : Int32) (hT : gT gs ≤ 20) (hB60 : gB gs ≤ 60) (hN : WN (gNd gs) (gT gs)) : MUi l yX5_pick wsX5_pick ({ frames := 2, cells := 0, slots := 0, locals := 48 } : Room) [.ref (z 0), .int tm] D c (wG z c gs) (wG z c (gPick tm gs).2) ((gPick tm gs).1) := by
  refine mu_start (cc := cX5_pick) (maxL := 18) (ret := some .int) (by decide) rfl (Nat.le_of_ble_eq_true rfl) ?_
  intro p e s m args below meth c0 ls hx hb hr hml hown hts hlk hnm hP hK hD hS hA hl
  have hown : s.vm.findClass RX5 = some m.cls := hown
  have hl : lv_has ls 18 [(0, .ref (z 0)), (1, .int tm)] := hl
  have hin5 : ∀ w ∈ wsX50, w ∈ wsX5_pick := by decide +kernel
  refine lv_iload_n hx hb dX5_pick_0 rfl (lv_at hl 1 rfl) ?_
  refine lv_iconst (v := 0) hx hb dX5_pick_1 (by decide) ?_
  refine lv_sipush (v := 30000) hx hb dX5_pick_2 (by decide) ?_
  refine ro_Si (As := [.int tm, .int 0, .int 30000]) (rest := []) ⟨hx, hb, hml, hown, hts⟩ (c_X5_in l D c tm 0 30000) (va_cwS 3 hts gX5_pick_X5_in rfl rfl rfl (by decide +kernel) ⟨Nat.le_of_ble_eq_true rfl, Nat.le_of_ble_eq_true rfl⟩) va_P0 hK rfl hl.1 rfl (Nat.le_of_ble_eq_true rfl) dX5_pick_5 ⟨Nat.le_of_ble_eq_true rfl, Nat.le_of_ble_eq_true rfl⟩ ?_
  refine lv_if_ne (tgt := 13) hx hb dX5_pick_8 (by decide) (fun c8 => ?_) (fun c8 => ?_)
  · -- 8 True
    have c8 := bI_nz.mp c8
    refine lv_aload_n hx hb dX5_pick_13 rfl (lv_at hl 0 rfl) ?_
    refine va_get (D := D) (ci := 5) (v := .int (nI (gB gs))) (C := RX5) (T := TX5) (N := 19) hx hb hts hin5 hown hK.1 hP 0 rfl rfl 8 (by decide) (hts (.fieldLink RX5 59 "TestPickerModel" "builds" "I") (by decide +kernel)) (fun _ h9 => h9) rfl dX5_pick_14 ?_
    refine lv_if_ne (tgt := 23) hx hb dX5_pick_17 (by decide) (fun c17 => ?_) (fun c17 => ?_)
    · -- 17 True
      have c17 : ¬ (gB gs) = 0 := fun z => c17 ((nI_eq (b := 0) (by omega) (by omega)).mpr z)
      refine lv_aload_n hx hb dX5_pick_23 rfl (lv_at hl 0 rfl) ?_
      refine va_get (D := D) (ci := 5) (v := .ref (z 7)) (C := RX5) (T := TX5) (N := 19) hx hb hts hin5 hown hK.1 hP 0 rfl rfl 9 (by decide) (hts (.fieldLink RX5 29 "TestPickerModel" "changes" "[J") (by decide +kernel)) (fun _ h9 => h9) rfl dX5_pick_24 ?_
      refine lv_aload_n hx hb dX5_pick_27 rfl (lv_at hl 0 rfl) ?_
      refine va_get (D := D) (ci := 5) (v := .int (nI (gB gs))) (C := RX5) (T := TX5) (N := 19) hx hb hts hin5 hown hK.1 hP 0 rfl rfl 8 (by decide) (hts (.fieldLink RX5 59 "TestPickerModel" "builds" "I") (by decide +kernel)) (fun _ h9 => h9) rfl dX5_pick_28 ?_
      refine lv_iconst (v := 1) hx hb dX5_pick_31 (by decide) ?_
      refine lv_isub hx hb dX5_pick_32 ?_
      refine tp_i (z := nI (gB gs - 1)) (pred1 (by omega)) ?_
      refine ld_l hx hb hK hP 7 (f := gCg gs) rfl (i := (gB gs - 1)) (by omega) (by decide) dX5_pick_33 ?_
      refine lv_lstore_n (lv' := [(2, .long (gCg gs (gB gs - 1))), (0, .ref (z 0)), (1, .int tm)]) hx hb dX5_pick_34 rfl hl (by decide) rfl (fun ls hl => ?_)
      refine lv_aload_n hx hb dX5_pick_35 rfl (lv_at hl 1 rfl) ?_
      refine lv_iconst (v := 0) hx hb dX5_pick_36 (by decide) ?_
      refine va_put (D := D) (ci := 5) (v := .int 0) (ty := .int) (C := RX5) (T := TX5) (N := 19) hx hb hts hin5 tyX5 tyX5_ok nmX5 hown hK.1 hP hD hS 0 rfl rfl 13 (by decide) (hts (.fieldLink RX5 39 "TestPickerModel" "pickMany" "I") (by decide +kernel)) (fun _ h9 => h9) rfl (by decide +kernel) rfl rfl (Nat.le_of_ble_eq_true rfl) dX5_pick_37 (fun H locs hP hD hS => ?_)
      have hP : va_P D vwCl (wG z c (gFi gs, gFs gs, gT gs, gKd gs, gTi gs, gNd gs, gMs gs, gBy gs, gB gs, gCg gs, gVe gs, gAs gs, gMv gs, 0, gPk gs, gPt gs, gPp gs, gPs gs, gMay gs)) H := hP
      have hD : va_D (va_A (wG z c gs) s.heap.size) (wG z c (gFi gs, gFs gs, gT gs, gKd gs, gTi gs, gNd gs, gMs gs, gBy gs, gB gs, gCg gs, gVe gs, gAs gs, gMv gs, 0, gPk gs, gPt gs, gPp gs, gPs gs, gMay gs)) := hD
      refine lv_aload_n hx hb dX5_pick_40 rfl (lv_at hl 1 rfl) ?_
      refine lv_iconst (v := 0) hx hb dX5_pick_41 (by decide) ?_
      refine va_put (D := D) (ci := 5) (v := .int 0) (ty := .int) (C := RX5) (T := TX5) (N := 19) hx hb hts hin5 tyX5 tyX5_ok nmX5 hown hK.1 hP hD hS 0 rfl rfl 17 (by decide) (hts (.fieldLink RX5 116 "TestPickerModel" "pickSet" "I") (by decide +kernel)) (fun _ h9 => h9) rfl (by decide +kernel) rfl rfl (Nat.le_of_ble_eq_true rfl) dX5_pick_42 (fun H locs hP hD hS => ?_)
      have hP : va_P D vwCl (wG z c (gFi gs, gFs gs, gT gs, gKd gs, gTi gs, gNd gs, gMs gs, gBy gs, gB gs, gCg gs, gVe gs, gAs gs, gMv gs, 0, gPk gs, gPt gs, gPp gs, 0, gMay gs)) H := hP
      have hD : va_D (va_A (wG z c gs) s.heap.size) (wG z c (gFi gs, gFs gs, gT gs, gKd gs, gTi gs, gNd gs, gMs gs, gBy gs, gB gs, gCg gs, gVe gs, gAs gs, gMv gs, 0, gPk gs, gPt gs, gPp gs, 0, gMay gs)) := hD
      refine lv_iload_n hx hb dX5_pick_45 rfl (lv_at hl 2 rfl) ?_
      refine lv_istore (lv' := [(4, .int tm), (2, .long (gCg gs (gB gs - 1))), (0, .ref (z 0)), (1, .int tm)]) hx hb dX5_pick_46 hl (by decide) rfl (fun ls hl => ?_)
      refine lv_iconst (v := 0) hx hb dX5_pick_48 (by decide) ?_
      refine lv_istore (lv' := [(5, .int 0), (4, .int tm), (2, .long (gCg gs (gB gs - 1))), (0, .ref (z 0)), (1, .int tm)]) hx hb dX5_pick_49 hl (by decide) rfl (fun ls hl => ?_)
      have L51 : ∀ (n : Nat) (lf : Int32) (be : Int32) (k : Nat) (pk : Nat → Int32) (ps : Int32), (be < 0 → 0 < n) → (¬ be < 0 → gT gs + 2 < cN ps (gT gs) + n) → (k = cN ps (gT gs)) → (be < 0 → (lf, pk, k, ps) = pkG tm gs) → (¬ be < 0 → pkM gs (n - 2) (lf, pk, k, ps) = pkG tm gs) → ∀ (H : Heap) (locs : List Loc), va_P D vwCl (wG z c (gFi gs, gFs gs, gT gs, gKd gs, gTi gs, gNd gs, gMs gs, gBy gs, gB gs, gCg gs, gVe gs, gAs gs, gMv gs, nI k, pk, gPt gs, gPp gs, ps, gMay gs)) H → va_D (va_A (wG z c gs) s.heap.size) (wG z c (gFi gs, gFs gs, gT gs, gKd gs, gTi gs, gNd gs, gMs gs, gBy gs, gB gs, gCg gs, gVe gs, gAs gs, gMv gs, nI k, pk, gPt gs, gPp gs, ps, gMay gs)) → va_S (va_A (wG z c gs) s.heap.size) s.heap H locs → ∀ ls : Array Slot, lv_has ls 18 [(5, .int be), (4, .int lf), (2, .long (gCg gs (gB gs - 1))), (0, .ref (z 0)), (1, .int tm)] → W p l e ({ frames := 2, cells := 0, slots := 0, locals := 48 } : Room) s m args below meth c0 H locs 0 0 (QMi below args s D c (wG z c gs) (wG z c (gPick tm gs).2) ((gPick tm gs).1)) (F0 m 51 ls []) := by
        intro n
        induction n with
        | zero => intro lf be k pk ps hn1 hn2 hkc hq1 hq2 H locs hP hD hS ls hl; exact (pk_zero hn1 hn2 (cN_le ps (gT gs))).elim
        | succ n ih51 =>
          intro lf be k pk ps hn1 hn2 hkc hq1 hq2 H locs hP hD hS ls hl
          refine lv_iload hx hb dX5_pick_51 (lv_at hl 0 rfl) ?_
          refine lv_if_lt (tgt := 238) hx hb dX5_pick_53 (by decide) (fun c53 => ?_) (fun c53 => ?_)
          · -- 53 True
            refine lv_aload_n hx hb dX5_pick_238 rfl (lv_at hl 3 rfl) ?_
            refine lv_iload_n hx hb dX5_pick_239 rfl (lv_at hl 4 rfl) ?_
            refine lv_iload hx hb dX5_pick_240 (lv_at hl 1 rfl) ?_
            refine lv_isub hx hb dX5_pick_242 ?_
            refine va_put (D := D) (ci := 5) (v := .int (tm - lf)) (ty := .int) (C := RX5) (T := TX5) (N := 19) hx hb hts hin5 tyX5 tyX5_ok nmX5 hown hK.1 hP hD hS 0 rfl rfl 15 (by decide) (hts (.fieldLink RX5 134 "TestPickerModel" "pickTime" "I") (by decide +kernel)) (fun _ h9 => h9) rfl (by decide +kernel) rfl rfl (Nat.le_of_ble_eq_true rfl) dX5_pick_243 (fun H locs hP hD hS => ?_)
            have hP : va_P D vwCl (wG z c (gFi gs, gFs gs, gT gs, gKd gs, gTi gs, gNd gs, gMs gs, gBy gs, gB gs, gCg gs, gVe gs, gAs gs, gMv gs, nI k, pk, (tm - lf), gPp gs, ps, gMay gs)) H := hP
            have hD : va_D (va_A (wG z c gs) s.heap.size) (wG z c (gFi gs, gFs gs, gT gs, gKd gs, gTi gs, gNd gs, gMs gs, gBy gs, gB gs, gCg gs, gVe gs, gAs gs, gMv gs, nI k, pk, (tm - lf), gPp gs, ps, gMay gs)) := hD
            refine lv_aload_n hx hb dX5_pick_246 rfl (lv_at hl 3 rfl) ?_
            refine lv_aload_n hx hb dX5_pick_247 rfl (lv_at hl 3 rfl) ?_
            refine lv_aload_n hx hb dX5_pick_248 rfl (lv_at hl 3 rfl) ?_
            refine va_get (D := D) (ci := 5) (v := .int ps) (C := RX5) (T := TX5) (N := 19) hx hb hts hin5 hown hK.1 hP 0 rfl rfl 17 (by decide) (hts (.fieldLink RX5 116 "TestPickerModel" "pickSet" "I") (by decide +kernel)) (fun _ h9 => h9) rfl dX5_pick_249 ?_
            refine ro_Vl (post := (gRS gs ps)) (As := [.int ps]) (rest := [.ref (z 0)]) ⟨hx, hb, hml, hown, hts⟩ (c_X5_reachOfSet l D z c (gFi gs, gFs gs, gT gs, gKd gs, gTi gs, gNd gs, gMs gs, gBy gs, gB gs, gCg gs, gVe gs, gAs gs, gMv gs, nI k, pk, (tm - lf), gPp gs, ps, gMay gs) ps (by omega)) (cwV 1 hts gX5_pick_X5_reachOfSet rfl rfl rfl (by decide +kernel) ⟨Nat.le_of_ble_eq_true rfl, Nat.le_of_ble_eq_true rfl⟩) hP hK (va_recv hK.1 hP (ci := 5) (q0 := 0) rfl rfl) rfl hl.1 rfl (Nat.le_of_ble_eq_true rfl) dX5_pick_252 ⟨Nat.le_of_ble_eq_true rfl, Nat.le_of_ble_eq_true rfl⟩ ?_
            refine lv_lload_n hx hb dX5_pick_255 rfl (lv_at hl 2 rfl) ?_
            refine lv_land hx hb dX5_pick_256 ?_
            refine ro_Si (As := [.long ((gRS gs ps) &&& (gCg gs (gB gs - 1)))]) (rest := [.ref (z 0)]) ⟨hx, hb, hml, hown, hts⟩ (c_X5_bits l D c ((gRS gs ps) &&& (gCg gs (gB gs - 1)))) (va_cwS 1 hts gX5_pick_X5_bits rfl rfl rfl (by decide +kernel) ⟨Nat.le_of_ble_eq_true rfl, Nat.le_of_ble_eq_true rfl⟩) va_P0 hK rfl hl.1 rfl (Nat.le_of_ble_eq_true rfl) dX5_pick_257 ⟨Nat.le_of_ble_eq_true rfl, Nat.le_of_ble_eq_true rfl⟩ ?_
            refine va_put (D := D) (ci := 5) (v := .int (bitsN ((gRS gs ps) &&& (gCg gs (gB gs - 1))) 40)) (ty := .int) (C := RX5) (T := TX5) (N := 19) hx hb hts hin5 tyX5 tyX5_ok nmX5 hown hK.1 hP hD hS 0 rfl rfl 16 (by decide) (hts (.fieldLink RX5 137 "TestPickerModel" "pickParts" "I") (by decide +kernel)) (fun _ h9 => h9) rfl (by decide +kernel) rfl rfl (Nat.le_of_ble_eq_true rfl) dX5_pick_260 (fun H locs hP hD hS => ?_)
            have hP : va_P D vwCl (wG z c (gFi gs, gFs gs, gT gs, gKd gs, gTi gs, gNd gs, gMs gs, gBy gs, gB gs, gCg gs, gVe gs, gAs gs, gMv gs, nI k, pk, (tm - lf), (bitsN ((gRS gs ps) &&& (gCg gs (gB gs - 1))) 40), ps, gMay gs)) H := hP
            have hD : va_D (va_A (wG z c gs) s.heap.size) (wG z c (gFi gs, gFs gs, gT gs, gKd gs, gTi gs, gNd gs, gMs gs, gBy gs, gB gs, gCg gs, gVe gs, gAs gs, gMv gs, nI k, pk, (tm - lf), (bitsN ((gRS gs ps) &&& (gCg gs (gB gs - 1))) 40), ps, gMay gs)) := hD
            refine lv_aload_n hx hb dX5_pick_263 rfl (lv_at hl 3 rfl) ?_
            refine va_get (D := D) (ci := 5) (v := .int (nI k)) (C := RX5) (T := TX5) (N := 19) hx hb hts hin5 hown hK.1 hP 0 rfl rfl 13 (by decide) (hts (.fieldLink RX5 39 "TestPickerModel" "pickMany" "I") (by decide +kernel)) (fun _ h9 => h9) rfl dX5_pick_264 ?_
            have e9 : gPick tm gs = (nI k, (gFi gs, gFs gs, gT gs, gKd gs, gTi gs, gNd gs, gMs gs, gBy gs, gB gs, gCg gs, gVe gs, gAs gs, gMv gs, nI k, pk, (tm - lf), (bitsN ((gRS gs ps) &&& (gCg gs (gB gs - 1))) 40), ps, gMay gs)) := by rw [gPick, if_neg (by rw [c8]; decide), if_neg c17, ← hq1 c53]
            rw [e9]
            exact mu_reti hx hb hr hlk hP hD hS (rfl) dX5_pick_267
          · -- 53 False
            have hn9 := hn2 c53
            have hc9 := cN_le ps (gT gs)
            have hq3 : pkM gs ((n - 2) + 1) (lf, pk, k, ps) = pkG tm gs := by rw [← hq2 c53, show n + 1 - 2 = (n - 2) + 1 by omega]
            refine lv_bipush (v := (-9)) hx hb dX5_pick_56 (by decide) ?_
            refine lv_istore (lv' := [(5, .int (-9)), (4, .int lf), (2, .long (gCg gs (gB gs - 1))), (0, .ref (z 0)), (1, .int tm)]) hx hb dX5_pick_58 hl (by decide) rfl (fun ls hl => ?_)
            refine lv_lconst (v := 0) hx hb dX5_pick_60 (by decide) ?_
            refine lv_lstore (lv' := [(6, .long 0), (5, .int (-9)), (4, .int lf), (2, .long (gCg gs (gB gs - 1))), (0, .ref (z 0)), (1, .int tm)]) hx hb dX5_pick_61 hl (by decide) rfl (fun ls hl => ?_)
            refine lv_lconst (v := 1) hx hb dX5_pick_63 (by decide) ?_
            refine lv_lstore (lv' := [(8, .long 1), (6, .long 0), (5, .int (-9)), (4, .int lf), (2, .long (gCg gs (gB gs - 1))), (0, .ref (z 0)), (1, .int tm)]) hx hb dX5_pick_64 hl (by decide) rfl (fun ls hl => ?_)
            refine lv_lload_n hx hb dX5_pick_66 rfl (lv_at hl 4 rfl) ?_
            refine lv_aload_n hx hb dX5_pick_67 rfl (lv_at hl 5 rfl) ?_
            refine lv_aload_n hx hb dX5_pick_68 rfl (lv_at hl 5 rfl) ?_
            refine va_get (D := D) (ci := 5) (v := .int ps) (C := RX5) (T := TX5) (N := 19) hx hb hts hin5 hown hK.1 hP 0 rfl rfl 17 (by decide) (hts (.fieldLink RX5 116 "TestPickerModel" "pickSet" "I") (by decide +kernel)) (fun _ h9 => h9) rfl dX5_pick_69 ?_
            refine ro_Vl (post := (gRS gs ps)) (As := [.int ps]) (rest := [.long (gCg gs (gB gs - 1))]) ⟨hx, hb, hml, hown, hts⟩ (c_X5_reachOfSet l D z c (gFi gs, gFs gs, gT gs, gKd gs, gTi gs, gNd gs, gMs gs, gBy gs, gB gs, gCg gs, gVe gs, gAs gs, gMv gs, nI k, pk, gPt gs, gPp gs, ps, gMay gs) ps (by omega)) (cwV 1 hts gX5_pick_X5_reachOfSet rfl rfl rfl (by decide +kernel) ⟨Nat.le_of_ble_eq_true rfl, Nat.le_of_ble_eq_true rfl⟩) hP hK (va_recv hK.1 hP (ci := 5) (q0 := 0) rfl rfl) rfl hl.1 rfl (Nat.le_of_ble_eq_true rfl) dX5_pick_72 ⟨Nat.le_of_ble_eq_true rfl, Nat.le_of_ble_eq_true rfl⟩ ?_
            refine lv_ldc2 (own := RX5) (v := (-1)) hx hb hown (hts (.constantLong RX5 122 (-1)) (by decide +kernel)) dX5_pick_75 ?_
            refine lv_lxor hx hb dX5_pick_78 ?_
            refine lv_land hx hb dX5_pick_79 ?_
            refine lv_lstore (lv' := [(10, .long ((gCg gs (gB gs - 1)) &&& ((gRS gs ps) ^^^ (-1)))), (8, .long 1), (6, .long 0), (5, .int (-9)), (4, .int lf), (2, .long (gCg gs (gB gs - 1))), (0, .ref (z 0)), (1, .int tm)]) hx hb dX5_pick_80 hl (by decide) rfl (fun ls hl => ?_)
            refine lv_iconst (v := 0) hx hb dX5_pick_82 (by decide) ?_
            refine lv_istore (lv' := [(12, .int 0), (10, .long ((gCg gs (gB gs - 1)) &&& ((gRS gs ps) ^^^ (-1)))), (8, .long 1), (6, .long 0), (5, .int (-9)), (4, .int lf), (2, .long (gCg gs (gB gs - 1))), (0, .ref (z 0)), (1, .int tm)]) hx hb dX5_pick_83 hl (by decide) rfl (fun ls hl => ?_)
            have L85 : ∀ (n2 : Nat) (i : Nat) (b2 : Int32) (g2 : Int64) (c2 : Int64), (i ≤ gT gs) → (gT gs < i + n2) → (wrM gs ps (gOp gs ps) lf i = (b2, g2, c2)) → ∀ (H : Heap) (locs : List Loc), va_P D vwCl (wG z c (gFi gs, gFs gs, gT gs, gKd gs, gTi gs, gNd gs, gMs gs, gBy gs, gB gs, gCg gs, gVe gs, gAs gs, gMv gs, nI k, pk, gPt gs, gPp gs, ps, gMay gs)) H → va_D (va_A (wG z c gs) s.heap.size) (wG z c (gFi gs, gFs gs, gT gs, gKd gs, gTi gs, gNd gs, gMs gs, gBy gs, gB gs, gCg gs, gVe gs, gAs gs, gMv gs, nI k, pk, gPt gs, gPp gs, ps, gMay gs)) → va_S (va_A (wG z c gs) s.heap.size) s.heap H locs → ∀ ls : Array Slot, lv_has ls 18 [(12, .int (nI i)), (10, .long ((gCg gs (gB gs - 1)) &&& ((gRS gs ps) ^^^ (-1)))), (8, .long c2), (6, .long g2), (5, .int b2), (4, .int lf), (2, .long (gCg gs (gB gs - 1))), (0, .ref (z 0)), (1, .int tm)] → W p l e ({ frames := 2, cells := 0, slots := 0, locals := 48 } : Room) s m args below meth c0 H locs 0 0 (QMi below args s D c (wG z c gs) (wG z c (gPick tm gs).2) ((gPick tm gs).1)) (F0 m 85 ls []) := by
              intro n2
              induction n2 with
              | zero => intro i b2 g2 c2 hi hn3 hf H locs hP hD hS ls hl; exact absurd hn3 (by omega)
              | succ n2 ih85 =>
                intro i b2 g2 c2 hi hn3 hf H locs hP hD hS ls hl
                refine lv_iload hx hb dX5_pick_85 (lv_at hl 0 rfl) ?_
                refine lv_aload_n hx hb dX5_pick_87 rfl (lv_at hl 7 rfl) ?_
                refine va_get (D := D) (ci := 5) (v := .int (nI (gT gs))) (C := RX5) (T := TX5) (N := 19) hx hb hts hin5 hown hK.1 hP 0 rfl rfl 2 (by decide) (hts (.fieldLink RX5 52 "TestPickerModel" "tests" "I") (by decide +kernel)) (fun _ h9 => h9) rfl dX5_pick_88 ?_
                refine lv_icmp_ge (tgt := 216) hx hb dX5_pick_91 (by decide) (fun c91 => ?_) (fun c91 => ?_)
                · -- 91 True
                  have c91 : (gT gs) ≤ i := (nI_leI (a := (gT gs)) (b := i) (by omega) (by omega)).mp c91
                  have hfT : wrN gs ps lf = (b2, g2, c2) := by rw [← hf, show i = gT gs by omega]
                  refine lv_iload hx hb dX5_pick_216 (lv_at hl 4 rfl) ?_
                  refine lv_if_lt (tgt := 235) hx hb dX5_pick_218 (by decide) (fun c218 => ?_) (fun c218 => ?_)
                  · -- 218 True
                    refine lv_goto (tgt := 51) hx hb dX5_pick_235 (by decide) ?_
                    exact ih51 lf b2 k pk ps (fun _ => by have := cN_le ps (gT gs); omega) (fun h => absurd c218 h) (hkc) (fun _ => pk_stop hq3 hfT c218) (fun h => absurd c218 h) _ _ hP hD hS ls (lv_sub hl [4, 5, 6, 7, 8] rfl)
                  · -- 218 False
                    obtain ⟨w, hw1, hw2, hw3⟩ : ∃ w, w < gT gs ∧ b2 = nI w ∧ bt ps w = false := by
                      rcases wrM_is gs ps (gOp gs ps) lf i with h | ⟨w, h1, h2, h3⟩
                      · rw [hf] at h; exact absurd (show b2 < 0 by rw [show b2 = -9 from h]; decide) c218
                      · rw [hf] at h2; exact ⟨w, by omega, h2, h3⟩
                    subst hw2
                    refine lv_iload hx hb dX5_pick_221 (lv_at hl 5 rfl) ?_
                    refine lv_lload hx hb dX5_pick_223 (lv_at hl 2 rfl) ?_
                    refine lv_l2i (v := c2.toInt32) hx hb dX5_pick_225 rfl ?_
                    refine lv_isub hx hb dX5_pick_226 ?_
                    refine lv_istore (lv' := [(4, .int (lf - c2.toInt32)), (12, .int (nI i)), (10, .long ((gCg gs (gB gs - 1)) &&& ((gRS gs ps) ^^^ (-1)))), (8, .long c2), (6, .long g2), (5, .int (nI w)), (2, .long (gCg gs (gB gs - 1))), (0, .ref (z 0)), (1, .int tm)]) hx hb dX5_pick_227 hl (by decide) rfl (fun ls hl => ?_)
                    refine lv_aload_n hx hb dX5_pick_229 rfl (lv_at hl 7 rfl) ?_
                    refine lv_iload hx hb dX5_pick_230 (lv_at hl 5 rfl) ?_
                    refine mu_Vv (As := [.int (nI w)]) (rest := []) (wr := []) (wk := wG z c (gFi gs, gFs gs, gT gs, gKd gs, gTi gs, gNd gs, gMs gs, gBy gs, gB gs, gCg gs, gVe gs, gAs gs, gMv gs, nI (pkR (gCh gs w &&& (ps ^^^ (-1))) pk k (gT gs)).2, (pkR (gCh gs w &&& (ps ^^^ (-1))) pk k (gT gs)).1, gPt gs, gPp gs, (ps ||| (gCh gs w &&& (ps ^^^ (-1)))), gMay gs)) [0, 1, 2, 3, 4, 5, 6, 7, 8, 9, 10, 11] [] [0, 1, 2, 3, 4, 5, 6, 7, 8, 9, 10, 11] ⟨hx, hb, hml, hown, hts⟩ (c_X5_take l D z c (gFi gs, gFs gs, gT gs, gKd gs, gTi gs, gNd gs, gMs gs, gBy gs, gB gs, gCg gs, gVe gs, gAs gs, gMv gs, nI k, pk, gPt gs, gPp gs, ps, gMay gs) w k (by omega) (by omega) hN rfl (fun i hi hb => cap_ok hkc (by omega) hi hb)) (cwV 1 hts gX5_pick_X5_take rfl rfl rfl (by decide +kernel) ⟨Nat.le_of_ble_eq_true rfl, Nat.le_of_ble_eq_true rfl⟩) hP hK hD hS hA (va_recv hK.1 hP (ci := 5) (q0 := 0) rfl rfl) rfl rfl (by decide) (by decide) (by decide) (by decide) rfl rfl hl.1 rfl (Nat.le_of_ble_eq_true rfl) dX5_pick_232 ⟨Nat.le_of_ble_eq_true rfl, Nat.le_of_ble_eq_true rfl⟩ (fun H locs hP hD hS => ?_)
                    refine lv_goto (tgt := 51) hx hb dX5_pick_235 (by decide) ?_
                    exact ih51 (lf - c2.toInt32) (nI w) ((pkR (gCh gs w &&& (ps ^^^ (-1))) pk k (gT gs)).2) ((pkR (gCh gs w &&& (ps ^^^ (-1))) pk k (gT gs)).1) (ps ||| (gCh gs w &&& (ps ^^^ (-1)))) (fun h => absurd h (nI_pos (by omega))) (fun _ => by have := cN_or (dj (gCh gs w) ps (n := gT gs) (by omega)); have := cN_pos hw1 (rest_self gs (by omega) hw3); omega) (by rw [pkR_2, cN_or (dj (gCh gs w) ps (by omega)), ← hkc]) (fun h => absurd h (nI_pos (by omega))) (fun _ => pk_step hq3 hfT (by omega)) _ _ hP hD hS ls (lv_sub hl [5, 0, 6, 7, 8] rfl)
                · -- 91 False
                  have c91 : i < (gT gs) := (Nat.not_le.mp (fun z => c91 ((nI_leI (a := (gT gs)) (b := i) (by omega) (by omega)).mpr z)))
                  refine lv_aload_n hx hb dX5_pick_94 rfl (lv_at hl 7 rfl) ?_
                  refine lv_iload hx hb dX5_pick_95 (lv_at hl 0 rfl) ?_
                  refine ro_Vi (post := (gCh gs i)) (As := [.int (nI i)]) (rest := []) ⟨hx, hb, hml, hown, hts⟩ (c_X5_chainOf l D z c (gFi gs, gFs gs, gT gs, gKd gs, gTi gs, gNd gs, gMs gs, gBy gs, gB gs, gCg gs, gVe gs, gAs gs, gMv gs, nI k, pk, gPt gs, gPp gs, ps, gMay gs) i (by omega) (by omega) hN) (cwV 1 hts gX5_pick_X5_chainOf rfl rfl rfl (by decide +kernel) ⟨Nat.le_of_ble_eq_true rfl, Nat.le_of_ble_eq_true rfl⟩) hP hK (va_recv hK.1 hP (ci := 5) (q0 := 0) rfl rfl) rfl hl.1 rfl (Nat.le_of_ble_eq_true rfl) dX5_pick_97 ⟨Nat.le_of_ble_eq_true rfl, Nat.le_of_ble_eq_true rfl⟩ ?_
                  refine lv_aload_n hx hb dX5_pick_100 rfl (lv_at hl 7 rfl) ?_
                  refine va_get (D := D) (ci := 5) (v := .int ps) (C := RX5) (T := TX5) (N := 19) hx hb hts hin5 hown hK.1 hP 0 rfl rfl 17 (by decide) (hts (.fieldLink RX5 116 "TestPickerModel" "pickSet" "I") (by decide +kernel)) (fun _ h9 => h9) rfl dX5_pick_101 ?_
                  refine lv_iconst (v := (-1)) hx hb dX5_pick_104 (by decide) ?_
                  refine lv_ixor hx hb dX5_pick_105 ?_
                  refine lv_iand hx hb dX5_pick_106 ?_
                  refine lv_istore (lv' := [(13, .int ((gCh gs i) &&& (ps ^^^ (-1)))), (12, .int (nI i)), (10, .long ((gCg gs (gB gs - 1)) &&& ((gRS gs ps) ^^^ (-1)))), (8, .long c2), (6, .long g2), (5, .int b2), (4, .int lf), (2, .long (gCg gs (gB gs - 1))), (0, .ref (z 0)), (1, .int tm)]) hx hb dX5_pick_107 hl (by decide) rfl (fun ls hl => ?_)
                  refine lv_aload_n hx hb dX5_pick_109 rfl (lv_at hl 8 rfl) ?_
                  refine lv_iload hx hb dX5_pick_110 (lv_at hl 1 rfl) ?_
                  refine ro_Vi (post := bI (gMb gs i)) (As := [.int (nI i)]) (rest := []) ⟨hx, hb, hml, hown, hts⟩ (c_X5_mayBe l D z c (gFi gs, gFs gs, gT gs, gKd gs, gTi gs, gNd gs, gMs gs, gBy gs, gB gs, gCg gs, gVe gs, gAs gs, gMv gs, nI k, pk, gPt gs, gPp gs, ps, gMay gs) i (by omega) (by omega) hN) (cwV 1 hts gX5_pick_X5_mayBe rfl rfl rfl (by decide +kernel) ⟨Nat.le_of_ble_eq_true rfl, Nat.le_of_ble_eq_true rfl⟩) hP hK (va_recv hK.1 hP (ci := 5) (q0 := 0) rfl rfl) rfl hl.1 rfl (Nat.le_of_ble_eq_true rfl) dX5_pick_112 ⟨Nat.le_of_ble_eq_true rfl, Nat.le_of_ble_eq_true rfl⟩ ?_
                  refine lv_if_eq (tgt := 210) hx hb dX5_pick_115 (by decide) (fun c115 => ?_) (fun c115 => ?_)
                  · -- 115 True
                    have c115 := bI_z.mp c115
                    refine lv_iinc (v := nI (i + 1)) (lv' := [(12, .int (nI (i + 1))), (13, .int ((gCh gs i) &&& (ps ^^^ (-1)))), (10, .long ((gCg gs (gB gs - 1)) &&& ((gRS gs ps) ^^^ (-1)))), (8, .long c2), (6, .long g2), (5, .int b2), (4, .int lf), (2, .long (gCg gs (gB gs - 1))), (0, .ref (z 0)), (1, .int tm)]) hx hb dX5_pick_210 hl (k := 1) rfl (nI_inc _) (by decide) rfl (fun ls hl => ?_)
                    refine lv_goto (tgt := 85) hx hb dX5_pick_213 (by decide) ?_
                    exact ih85 (i + 1) b2 g2 c2 (by omega) (by omega) (by rw [wrM, if_pos c115]; exact hf) _ _ hP hD hS ls (lv_sub hl [0, 2, 3, 4, 5, 6, 7, 8, 9] rfl)
                  · -- 115 False
                    have c115 := bI_nz.mp c115
                    refine lv_aload_n hx hb dX5_pick_118 rfl (lv_at hl 8 rfl) ?_
                    refine va_get (D := D) (ci := 5) (v := .int ps) (C := RX5) (T := TX5) (N := 19) hx hb hts hin5 hown hK.1 hP 0 rfl rfl 17 (by decide) (hts (.fieldLink RX5 116 "TestPickerModel" "pickSet" "I") (by decide +kernel)) (fun _ h9 => h9) rfl dX5_pick_119 ?_
                    refine lv_iload hx hb dX5_pick_122 (lv_at hl 1 rfl) ?_
                    refine ro_Si (As := [.int ps, .int (nI i)]) (rest := []) ⟨hx, hb, hml, hown, hts⟩ (c_X5_has l D c ps i (by omega)) (va_cwS 2 hts gX5_pick_X5_has rfl rfl rfl (by decide +kernel) ⟨Nat.le_of_ble_eq_true rfl, Nat.le_of_ble_eq_true rfl⟩) va_P0 hK rfl hl.1 rfl (Nat.le_of_ble_eq_true rfl) dX5_pick_124 ⟨Nat.le_of_ble_eq_true rfl, Nat.le_of_ble_eq_true rfl⟩ ?_
                    refine lv_if_eq (tgt := 133) hx hb dX5_pick_127 (by decide) (fun c127 => ?_) (fun c127 => ?_)
                    · -- 127 True
                      have c127 := bI_z.mp c127
                      refine lv_aload_n hx hb dX5_pick_133 rfl (lv_at hl 8 rfl) ?_
                      refine lv_iload hx hb dX5_pick_134 (lv_at hl 0 rfl) ?_
                      refine ro_Vl (post := (gRS gs ((gCh gs i) &&& (ps ^^^ (-1))))) (As := [.int ((gCh gs i) &&& (ps ^^^ (-1)))]) (rest := []) ⟨hx, hb, hml, hown, hts⟩ (c_X5_reachOfSet l D z c (gFi gs, gFs gs, gT gs, gKd gs, gTi gs, gNd gs, gMs gs, gBy gs, gB gs, gCg gs, gVe gs, gAs gs, gMv gs, nI k, pk, gPt gs, gPp gs, ps, gMay gs) ((gCh gs i) &&& (ps ^^^ (-1))) (by omega)) (cwV 1 hts gX5_pick_X5_reachOfSet rfl rfl rfl (by decide +kernel) ⟨Nat.le_of_ble_eq_true rfl, Nat.le_of_ble_eq_true rfl⟩) hP hK (va_recv hK.1 hP (ci := 5) (q0 := 0) rfl rfl) rfl hl.1 rfl (Nat.le_of_ble_eq_true rfl) dX5_pick_136 ⟨Nat.le_of_ble_eq_true rfl, Nat.le_of_ble_eq_true rfl⟩ ?_
                      refine lv_lload hx hb dX5_pick_139 (lv_at hl 2 rfl) ?_
                      refine lv_land hx hb dX5_pick_141 ?_
                      refine ro_Si (As := [.long ((gRS gs ((gCh gs i) &&& (ps ^^^ (-1)))) &&& ((gCg gs (gB gs - 1)) &&& ((gRS gs ps) ^^^ (-1))))]) (rest := []) ⟨hx, hb, hml, hown, hts⟩ (c_X5_bits l D c ((gRS gs ((gCh gs i) &&& (ps ^^^ (-1)))) &&& ((gCg gs (gB gs - 1)) &&& ((gRS gs ps) ^^^ (-1))))) (va_cwS 1 hts gX5_pick_X5_bits rfl rfl rfl (by decide +kernel) ⟨Nat.le_of_ble_eq_true rfl, Nat.le_of_ble_eq_true rfl⟩) va_P0 hK rfl hl.1 rfl (Nat.le_of_ble_eq_true rfl) dX5_pick_142 ⟨Nat.le_of_ble_eq_true rfl, Nat.le_of_ble_eq_true rfl⟩ ?_
                      refine lv_i2l (v := (bitsN ((gRS gs ((gCh gs i) &&& (ps ^^^ (-1)))) &&& ((gCg gs (gB gs - 1)) &&& ((gRS gs ps) ^^^ (-1)))) 40).toInt64) hx hb dX5_pick_145 rfl ?_
                      refine lv_bipush (v := 16) hx hb dX5_pick_146 (by decide) ?_
                      refine lv_aload_n hx hb dX5_pick_148 rfl (lv_at hl 8 rfl) ?_
                      refine lv_iload hx hb dX5_pick_149 (lv_at hl 1 rfl) ?_
                      refine ro_Vi (post := (htM (gVe gs) (gB gs) i 8)) (As := [.int (nI i)]) (rest := [.int 16, .long ((bitsN ((gRS gs ((gCh gs i) &&& (ps ^^^ (-1)))) &&& ((gCg gs (gB gs - 1)) &&& ((gRS gs ps) ^^^ (-1)))) 40).toInt64)]) ⟨hx, hb, hml, hown, hts⟩ (c_X5_heatOf l D z c (gFi gs, gFs gs, gT gs, gKd gs, gTi gs, gNd gs, gMs gs, gBy gs, gB gs, gCg gs, gVe gs, gAs gs, gMv gs, nI k, pk, gPt gs, gPp gs, ps, gMay gs) i (by omega) (by omega)) (cwV 1 hts gX5_pick_X5_heatOf rfl rfl rfl (by decide +kernel) ⟨Nat.le_of_ble_eq_true rfl, Nat.le_of_ble_eq_true rfl⟩) hP hK (va_recv hK.1 hP (ci := 5) (q0 := 0) rfl rfl) rfl hl.1 rfl (Nat.le_of_ble_eq_true rfl) dX5_pick_151 ⟨Nat.le_of_ble_eq_true rfl, Nat.le_of_ble_eq_true rfl⟩ ?_
                      refine lv_iadd hx hb dX5_pick_154 ?_
                      refine lv_i2l (v := (16 + (htM (gVe gs) (gB gs) i 8)).toInt64) hx hb dX5_pick_155 rfl ?_
                      refine lv_lmul hx hb dX5_pick_156 ?_
                      refine lv_lstore (lv' := [(14, .long ((bitsN ((gRS gs ((gCh gs i) &&& (ps ^^^ (-1)))) &&& ((gCg gs (gB gs - 1)) &&& ((gRS gs ps) ^^^ (-1)))) 40).toInt64 * (16 + (htM (gVe gs) (gB gs) i 8)).toInt64)), (13, .int ((gCh gs i) &&& (ps ^^^ (-1)))), (12, .int (nI i)), (10, .long ((gCg gs (gB gs - 1)) &&& ((gRS gs ps) ^^^ (-1)))), (8, .long c2), (6, .long g2), (5, .int b2), (4, .int lf), (2, .long (gCg gs (gB gs - 1))), (0, .ref (z 0)), (1, .int tm)]) hx hb dX5_pick_157 hl (by decide) rfl (fun ls hl => ?_)
                      refine lv_aload_n hx hb dX5_pick_159 rfl (lv_at hl 9 rfl) ?_
                      refine lv_iload hx hb dX5_pick_160 (lv_at hl 1 rfl) ?_
                      refine ro_Vi (post := (gTS gs ((gCh gs i) &&& (ps ^^^ (-1))))) (As := [.int ((gCh gs i) &&& (ps ^^^ (-1)))]) (rest := []) ⟨hx, hb, hml, hown, hts⟩ (c_X5_timeOfSet l D z c (gFi gs, gFs gs, gT gs, gKd gs, gTi gs, gNd gs, gMs gs, gBy gs, gB gs, gCg gs, gVe gs, gAs gs, gMv gs, nI k, pk, gPt gs, gPp gs, ps, gMay gs) ((gCh gs i) &&& (ps ^^^ (-1))) (by omega)) (cwV 1 hts gX5_pick_X5_timeOfSet rfl rfl rfl (by decide +kernel) ⟨Nat.le_of_ble_eq_true rfl, Nat.le_of_ble_eq_true rfl⟩) hP hK (va_recv hK.1 hP (ci := 5) (q0 := 0) rfl rfl) rfl hl.1 rfl (Nat.le_of_ble_eq_true rfl) dX5_pick_162 ⟨Nat.le_of_ble_eq_true rfl, Nat.le_of_ble_eq_true rfl⟩ ?_
                      refine lv_i2l (v := (gTS gs ((gCh gs i) &&& (ps ^^^ (-1)))).toInt64) hx hb dX5_pick_165 rfl ?_
                      refine lv_lstore (lv' := [(16, .long ((gTS gs ((gCh gs i) &&& (ps ^^^ (-1)))).toInt64)), (14, .long ((bitsN ((gRS gs ((gCh gs i) &&& (ps ^^^ (-1)))) &&& ((gCg gs (gB gs - 1)) &&& ((gRS gs ps) ^^^ (-1)))) 40).toInt64 * (16 + (htM (gVe gs) (gB gs) i 8)).toInt64)), (13, .int ((gCh gs i) &&& (ps ^^^ (-1)))), (12, .int (nI i)), (10, .long ((gCg gs (gB gs - 1)) &&& ((gRS gs ps) ^^^ (-1)))), (8, .long c2), (6, .long g2), (5, .int b2), (4, .int lf), (2, .long (gCg gs (gB gs - 1))), (0, .ref (z 0)), (1, .int tm)]) hx hb dX5_pick_166 hl (by decide) rfl (fun ls hl => ?_)
                      refine lv_lload hx hb dX5_pick_168 (lv_at hl 1 rfl) ?_
                      refine lv_lconst (v := 0) hx hb dX5_pick_170 (by decide) ?_
                      refine W.lcmp hx hb dX5_pick_171 ?_
                      refine lv_if_le (tgt := 210) hx hb dX5_pick_172 (by decide) (fun c172 => ?_) (fun c172 => ?_)
                      · -- 172 True
                        have c172 := (lg_cmp_le _ _).mp c172
                        refine lv_iinc (v := nI (i + 1)) (lv' := [(12, .int (nI (i + 1))), (16, .long ((gTS gs ((gCh gs i) &&& (ps ^^^ (-1)))).toInt64)), (14, .long ((bitsN ((gRS gs ((gCh gs i) &&& (ps ^^^ (-1)))) &&& ((gCg gs (gB gs - 1)) &&& ((gRS gs ps) ^^^ (-1)))) 40).toInt64 * (16 + (htM (gVe gs) (gB gs) i 8)).toInt64)), (13, .int ((gCh gs i) &&& (ps ^^^ (-1)))), (10, .long ((gCg gs (gB gs - 1)) &&& ((gRS gs ps) ^^^ (-1)))), (8, .long c2), (6, .long g2), (5, .int b2), (4, .int lf), (2, .long (gCg gs (gB gs - 1))), (0, .ref (z 0)), (1, .int tm)]) hx hb dX5_pick_210 hl (k := 3) rfl (nI_inc _) (by decide) rfl (fun ls hl => ?_)
                        refine lv_goto (tgt := 85) hx hb dX5_pick_213 (by decide) ?_
                        exact ih85 (i + 1) b2 g2 c2 (by omega) (by omega) (by rw [wrM, if_neg (by rw [c115]; decide), if_neg (by rw [c127]; decide), if_pos c172]; exact hf) _ _ hP hD hS ls (lv_sub hl [0, 4, 5, 6, 7, 8, 9, 10, 11] rfl)
                      · -- 172 False
                        have c172 := lg_nle.mp c172
                        refine lv_lload hx hb dX5_pick_175 (lv_at hl 0 rfl) ?_
                        refine lv_iload hx hb dX5_pick_177 (lv_at hl 8 rfl) ?_
                        refine lv_i2l (v := lf.toInt64) hx hb dX5_pick_179 rfl ?_
                        refine W.lcmp hx hb dX5_pick_180 ?_
                        refine lv_if_gt (tgt := 210) hx hb dX5_pick_181 (by decide) (fun c181 => ?_) (fun c181 => ?_)
                        · -- 181 True
                          have c181 := (lg_cmp_gt _ _).mp c181
                          refine lv_iinc (v := nI (i + 1)) (lv' := [(12, .int (nI (i + 1))), (16, .long ((gTS gs ((gCh gs i) &&& (ps ^^^ (-1)))).toInt64)), (14, .long ((bitsN ((gRS gs ((gCh gs i) &&& (ps ^^^ (-1)))) &&& ((gCg gs (gB gs - 1)) &&& ((gRS gs ps) ^^^ (-1)))) 40).toInt64 * (16 + (htM (gVe gs) (gB gs) i 8)).toInt64)), (13, .int ((gCh gs i) &&& (ps ^^^ (-1)))), (10, .long ((gCg gs (gB gs - 1)) &&& ((gRS gs ps) ^^^ (-1)))), (8, .long c2), (6, .long g2), (5, .int b2), (4, .int lf), (2, .long (gCg gs (gB gs - 1))), (0, .ref (z 0)), (1, .int tm)]) hx hb dX5_pick_210 hl (k := 3) rfl (nI_inc _) (by decide) rfl (fun ls hl => ?_)
                          refine lv_goto (tgt := 85) hx hb dX5_pick_213 (by decide) ?_
                          exact ih85 (i + 1) b2 g2 c2 (by omega) (by omega) (by rw [wrM, if_neg (by rw [c115]; decide), if_neg (by rw [c127]; decide), if_neg (Int64.not_le.mpr c172), if_pos c181]; exact hf) _ _ hP hD hS ls (lv_sub hl [0, 4, 5, 6, 7, 8, 9, 10, 11] rfl)
                        · -- 181 False
                          have c181 := lg_ngt.mp c181
                          refine lv_lload hx hb dX5_pick_184 (lv_at hl 1 rfl) ?_
                          refine lv_lload hx hb dX5_pick_186 (lv_at hl 5 rfl) ?_
                          refine lv_lmul hx hb dX5_pick_188 ?_
                          refine lv_lload hx hb dX5_pick_189 (lv_at hl 6 rfl) ?_
                          refine lv_lload hx hb dX5_pick_191 (lv_at hl 0 rfl) ?_
                          refine lv_lmul hx hb dX5_pick_193 ?_
                          refine W.lcmp hx hb dX5_pick_194 ?_
                          refine lv_if_le (tgt := 210) hx hb dX5_pick_195 (by decide) (fun c195 => ?_) (fun c195 => ?_)
                          · -- 195 True
                            have c195 := (lg_cmp_le _ _).mp c195
                            refine lv_iinc (v := nI (i + 1)) (lv' := [(12, .int (nI (i + 1))), (16, .long ((gTS gs ((gCh gs i) &&& (ps ^^^ (-1)))).toInt64)), (14, .long ((bitsN ((gRS gs ((gCh gs i) &&& (ps ^^^ (-1)))) &&& ((gCg gs (gB gs - 1)) &&& ((gRS gs ps) ^^^ (-1)))) 40).toInt64 * (16 + (htM (gVe gs) (gB gs) i 8)).toInt64)), (13, .int ((gCh gs i) &&& (ps ^^^ (-1)))), (10, .long ((gCg gs (gB gs - 1)) &&& ((gRS gs ps) ^^^ (-1)))), (8, .long c2), (6, .long g2), (5, .int b2), (4, .int lf), (2, .long (gCg gs (gB gs - 1))), (0, .ref (z 0)), (1, .int tm)]) hx hb dX5_pick_210 hl (k := 3) rfl (nI_inc _) (by decide) rfl (fun ls hl => ?_)
                            refine lv_goto (tgt := 85) hx hb dX5_pick_213 (by decide) ?_
                            exact ih85 (i + 1) b2 g2 c2 (by omega) (by omega) (by rw [wrM, if_neg (by rw [c115]; decide), if_neg (by rw [c127]; decide), if_neg (Int64.not_le.mpr c172), if_neg (Int64.not_lt.mpr c181), hf, if_pos c195]) _ _ hP hD hS ls (lv_sub hl [0, 4, 5, 6, 7, 8, 9, 10, 11] rfl)
                          · -- 195 False
                            have c195 := lg_nle.mp c195
                            refine lv_iload hx hb dX5_pick_198 (lv_at hl 3 rfl) ?_
                            refine lv_istore (lv' := [(5, .int (nI i)), (16, .long ((gTS gs ((gCh gs i) &&& (ps ^^^ (-1)))).toInt64)), (14, .long ((bitsN ((gRS gs ((gCh gs i) &&& (ps ^^^ (-1)))) &&& ((gCg gs (gB gs - 1)) &&& ((gRS gs ps) ^^^ (-1)))) 40).toInt64 * (16 + (htM (gVe gs) (gB gs) i 8)).toInt64)), (13, .int ((gCh gs i) &&& (ps ^^^ (-1)))), (12, .int (nI i)), (10, .long ((gCg gs (gB gs - 1)) &&& ((gRS gs ps) ^^^ (-1)))), (8, .long c2), (6, .long g2), (4, .int lf), (2, .long (gCg gs (gB gs - 1))), (0, .ref (z 0)), (1, .int tm)]) hx hb dX5_pick_200 hl (by decide) rfl (fun ls hl => ?_)
                            refine lv_lload hx hb dX5_pick_202 (lv_at hl 2 rfl) ?_
                            refine lv_lstore (lv' := [(6, .long ((bitsN ((gRS gs ((gCh gs i) &&& (ps ^^^ (-1)))) &&& ((gCg gs (gB gs - 1)) &&& ((gRS gs ps) ^^^ (-1)))) 40).toInt64 * (16 + (htM (gVe gs) (gB gs) i 8)).toInt64)), (5, .int (nI i)), (16, .long ((gTS gs ((gCh gs i) &&& (ps ^^^ (-1)))).toInt64)), (14, .long ((bitsN ((gRS gs ((gCh gs i) &&& (ps ^^^ (-1)))) &&& ((gCg gs (gB gs - 1)) &&& ((gRS gs ps) ^^^ (-1)))) 40).toInt64 * (16 + (htM (gVe gs) (gB gs) i 8)).toInt64)), (13, .int ((gCh gs i) &&& (ps ^^^ (-1)))), (12, .int (nI i)), (10, .long ((gCg gs (gB gs - 1)) &&& ((gRS gs ps) ^^^ (-1)))), (8, .long c2), (4, .int lf), (2, .long (gCg gs (gB gs - 1))), (0, .ref (z 0)), (1, .int tm)]) hx hb dX5_pick_204 hl (by decide) rfl (fun ls hl => ?_)
                            refine lv_lload hx hb dX5_pick_206 (lv_at hl 2 rfl) ?_
                            refine lv_lstore (lv' := [(8, .long ((gTS gs ((gCh gs i) &&& (ps ^^^ (-1)))).toInt64)), (6, .long ((bitsN ((gRS gs ((gCh gs i) &&& (ps ^^^ (-1)))) &&& ((gCg gs (gB gs - 1)) &&& ((gRS gs ps) ^^^ (-1)))) 40).toInt64 * (16 + (htM (gVe gs) (gB gs) i 8)).toInt64)), (5, .int (nI i)), (16, .long ((gTS gs ((gCh gs i) &&& (ps ^^^ (-1)))).toInt64)), (14, .long ((bitsN ((gRS gs ((gCh gs i) &&& (ps ^^^ (-1)))) &&& ((gCg gs (gB gs - 1)) &&& ((gRS gs ps) ^^^ (-1)))) 40).toInt64 * (16 + (htM (gVe gs) (gB gs) i 8)).toInt64)), (13, .int ((gCh gs i) &&& (ps ^^^ (-1)))), (12, .int (nI i)), (10, .long ((gCg gs (gB gs - 1)) &&& ((gRS gs ps) ^^^ (-1)))), (4, .int lf), (2, .long (gCg gs (gB gs - 1))), (0, .ref (z 0)), (1, .int tm)]) hx hb dX5_pick_208 hl (by decide) rfl (fun ls hl => ?_)
                            refine lv_iinc (v := nI (i + 1)) (lv' := [(12, .int (nI (i + 1))), (8, .long ((gTS gs ((gCh gs i) &&& (ps ^^^ (-1)))).toInt64)), (6, .long ((bitsN ((gRS gs ((gCh gs i) &&& (ps ^^^ (-1)))) &&& ((gCg gs (gB gs - 1)) &&& ((gRS gs ps) ^^^ (-1)))) 40).toInt64 * (16 + (htM (gVe gs) (gB gs) i 8)).toInt64)), (5, .int (nI i)), (16, .long ((gTS gs ((gCh gs i) &&& (ps ^^^ (-1)))).toInt64)), (14, .long ((bitsN ((gRS gs ((gCh gs i) &&& (ps ^^^ (-1)))) &&& ((gCg gs (gB gs - 1)) &&& ((gRS gs ps) ^^^ (-1)))) 40).toInt64 * (16 + (htM (gVe gs) (gB gs) i 8)).toInt64)), (13, .int ((gCh gs i) &&& (ps ^^^ (-1)))), (10, .long ((gCg gs (gB gs - 1)) &&& ((gRS gs ps) ^^^ (-1)))), (4, .int lf), (2, .long (gCg gs (gB gs - 1))), (0, .ref (z 0)), (1, .int tm)]) hx hb dX5_pick_210 hl (k := 6) rfl (nI_inc _) (by decide) rfl (fun ls hl => ?_)
                            refine lv_goto (tgt := 85) hx hb dX5_pick_213 (by decide) ?_
                            exact ih85 (i + 1) (nI i) ((bitsN ((gRS gs ((gCh gs i) &&& (ps ^^^ (-1)))) &&& ((gCg gs (gB gs - 1)) &&& ((gRS gs ps) ^^^ (-1)))) 40).toInt64 * (16 + (htM (gVe gs) (gB gs) i 8)).toInt64) ((gTS gs ((gCh gs i) &&& (ps ^^^ (-1)))).toInt64) (by omega) (by omega) (by rw [wrM, if_neg (by rw [c115]; decide), if_neg (by rw [c127]; decide), if_neg (Int64.not_le.mpr c172), if_neg (Int64.not_lt.mpr c181), hf, if_neg (Int64.not_le.mpr c195)]) _ _ hP hD hS ls (lv_sub hl [0, 7, 1, 2, 3, 8, 9, 10, 11] rfl)
                    · -- 127 False
                      have c127 := bI_nz.mp c127
                      refine lv_goto (tgt := 210) hx hb dX5_pick_130 (by decide) ?_
                      refine lv_iinc (v := nI (i + 1)) (lv' := [(12, .int (nI (i + 1))), (13, .int ((gCh gs i) &&& (ps ^^^ (-1)))), (10, .long ((gCg gs (gB gs - 1)) &&& ((gRS gs ps) ^^^ (-1)))), (8, .long c2), (6, .long g2), (5, .int b2), (4, .int lf), (2, .long (gCg gs (gB gs - 1))), (0, .ref (z 0)), (1, .int tm)]) hx hb dX5_pick_210 hl (k := 1) rfl (nI_inc _) (by decide) rfl (fun ls hl => ?_)
                      refine lv_goto (tgt := 85) hx hb dX5_pick_213 (by decide) ?_
                      exact ih85 (i + 1) b2 g2 c2 (by omega) (by omega) (by rw [wrM, if_neg (by rw [c115]; decide), if_pos c127]; exact hf) _ _ hP hD hS ls (lv_sub hl [0, 2, 3, 4, 5, 6, 7, 8, 9] rfl)
            exact L85 (gT gs + 1) 0 (-9) 0 1 (by omega) (by omega) (rfl) _ _ hP hD hS ls (lv_sub hl [0, 1, 2, 3, 4, 5, 6, 7, 8] rfl)
      exact L51 (23) tm 0 0 (gPk gs) 0 (fun h => absurd h (by decide)) (fun _ => by rw [cN_zero]; omega) ((cN_zero _).symm) (fun h => absurd h (by decide)) (fun _ => rfl) _ _ hP hD hS ls (lv_sub hl [0, 1, 2, 3, 4] rfl)
    · -- 17 False
      have c17 : (gB gs) = 0 := (nI_eq (b := 0) (by omega) (by omega)).mp c17
      refine lv_bipush (v := (-4)) hx hb dX5_pick_20 (by decide) ?_
      have e9 : gPick tm gs = ((-4), gs) := by simp [gPick, c8, eq_true c17]
      rw [e9]
      exact mu_reti hx hb hr hlk hP hD hS (rfl) dX5_pick_22
  · -- 8 False
    have c8 := bI_z.mp c8
    refine lv_iconst (v := (-1)) hx hb dX5_pick_11 (by decide) ?_
    have e9 : gPick tm gs = ((-1), gs) := by simp [gPick, c8]
    rw [e9]
    exact mu_reti hx hb hr hlk hP hD hS (rfl) dX5_pick_12
