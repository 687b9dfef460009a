set_option maxHeartbeats 4000000 in
set_option maxRecDepth 100000 in
theorem c_X5_best (l : Launch) (D : va_G) (z : Nat → Nat) (c : CT) (gs : GS) (tm : Int32) (hT : gT gs ≤ 20) (hB60 : gB gs ≤ 60) (hN : WN (gNd gs) (gT gs)) : MUi l yX5_best wsX5_best ({ frames := 2, cells := 0, slots := 0, locals := 48 } : Room) [.ref (z 0), .int tm] D c (wG z c gs) (wG z c (gBest tm gs).2) ((gBest tm gs).1) := by
  refine mu_start (cc := cX5_best) (maxL := 12) (ret := some .int) (by decide) rfl (Nat.le_of_ble_eq_true rfl) ?_
  intro p e s m args below meth c0 ls hx hb hr hml hown hts hlk hnm hP hK hD hS hA hl
  have hown : s.vm.findClass RX5 = some m.cls := hown
  have hl : lv_has ls 12 [(0, .ref (z 0)), (1, .int tm)] := hl
  have hin5 : ∀ w ∈ wsX50, w ∈ wsX5_best := by decide +kernel
  refine lv_iload_n hx hb dX5_best_0 rfl (lv_at hl 1 rfl) ?_
  refine lv_iconst (v := 0) hx hb dX5_best_1 (by decide) ?_
  refine lv_sipush (v := 30000) hx hb dX5_best_2 (by decide) ?_
  refine ro_Si (As := [.int tm, .int 0, .int 30000]) (rest := []) ⟨hx, hb, hml, hown, hts⟩ (c_X5_in l D c tm 0 30000) (va_cwS 3 hts gX5_best_X5_in rfl rfl rfl (by decide +kernel) ⟨Nat.le_of_ble_eq_true rfl, Nat.le_of_ble_eq_true rfl⟩) va_P0 hK rfl hl.1 rfl (Nat.le_of_ble_eq_true rfl) dX5_best_5 ⟨Nat.le_of_ble_eq_true rfl, Nat.le_of_ble_eq_true rfl⟩ ?_
  refine lv_if_ne (tgt := 13) hx hb dX5_best_8 (by decide) (fun c8 => ?_) (fun c8 => ?_)
  · -- 8 True
    have c8 := bI_nz.mp c8
    refine lv_aload_n hx hb dX5_best_13 rfl (lv_at hl 0 rfl) ?_
    refine va_get (D := D) (ci := 5) (v := .int (nI (gB gs))) (C := RX5) (T := TX5) (N := 19) hx hb hts hin5 hown hK.1 hP 0 rfl rfl 8 (by decide) (hts (.fieldLink RX5 59 "TestPickerModel" "builds" "I") (by decide +kernel)) (fun _ h9 => h9) rfl dX5_best_14 ?_
    refine lv_if_ne (tgt := 23) hx hb dX5_best_17 (by decide) (fun c17 => ?_) (fun c17 => ?_)
    · -- 17 True
      have c17 : ¬ (gB gs) = 0 := fun z => c17 ((nI_eq (b := 0) (by omega) (by omega)).mpr z)
      refine lv_iconst (v := 0) hx hb dX5_best_23 (by decide) ?_
      refine lv_istore_n (lv' := [(2, .int 0), (0, .ref (z 0)), (1, .int tm)]) hx hb dX5_best_24 rfl hl (by decide) rfl (fun ls hl => ?_)
      refine lv_iconst (v := 0) hx hb dX5_best_25 (by decide) ?_
      refine lv_istore_n (lv' := [(3, .int 0), (2, .int 0), (0, .ref (z 0)), (1, .int tm)]) hx hb dX5_best_26 rfl hl (by decide) rfl (fun ls hl => ?_)
      have L27 : ∀ (n : Nat) (i : Nat) (mv : Nat → Int32) (k : Nat), (i ≤ gT gs) → (gT gs < i + n) → (k ≤ i) → (pkF (gMb gs) (gMay gs) i = (mv, k)) → ∀ (H : Heap) (locs : List Loc), va_P D vwCl (wG z c (gFi gs, gFs gs, gT gs, gKd gs, gTi gs, gNd gs, gMs gs, gBy gs, gB gs, gCg gs, gVe gs, gAs gs, gMv gs, gPm gs, gPk gs, gPt gs, gPp gs, gPs gs, mv)) H → va_D (va_A (wG z c gs) s.heap.size) (wG z c (gFi gs, gFs gs, gT gs, gKd gs, gTi gs, gNd gs, gMs gs, gBy gs, gB gs, gCg gs, gVe gs, gAs gs, gMv gs, gPm gs, gPk gs, gPt gs, gPp gs, gPs gs, mv)) → va_S (va_A (wG z c gs) s.heap.size) s.heap H locs → ∀ ls : Array Slot, lv_has ls 12 [(3, .int (nI i)), (2, .int (nI k)), (0, .ref (z 0)), (1, .int tm)] → W p l e ({ frames := 2, cells := 0, slots := 0, locals := 48 } : Room) s m args below meth c0 H locs 0 0 (QMi below args s D c (wG z c gs) (wG z c (gBest tm gs).2) ((gBest tm gs).1)) (F0 m 27 ls []) := by
        intro n
        induction n with
        | zero => intro i mv k hi hn hki hf H locs hP hD hS ls hl; exact absurd hn (by omega)
        | succ n ih27 =>
          intro i mv k hi hn hki hf H locs hP hD hS ls hl
          refine lv_iload_n hx hb dX5_best_27 rfl (lv_at hl 0 rfl) ?_
          refine lv_aload_n hx hb dX5_best_28 rfl (lv_at hl 2 rfl) ?_
          refine va_get (D := D) (ci := 5) (v := .int (nI (gT gs))) (C := RX5) (T := TX5) (N := 19) hx hb hts hin5 hown hK.1 hP 0 rfl rfl 2 (by decide) (hts (.fieldLink RX5 52 "TestPickerModel" "tests" "I") (by decide +kernel)) (fun _ h9 => h9) rfl dX5_best_29 ?_
          refine lv_icmp_ge (tgt := 59) hx hb dX5_best_32 (by decide) (fun c32 => ?_) (fun c32 => ?_)
          · -- 32 True
            have c32 : (gT gs) ≤ i := (nI_leI (a := (gT gs)) (b := i) (by omega) (by omega)).mp c32
            have hfT : byM gs = (mv, k) := by rw [← hf, show i = gT gs by omega]
            refine lv_iload_n hx hb dX5_best_59 rfl (lv_at hl 1 rfl) ?_
            refine lv_bipush (v := 12) hx hb dX5_best_60 (by decide) ?_
            refine lv_icmp_le (tgt := 68) hx hb dX5_best_62 (by decide) (fun c62 => ?_) (fun c62 => ?_)
            · -- 62 True
              have c62 : k ≤ 12 := (nI_leI (a := k) (b := 12) (by omega) (by omega)).mp c62
              have h4096 := pow_le12 (N := k) (by omega)
              refine lv_iconst (v := 0) hx hb dX5_best_68 (by decide) ?_
              refine lv_istore_n (lv' := [(3, .int 0), (2, .int (nI k)), (0, .ref (z 0)), (1, .int tm)]) hx hb dX5_best_69 rfl hl (by decide) rfl (fun ls hl => ?_)
              refine lv_iconst (v := 0) hx hb dX5_best_70 (by decide) ?_
              refine lv_istore (lv' := [(4, .int 0), (3, .int 0), (2, .int (nI k)), (0, .ref (z 0)), (1, .int tm)]) hx hb dX5_best_71 hl (by decide) rfl (fun ls hl => ?_)
              refine lv_iconst (v := 0) hx hb dX5_best_73 (by decide) ?_
              refine lv_istore (lv' := [(5, .int 0), (4, .int 0), (3, .int 0), (2, .int (nI k)), (0, .ref (z 0)), (1, .int tm)]) hx hb dX5_best_74 hl (by decide) rfl (fun ls hl => ?_)
              refine lv_iconst (v := 1) hx hb dX5_best_76 (by decide) ?_
              refine lv_istore (lv' := [(6, .int 1), (5, .int 0), (4, .int 0), (3, .int 0), (2, .int (nI k)), (0, .ref (z 0)), (1, .int tm)]) hx hb dX5_best_77 hl (by decide) rfl (fun ls hl => ?_)
              have L79 : ∀ (n2 : Nat) (j : Nat) (b : Int32) (pt : Int32) (tt : Int32), (j ≤ 2 ^ k - 1) → (2 ^ k - 1 < j + n2) → (bsM gs tm mv k j = (b, pt, tt)) → ∀ (H : Heap) (locs : List Loc), va_P D vwCl (wG z c (gFi gs, gFs gs, gT gs, gKd gs, gTi gs, gNd gs, gMs gs, gBy gs, gB gs, gCg gs, gVe gs, gAs gs, gMv gs, gPm gs, gPk gs, gPt gs, gPp gs, gPs gs, mv)) H → va_D (va_A (wG z c gs) s.heap.size) (wG z c (gFi gs, gFs gs, gT gs, gKd gs, gTi gs, gNd gs, gMs gs, gBy gs, gB gs, gCg gs, gVe gs, gAs gs, gMv gs, gPm gs, gPk gs, gPt gs, gPp gs, gPs gs, mv)) → va_S (va_A (wG z c gs) s.heap.size) s.heap H locs → ∀ ls : Array Slot, lv_has ls 12 [(6, .int (nI (j + 1))), (5, .int tt), (4, .int pt), (3, .int b), (2, .int (nI k)), (0, .ref (z 0)), (1, .int tm)] → W p l e ({ frames := 2, cells := 0, slots := 0, locals := 48 } : Room) s m args below meth c0 H locs 0 0 (QMi below args s D c (wG z c gs) (wG z c (gBest tm gs).2) ((gBest tm gs).1)) (F0 m 79 ls []) := by
                intro n2
                induction n2 with
                | zero => intro j b pt tt hj hn2 hq H locs hP hD hS ls hl; exact absurd hn2 (by omega)
                | succ n2 ih79 =>
                  intro j b pt tt hj hn2 hq H locs hP hD hS ls hl
                  refine lv_iload hx hb dX5_best_79 (lv_at hl 0 rfl) ?_
                  refine lv_iconst (v := 1) hx hb dX5_best_81 (by decide) ?_
                  refine lv_iload_n hx hb dX5_best_82 rfl (lv_at hl 4 rfl) ?_
                  refine lv_ishl hx hb dX5_best_83 ?_
                  refine tp_i (z := nI (2 ^ k)) (one_pow _ (by omega)) ?_
                  refine lv_icmp_ge (tgt := 237) hx hb dX5_best_84 (by decide) (fun c84 => ?_) (fun c84 => ?_)
                  · -- 84 True
                    have c84 : (2 ^ k) ≤ (j + 1) := (nI_leI (a := (2 ^ k)) (b := (j + 1)) (by omega) (by omega)).mp c84
                    refine lv_aload_n hx hb dX5_best_237 rfl (lv_at hl 5 rfl) ?_
                    refine lv_iload_n hx hb dX5_best_238 rfl (lv_at hl 3 rfl) ?_
                    refine lv_i2l (v := b.toInt64) hx hb dX5_best_239 rfl ?_
                    refine va_put (D := D) (ci := 5) (v := .long b.toInt64) (ty := .long) (C := RX5) (T := TX5) (N := 19) hx hb hts hin5 tyX5 tyX5_ok nmX5 hown hK.1 hP hD hS 0 rfl rfl 11 (by decide) (hts (.fieldLink RX5 108 "TestPickerModel" "asked" "J") (by decide +kernel)) (fun _ h9 => h9) rfl (by decide +kernel) rfl rfl (Nat.le_of_ble_eq_true rfl) dX5_best_240 (fun H locs hP hD hS => ?_)
                    have hP : va_P D vwCl (wG z c (gFi gs, gFs gs, gT gs, gKd gs, gTi gs, gNd gs, gMs gs, gBy gs, gB gs, gCg gs, gVe gs, b.toInt64, gMv gs, gPm gs, gPk gs, gPt gs, gPp gs, gPs gs, mv)) H := hP
                    have hD : va_D (va_A (wG z c gs) s.heap.size) (wG z c (gFi gs, gFs gs, gT gs, gKd gs, gTi gs, gNd gs, gMs gs, gBy gs, gB gs, gCg gs, gVe gs, b.toInt64, gMv gs, gPm gs, gPk gs, gPt gs, gPp gs, gPs gs, mv)) := hD
                    refine lv_iload hx hb dX5_best_243 (lv_at hl 2 rfl) ?_
                    have hbT : bsG tm gs = (b, pt, tt) := by show bsM gs tm (byM gs).1 (byM gs).2 (2 ^ (byM gs).2 - 1) = _; rw [hfT]; show bsM gs tm mv k (2 ^ k - 1) = _; rw [← hq, show 2 ^ k - 1 = j by omega]
                    have e9 : gBest tm gs = (pt, (gFi gs, gFs gs, gT gs, gKd gs, gTi gs, gNd gs, gMs gs, gBy gs, gB gs, gCg gs, gVe gs, b.toInt64, gMv gs, gPm gs, gPk gs, gPt gs, gPp gs, gPs gs, mv)) := by rw [gBest, if_neg (by rw [c8]; decide), if_neg c17, if_neg (by rw [hfT]; show ¬ 12 < k; omega), hbT, hfT]
                    rw [e9]
                    exact mu_reti hx hb hr hlk hP hD hS (rfl) dX5_best_245
                  · -- 84 False
                    have c84 : (j + 1) < (2 ^ k) := (Nat.not_le.mp (fun z => c84 ((nI_leI (a := (2 ^ k)) (b := (j + 1)) (by omega) (by omega)).mpr z)))
                    refine lv_aload_n hx hb dX5_best_87 rfl (lv_at hl 5 rfl) ?_
                    refine lv_iload hx hb dX5_best_88 (lv_at hl 0 rfl) ?_
                    refine lv_iload_n hx hb dX5_best_90 rfl (lv_at hl 4 rfl) ?_
                    refine ro_Vi (post := soS mv (nI (j + 1)) k) (As := [.int (nI (j + 1)), .int (nI k)]) (rest := []) ⟨hx, hb, hml, hown, hts⟩ (c_X5_setOf l D z c (gFi gs, gFs gs, gT gs, gKd gs, gTi gs, gNd gs, gMs gs, gBy gs, gB gs, gCg gs, gVe gs, gAs gs, gMv gs, gPm gs, gPk gs, gPt gs, gPp gs, gPs gs, mv) (nI (j + 1)) k (by omega)) (cwV 2 hts gX5_best_X5_setOf rfl rfl rfl (by decide +kernel) ⟨Nat.le_of_ble_eq_true rfl, Nat.le_of_ble_eq_true rfl⟩) hP hK (va_recv hK.1 hP (ci := 5) (q0 := 0) rfl rfl) rfl hl.1 rfl (Nat.le_of_ble_eq_true rfl) dX5_best_91 ⟨Nat.le_of_ble_eq_true rfl, Nat.le_of_ble_eq_true rfl⟩ ?_
                    refine lv_istore (lv' := [(7, .int (soS mv (nI (j + 1)) k)), (6, .int (nI (j + 1))), (5, .int tt), (4, .int pt), (3, .int b), (2, .int (nI k)), (0, .ref (z 0)), (1, .int tm)]) hx hb dX5_best_94 hl (by decide) rfl (fun ls hl => ?_)
                    refine lv_aload_n hx hb dX5_best_96 rfl (lv_at hl 6 rfl) ?_
                    refine lv_iload hx hb dX5_best_97 (lv_at hl 0 rfl) ?_
                    refine ro_Vl (post := (gRS gs (soS mv (nI (j + 1)) k))) (As := [.int (soS mv (nI (j + 1)) k)]) (rest := []) ⟨hx, hb, hml, hown, hts⟩ (c_X5_reachOfSet l D z c (gFi gs, gFs gs, gT gs, gKd gs, gTi gs, gNd gs, gMs gs, gBy gs, gB gs, gCg gs, gVe gs, gAs gs, gMv gs, gPm gs, gPk gs, gPt gs, gPp gs, gPs gs, mv) (soS mv (nI (j + 1)) k) (by omega)) (cwV 1 hts gX5_best_X5_reachOfSet rfl rfl rfl (by decide +kernel) ⟨Nat.le_of_ble_eq_true rfl, Nat.le_of_ble_eq_true rfl⟩) hP hK (va_recv hK.1 hP (ci := 5) (q0 := 0) rfl rfl) rfl hl.1 rfl (Nat.le_of_ble_eq_true rfl) dX5_best_99 ⟨Nat.le_of_ble_eq_true rfl, Nat.le_of_ble_eq_true rfl⟩ ?_
                    refine lv_aload_n hx hb dX5_best_102 rfl (lv_at hl 6 rfl) ?_
                    refine va_get (D := D) (ci := 5) (v := .ref (z 7)) (C := RX5) (T := TX5) (N := 19) hx hb hts hin5 hown hK.1 hP 0 rfl rfl 9 (by decide) (hts (.fieldLink RX5 29 "TestPickerModel" "changes" "[J") (by decide +kernel)) (fun _ h9 => h9) rfl dX5_best_103 ?_
                    refine lv_aload_n hx hb dX5_best_106 rfl (lv_at hl 6 rfl) ?_
                    refine va_get (D := D) (ci := 5) (v := .int (nI (gB gs))) (C := RX5) (T := TX5) (N := 19) hx hb hts hin5 hown hK.1 hP 0 rfl rfl 8 (by decide) (hts (.fieldLink RX5 59 "TestPickerModel" "builds" "I") (by decide +kernel)) (fun _ h9 => h9) rfl dX5_best_107 ?_
                    refine lv_iconst (v := 1) hx hb dX5_best_110 (by decide) ?_
                    refine lv_isub hx hb dX5_best_111 ?_
                    refine tp_i (z := nI (gB gs - 1)) (pred1 (by omega)) ?_
                    refine ld_l hx hb hK hP 7 (f := gCg gs) rfl (i := (gB gs - 1)) (by omega) (by decide) dX5_best_112 ?_
                    refine lv_land hx hb dX5_best_113 ?_
                    refine ro_Si (As := [.long ((gRS gs (soS mv (nI (j + 1)) k)) &&& (gCg gs (gB gs - 1)))]) (rest := []) ⟨hx, hb, hml, hown, hts⟩ (c_X5_bits l D c ((gRS gs (soS mv (nI (j + 1)) k)) &&& (gCg gs (gB gs - 1)))) (va_cwS 1 hts gX5_best_X5_bits rfl rfl rfl (by decide +kernel) ⟨Nat.le_of_ble_eq_true rfl, Nat.le_of_ble_eq_true rfl⟩) va_P0 hK rfl hl.1 rfl (Nat.le_of_ble_eq_true rfl) dX5_best_114 ⟨Nat.le_of_ble_eq_true rfl, Nat.le_of_ble_eq_true rfl⟩ ?_
                    refine lv_istore (lv' := [(8, .int (bitsN ((gRS gs (soS mv (nI (j + 1)) k)) &&& (gCg gs (gB gs - 1))) 40)), (7, .int (soS mv (nI (j + 1)) k)), (6, .int (nI (j + 1))), (5, .int tt), (4, .int pt), (3, .int b), (2, .int (nI k)), (0, .ref (z 0)), (1, .int tm)]) hx hb dX5_best_117 hl (by decide) rfl (fun ls hl => ?_)
                    refine lv_aload_n hx hb dX5_best_119 rfl (lv_at hl 7 rfl) ?_
                    refine lv_iload hx hb dX5_best_120 (lv_at hl 1 rfl) ?_
                    refine ro_Vi (post := (gTS gs (soS mv (nI (j + 1)) k))) (As := [.int (soS mv (nI (j + 1)) k)]) (rest := []) ⟨hx, hb, hml, hown, hts⟩ (c_X5_timeOfSet l D z c (gFi gs, gFs gs, gT gs, gKd gs, gTi gs, gNd gs, gMs gs, gBy gs, gB gs, gCg gs, gVe gs, gAs gs, gMv gs, gPm gs, gPk gs, gPt gs, gPp gs, gPs gs, mv) (soS mv (nI (j + 1)) k) (by omega)) (cwV 1 hts gX5_best_X5_timeOfSet rfl rfl rfl (by decide +kernel) ⟨Nat.le_of_ble_eq_true rfl, Nat.le_of_ble_eq_true rfl⟩) hP hK (va_recv hK.1 hP (ci := 5) (q0 := 0) rfl rfl) rfl hl.1 rfl (Nat.le_of_ble_eq_true rfl) dX5_best_122 ⟨Nat.le_of_ble_eq_true rfl, Nat.le_of_ble_eq_true rfl⟩ ?_
                    refine lv_istore (lv' := [(9, .int (gTS gs (soS mv (nI (j + 1)) k))), (8, .int (bitsN ((gRS gs (soS mv (nI (j + 1)) k)) &&& (gCg gs (gB gs - 1))) 40)), (7, .int (soS mv (nI (j + 1)) k)), (6, .int (nI (j + 1))), (5, .int tt), (4, .int pt), (3, .int b), (2, .int (nI k)), (0, .ref (z 0)), (1, .int tm)]) hx hb dX5_best_125 hl (by decide) rfl (fun ls hl => ?_)
                    refine lv_iload hx hb dX5_best_127 (lv_at hl 0 rfl) ?_
                    refine lv_iload_n hx hb dX5_best_129 rfl (lv_at hl 9 rfl) ?_
                    refine lv_icmp_gt (tgt := 137) hx hb dX5_best_130 (by decide) (fun c130 => ?_) (fun c130 => ?_)
                    · -- 130 True
                      refine lv_iconst (v := 0) hx hb dX5_best_137 (by decide) ?_
                      refine lv_istore (lv' := [(10, .int 0), (9, .int (gTS gs (soS mv (nI (j + 1)) k))), (8, .int (bitsN ((gRS gs (soS mv (nI (j + 1)) k)) &&& (gCg gs (gB gs - 1))) 40)), (7, .int (soS mv (nI (j + 1)) k)), (6, .int (nI (j + 1))), (5, .int tt), (4, .int pt), (3, .int b), (2, .int (nI k)), (0, .ref (z 0)), (1, .int tm)]) hx hb dX5_best_138 hl (by decide) rfl (fun ls hl => ?_)
                      refine lv_iconst (v := 0) hx hb dX5_best_140 (by decide) ?_
                      refine lv_istore (lv' := [(11, .int 0), (10, .int 0), (9, .int (gTS gs (soS mv (nI (j + 1)) k))), (8, .int (bitsN ((gRS gs (soS mv (nI (j + 1)) k)) &&& (gCg gs (gB gs - 1))) 40)), (7, .int (soS mv (nI (j + 1)) k)), (6, .int (nI (j + 1))), (5, .int tt), (4, .int pt), (3, .int b), (2, .int (nI k)), (0, .ref (z 0)), (1, .int tm)]) hx hb dX5_best_141 hl (by decide) rfl (fun ls hl => ?_)
                      have L143 : ∀ (n3 : Nat) (t : Nat) (wh : Bool), (t ≤ gT gs) → (gT gs < t + n3) → (wh = bsW gs tm (soS mv (nI (j + 1)) k) t) → ∀ (H : Heap) (locs : List Loc), va_P D vwCl (wG z c (gFi gs, gFs gs, gT gs, gKd gs, gTi gs, gNd gs, gMs gs, gBy gs, gB gs, gCg gs, gVe gs, gAs gs, gMv gs, gPm gs, gPk gs, gPt gs, gPp gs, gPs gs, mv)) H → va_D (va_A (wG z c gs) s.heap.size) (wG z c (gFi gs, gFs gs, gT gs, gKd gs, gTi gs, gNd gs, gMs gs, gBy gs, gB gs, gCg gs, gVe gs, gAs gs, gMv gs, gPm gs, gPk gs, gPt gs, gPp gs, gPs gs, mv)) → va_S (va_A (wG z c gs) s.heap.size) s.heap H locs → ∀ ls : Array Slot, lv_has ls 12 [(11, .int (nI t)), (10, .int (bI wh)), (9, .int (gTS gs (soS mv (nI (j + 1)) k))), (8, .int (bitsN ((gRS gs (soS mv (nI (j + 1)) k)) &&& (gCg gs (gB gs - 1))) 40)), (7, .int (soS mv (nI (j + 1)) k)), (6, .int (nI (j + 1))), (5, .int tt), (4, .int pt), (3, .int b), (2, .int (nI k)), (0, .ref (z 0)), (1, .int tm)] → W p l e ({ frames := 2, cells := 0, slots := 0, locals := 48 } : Room) s m args below meth c0 H locs 0 0 (QMi below args s D c (wG z c gs) (wG z c (gBest tm gs).2) ((gBest tm gs).1)) (F0 m 143 ls []) := by
                        intro n3
                        induction n3 with
                        | zero => intro t wh ht hn3 hw H locs hP hD hS ls hl; exact absurd hn3 (by omega)
                        | succ n3 ih143 =>
                          intro t wh ht hn3 hw H locs hP hD hS ls hl
                          refine lv_iload hx hb dX5_best_143 (lv_at hl 0 rfl) ?_
                          refine lv_aload_n hx hb dX5_best_145 rfl (lv_at hl 10 rfl) ?_
                          refine va_get (D := D) (ci := 5) (v := .int (nI (gT gs))) (C := RX5) (T := TX5) (N := 19) hx hb hts hin5 hown hK.1 hP 0 rfl rfl 2 (by decide) (hts (.fieldLink RX5 52 "TestPickerModel" "tests" "I") (by decide +kernel)) (fun _ h9 => h9) rfl dX5_best_146 ?_
                          refine lv_icmp_ge (tgt := 194) hx hb dX5_best_149 (by decide) (fun c149 => ?_) (fun c149 => ?_)
                          · -- 149 True
                            have c149 : (gT gs) ≤ t := (nI_leI (a := (gT gs)) (b := t) (by omega) (by omega)).mp c149
                            have hwT : bsW gs tm (soS mv (nI (j + 1)) k) (gT gs) = wh := by rw [hw, show t = gT gs by omega]
                            refine lv_iload hx hb dX5_best_194 (lv_at hl 1 rfl) ?_
                            refine lv_if_eq (tgt := 231) hx hb dX5_best_196 (by decide) (fun c196 => ?_) (fun c196 => ?_)
                            · -- 196 True
                              have c196 := bI_z.mp c196
                              refine lv_iinc (v := nI ((j + 1) + 1)) (lv' := [(6, .int (nI ((j + 1) + 1))), (11, .int (nI t)), (10, .int (bI wh)), (9, .int (gTS gs (soS mv (nI (j + 1)) k))), (8, .int (bitsN ((gRS gs (soS mv (nI (j + 1)) k)) &&& (gCg gs (gB gs - 1))) 40)), (7, .int (soS mv (nI (j + 1)) k)), (5, .int tt), (4, .int pt), (3, .int b), (2, .int (nI k)), (0, .ref (z 0)), (1, .int tm)]) hx hb dX5_best_231 hl (k := 5) rfl (nI_inc _) (by decide) rfl (fun ls hl => ?_)
                              refine lv_goto (tgt := 79) hx hb dX5_best_234 (by decide) ?_
                              exact ih79 (j + 1) b pt tt (by omega) (by omega) (by rw [bsM, if_neg (fun h => by rw [hwT, c196] at h; cases h.1)]; exact hq) _ _ hP hD hS ls (lv_sub hl [0, 6, 7, 8, 9, 10, 11] rfl)
                            · -- 196 False
                              have c196 := bI_nz.mp c196
                              refine lv_iload hx hb dX5_best_199 (lv_at hl 3 rfl) ?_
                              refine lv_iload hx hb dX5_best_201 (lv_at hl 7 rfl) ?_
                              refine lv_icmp_gt (tgt := 220) hx hb dX5_best_203 (by decide) (fun c203 => ?_) (fun c203 => ?_)
                              · -- 203 True
                                refine lv_iload hx hb dX5_best_220 (lv_at hl 4 rfl) ?_
                                refine lv_istore_n (lv' := [(3, .int (soS mv (nI (j + 1)) k)), (11, .int (nI t)), (10, .int (bI wh)), (9, .int (gTS gs (soS mv (nI (j + 1)) k))), (8, .int (bitsN ((gRS gs (soS mv (nI (j + 1)) k)) &&& (gCg gs (gB gs - 1))) 40)), (7, .int (soS mv (nI (j + 1)) k)), (6, .int (nI (j + 1))), (5, .int tt), (4, .int pt), (2, .int (nI k)), (0, .ref (z 0)), (1, .int tm)]) hx hb dX5_best_222 rfl hl (by decide) rfl (fun ls hl => ?_)
                                refine lv_iload hx hb dX5_best_223 (lv_at hl 4 rfl) ?_
                                refine lv_istore (lv' := [(4, .int (bitsN ((gRS gs (soS mv (nI (j + 1)) k)) &&& (gCg gs (gB gs - 1))) 40)), (3, .int (soS mv (nI (j + 1)) k)), (11, .int (nI t)), (10, .int (bI wh)), (9, .int (gTS gs (soS mv (nI (j + 1)) k))), (8, .int (bitsN ((gRS gs (soS mv (nI (j + 1)) k)) &&& (gCg gs (gB gs - 1))) 40)), (7, .int (soS mv (nI (j + 1)) k)), (6, .int (nI (j + 1))), (5, .int tt), (2, .int (nI k)), (0, .ref (z 0)), (1, .int tm)]) hx hb dX5_best_225 hl (by decide) rfl (fun ls hl => ?_)
                                refine lv_iload hx hb dX5_best_227 (lv_at hl 4 rfl) ?_
                                refine lv_istore (lv' := [(5, .int (gTS gs (soS mv (nI (j + 1)) k))), (4, .int (bitsN ((gRS gs (soS mv (nI (j + 1)) k)) &&& (gCg gs (gB gs - 1))) 40)), (3, .int (soS mv (nI (j + 1)) k)), (11, .int (nI t)), (10, .int (bI wh)), (9, .int (gTS gs (soS mv (nI (j + 1)) k))), (8, .int (bitsN ((gRS gs (soS mv (nI (j + 1)) k)) &&& (gCg gs (gB gs - 1))) 40)), (7, .int (soS mv (nI (j + 1)) k)), (6, .int (nI (j + 1))), (2, .int (nI k)), (0, .ref (z 0)), (1, .int tm)]) hx hb dX5_best_229 hl (by decide) rfl (fun ls hl => ?_)
                                refine lv_iinc (v := nI ((j + 1) + 1)) (lv' := [(6, .int (nI ((j + 1) + 1))), (5, .int (gTS gs (soS mv (nI (j + 1)) k))), (4, .int (bitsN ((gRS gs (soS mv (nI (j + 1)) k)) &&& (gCg gs (gB gs - 1))) 40)), (3, .int (soS mv (nI (j + 1)) k)), (11, .int (nI t)), (10, .int (bI wh)), (9, .int (gTS gs (soS mv (nI (j + 1)) k))), (8, .int (bitsN ((gRS gs (soS mv (nI (j + 1)) k)) &&& (gCg gs (gB gs - 1))) 40)), (7, .int (soS mv (nI (j + 1)) k)), (2, .int (nI k)), (0, .ref (z 0)), (1, .int tm)]) hx hb dX5_best_231 hl (k := 8) rfl (nI_inc _) (by decide) rfl (fun ls hl => ?_)
                                refine lv_goto (tgt := 79) hx hb dX5_best_234 (by decide) ?_
                                exact ih79 (j + 1) (soS mv (nI (j + 1)) k) (bitsN ((gRS gs (soS mv (nI (j + 1)) k)) &&& (gCg gs (gB gs - 1))) 40) (gTS gs (soS mv (nI (j + 1)) k)) (by omega) (by omega) (by rw [bsM, hq, if_pos ⟨hwT.trans c196, Or.inl c203⟩]) _ _ hP hD hS ls (lv_sub hl [0, 1, 2, 3, 9, 10, 11] rfl)
                              · -- 203 False
                                refine lv_iload hx hb dX5_best_206 (lv_at hl 3 rfl) ?_
                                refine lv_iload hx hb dX5_best_208 (lv_at hl 7 rfl) ?_
                                refine lv_icmp_ne (tgt := 231) hx hb dX5_best_210 (by decide) (fun c210 => ?_) (fun c210 => ?_)
                                · -- 210 True
                                  refine lv_iinc (v := nI ((j + 1) + 1)) (lv' := [(6, .int (nI ((j + 1) + 1))), (11, .int (nI t)), (10, .int (bI wh)), (9, .int (gTS gs (soS mv (nI (j + 1)) k))), (8, .int (bitsN ((gRS gs (soS mv (nI (j + 1)) k)) &&& (gCg gs (gB gs - 1))) 40)), (7, .int (soS mv (nI (j + 1)) k)), (5, .int tt), (4, .int pt), (3, .int b), (2, .int (nI k)), (0, .ref (z 0)), (1, .int tm)]) hx hb dX5_best_231 hl (k := 5) rfl (nI_inc _) (by decide) rfl (fun ls hl => ?_)
                                  refine lv_goto (tgt := 79) hx hb dX5_best_234 (by decide) ?_
                                  exact ih79 (j + 1) b pt tt (by omega) (by omega) (by rw [bsM, hq, if_neg (fun h => h.2.elim c203 (fun h => c210 h.1))]) _ _ hP hD hS ls (lv_sub hl [0, 6, 7, 8, 9, 10, 11] rfl)
                                · -- 210 False
                                  refine lv_iload hx hb dX5_best_213 (lv_at hl 2 rfl) ?_
                                  refine lv_iload hx hb dX5_best_215 (lv_at hl 6 rfl) ?_
                                  refine lv_icmp_ge (tgt := 231) hx hb dX5_best_217 (by decide) (fun c217 => ?_) (fun c217 => ?_)
                                  · -- 217 True
                                    refine lv_iinc (v := nI ((j + 1) + 1)) (lv' := [(6, .int (nI ((j + 1) + 1))), (11, .int (nI t)), (10, .int (bI wh)), (9, .int (gTS gs (soS mv (nI (j + 1)) k))), (8, .int (bitsN ((gRS gs (soS mv (nI (j + 1)) k)) &&& (gCg gs (gB gs - 1))) 40)), (7, .int (soS mv (nI (j + 1)) k)), (5, .int tt), (4, .int pt), (3, .int b), (2, .int (nI k)), (0, .ref (z 0)), (1, .int tm)]) hx hb dX5_best_231 hl (k := 5) rfl (nI_inc _) (by decide) rfl (fun ls hl => ?_)
                                    refine lv_goto (tgt := 79) hx hb dX5_best_234 (by decide) ?_
                                    exact ih79 (j + 1) b pt tt (by omega) (by omega) (by rw [bsM, hq, if_neg (fun h => h.2.elim c203 (fun h => h.2 c217))]) _ _ hP hD hS ls (lv_sub hl [0, 6, 7, 8, 9, 10, 11] rfl)
                                  · -- 217 False
                                    refine lv_iload hx hb dX5_best_220 (lv_at hl 4 rfl) ?_
                                    refine lv_istore_n (lv' := [(3, .int (soS mv (nI (j + 1)) k)), (11, .int (nI t)), (10, .int (bI wh)), (9, .int (gTS gs (soS mv (nI (j + 1)) k))), (8, .int (bitsN ((gRS gs (soS mv (nI (j + 1)) k)) &&& (gCg gs (gB gs - 1))) 40)), (7, .int (soS mv (nI (j + 1)) k)), (6, .int (nI (j + 1))), (5, .int tt), (4, .int pt), (2, .int (nI k)), (0, .ref (z 0)), (1, .int tm)]) hx hb dX5_best_222 rfl hl (by decide) rfl (fun ls hl => ?_)
                                    refine lv_iload hx hb dX5_best_223 (lv_at hl 4 rfl) ?_
                                    refine lv_istore (lv' := [(4, .int (bitsN ((gRS gs (soS mv (nI (j + 1)) k)) &&& (gCg gs (gB gs - 1))) 40)), (3, .int (soS mv (nI (j + 1)) k)), (11, .int (nI t)), (10, .int (bI wh)), (9, .int (gTS gs (soS mv (nI (j + 1)) k))), (8, .int (bitsN ((gRS gs (soS mv (nI (j + 1)) k)) &&& (gCg gs (gB gs - 1))) 40)), (7, .int (soS mv (nI (j + 1)) k)), (6, .int (nI (j + 1))), (5, .int tt), (2, .int (nI k)), (0, .ref (z 0)), (1, .int tm)]) hx hb dX5_best_225 hl (by decide) rfl (fun ls hl => ?_)
                                    refine lv_iload hx hb dX5_best_227 (lv_at hl 4 rfl) ?_
                                    refine lv_istore (lv' := [(5, .int (gTS gs (soS mv (nI (j + 1)) k))), (4, .int (bitsN ((gRS gs (soS mv (nI (j + 1)) k)) &&& (gCg gs (gB gs - 1))) 40)), (3, .int (soS mv (nI (j + 1)) k)), (11, .int (nI t)), (10, .int (bI wh)), (9, .int (gTS gs (soS mv (nI (j + 1)) k))), (8, .int (bitsN ((gRS gs (soS mv (nI (j + 1)) k)) &&& (gCg gs (gB gs - 1))) 40)), (7, .int (soS mv (nI (j + 1)) k)), (6, .int (nI (j + 1))), (2, .int (nI k)), (0, .ref (z 0)), (1, .int tm)]) hx hb dX5_best_229 hl (by decide) rfl (fun ls hl => ?_)
                                    refine lv_iinc (v := nI ((j + 1) + 1)) (lv' := [(6, .int (nI ((j + 1) + 1))), (5, .int (gTS gs (soS mv (nI (j + 1)) k))), (4, .int (bitsN ((gRS gs (soS mv (nI (j + 1)) k)) &&& (gCg gs (gB gs - 1))) 40)), (3, .int (soS mv (nI (j + 1)) k)), (11, .int (nI t)), (10, .int (bI wh)), (9, .int (gTS gs (soS mv (nI (j + 1)) k))), (8, .int (bitsN ((gRS gs (soS mv (nI (j + 1)) k)) &&& (gCg gs (gB gs - 1))) 40)), (7, .int (soS mv (nI (j + 1)) k)), (2, .int (nI k)), (0, .ref (z 0)), (1, .int tm)]) hx hb dX5_best_231 hl (k := 8) rfl (nI_inc _) (by decide) rfl (fun ls hl => ?_)
                                    refine lv_goto (tgt := 79) hx hb dX5_best_234 (by decide) ?_
                                    exact ih79 (j + 1) (soS mv (nI (j + 1)) k) (bitsN ((gRS gs (soS mv (nI (j + 1)) k)) &&& (gCg gs (gB gs - 1))) 40) (gTS gs (soS mv (nI (j + 1)) k)) (by omega) (by omega) (by rw [bsM, hq, if_pos ⟨hwT.trans c196, Or.inr ⟨c210, c217⟩⟩]) _ _ hP hD hS ls (lv_sub hl [0, 1, 2, 3, 9, 10, 11] rfl)
                          · -- 149 False
                            have c149 : t < (gT gs) := (Nat.not_le.mp (fun z => c149 ((nI_leI (a := (gT gs)) (b := t) (by omega) (by omega)).mpr z)))
                            refine lv_iload hx hb dX5_best_152 (lv_at hl 1 rfl) ?_
                            refine lv_if_eq (tgt := 194) hx hb dX5_best_154 (by decide) (fun c154 => ?_) (fun c154 => ?_)
                            · -- 154 True
                              have c154 := bI_z.mp c154
                              have hwT : bsW gs tm (soS mv (nI (j + 1)) k) (gT gs) = wh := by rw [c154]; exact whB_stop (hw.symm.trans c154) ht
                              refine lv_iload hx hb dX5_best_194 (lv_at hl 1 rfl) ?_
                              refine lv_if_eq (tgt := 231) hx hb dX5_best_196 (by decide) (fun c196 => ?_) (fun c196 => ?_)
                              · -- 196 True
                                have c196 := bI_z.mp c196
                                refine lv_iinc (v := nI ((j + 1) + 1)) (lv' := [(6, .int (nI ((j + 1) + 1))), (11, .int (nI t)), (10, .int (bI wh)), (9, .int (gTS gs (soS mv (nI (j + 1)) k))), (8, .int (bitsN ((gRS gs (soS mv (nI (j + 1)) k)) &&& (gCg gs (gB gs - 1))) 40)), (7, .int (soS mv (nI (j + 1)) k)), (5, .int tt), (4, .int pt), (3, .int b), (2, .int (nI k)), (0, .ref (z 0)), (1, .int tm)]) hx hb dX5_best_231 hl (k := 5) rfl (nI_inc _) (by decide) rfl (fun ls hl => ?_)
                                refine lv_goto (tgt := 79) hx hb dX5_best_234 (by decide) ?_
                                exact ih79 (j + 1) b pt tt (by omega) (by omega) (by rw [bsM, if_neg (fun h => by rw [hwT, c196] at h; cases h.1)]; exact hq) _ _ hP hD hS ls (lv_sub hl [0, 6, 7, 8, 9, 10, 11] rfl)
                              · -- 196 False
                                have c196 := bI_nz.mp c196
                                exact absurd (c154.symm.trans c196) (by decide)
                            · -- 154 False
                              have c154 := bI_nz.mp c154
                              refine lv_iload hx hb dX5_best_157 (lv_at hl 4 rfl) ?_
                              refine lv_iload hx hb dX5_best_159 (lv_at hl 0 rfl) ?_
                              refine ro_Si (As := [.int (soS mv (nI (j + 1)) k), .int (nI t)]) (rest := []) ⟨hx, hb, hml, hown, hts⟩ (c_X5_has l D c (soS mv (nI (j + 1)) k) t (by omega)) (va_cwS 2 hts gX5_best_X5_has rfl rfl rfl (by decide +kernel) ⟨Nat.le_of_ble_eq_true rfl, Nat.le_of_ble_eq_true rfl⟩) va_P0 hK rfl hl.1 rfl (Nat.le_of_ble_eq_true rfl) dX5_best_161 ⟨Nat.le_of_ble_eq_true rfl, Nat.le_of_ble_eq_true rfl⟩ ?_
                              refine lv_if_eq (tgt := 181) hx hb dX5_best_164 (by decide) (fun c164 => ?_) (fun c164 => ?_)
                              · -- 164 True
                                have c164 := bI_z.mp c164
                                refine lv_iconst (v := 1) hx hb dX5_best_181 (by decide) ?_
                                refine lv_goto (tgt := 186) hx hb dX5_best_182 (by decide) ?_
                                refine lv_istore (lv' := [(10, .int 1), (11, .int (nI t)), (9, .int (gTS gs (soS mv (nI (j + 1)) k))), (8, .int (bitsN ((gRS gs (soS mv (nI (j + 1)) k)) &&& (gCg gs (gB gs - 1))) 40)), (7, .int (soS mv (nI (j + 1)) k)), (6, .int (nI (j + 1))), (5, .int tt), (4, .int pt), (3, .int b), (2, .int (nI k)), (0, .ref (z 0)), (1, .int tm)]) hx hb dX5_best_186 hl (by decide) rfl (fun ls hl => ?_)
                                refine lv_iinc (v := nI (t + 1)) (lv' := [(11, .int (nI (t + 1))), (10, .int 1), (9, .int (gTS gs (soS mv (nI (j + 1)) k))), (8, .int (bitsN ((gRS gs (soS mv (nI (j + 1)) k)) &&& (gCg gs (gB gs - 1))) 40)), (7, .int (soS mv (nI (j + 1)) k)), (6, .int (nI (j + 1))), (5, .int tt), (4, .int pt), (3, .int b), (2, .int (nI k)), (0, .ref (z 0)), (1, .int tm)]) hx hb dX5_best_188 hl (k := 1) rfl (nI_inc _) (by decide) rfl (fun ls hl => ?_)
                                refine lv_goto (tgt := 143) hx hb dX5_best_191 (by decide) ?_
                                exact ih143 (t + 1) true (by omega) (by omega) (by show _ = (bsW gs tm (soS mv (nI (j + 1)) k) t && (!bt (soS mv (nI (j + 1)) k) t || decide (gCh gs t &&& ((soS mv (nI (j + 1)) k) ^^^ (-1)) = 0))); rw [← hw, c154, c164]; rfl) _ _ hP hD hS ls (lv_sub hl [0, 1, 2, 3, 4, 5, 6, 7, 8, 9, 10, 11] rfl)
                              · -- 164 False
                                have c164 := bI_nz.mp c164
                                refine lv_aload_n hx hb dX5_best_167 rfl (lv_at hl 10 rfl) ?_
                                refine lv_iload hx hb dX5_best_168 (lv_at hl 0 rfl) ?_
                                refine ro_Vi (post := (gCh gs t)) (As := [.int (nI t)]) (rest := []) ⟨hx, hb, hml, hown, hts⟩ (c_X5_chainOf l D z c (gFi gs, gFs gs, gT gs, gKd gs, gTi gs, gNd gs, gMs gs, gBy gs, gB gs, gCg gs, gVe gs, gAs gs, gMv gs, gPm gs, gPk gs, gPt gs, gPp gs, gPs gs, mv) t (by omega) (by omega) hN) (cwV 1 hts gX5_best_X5_chainOf rfl rfl rfl (by decide +kernel) ⟨Nat.le_of_ble_eq_true rfl, Nat.le_of_ble_eq_true rfl⟩) hP hK (va_recv hK.1 hP (ci := 5) (q0 := 0) rfl rfl) rfl hl.1 rfl (Nat.le_of_ble_eq_true rfl) dX5_best_170 ⟨Nat.le_of_ble_eq_true rfl, Nat.le_of_ble_eq_true rfl⟩ ?_
                                refine lv_iload hx hb dX5_best_173 (lv_at hl 4 rfl) ?_
                                refine lv_iconst (v := (-1)) hx hb dX5_best_175 (by decide) ?_
                                refine lv_ixor hx hb dX5_best_176 ?_
                                refine lv_iand hx hb dX5_best_177 ?_
                                refine lv_if_ne (tgt := 185) hx hb dX5_best_178 (by decide) (fun c178 => ?_) (fun c178 => ?_)
                                · -- 178 True
                                  refine lv_iconst (v := 0) hx hb dX5_best_185 (by decide) ?_
                                  refine lv_istore (lv' := [(10, .int 0), (11, .int (nI t)), (9, .int (gTS gs (soS mv (nI (j + 1)) k))), (8, .int (bitsN ((gRS gs (soS mv (nI (j + 1)) k)) &&& (gCg gs (gB gs - 1))) 40)), (7, .int (soS mv (nI (j + 1)) k)), (6, .int (nI (j + 1))), (5, .int tt), (4, .int pt), (3, .int b), (2, .int (nI k)), (0, .ref (z 0)), (1, .int tm)]) hx hb dX5_best_186 hl (by decide) rfl (fun ls hl => ?_)
                                  refine lv_iinc (v := nI (t + 1)) (lv' := [(11, .int (nI (t + 1))), (10, .int 0), (9, .int (gTS gs (soS mv (nI (j + 1)) k))), (8, .int (bitsN ((gRS gs (soS mv (nI (j + 1)) k)) &&& (gCg gs (gB gs - 1))) 40)), (7, .int (soS mv (nI (j + 1)) k)), (6, .int (nI (j + 1))), (5, .int tt), (4, .int pt), (3, .int b), (2, .int (nI k)), (0, .ref (z 0)), (1, .int tm)]) hx hb dX5_best_188 hl (k := 1) rfl (nI_inc _) (by decide) rfl (fun ls hl => ?_)
                                  refine lv_goto (tgt := 143) hx hb dX5_best_191 (by decide) ?_
                                  exact ih143 (t + 1) false (by omega) (by omega) (by show _ = (bsW gs tm (soS mv (nI (j + 1)) k) t && (!bt (soS mv (nI (j + 1)) k) t || decide (gCh gs t &&& ((soS mv (nI (j + 1)) k) ^^^ (-1)) = 0))); rw [← hw, c154, c164, decide_eq_false c178]; rfl) _ _ hP hD hS ls (lv_sub hl [0, 1, 2, 3, 4, 5, 6, 7, 8, 9, 10, 11] rfl)
                                · -- 178 False
                                  refine lv_iconst (v := 1) hx hb dX5_best_181 (by decide) ?_
                                  refine lv_goto (tgt := 186) hx hb dX5_best_182 (by decide) ?_
                                  refine lv_istore (lv' := [(10, .int 1), (11, .int (nI t)), (9, .int (gTS gs (soS mv (nI (j + 1)) k))), (8, .int (bitsN ((gRS gs (soS mv (nI (j + 1)) k)) &&& (gCg gs (gB gs - 1))) 40)), (7, .int (soS mv (nI (j + 1)) k)), (6, .int (nI (j + 1))), (5, .int tt), (4, .int pt), (3, .int b), (2, .int (nI k)), (0, .ref (z 0)), (1, .int tm)]) hx hb dX5_best_186 hl (by decide) rfl (fun ls hl => ?_)
                                  refine lv_iinc (v := nI (t + 1)) (lv' := [(11, .int (nI (t + 1))), (10, .int 1), (9, .int (gTS gs (soS mv (nI (j + 1)) k))), (8, .int (bitsN ((gRS gs (soS mv (nI (j + 1)) k)) &&& (gCg gs (gB gs - 1))) 40)), (7, .int (soS mv (nI (j + 1)) k)), (6, .int (nI (j + 1))), (5, .int tt), (4, .int pt), (3, .int b), (2, .int (nI k)), (0, .ref (z 0)), (1, .int tm)]) hx hb dX5_best_188 hl (k := 1) rfl (nI_inc _) (by decide) rfl (fun ls hl => ?_)
                                  refine lv_goto (tgt := 143) hx hb dX5_best_191 (by decide) ?_
                                  exact ih143 (t + 1) true (by omega) (by omega) (by show _ = (bsW gs tm (soS mv (nI (j + 1)) k) t && (!bt (soS mv (nI (j + 1)) k) t || decide (gCh gs t &&& ((soS mv (nI (j + 1)) k) ^^^ (-1)) = 0))); rw [← hw, c154, c164, decide_eq_true c178]; rfl) _ _ hP hD hS ls (lv_sub hl [0, 1, 2, 3, 4, 5, 6, 7, 8, 9, 10, 11] rfl)
                      exact L143 (gT gs + 1) 0 false (by omega) (by omega) (by simp [whB, c130]) _ _ hP hD hS ls (lv_sub hl [0, 1, 2, 3, 4, 5, 6, 7, 8, 9, 10, 11] rfl)
                    · -- 130 False
                      refine lv_iconst (v := 1) hx hb dX5_best_133 (by decide) ?_
                      refine lv_goto (tgt := 138) hx hb dX5_best_134 (by decide) ?_
                      refine lv_istore (lv' := [(10, .int 1), (9, .int (gTS gs (soS mv (nI (j + 1)) k))), (8, .int (bitsN ((gRS gs (soS mv (nI (j + 1)) k)) &&& (gCg gs (gB gs - 1))) 40)), (7, .int (soS mv (nI (j + 1)) k)), (6, .int (nI (j + 1))), (5, .int tt), (4, .int pt), (3, .int b), (2, .int (nI k)), (0, .ref (z 0)), (1, .int tm)]) hx hb dX5_best_138 hl (by decide) rfl (fun ls hl => ?_)
                      refine lv_iconst (v := 0) hx hb dX5_best_140 (by decide) ?_
                      refine lv_istore (lv' := [(11, .int 0), (10, .int 1), (9, .int (gTS gs (soS mv (nI (j + 1)) k))), (8, .int (bitsN ((gRS gs (soS mv (nI (j + 1)) k)) &&& (gCg gs (gB gs - 1))) 40)), (7, .int (soS mv (nI (j + 1)) k)), (6, .int (nI (j + 1))), (5, .int tt), (4, .int pt), (3, .int b), (2, .int (nI k)), (0, .ref (z 0)), (1, .int tm)]) hx hb dX5_best_141 hl (by decide) rfl (fun ls hl => ?_)
                      have L143 : ∀ (n3 : Nat) (t : Nat) (wh : Bool), (t ≤ gT gs) → (gT gs < t + n3) → (wh = bsW gs tm (soS mv (nI (j + 1)) k) t) → ∀ (H : Heap) (locs : List Loc), va_P D vwCl (wG z c (gFi gs, gFs gs, gT gs, gKd gs, gTi gs, gNd gs, gMs gs, gBy gs, gB gs, gCg gs, gVe gs, gAs gs, gMv gs, gPm gs, gPk gs, gPt gs, gPp gs, gPs gs, mv)) H → va_D (va_A (wG z c gs) s.heap.size) (wG z c (gFi gs, gFs gs, gT gs, gKd gs, gTi gs, gNd gs, gMs gs, gBy gs, gB gs, gCg gs, gVe gs, gAs gs, gMv gs, gPm gs, gPk gs, gPt gs, gPp gs, gPs gs, mv)) → va_S (va_A (wG z c gs) s.heap.size) s.heap H locs → ∀ ls : Array Slot, lv_has ls 12 [(11, .int (nI t)), (10, .int (bI wh)), (9, .int (gTS gs (soS mv (nI (j + 1)) k))), (8, .int (bitsN ((gRS gs (soS mv (nI (j + 1)) k)) &&& (gCg gs (gB gs - 1))) 40)), (7, .int (soS mv (nI (j + 1)) k)), (6, .int (nI (j + 1))), (5, .int tt), (4, .int pt), (3, .int b), (2, .int (nI k)), (0, .ref (z 0)), (1, .int tm)] → W p l e ({ frames := 2, cells := 0, slots := 0, locals := 48 } : Room) s m args below meth c0 H locs 0 0 (QMi below args s D c (wG z c gs) (wG z c (gBest tm gs).2) ((gBest tm gs).1)) (F0 m 143 ls []) := by
                        intro n3
                        induction n3 with
                        | zero => intro t wh ht hn3 hw H locs hP hD hS ls hl; exact absurd hn3 (by omega)
                        | succ n3 ih143 =>
                          intro t wh ht hn3 hw H locs hP hD hS ls hl
                          refine lv_iload hx hb dX5_best_143 (lv_at hl 0 rfl) ?_
                          refine lv_aload_n hx hb dX5_best_145 rfl (lv_at hl 10 rfl) ?_
                          refine va_get (D := D) (ci := 5) (v := .int (nI (gT gs))) (C := RX5) (T := TX5) (N := 19) hx hb hts hin5 hown hK.1 hP 0 rfl rfl 2 (by decide) (hts (.fieldLink RX5 52 "TestPickerModel" "tests" "I") (by decide +kernel)) (fun _ h9 => h9) rfl dX5_best_146 ?_
                          refine lv_icmp_ge (tgt := 194) hx hb dX5_best_149 (by decide) (fun c149 => ?_) (fun c149 => ?_)
                          · -- 149 True
                            have c149 : (gT gs) ≤ t := (nI_leI (a := (gT gs)) (b := t) (by omega) (by omega)).mp c149
                            have hwT : bsW gs tm (soS mv (nI (j + 1)) k) (gT gs) = wh := by rw [hw, show t = gT gs by omega]
                            refine lv_iload hx hb dX5_best_194 (lv_at hl 1 rfl) ?_
                            refine lv_if_eq (tgt := 231) hx hb dX5_best_196 (by decide) (fun c196 => ?_) (fun c196 => ?_)
                            · -- 196 True
                              have c196 := bI_z.mp c196
                              refine lv_iinc (v := nI ((j + 1) + 1)) (lv' := [(6, .int (nI ((j + 1) + 1))), (11, .int (nI t)), (10, .int (bI wh)), (9, .int (gTS gs (soS mv (nI (j + 1)) k))), (8, .int (bitsN ((gRS gs (soS mv (nI (j + 1)) k)) &&& (gCg gs (gB gs - 1))) 40)), (7, .int (soS mv (nI (j + 1)) k)), (5, .int tt), (4, .int pt), (3, .int b), (2, .int (nI k)), (0, .ref (z 0)), (1, .int tm)]) hx hb dX5_best_231 hl (k := 5) rfl (nI_inc _) (by decide) rfl (fun ls hl => ?_)
                              refine lv_goto (tgt := 79) hx hb dX5_best_234 (by decide) ?_
                              exact ih79 (j + 1) b pt tt (by omega) (by omega) (by rw [bsM, if_neg (fun h => by rw [hwT, c196] at h; cases h.1)]; exact hq) _ _ hP hD hS ls (lv_sub hl [0, 6, 7, 8, 9, 10, 11] rfl)
                            · -- 196 False
                              have c196 := bI_nz.mp c196
                              refine lv_iload hx hb dX5_best_199 (lv_at hl 3 rfl) ?_
                              refine lv_iload hx hb dX5_best_201 (lv_at hl 7 rfl) ?_
                              refine lv_icmp_gt (tgt := 220) hx hb dX5_best_203 (by decide) (fun c203 => ?_) (fun c203 => ?_)
                              · -- 203 True
                                refine lv_iload hx hb dX5_best_220 (lv_at hl 4 rfl) ?_
                                refine lv_istore_n (lv' := [(3, .int (soS mv (nI (j + 1)) k)), (11, .int (nI t)), (10, .int (bI wh)), (9, .int (gTS gs (soS mv (nI (j + 1)) k))), (8, .int (bitsN ((gRS gs (soS mv (nI (j + 1)) k)) &&& (gCg gs (gB gs - 1))) 40)), (7, .int (soS mv (nI (j + 1)) k)), (6, .int (nI (j + 1))), (5, .int tt), (4, .int pt), (2, .int (nI k)), (0, .ref (z 0)), (1, .int tm)]) hx hb dX5_best_222 rfl hl (by decide) rfl (fun ls hl => ?_)
                                refine lv_iload hx hb dX5_best_223 (lv_at hl 4 rfl) ?_
                                refine lv_istore (lv' := [(4, .int (bitsN ((gRS gs (soS mv (nI (j + 1)) k)) &&& (gCg gs (gB gs - 1))) 40)), (3, .int (soS mv (nI (j + 1)) k)), (11, .int (nI t)), (10, .int (bI wh)), (9, .int (gTS gs (soS mv (nI (j + 1)) k))), (8, .int (bitsN ((gRS gs (soS mv (nI (j + 1)) k)) &&& (gCg gs (gB gs - 1))) 40)), (7, .int (soS mv (nI (j + 1)) k)), (6, .int (nI (j + 1))), (5, .int tt), (2, .int (nI k)), (0, .ref (z 0)), (1, .int tm)]) hx hb dX5_best_225 hl (by decide) rfl (fun ls hl => ?_)
                                refine lv_iload hx hb dX5_best_227 (lv_at hl 4 rfl) ?_
                                refine lv_istore (lv' := [(5, .int (gTS gs (soS mv (nI (j + 1)) k))), (4, .int (bitsN ((gRS gs (soS mv (nI (j + 1)) k)) &&& (gCg gs (gB gs - 1))) 40)), (3, .int (soS mv (nI (j + 1)) k)), (11, .int (nI t)), (10, .int (bI wh)), (9, .int (gTS gs (soS mv (nI (j + 1)) k))), (8, .int (bitsN ((gRS gs (soS mv (nI (j + 1)) k)) &&& (gCg gs (gB gs - 1))) 40)), (7, .int (soS mv (nI (j + 1)) k)), (6, .int (nI (j + 1))), (2, .int (nI k)), (0, .ref (z 0)), (1, .int tm)]) hx hb dX5_best_229 hl (by decide) rfl (fun ls hl => ?_)
                                refine lv_iinc (v := nI ((j + 1) + 1)) (lv' := [(6, .int (nI ((j + 1) + 1))), (5, .int (gTS gs (soS mv (nI (j + 1)) k))), (4, .int (bitsN ((gRS gs (soS mv (nI (j + 1)) k)) &&& (gCg gs (gB gs - 1))) 40)), (3, .int (soS mv (nI (j + 1)) k)), (11, .int (nI t)), (10, .int (bI wh)), (9, .int (gTS gs (soS mv (nI (j + 1)) k))), (8, .int (bitsN ((gRS gs (soS mv (nI (j + 1)) k)) &&& (gCg gs (gB gs - 1))) 40)), (7, .int (soS mv (nI (j + 1)) k)), (2, .int (nI k)), (0, .ref (z 0)), (1, .int tm)]) hx hb dX5_best_231 hl (k := 8) rfl (nI_inc _) (by decide) rfl (fun ls hl => ?_)
                                refine lv_goto (tgt := 79) hx hb dX5_best_234 (by decide) ?_
                                exact ih79 (j + 1) (soS mv (nI (j + 1)) k) (bitsN ((gRS gs (soS mv (nI (j + 1)) k)) &&& (gCg gs (gB gs - 1))) 40) (gTS gs (soS mv (nI (j + 1)) k)) (by omega) (by omega) (by rw [bsM, hq, if_pos ⟨hwT.trans c196, Or.inl c203⟩]) _ _ hP hD hS ls (lv_sub hl [0, 1, 2, 3, 9, 10, 11] rfl)
                              · -- 203 False
                                refine lv_iload hx hb dX5_best_206 (lv_at hl 3 rfl) ?_
                                refine lv_iload hx hb dX5_best_208 (lv_at hl 7 rfl) ?_
                                refine lv_icmp_ne (tgt := 231) hx hb dX5_best_210 (by decide) (fun c210 => ?_) (fun c210 => ?_)
                                · -- 210 True
                                  refine lv_iinc (v := nI ((j + 1) + 1)) (lv' := [(6, .int (nI ((j + 1) + 1))), (11, .int (nI t)), (10, .int (bI wh)), (9, .int (gTS gs (soS mv (nI (j + 1)) k))), (8, .int (bitsN ((gRS gs (soS mv (nI (j + 1)) k)) &&& (gCg gs (gB gs - 1))) 40)), (7, .int (soS mv (nI (j + 1)) k)), (5, .int tt), (4, .int pt), (3, .int b), (2, .int (nI k)), (0, .ref (z 0)), (1, .int tm)]) hx hb dX5_best_231 hl (k := 5) rfl (nI_inc _) (by decide) rfl (fun ls hl => ?_)
                                  refine lv_goto (tgt := 79) hx hb dX5_best_234 (by decide) ?_
                                  exact ih79 (j + 1) b pt tt (by omega) (by omega) (by rw [bsM, hq, if_neg (fun h => h.2.elim c203 (fun h => c210 h.1))]) _ _ hP hD hS ls (lv_sub hl [0, 6, 7, 8, 9, 10, 11] rfl)
                                · -- 210 False
                                  refine lv_iload hx hb dX5_best_213 (lv_at hl 2 rfl) ?_
                                  refine lv_iload hx hb dX5_best_215 (lv_at hl 6 rfl) ?_
                                  refine lv_icmp_ge (tgt := 231) hx hb dX5_best_217 (by decide) (fun c217 => ?_) (fun c217 => ?_)
                                  · -- 217 True
                                    refine lv_iinc (v := nI ((j + 1) + 1)) (lv' := [(6, .int (nI ((j + 1) + 1))), (11, .int (nI t)), (10, .int (bI wh)), (9, .int (gTS gs (soS mv (nI (j + 1)) k))), (8, .int (bitsN ((gRS gs (soS mv (nI (j + 1)) k)) &&& (gCg gs (gB gs - 1))) 40)), (7, .int (soS mv (nI (j + 1)) k)), (5, .int tt), (4, .int pt), (3, .int b), (2, .int (nI k)), (0, .ref (z 0)), (1, .int tm)]) hx hb dX5_best_231 hl (k := 5) rfl (nI_inc _) (by decide) rfl (fun ls hl => ?_)
                                    refine lv_goto (tgt := 79) hx hb dX5_best_234 (by decide) ?_
                                    exact ih79 (j + 1) b pt tt (by omega) (by omega) (by rw [bsM, hq, if_neg (fun h => h.2.elim c203 (fun h => h.2 c217))]) _ _ hP hD hS ls (lv_sub hl [0, 6, 7, 8, 9, 10, 11] rfl)
                                  · -- 217 False
                                    refine lv_iload hx hb dX5_best_220 (lv_at hl 4 rfl) ?_
                                    refine lv_istore_n (lv' := [(3, .int (soS mv (nI (j + 1)) k)), (11, .int (nI t)), (10, .int (bI wh)), (9, .int (gTS gs (soS mv (nI (j + 1)) k))), (8, .int (bitsN ((gRS gs (soS mv (nI (j + 1)) k)) &&& (gCg gs (gB gs - 1))) 40)), (7, .int (soS mv (nI (j + 1)) k)), (6, .int (nI (j + 1))), (5, .int tt), (4, .int pt), (2, .int (nI k)), (0, .ref (z 0)), (1, .int tm)]) hx hb dX5_best_222 rfl hl (by decide) rfl (fun ls hl => ?_)
                                    refine lv_iload hx hb dX5_best_223 (lv_at hl 4 rfl) ?_
                                    refine lv_istore (lv' := [(4, .int (bitsN ((gRS gs (soS mv (nI (j + 1)) k)) &&& (gCg gs (gB gs - 1))) 40)), (3, .int (soS mv (nI (j + 1)) k)), (11, .int (nI t)), (10, .int (bI wh)), (9, .int (gTS gs (soS mv (nI (j + 1)) k))), (8, .int (bitsN ((gRS gs (soS mv (nI (j + 1)) k)) &&& (gCg gs (gB gs - 1))) 40)), (7, .int (soS mv (nI (j + 1)) k)), (6, .int (nI (j + 1))), (5, .int tt), (2, .int (nI k)), (0, .ref (z 0)), (1, .int tm)]) hx hb dX5_best_225 hl (by decide) rfl (fun ls hl => ?_)
                                    refine lv_iload hx hb dX5_best_227 (lv_at hl 4 rfl) ?_
                                    refine lv_istore (lv' := [(5, .int (gTS gs (soS mv (nI (j + 1)) k))), (4, .int (bitsN ((gRS gs (soS mv (nI (j + 1)) k)) &&& (gCg gs (gB gs - 1))) 40)), (3, .int (soS mv (nI (j + 1)) k)), (11, .int (nI t)), (10, .int (bI wh)), (9, .int (gTS gs (soS mv (nI (j + 1)) k))), (8, .int (bitsN ((gRS gs (soS mv (nI (j + 1)) k)) &&& (gCg gs (gB gs - 1))) 40)), (7, .int (soS mv (nI (j + 1)) k)), (6, .int (nI (j + 1))), (2, .int (nI k)), (0, .ref (z 0)), (1, .int tm)]) hx hb dX5_best_229 hl (by decide) rfl (fun ls hl => ?_)
                                    refine lv_iinc (v := nI ((j + 1) + 1)) (lv' := [(6, .int (nI ((j + 1) + 1))), (5, .int (gTS gs (soS mv (nI (j + 1)) k))), (4, .int (bitsN ((gRS gs (soS mv (nI (j + 1)) k)) &&& (gCg gs (gB gs - 1))) 40)), (3, .int (soS mv (nI (j + 1)) k)), (11, .int (nI t)), (10, .int (bI wh)), (9, .int (gTS gs (soS mv (nI (j + 1)) k))), (8, .int (bitsN ((gRS gs (soS mv (nI (j + 1)) k)) &&& (gCg gs (gB gs - 1))) 40)), (7, .int (soS mv (nI (j + 1)) k)), (2, .int (nI k)), (0, .ref (z 0)), (1, .int tm)]) hx hb dX5_best_231 hl (k := 8) rfl (nI_inc _) (by decide) rfl (fun ls hl => ?_)
                                    refine lv_goto (tgt := 79) hx hb dX5_best_234 (by decide) ?_
                                    exact ih79 (j + 1) (soS mv (nI (j + 1)) k) (bitsN ((gRS gs (soS mv (nI (j + 1)) k)) &&& (gCg gs (gB gs - 1))) 40) (gTS gs (soS mv (nI (j + 1)) k)) (by omega) (by omega) (by rw [bsM, hq, if_pos ⟨hwT.trans c196, Or.inr ⟨c210, c217⟩⟩]) _ _ hP hD hS ls (lv_sub hl [0, 1, 2, 3, 9, 10, 11] rfl)
                          · -- 149 False
                            have c149 : t < (gT gs) := (Nat.not_le.mp (fun z => c149 ((nI_leI (a := (gT gs)) (b := t) (by omega) (by omega)).mpr z)))
                            refine lv_iload hx hb dX5_best_152 (lv_at hl 1 rfl) ?_
                            refine lv_if_eq (tgt := 194) hx hb dX5_best_154 (by decide) (fun c154 => ?_) (fun c154 => ?_)
                            · -- 154 True
                              have c154 := bI_z.mp c154
                              have hwT : bsW gs tm (soS mv (nI (j + 1)) k) (gT gs) = wh := by rw [c154]; exact whB_stop (hw.symm.trans c154) ht
                              refine lv_iload hx hb dX5_best_194 (lv_at hl 1 rfl) ?_
                              refine lv_if_eq (tgt := 231) hx hb dX5_best_196 (by decide) (fun c196 => ?_) (fun c196 => ?_)
                              · -- 196 True
                                have c196 := bI_z.mp c196
                                refine lv_iinc (v := nI ((j + 1) + 1)) (lv' := [(6, .int (nI ((j + 1) + 1))), (11, .int (nI t)), (10, .int (bI wh)), (9, .int (gTS gs (soS mv (nI (j + 1)) k))), (8, .int (bitsN ((gRS gs (soS mv (nI (j + 1)) k)) &&& (gCg gs (gB gs - 1))) 40)), (7, .int (soS mv (nI (j + 1)) k)), (5, .int tt), (4, .int pt), (3, .int b), (2, .int (nI k)), (0, .ref (z 0)), (1, .int tm)]) hx hb dX5_best_231 hl (k := 5) rfl (nI_inc _) (by decide) rfl (fun ls hl => ?_)
                                refine lv_goto (tgt := 79) hx hb dX5_best_234 (by decide) ?_
                                exact ih79 (j + 1) b pt tt (by omega) (by omega) (by rw [bsM, if_neg (fun h => by rw [hwT, c196] at h; cases h.1)]; exact hq) _ _ hP hD hS ls (lv_sub hl [0, 6, 7, 8, 9, 10, 11] rfl)
                              · -- 196 False
                                have c196 := bI_nz.mp c196
                                exact absurd (c154.symm.trans c196) (by decide)
                            · -- 154 False
                              have c154 := bI_nz.mp c154
                              refine lv_iload hx hb dX5_best_157 (lv_at hl 4 rfl) ?_
                              refine lv_iload hx hb dX5_best_159 (lv_at hl 0 rfl) ?_
                              refine ro_Si (As := [.int (soS mv (nI (j + 1)) k), .int (nI t)]) (rest := []) ⟨hx, hb, hml, hown, hts⟩ (c_X5_has l D c (soS mv (nI (j + 1)) k) t (by omega)) (va_cwS 2 hts gX5_best_X5_has rfl rfl rfl (by decide +kernel) ⟨Nat.le_of_ble_eq_true rfl, Nat.le_of_ble_eq_true rfl⟩) va_P0 hK rfl hl.1 rfl (Nat.le_of_ble_eq_true rfl) dX5_best_161 ⟨Nat.le_of_ble_eq_true rfl, Nat.le_of_ble_eq_true rfl⟩ ?_
                              refine lv_if_eq (tgt := 181) hx hb dX5_best_164 (by decide) (fun c164 => ?_) (fun c164 => ?_)
                              · -- 164 True
                                have c164 := bI_z.mp c164
                                refine lv_iconst (v := 1) hx hb dX5_best_181 (by decide) ?_
                                refine lv_goto (tgt := 186) hx hb dX5_best_182 (by decide) ?_
                                refine lv_istore (lv' := [(10, .int 1), (11, .int (nI t)), (9, .int (gTS gs (soS mv (nI (j + 1)) k))), (8, .int (bitsN ((gRS gs (soS mv (nI (j + 1)) k)) &&& (gCg gs (gB gs - 1))) 40)), (7, .int (soS mv (nI (j + 1)) k)), (6, .int (nI (j + 1))), (5, .int tt), (4, .int pt), (3, .int b), (2, .int (nI k)), (0, .ref (z 0)), (1, .int tm)]) hx hb dX5_best_186 hl (by decide) rfl (fun ls hl => ?_)
                                refine lv_iinc (v := nI (t + 1)) (lv' := [(11, .int (nI (t + 1))), (10, .int 1), (9, .int (gTS gs (soS mv (nI (j + 1)) k))), (8, .int (bitsN ((gRS gs (soS mv (nI (j + 1)) k)) &&& (gCg gs (gB gs - 1))) 40)), (7, .int (soS mv (nI (j + 1)) k)), (6, .int (nI (j + 1))), (5, .int tt), (4, .int pt), (3, .int b), (2, .int (nI k)), (0, .ref (z 0)), (1, .int tm)]) hx hb dX5_best_188 hl (k := 1) rfl (nI_inc _) (by decide) rfl (fun ls hl => ?_)
                                refine lv_goto (tgt := 143) hx hb dX5_best_191 (by decide) ?_
                                exact ih143 (t + 1) true (by omega) (by omega) (by show _ = (bsW gs tm (soS mv (nI (j + 1)) k) t && (!bt (soS mv (nI (j + 1)) k) t || decide (gCh gs t &&& ((soS mv (nI (j + 1)) k) ^^^ (-1)) = 0))); rw [← hw, c154, c164]; rfl) _ _ hP hD hS ls (lv_sub hl [0, 1, 2, 3, 4, 5, 6, 7, 8, 9, 10, 11] rfl)
                              · -- 164 False
                                have c164 := bI_nz.mp c164
                                refine lv_aload_n hx hb dX5_best_167 rfl (lv_at hl 10 rfl) ?_
                                refine lv_iload hx hb dX5_best_168 (lv_at hl 0 rfl) ?_
                                refine ro_Vi (post := (gCh gs t)) (As := [.int (nI t)]) (rest := []) ⟨hx, hb, hml, hown, hts⟩ (c_X5_chainOf l D z c (gFi gs, gFs gs, gT gs, gKd gs, gTi gs, gNd gs, gMs gs, gBy gs, gB gs, gCg gs, gVe gs, gAs gs, gMv gs, gPm gs, gPk gs, gPt gs, gPp gs, gPs gs, mv) t (by omega) (by omega) hN) (cwV 1 hts gX5_best_X5_chainOf rfl rfl rfl (by decide +kernel) ⟨Nat.le_of_ble_eq_true rfl, Nat.le_of_ble_eq_true rfl⟩) hP hK (va_recv hK.1 hP (ci := 5) (q0 := 0) rfl rfl) rfl hl.1 rfl (Nat.le_of_ble_eq_true rfl) dX5_best_170 ⟨Nat.le_of_ble_eq_true rfl, Nat.le_of_ble_eq_true rfl⟩ ?_
                                refine lv_iload hx hb dX5_best_173 (lv_at hl 4 rfl) ?_
                                refine lv_iconst (v := (-1)) hx hb dX5_best_175 (by decide) ?_
                                refine lv_ixor hx hb dX5_best_176 ?_
                                refine lv_iand hx hb dX5_best_177 ?_
                                refine lv_if_ne (tgt := 185) hx hb dX5_best_178 (by decide) (fun c178 => ?_) (fun c178 => ?_)
                                · -- 178 True
                                  refine lv_iconst (v := 0) hx hb dX5_best_185 (by decide) ?_
                                  refine lv_istore (lv' := [(10, .int 0), (11, .int (nI t)), (9, .int (gTS gs (soS mv (nI (j + 1)) k))), (8, .int (bitsN ((gRS gs (soS mv (nI (j + 1)) k)) &&& (gCg gs (gB gs - 1))) 40)), (7, .int (soS mv (nI (j + 1)) k)), (6, .int (nI (j + 1))), (5, .int tt), (4, .int pt), (3, .int b), (2, .int (nI k)), (0, .ref (z 0)), (1, .int tm)]) hx hb dX5_best_186 hl (by decide) rfl (fun ls hl => ?_)
                                  refine lv_iinc (v := nI (t + 1)) (lv' := [(11, .int (nI (t + 1))), (10, .int 0), (9, .int (gTS gs (soS mv (nI (j + 1)) k))), (8, .int (bitsN ((gRS gs (soS mv (nI (j + 1)) k)) &&& (gCg gs (gB gs - 1))) 40)), (7, .int (soS mv (nI (j + 1)) k)), (6, .int (nI (j + 1))), (5, .int tt), (4, .int pt), (3, .int b), (2, .int (nI k)), (0, .ref (z 0)), (1, .int tm)]) hx hb dX5_best_188 hl (k := 1) rfl (nI_inc _) (by decide) rfl (fun ls hl => ?_)
                                  refine lv_goto (tgt := 143) hx hb dX5_best_191 (by decide) ?_
                                  exact ih143 (t + 1) false (by omega) (by omega) (by show _ = (bsW gs tm (soS mv (nI (j + 1)) k) t && (!bt (soS mv (nI (j + 1)) k) t || decide (gCh gs t &&& ((soS mv (nI (j + 1)) k) ^^^ (-1)) = 0))); rw [← hw, c154, c164, decide_eq_false c178]; rfl) _ _ hP hD hS ls (lv_sub hl [0, 1, 2, 3, 4, 5, 6, 7, 8, 9, 10, 11] rfl)
                                · -- 178 False
                                  refine lv_iconst (v := 1) hx hb dX5_best_181 (by decide) ?_
                                  refine lv_goto (tgt := 186) hx hb dX5_best_182 (by decide) ?_
                                  refine lv_istore (lv' := [(10, .int 1), (11, .int (nI t)), (9, .int (gTS gs (soS mv (nI (j + 1)) k))), (8, .int (bitsN ((gRS gs (soS mv (nI (j + 1)) k)) &&& (gCg gs (gB gs - 1))) 40)), (7, .int (soS mv (nI (j + 1)) k)), (6, .int (nI (j + 1))), (5, .int tt), (4, .int pt), (3, .int b), (2, .int (nI k)), (0, .ref (z 0)), (1, .int tm)]) hx hb dX5_best_186 hl (by decide) rfl (fun ls hl => ?_)
                                  refine lv_iinc (v := nI (t + 1)) (lv' := [(11, .int (nI (t + 1))), (10, .int 1), (9, .int (gTS gs (soS mv (nI (j + 1)) k))), (8, .int (bitsN ((gRS gs (soS mv (nI (j + 1)) k)) &&& (gCg gs (gB gs - 1))) 40)), (7, .int (soS mv (nI (j + 1)) k)), (6, .int (nI (j + 1))), (5, .int tt), (4, .int pt), (3, .int b), (2, .int (nI k)), (0, .ref (z 0)), (1, .int tm)]) hx hb dX5_best_188 hl (k := 1) rfl (nI_inc _) (by decide) rfl (fun ls hl => ?_)
                                  refine lv_goto (tgt := 143) hx hb dX5_best_191 (by decide) ?_
                                  exact ih143 (t + 1) true (by omega) (by omega) (by show _ = (bsW gs tm (soS mv (nI (j + 1)) k) t && (!bt (soS mv (nI (j + 1)) k) t || decide (gCh gs t &&& ((soS mv (nI (j + 1)) k) ^^^ (-1)) = 0))); rw [← hw, c154, c164, decide_eq_true c178]; rfl) _ _ hP hD hS ls (lv_sub hl [0, 1, 2, 3, 4, 5, 6, 7, 8, 9, 10, 11] rfl)
                      exact L143 (gT gs + 1) 0 true (by omega) (by omega) (by simp [whB, c130]) _ _ hP hD hS ls (lv_sub hl [0, 1, 2, 3, 4, 5, 6, 7, 8, 9, 10, 11] rfl)
              exact L79 (2 ^ k) 0 0 0 0 (Nat.zero_le _) (by have := Nat.one_le_two_pow (n := k); omega) (rfl) _ _ hP hD hS ls (lv_sub hl [0, 1, 2, 3, 4, 5, 6] rfl)
            · -- 62 False
              have c62 : 12 < k := (Nat.not_le.mp (fun z => c62 ((nI_leI (a := k) (b := 12) (by omega) (by omega)).mpr z)))
              refine lv_bipush (v := (-6)) hx hb dX5_best_65 (by decide) ?_
              have e9 : gBest tm gs = ((-6), (gFi gs, gFs gs, gT gs, gKd gs, gTi gs, gNd gs, gMs gs, gBy gs, gB gs, gCg gs, gVe gs, gAs gs, gMv gs, gPm gs, gPk gs, gPt gs, gPp gs, gPs gs, mv)) := by rw [gBest, if_neg (by rw [c8]; decide), if_neg c17, hfT, if_pos (by omega)]
              rw [e9]
              exact mu_reti hx hb hr hlk hP hD hS (rfl) dX5_best_67
          · -- 32 False
            have c32 : i < (gT gs) := (Nat.not_le.mp (fun z => c32 ((nI_leI (a := (gT gs)) (b := i) (by omega) (by omega)).mpr z)))
            refine lv_aload_n hx hb dX5_best_35 rfl (lv_at hl 2 rfl) ?_
            refine lv_iload_n hx hb dX5_best_36 rfl (lv_at hl 0 rfl) ?_
            refine ro_Vi (post := bI (gMb gs i)) (As := [.int (nI i)]) (rest := []) ⟨hx, hb, hml, hown, hts⟩ (c_X5_mayBe l D z c (gFi gs, gFs gs, gT gs, gKd gs, gTi gs, gNd gs, gMs gs, gBy gs, gB gs, gCg gs, gVe gs, gAs gs, gMv gs, gPm gs, gPk gs, gPt gs, gPp gs, gPs gs, mv) i (by omega) (by omega) hN) (cwV 1 hts gX5_best_X5_mayBe rfl rfl rfl (by decide +kernel) ⟨Nat.le_of_ble_eq_true rfl, Nat.le_of_ble_eq_true rfl⟩) hP hK (va_recv hK.1 hP (ci := 5) (q0 := 0) rfl rfl) rfl hl.1 rfl (Nat.le_of_ble_eq_true rfl) dX5_best_37 ⟨Nat.le_of_ble_eq_true rfl, Nat.le_of_ble_eq_true rfl⟩ ?_
            refine lv_if_eq (tgt := 53) hx hb dX5_best_40 (by decide) (fun c40 => ?_) (fun c40 => ?_)
            · -- 40 True
              have c40 := bI_z.mp c40
              refine lv_iinc (v := nI (i + 1)) (lv' := [(3, .int (nI (i + 1))), (2, .int (nI k)), (0, .ref (z 0)), (1, .int tm)]) hx hb dX5_best_53 hl (k := 0) rfl (nI_inc _) (by decide) rfl (fun ls hl => ?_)
              refine lv_goto (tgt := 27) hx hb dX5_best_56 (by decide) ?_
              exact ih27 (i + 1) mv k (by omega) (by omega) (by omega) (by rw [pkF, if_neg (by rw [c40]; decide)]; exact hf) _ _ hP hD hS ls (lv_sub hl [0, 1, 2, 3] rfl)
            · -- 40 False
              have c40 := bI_nz.mp c40
              refine lv_aload_n hx hb dX5_best_43 rfl (lv_at hl 2 rfl) ?_
              refine va_get (D := D) (ci := 5) (v := .ref (z 11)) (C := RX5) (T := TX5) (N := 19) hx hb hts hin5 hown hK.1 hP 0 rfl rfl 18 (by decide) (hts (.fieldLink RX5 46 "TestPickerModel" "may" "[I") (by decide +kernel)) (fun _ h9 => h9) rfl dX5_best_44 ?_
              refine lv_iload_n hx hb dX5_best_47 rfl (lv_at hl 1 rfl) ?_
              refine lv_iload_n hx hb dX5_best_48 rfl (lv_at hl 0 rfl) ?_
              refine st_i hx hb hK hP hD hS 11 rfl (i := k) (by omega) (by decide) dX5_best_49 (fun H locs hP hD hS => ?_)
              have hP : va_P D vwCl (wG z c (gFi gs, gFs gs, gT gs, gKd gs, gTi gs, gNd gs, gMs gs, gBy gs, gB gs, gCg gs, gVe gs, gAs gs, gMv gs, gPm gs, gPk gs, gPt gs, gPp gs, gPs gs, (upd mv k (nI i)))) H := hP
              have hD : va_D (va_A (wG z c gs) s.heap.size) (wG z c (gFi gs, gFs gs, gT gs, gKd gs, gTi gs, gNd gs, gMs gs, gBy gs, gB gs, gCg gs, gVe gs, gAs gs, gMv gs, gPm gs, gPk gs, gPt gs, gPp gs, gPs gs, (upd mv k (nI i)))) := hD
              refine lv_iinc (v := nI (k + 1)) (lv' := [(2, .int (nI (k + 1))), (3, .int (nI i)), (0, .ref (z 0)), (1, .int tm)]) hx hb dX5_best_50 hl (k := 1) rfl (nI_inc _) (by decide) rfl (fun ls hl => ?_)
              refine lv_iinc (v := nI (i + 1)) (lv' := [(3, .int (nI (i + 1))), (2, .int (nI (k + 1))), (0, .ref (z 0)), (1, .int tm)]) hx hb dX5_best_53 hl (k := 1) rfl (nI_inc _) (by decide) rfl (fun ls hl => ?_)
              refine lv_goto (tgt := 27) hx hb dX5_best_56 (by decide) ?_
              exact ih27 (i + 1) (upd mv k (nI i)) (k + 1) (by omega) (by omega) (by omega) (by rw [pkF, if_pos c40, hf]) _ _ hP hD hS ls (lv_sub hl [0, 1, 2, 3] rfl)
      exact L27 (gT gs + 1) 0 (gMay gs) 0 (by omega) (by omega) (by omega) (rfl) _ _ hP hD hS ls (lv_sub hl [0, 1, 2, 3] rfl)
    · -- 17 False
      have c17 : (gB gs) = 0 := (nI_eq (b := 0) (by omega) (by omega)).mp c17
      refine lv_bipush (v := (-4)) hx hb dX5_best_20 (by decide) ?_
      have e9 : gBest tm gs = ((-4), gs) := by simp [gBest, c8, eq_true c17]
      rw [e9]
      exact mu_reti hx hb hr hlk hP hD hS (rfl) dX5_best_22
  · -- 8 False
    have c8 := bI_z.mp c8
    refine lv_iconst (v := (-1)) hx hb dX5_best_11 (by decide) ?_
    have e9 : gBest tm gs = ((-1), gs) := by simp [gBest, c8]
    rw [e9]
    exact mu_reti hx hb hr hlk hP hD hS (rfl) dX5_best_12

set_option maxHeartbeats 4000000 in
set_option maxRecDepth 100000 in
theorem c_X5_fewest (l : Launch) (D : va_G) (z : Nat → Nat) (c : CT) (gs : GS)  (hT : gT gs ≤ 20) (hB60 : gB gs ≤ 60) (hN : WN (gNd gs) (gT gs)) : MUi l yX5_fewest wsX5_fewest ({ frames := 3, cells := 0, slots := 0, locals := 74 } : Room) [.ref (z 0)] D c (wG z c gs) (wG z c (gFewest gs).2) ((gFewest gs).1) := by
  refine mu_start (cc := cX5_fewest) (maxL := 9) (ret := some .int) (by decide) rfl (Nat.le_of_ble_eq_true rfl) ?_
  intro p e s m args below meth c0 ls hx hb hr hml hown hts hlk hnm hP hK hD hS hA hl
  have hown : s.vm.findClass RX5 = some m.cls := hown
  have hl : lv_has ls 9 [(0, .ref (z 0))] := hl
  have hin5 : ∀ w ∈ wsX50, w ∈ wsX5_fewest := by decide +kernel
  refine lv_aload_n hx hb dX5_fewest_0 rfl (lv_at hl 0 rfl) ?_
  refine ro_Vi (post := (gCo gs)) (As := []) (rest := []) ⟨hx, hb, hml, hown, hts⟩ (c_X5_counting l D z c gs (by omega) (by omega)) (cwV 0 hts gX5_fewest_X5_counting rfl rfl rfl (by decide +kernel) ⟨Nat.le_of_ble_eq_true rfl, Nat.le_of_ble_eq_true rfl⟩) hP hK (va_recv hK.1 hP (ci := 5) (q0 := 0) rfl rfl) rfl hl.1 rfl (Nat.le_of_ble_eq_true rfl) dX5_fewest_1 ⟨Nat.le_of_ble_eq_true rfl, Nat.le_of_ble_eq_true rfl⟩ ?_
  refine lv_istore_n (lv' := [(1, .int (gCo gs)), (0, .ref (z 0))]) hx hb dX5_fewest_4 rfl hl (by decide) rfl (fun ls hl => ?_)
  refine lv_iconst (v := 0) hx hb dX5_fewest_5 (by decide) ?_
  refine lv_istore_n (lv' := [(2, .int 0), (1, .int (gCo gs)), (0, .ref (z 0))]) hx hb dX5_fewest_6 rfl hl (by decide) rfl (fun ls hl => ?_)
  refine lv_iconst (v := 0) hx hb dX5_fewest_7 (by decide) ?_
  refine lv_istore_n (lv' := [(3, .int 0), (2, .int 0), (1, .int (gCo gs)), (0, .ref (z 0))]) hx hb dX5_fewest_8 rfl hl (by decide) rfl (fun ls hl => ?_)
  have L9 : ∀ (n : Nat) (b : Nat) (ev : Int32), (b ≤ gB gs) → (gB gs < b + n) → (ev = evS gs (gCo gs) b) → ∀ (H : Heap) (locs : List Loc), va_P D vwCl (wG z c gs) H → va_D (va_A (wG z c gs) s.heap.size) (wG z c gs) → va_S (va_A (wG z c gs) s.heap.size) s.heap H locs → ∀ ls : Array Slot, lv_has ls 9 [(3, .int (nI b)), (2, .int ev), (1, .int (gCo gs)), (0, .ref (z 0))] → W p l e ({ frames := 3, cells := 0, slots := 0, locals := 74 } : Room) s m args below meth c0 H locs 0 0 (QMi below args s D c (wG z c gs) (wG z c (gFewest gs).2) ((gFewest gs).1)) (F0 m 9 ls []) := by
    intro n
    induction n with
    | zero => intro b ev hbB hn he H locs hP hD hS ls hl; exact absurd hn (by omega)
    | succ n ih9 =>
      intro b ev hbB hn he H locs hP hD hS ls hl
      refine lv_iload_n hx hb dX5_fewest_9 rfl (lv_at hl 0 rfl) ?_
      refine lv_aload_n hx hb dX5_fewest_10 rfl (lv_at hl 3 rfl) ?_
      refine va_get (D := D) (ci := 5) (v := .int (nI (gB gs))) (C := RX5) (T := TX5) (N := 19) hx hb hts hin5 hown hK.1 hP 0 rfl rfl 8 (by decide) (hts (.fieldLink RX5 59 "TestPickerModel" "builds" "I") (by decide +kernel)) (fun _ h9 => h9) rfl dX5_fewest_11 ?_
      refine lv_icmp_ge (tgt := 32) hx hb dX5_fewest_14 (by decide) (fun c14 => ?_) (fun c14 => ?_)
      · -- 14 True
        have c14 : (gB gs) ≤ b := (nI_leI (a := (gB gs)) (b := b) (by omega) (by omega)).mp c14
        have hee : ev = gEv gs := by rw [he, show b = gB gs by omega]
        subst hee
        refine lv_iconst (v := 0) hx hb dX5_fewest_32 (by decide) ?_
        refine lv_istore_n (lv' := [(3, .int 0), (2, .int (gEv gs)), (1, .int (gCo gs)), (0, .ref (z 0))]) hx hb dX5_fewest_33 rfl hl (by decide) rfl (fun ls hl => ?_)
        refine lv_iconst (v := 0) hx hb dX5_fewest_34 (by decide) ?_
        refine lv_istore (lv' := [(4, .int 0), (3, .int 0), (2, .int (gEv gs)), (1, .int (gCo gs)), (0, .ref (z 0))]) hx hb dX5_fewest_35 hl (by decide) rfl (fun ls hl => ?_)
        have L37 : ∀ (n2 : Nat) (i : Nat) (mv : Nat → Int32) (k : Nat), (i ≤ gT gs) → (gT gs < i + n2) → (k ≤ i) → (pkF (fun t => bt (gEv gs) t) (gMay gs) i = (mv, k)) → ∀ (H : Heap) (locs : List Loc), va_P D vwCl (wG z c (gFi gs, gFs gs, gT gs, gKd gs, gTi gs, gNd gs, gMs gs, gBy gs, gB gs, gCg gs, gVe gs, gAs gs, gMv gs, gPm gs, gPk gs, gPt gs, gPp gs, gPs gs, mv)) H → va_D (va_A (wG z c gs) s.heap.size) (wG z c (gFi gs, gFs gs, gT gs, gKd gs, gTi gs, gNd gs, gMs gs, gBy gs, gB gs, gCg gs, gVe gs, gAs gs, gMv gs, gPm gs, gPk gs, gPt gs, gPp gs, gPs gs, mv)) → va_S (va_A (wG z c gs) s.heap.size) s.heap H locs → ∀ ls : Array Slot, lv_has ls 9 [(4, .int (nI i)), (3, .int (nI k)), (2, .int (gEv gs)), (1, .int (gCo gs)), (0, .ref (z 0))] → W p l e ({ frames := 3, cells := 0, slots := 0, locals := 74 } : Room) s m args below meth c0 H locs 0 0 (QMi below args s D c (wG z c gs) (wG z c (gFewest gs).2) ((gFewest gs).1)) (F0 m 37 ls []) := by
          intro n2
          induction n2 with
          | zero => intro i mv k hi hn2 hki hf H locs hP hD hS ls hl; exact absurd hn2 (by omega)
          | succ n2 ih37 =>
            intro i mv k hi hn2 hki hf H locs hP hD hS ls hl
            refine lv_iload hx hb dX5_fewest_37 (lv_at hl 0 rfl) ?_
            refine lv_aload_n hx hb dX5_fewest_39 rfl (lv_at hl 4 rfl) ?_
            refine va_get (D := D) (ci := 5) (v := .int (nI (gT gs))) (C := RX5) (T := TX5) (N := 19) hx hb hts hin5 hown hK.1 hP 0 rfl rfl 2 (by decide) (hts (.fieldLink RX5 52 "TestPickerModel" "tests" "I") (by decide +kernel)) (fun _ h9 => h9) rfl dX5_fewest_40 ?_
            refine lv_icmp_ge (tgt := 72) hx hb dX5_fewest_43 (by decide) (fun c43 => ?_) (fun c43 => ?_)
            · -- 43 True
              have c43 : (gT gs) ≤ i := (nI_leI (a := (gT gs)) (b := i) (by omega) (by omega)).mp c43
              have hfT : fyM gs = (mv, k) := by rw [← hf, show i = gT gs by omega]
              refine lv_iload_n hx hb dX5_fewest_72 rfl (lv_at hl 1 rfl) ?_
              refine lv_bipush (v := 12) hx hb dX5_fewest_73 (by decide) ?_
              refine lv_icmp_le (tgt := 81) hx hb dX5_fewest_75 (by decide) (fun c75 => ?_) (fun c75 => ?_)
              · -- 75 True
                have c75 : k ≤ 12 := (nI_leI (a := k) (b := 12) (by omega) (by omega)).mp c75
                have h4096 := pow_le12 (N := k) (by omega)
                refine lv_iload_n hx hb dX5_fewest_81 rfl (lv_at hl 2 rfl) ?_
                refine lv_istore (lv' := [(4, .int (gEv gs)), (3, .int (nI k)), (2, .int (gEv gs)), (1, .int (gCo gs)), (0, .ref (z 0))]) hx hb dX5_fewest_82 hl (by decide) rfl (fun ls hl => ?_)
                refine lv_iconst (v := 0) hx hb dX5_fewest_84 (by decide) ?_
                refine lv_istore (lv' := [(5, .int 0), (4, .int (gEv gs)), (3, .int (nI k)), (2, .int (gEv gs)), (1, .int (gCo gs)), (0, .ref (z 0))]) hx hb dX5_fewest_85 hl (by decide) rfl (fun ls hl => ?_)
                have L87 : ∀ (n3 : Nat) (kk : Nat) (be : Int32), (kk ≤ 2 ^ k) → (2 ^ k < kk + n3) → (fwM gs mv k kk = be) → ∀ (H : Heap) (locs : List Loc), va_P D vwCl (wG z c (gFi gs, gFs gs, gT gs, gKd gs, gTi gs, gNd gs, gMs gs, gBy gs, gB gs, gCg gs, gVe gs, gAs gs, gMv gs, gPm gs, gPk gs, gPt gs, gPp gs, gPs gs, mv)) H → va_D (va_A (wG z c gs) s.heap.size) (wG z c (gFi gs, gFs gs, gT gs, gKd gs, gTi gs, gNd gs, gMs gs, gBy gs, gB gs, gCg gs, gVe gs, gAs gs, gMv gs, gPm gs, gPk gs, gPt gs, gPp gs, gPs gs, mv)) → va_S (va_A (wG z c gs) s.heap.size) s.heap H locs → ∀ ls : Array Slot, lv_has ls 9 [(5, .int (nI kk)), (4, .int be), (3, .int (nI k)), (2, .int (gEv gs)), (1, .int (gCo gs)), (0, .ref (z 0))] → W p l e ({ frames := 3, cells := 0, slots := 0, locals := 74 } : Room) s m args below meth c0 H locs 0 0 (QMi below args s D c (wG z c gs) (wG z c (gFewest gs).2) ((gFewest gs).1)) (F0 m 87 ls []) := by
                  intro n3
                  induction n3 with
                  | zero => intro kk be hkk hn3 hq H locs hP hD hS ls hl; exact absurd hn3 (by omega)
                  | succ n3 ih87 =>
                    intro kk be hkk hn3 hq H locs hP hD hS ls hl
                    refine lv_iload hx hb dX5_fewest_87 (lv_at hl 0 rfl) ?_
                    refine lv_iconst (v := 1) hx hb dX5_fewest_89 (by decide) ?_
                    refine lv_iload_n hx hb dX5_fewest_90 rfl (lv_at hl 2 rfl) ?_
                    refine lv_ishl hx hb dX5_fewest_91 ?_
                    refine tp_i (z := nI (2 ^ k)) (one_pow _ (by omega)) ?_
                    refine lv_icmp_ge (tgt := 235) hx hb dX5_fewest_92 (by decide) (fun c92 => ?_) (fun c92 => ?_)
                    · -- 92 True
                      have c92 : (2 ^ k) ≤ kk := (nI_leI (a := (2 ^ k)) (b := kk) (by omega) (by omega)).mp c92
                      refine lv_aload_n hx hb dX5_fewest_235 rfl (lv_at hl 5 rfl) ?_
                      refine lv_iload hx hb dX5_fewest_236 (lv_at hl 1 rfl) ?_
                      refine lv_i2l (v := be.toInt64) hx hb dX5_fewest_238 rfl ?_
                      refine va_put (D := D) (ci := 5) (v := .long be.toInt64) (ty := .long) (C := RX5) (T := TX5) (N := 19) hx hb hts hin5 tyX5 tyX5_ok nmX5 hown hK.1 hP hD hS 0 rfl rfl 11 (by decide) (hts (.fieldLink RX5 108 "TestPickerModel" "asked" "J") (by decide +kernel)) (fun _ h9 => h9) rfl (by decide +kernel) rfl rfl (Nat.le_of_ble_eq_true rfl) dX5_fewest_239 (fun H locs hP hD hS => ?_)
                      have hP : va_P D vwCl (wG z c (gFi gs, gFs gs, gT gs, gKd gs, gTi gs, gNd gs, gMs gs, gBy gs, gB gs, gCg gs, gVe gs, be.toInt64, gMv gs, gPm gs, gPk gs, gPt gs, gPp gs, gPs gs, mv)) H := hP
                      have hD : va_D (va_A (wG z c gs) s.heap.size) (wG z c (gFi gs, gFs gs, gT gs, gKd gs, gTi gs, gNd gs, gMs gs, gBy gs, gB gs, gCg gs, gVe gs, be.toInt64, gMv gs, gPm gs, gPk gs, gPt gs, gPp gs, gPs gs, mv)) := hD
                      refine lv_iload hx hb dX5_fewest_242 (lv_at hl 1 rfl) ?_
                      refine lv_i2l (v := be.toInt64) hx hb dX5_fewest_244 rfl ?_
                      refine ro_Si (As := [.long be.toInt64]) (rest := []) ⟨hx, hb, hml, hown, hts⟩ (c_X5_bits l D c be.toInt64) (va_cwS 1 hts gX5_fewest_X5_bits rfl rfl rfl (by decide +kernel) ⟨Nat.le_of_ble_eq_true rfl, Nat.le_of_ble_eq_true rfl⟩) va_P0 hK rfl hl.1 rfl (Nat.le_of_ble_eq_true rfl) dX5_fewest_245 ⟨Nat.le_of_ble_eq_true rfl, Nat.le_of_ble_eq_true rfl⟩ ?_
                      have hbT : fwH gs = be := by show fwM gs (fyM gs).1 (fyM gs).2 (2 ^ (fyM gs).2) = _; rw [hfT]; show fwM gs mv k (2 ^ k) = _; rw [← hq, show 2 ^ k = kk by omega]
                      have e9 : gFewest gs = ((bitsN be.toInt64 40), (gFi gs, gFs gs, gT gs, gKd gs, gTi gs, gNd gs, gMs gs, gBy gs, gB gs, gCg gs, gVe gs, be.toInt64, gMv gs, gPm gs, gPk gs, gPt gs, gPp gs, gPs gs, mv)) := by rw [gFewest, if_neg (by rw [hfT]; show ¬ 12 < k; omega), hbT, hfT]
                      rw [e9]
                      exact mu_reti hx hb hr hlk hP hD hS (rfl) dX5_fewest_248
                    · -- 92 False
                      have c92 : kk < (2 ^ k) := (Nat.not_le.mp (fun z => c92 ((nI_leI (a := (2 ^ k)) (b := kk) (by omega) (by omega)).mpr z)))
                      refine lv_aload_n hx hb dX5_fewest_95 rfl (lv_at hl 5 rfl) ?_
                      refine lv_iload hx hb dX5_fewest_96 (lv_at hl 0 rfl) ?_
                      refine lv_iload_n hx hb dX5_fewest_98 rfl (lv_at hl 2 rfl) ?_
                      refine ro_Vi (post := soS mv (nI kk) k) (As := [.int (nI kk), .int (nI k)]) (rest := []) ⟨hx, hb, hml, hown, hts⟩ (c_X5_setOf l D z c (gFi gs, gFs gs, gT gs, gKd gs, gTi gs, gNd gs, gMs gs, gBy gs, gB gs, gCg gs, gVe gs, gAs gs, gMv gs, gPm gs, gPk gs, gPt gs, gPp gs, gPs gs, mv) (nI kk) k (by omega)) (cwV 2 hts gX5_fewest_X5_setOf rfl rfl rfl (by decide +kernel) ⟨Nat.le_of_ble_eq_true rfl, Nat.le_of_ble_eq_true rfl⟩) hP hK (va_recv hK.1 hP (ci := 5) (q0 := 0) rfl rfl) rfl hl.1 rfl (Nat.le_of_ble_eq_true rfl) dX5_fewest_99 ⟨Nat.le_of_ble_eq_true rfl, Nat.le_of_ble_eq_true rfl⟩ ?_
                      refine lv_istore (lv' := [(6, .int (soS mv (nI kk) k)), (5, .int (nI kk)), (4, .int be), (3, .int (nI k)), (2, .int (gEv gs)), (1, .int (gCo gs)), (0, .ref (z 0))]) hx hb dX5_fewest_102 hl (by decide) rfl (fun ls hl => ?_)
                      refine lv_iconst (v := 1) hx hb dX5_fewest_104 (by decide) ?_
                      refine lv_istore (lv' := [(7, .int 1), (6, .int (soS mv (nI kk) k)), (5, .int (nI kk)), (4, .int be), (3, .int (nI k)), (2, .int (gEv gs)), (1, .int (gCo gs)), (0, .ref (z 0))]) hx hb dX5_fewest_105 hl (by decide) rfl (fun ls hl => ?_)
                      refine lv_iconst (v := 0) hx hb dX5_fewest_107 (by decide) ?_
                      refine lv_istore (lv' := [(8, .int 0), (7, .int 1), (6, .int (soS mv (nI kk) k)), (5, .int (nI kk)), (4, .int be), (3, .int (nI k)), (2, .int (gEv gs)), (1, .int (gCo gs)), (0, .ref (z 0))]) hx hb dX5_fewest_108 hl (by decide) rfl (fun ls hl => ?_)
                      have L110 : ∀ (n4 : Nat) (b : Nat) (sh : Bool), (b ≤ gB gs) → (gB gs < b + n4) → (sh = shB gs (soS mv (nI kk) k) b) → ∀ (H : Heap) (locs : List Loc), va_P D vwCl (wG z c (gFi gs, gFs gs, gT gs, gKd gs, gTi gs, gNd gs, gMs gs, gBy gs, gB gs, gCg gs, gVe gs, gAs gs, gMv gs, gPm gs, gPk gs, gPt gs, gPp gs, gPs gs, mv)) H → va_D (va_A (wG z c gs) s.heap.size) (wG z c (gFi gs, gFs gs, gT gs, gKd gs, gTi gs, gNd gs, gMs gs, gBy gs, gB gs, gCg gs, gVe gs, gAs gs, gMv gs, gPm gs, gPk gs, gPt gs, gPp gs, gPs gs, mv)) → va_S (va_A (wG z c gs) s.heap.size) s.heap H locs → ∀ ls : Array Slot, lv_has ls 9 [(8, .int (nI b)), (7, .int (bI sh)), (6, .int (soS mv (nI kk) k)), (5, .int (nI kk)), (4, .int be), (3, .int (nI k)), (2, .int (gEv gs)), (1, .int (gCo gs)), (0, .ref (z 0))] → W p l e ({ frames := 3, cells := 0, slots := 0, locals := 74 } : Room) s m args below meth c0 H locs 0 0 (QMi below args s D c (wG z c gs) (wG z c (gFewest gs).2) ((gFewest gs).1)) (F0 m 110 ls []) := by
                        intro n4
                        induction n4 with
                        | zero => intro b sh hbB hn4 hs_ H locs hP hD hS ls hl; exact absurd hn4 (by omega)
                        | succ n4 ih110 =>
                          intro b sh hbB hn4 hs_ H locs hP hD hS ls hl
                          refine lv_iload hx hb dX5_fewest_110 (lv_at hl 0 rfl) ?_
                          refine lv_aload_n hx hb dX5_fewest_112 rfl (lv_at hl 8 rfl) ?_
                          refine va_get (D := D) (ci := 5) (v := .int (nI (gB gs))) (C := RX5) (T := TX5) (N := 19) hx hb hts hin5 hown hK.1 hP 0 rfl rfl 8 (by decide) (hts (.fieldLink RX5 59 "TestPickerModel" "builds" "I") (by decide +kernel)) (fun _ h9 => h9) rfl dX5_fewest_113 ?_
                          refine lv_icmp_ge (tgt := 158) hx hb dX5_fewest_116 (by decide) (fun c116 => ?_) (fun c116 => ?_)
                          · -- 116 True
                            have c116 : (gB gs) ≤ b := (nI_leI (a := (gB gs)) (b := b) (by omega) (by omega)).mp c116
                            have hsT : shB gs (soS mv (nI kk) k) (gB gs) = sh := by rw [hs_, show b = gB gs by omega]
                            refine lv_iload hx hb dX5_fewest_158 (lv_at hl 2 rfl) ?_
                            refine lv_i2l (v := (soS mv (nI kk) k).toInt64) hx hb dX5_fewest_160 rfl ?_
                            refine ro_Si (As := [.long ((soS mv (nI kk) k).toInt64)]) (rest := []) ⟨hx, hb, hml, hown, hts⟩ (c_X5_bits l D c ((soS mv (nI kk) k).toInt64)) (va_cwS 1 hts gX5_fewest_X5_bits rfl rfl rfl (by decide +kernel) ⟨Nat.le_of_ble_eq_true rfl, Nat.le_of_ble_eq_true rfl⟩) va_P0 hK rfl hl.1 rfl (Nat.le_of_ble_eq_true rfl) dX5_fewest_161 ⟨Nat.le_of_ble_eq_true rfl, Nat.le_of_ble_eq_true rfl⟩ ?_
                            refine lv_iload hx hb dX5_fewest_164 (lv_at hl 4 rfl) ?_
                            refine lv_i2l (v := be.toInt64) hx hb dX5_fewest_166 rfl ?_
                            refine ro_Si (As := [.long be.toInt64]) (rest := [.int (bitsN ((soS mv (nI kk) k).toInt64) 40)]) ⟨hx, hb, hml, hown, hts⟩ (c_X5_bits l D c be.toInt64) (va_cwS 1 hts gX5_fewest_X5_bits rfl rfl rfl (by decide +kernel) ⟨Nat.le_of_ble_eq_true rfl, Nat.le_of_ble_eq_true rfl⟩) va_P0 hK rfl hl.1 rfl (Nat.le_of_ble_eq_true rfl) dX5_fewest_167 ⟨Nat.le_of_ble_eq_true rfl, Nat.le_of_ble_eq_true rfl⟩ ?_
                            refine lv_isub hx hb dX5_fewest_170 ?_
                            refine lv_istore (lv' := [(8, .int ((bitsN ((soS mv (nI kk) k).toInt64) 40) - (bitsN be.toInt64 40))), (7, .int (bI sh)), (6, .int (soS mv (nI kk) k)), (5, .int (nI kk)), (4, .int be), (3, .int (nI k)), (2, .int (gEv gs)), (1, .int (gCo gs)), (0, .ref (z 0))]) hx hb dX5_fewest_171 hl (by decide) rfl (fun ls hl => ?_)
                            refine lv_iload hx hb dX5_fewest_173 (lv_at hl 1 rfl) ?_
                            refine lv_if_eq (tgt := 229) hx hb dX5_fewest_175 (by decide) (fun c175 => ?_) (fun c175 => ?_)
                            · -- 175 True
                              have c175 := bI_z.mp c175
                              refine lv_iinc (v := nI (kk + 1)) (lv' := [(5, .int (nI (kk + 1))), (8, .int ((bitsN ((soS mv (nI kk) k).toInt64) 40) - (bitsN be.toInt64 40))), (7, .int (bI sh)), (6, .int (soS mv (nI kk) k)), (4, .int be), (3, .int (nI k)), (2, .int (gEv gs)), (1, .int (gCo gs)), (0, .ref (z 0))]) hx hb dX5_fewest_229 hl (k := 3) rfl (nI_inc _) (by decide) rfl (fun ls hl => ?_)
                              refine lv_goto (tgt := 87) hx hb dX5_fewest_232 (by decide) ?_
                              exact ih87 (kk + 1) be (by omega) (by omega) (by rw [fwM, if_neg (fun h => by rw [hsT, c175] at h; cases h.1)]; exact hq) _ _ hP hD hS ls (lv_sub hl [0, 4, 5, 6, 7, 8] rfl)
                            · -- 175 False
                              have c175 := bI_nz.mp c175
                              refine lv_iload hx hb dX5_fewest_178 (lv_at hl 0 rfl) ?_
                              refine lv_if_lt (tgt := 225) hx hb dX5_fewest_180 (by decide) (fun c180 => ?_) (fun c180 => ?_)
                              · -- 180 True
                                refine lv_iload hx hb dX5_fewest_225 (lv_at hl 2 rfl) ?_
                                refine lv_istore (lv' := [(4, .int (soS mv (nI kk) k)), (8, .int ((bitsN ((soS mv (nI kk) k).toInt64) 40) - (bitsN be.toInt64 40))), (7, .int (bI sh)), (6, .int (soS mv (nI kk) k)), (5, .int (nI kk)), (3, .int (nI k)), (2, .int (gEv gs)), (1, .int (gCo gs)), (0, .ref (z 0))]) hx hb dX5_fewest_227 hl (by decide) rfl (fun ls hl => ?_)
                                refine lv_iinc (v := nI (kk + 1)) (lv' := [(5, .int (nI (kk + 1))), (4, .int (soS mv (nI kk) k)), (8, .int ((bitsN ((soS mv (nI kk) k).toInt64) 40) - (bitsN be.toInt64 40))), (7, .int (bI sh)), (6, .int (soS mv (nI kk) k)), (3, .int (nI k)), (2, .int (gEv gs)), (1, .int (gCo gs)), (0, .ref (z 0))]) hx hb dX5_fewest_229 hl (k := 4) rfl (nI_inc _) (by decide) rfl (fun ls hl => ?_)
                                refine lv_goto (tgt := 87) hx hb dX5_fewest_232 (by decide) ?_
                                exact ih87 (kk + 1) (soS mv (nI kk) k) (by omega) (by omega) (by rw [fwM, hq, if_pos ⟨hsT.trans c175, by simp [fwB, c180]⟩]) _ _ hP hD hS ls (lv_sub hl [0, 1, 5, 6, 7, 8] rfl)
                              · -- 180 False
                                refine lv_iload hx hb dX5_fewest_183 (lv_at hl 0 rfl) ?_
                                refine lv_if_ne (tgt := 229) hx hb dX5_fewest_185 (by decide) (fun c185 => ?_) (fun c185 => ?_)
                                · -- 185 True
                                  refine lv_iinc (v := nI (kk + 1)) (lv' := [(5, .int (nI (kk + 1))), (8, .int ((bitsN ((soS mv (nI kk) k).toInt64) 40) - (bitsN be.toInt64 40))), (7, .int (bI sh)), (6, .int (soS mv (nI kk) k)), (4, .int be), (3, .int (nI k)), (2, .int (gEv gs)), (1, .int (gCo gs)), (0, .ref (z 0))]) hx hb dX5_fewest_229 hl (k := 3) rfl (nI_inc _) (by decide) rfl (fun ls hl => ?_)
                                  refine lv_goto (tgt := 87) hx hb dX5_fewest_232 (by decide) ?_
                                  exact ih87 (kk + 1) be (by omega) (by omega) (by rw [fwM, hq, if_neg (fun h => absurd h.2 (by simp [fwB, c180, c185]))]) _ _ hP hD hS ls (lv_sub hl [0, 4, 5, 6, 7, 8] rfl)
                                · -- 185 False
                                  refine lv_aload_n hx hb dX5_fewest_188 rfl (lv_at hl 8 rfl) ?_
                                  refine lv_iload hx hb dX5_fewest_189 (lv_at hl 2 rfl) ?_
                                  refine ro_Vi (post := (gTS gs (soS mv (nI kk) k))) (As := [.int (soS mv (nI kk) k)]) (rest := []) ⟨hx, hb, hml, hown, hts⟩ (c_X5_timeOfSet l D z c (gFi gs, gFs gs, gT gs, gKd gs, gTi gs, gNd gs, gMs gs, gBy gs, gB gs, gCg gs, gVe gs, gAs gs, gMv gs, gPm gs, gPk gs, gPt gs, gPp gs, gPs gs, mv) (soS mv (nI kk) k) (by omega)) (cwV 1 hts gX5_fewest_X5_timeOfSet rfl rfl rfl (by decide +kernel) ⟨Nat.le_of_ble_eq_true rfl, Nat.le_of_ble_eq_true rfl⟩) hP hK (va_recv hK.1 hP (ci := 5) (q0 := 0) rfl rfl) rfl hl.1 rfl (Nat.le_of_ble_eq_true rfl) dX5_fewest_191 ⟨Nat.le_of_ble_eq_true rfl, Nat.le_of_ble_eq_true rfl⟩ ?_
                                  refine lv_aload_n hx hb dX5_fewest_194 rfl (lv_at hl 8 rfl) ?_
                                  refine lv_iload hx hb dX5_fewest_195 (lv_at hl 4 rfl) ?_
                                  refine ro_Vi (post := (gTS gs be)) (As := [.int be]) (rest := [.int (gTS gs (soS mv (nI kk) k))]) ⟨hx, hb, hml, hown, hts⟩ (c_X5_timeOfSet l D z c (gFi gs, gFs gs, gT gs, gKd gs, gTi gs, gNd gs, gMs gs, gBy gs, gB gs, gCg gs, gVe gs, gAs gs, gMv gs, gPm gs, gPk gs, gPt gs, gPp gs, gPs gs, mv) be (by omega)) (cwV 1 hts gX5_fewest_X5_timeOfSet rfl rfl rfl (by decide +kernel) ⟨Nat.le_of_ble_eq_true rfl, Nat.le_of_ble_eq_true rfl⟩) hP hK (va_recv hK.1 hP (ci := 5) (q0 := 0) rfl rfl) rfl hl.1 rfl (Nat.le_of_ble_eq_true rfl) dX5_fewest_197 ⟨Nat.le_of_ble_eq_true rfl, Nat.le_of_ble_eq_true rfl⟩ ?_
                                  refine lv_icmp_lt (tgt := 225) hx hb dX5_fewest_200 (by decide) (fun c200 => ?_) (fun c200 => ?_)
                                  · -- 200 True
                                    refine lv_iload hx hb dX5_fewest_225 (lv_at hl 2 rfl) ?_
                                    refine lv_istore (lv' := [(4, .int (soS mv (nI kk) k)), (8, .int ((bitsN ((soS mv (nI kk) k).toInt64) 40) - (bitsN be.toInt64 40))), (7, .int (bI sh)), (6, .int (soS mv (nI kk) k)), (5, .int (nI kk)), (3, .int (nI k)), (2, .int (gEv gs)), (1, .int (gCo gs)), (0, .ref (z 0))]) hx hb dX5_fewest_227 hl (by decide) rfl (fun ls hl => ?_)
                                    refine lv_iinc (v := nI (kk + 1)) (lv' := [(5, .int (nI (kk + 1))), (4, .int (soS mv (nI kk) k)), (8, .int ((bitsN ((soS mv (nI kk) k).toInt64) 40) - (bitsN be.toInt64 40))), (7, .int (bI sh)), (6, .int (soS mv (nI kk) k)), (3, .int (nI k)), (2, .int (gEv gs)), (1, .int (gCo gs)), (0, .ref (z 0))]) hx hb dX5_fewest_229 hl (k := 4) rfl (nI_inc _) (by decide) rfl (fun ls hl => ?_)
                                    refine lv_goto (tgt := 87) hx hb dX5_fewest_232 (by decide) ?_
                                    exact ih87 (kk + 1) (soS mv (nI kk) k) (by omega) (by omega) (by rw [fwM, hq, if_pos ⟨hsT.trans c175, by simp [fwB, c180, eq_true c185, c200]⟩]) _ _ hP hD hS ls (lv_sub hl [0, 1, 5, 6, 7, 8] rfl)
                                  · -- 200 False
                                    refine lv_aload_n hx hb dX5_fewest_203 rfl (lv_at hl 8 rfl) ?_
                                    refine lv_iload hx hb dX5_fewest_204 (lv_at hl 2 rfl) ?_
                                    refine ro_Vi (post := (gTS gs (soS mv (nI kk) k))) (As := [.int (soS mv (nI kk) k)]) (rest := []) ⟨hx, hb, hml, hown, hts⟩ (c_X5_timeOfSet l D z c (gFi gs, gFs gs, gT gs, gKd gs, gTi gs, gNd gs, gMs gs, gBy gs, gB gs, gCg gs, gVe gs, gAs gs, gMv gs, gPm gs, gPk gs, gPt gs, gPp gs, gPs gs, mv) (soS mv (nI kk) k) (by omega)) (cwV 1 hts gX5_fewest_X5_timeOfSet rfl rfl rfl (by decide +kernel) ⟨Nat.le_of_ble_eq_true rfl, Nat.le_of_ble_eq_true rfl⟩) hP hK (va_recv hK.1 hP (ci := 5) (q0 := 0) rfl rfl) rfl hl.1 rfl (Nat.le_of_ble_eq_true rfl) dX5_fewest_206 ⟨Nat.le_of_ble_eq_true rfl, Nat.le_of_ble_eq_true rfl⟩ ?_
                                    refine lv_aload_n hx hb dX5_fewest_209 rfl (lv_at hl 8 rfl) ?_
                                    refine lv_iload hx hb dX5_fewest_210 (lv_at hl 4 rfl) ?_
                                    refine ro_Vi (post := (gTS gs be)) (As := [.int be]) (rest := [.int (gTS gs (soS mv (nI kk) k))]) ⟨hx, hb, hml, hown, hts⟩ (c_X5_timeOfSet l D z c (gFi gs, gFs gs, gT gs, gKd gs, gTi gs, gNd gs, gMs gs, gBy gs, gB gs, gCg gs, gVe gs, gAs gs, gMv gs, gPm gs, gPk gs, gPt gs, gPp gs, gPs gs, mv) be (by omega)) (cwV 1 hts gX5_fewest_X5_timeOfSet rfl rfl rfl (by decide +kernel) ⟨Nat.le_of_ble_eq_true rfl, Nat.le_of_ble_eq_true rfl⟩) hP hK (va_recv hK.1 hP (ci := 5) (q0 := 0) rfl rfl) rfl hl.1 rfl (Nat.le_of_ble_eq_true rfl) dX5_fewest_212 ⟨Nat.le_of_ble_eq_true rfl, Nat.le_of_ble_eq_true rfl⟩ ?_
                                    refine lv_icmp_ne (tgt := 229) hx hb dX5_fewest_215 (by decide) (fun c215 => ?_) (fun c215 => ?_)
                                    · -- 215 True
                                      refine lv_iinc (v := nI (kk + 1)) (lv' := [(5, .int (nI (kk + 1))), (8, .int ((bitsN ((soS mv (nI kk) k).toInt64) 40) - (bitsN be.toInt64 40))), (7, .int (bI sh)), (6, .int (soS mv (nI kk) k)), (4, .int be), (3, .int (nI k)), (2, .int (gEv gs)), (1, .int (gCo gs)), (0, .ref (z 0))]) hx hb dX5_fewest_229 hl (k := 3) rfl (nI_inc _) (by decide) rfl (fun ls hl => ?_)
                                      refine lv_goto (tgt := 87) hx hb dX5_fewest_232 (by decide) ?_
                                      exact ih87 (kk + 1) be (by omega) (by omega) (by rw [fwM, hq, if_neg (fun h => absurd h.2 (by simp [fwB, c180, eq_true c185, c200, c215]))]) _ _ hP hD hS ls (lv_sub hl [0, 4, 5, 6, 7, 8] rfl)
                                    · -- 215 False
                                      refine lv_iload hx hb dX5_fewest_218 (lv_at hl 2 rfl) ?_
                                      refine lv_iload hx hb dX5_fewest_220 (lv_at hl 4 rfl) ?_
                                      refine lv_icmp_ge (tgt := 229) hx hb dX5_fewest_222 (by decide) (fun c222 => ?_) (fun c222 => ?_)
                                      · -- 222 True
                                        refine lv_iinc (v := nI (kk + 1)) (lv' := [(5, .int (nI (kk + 1))), (8, .int ((bitsN ((soS mv (nI kk) k).toInt64) 40) - (bitsN be.toInt64 40))), (7, .int (bI sh)), (6, .int (soS mv (nI kk) k)), (4, .int be), (3, .int (nI k)), (2, .int (gEv gs)), (1, .int (gCo gs)), (0, .ref (z 0))]) hx hb dX5_fewest_229 hl (k := 3) rfl (nI_inc _) (by decide) rfl (fun ls hl => ?_)
                                        refine lv_goto (tgt := 87) hx hb dX5_fewest_232 (by decide) ?_
                                        exact ih87 (kk + 1) be (by omega) (by omega) (by rw [fwM, hq, if_neg (fun h => absurd h.2 (by simp [fwB, c180, eq_true c185, c200, eq_true c215, c222]))]) _ _ hP hD hS ls (lv_sub hl [0, 4, 5, 6, 7, 8] rfl)
                                      · -- 222 False
                                        refine lv_iload hx hb dX5_fewest_225 (lv_at hl 2 rfl) ?_
                                        refine lv_istore (lv' := [(4, .int (soS mv (nI kk) k)), (8, .int ((bitsN ((soS mv (nI kk) k).toInt64) 40) - (bitsN be.toInt64 40))), (7, .int (bI sh)), (6, .int (soS mv (nI kk) k)), (5, .int (nI kk)), (3, .int (nI k)), (2, .int (gEv gs)), (1, .int (gCo gs)), (0, .ref (z 0))]) hx hb dX5_fewest_227 hl (by decide) rfl (fun ls hl => ?_)
                                        refine lv_iinc (v := nI (kk + 1)) (lv' := [(5, .int (nI (kk + 1))), (4, .int (soS mv (nI kk) k)), (8, .int ((bitsN ((soS mv (nI kk) k).toInt64) 40) - (bitsN be.toInt64 40))), (7, .int (bI sh)), (6, .int (soS mv (nI kk) k)), (3, .int (nI k)), (2, .int (gEv gs)), (1, .int (gCo gs)), (0, .ref (z 0))]) hx hb dX5_fewest_229 hl (k := 4) rfl (nI_inc _) (by decide) rfl (fun ls hl => ?_)
                                        refine lv_goto (tgt := 87) hx hb dX5_fewest_232 (by decide) ?_
                                        exact ih87 (kk + 1) (soS mv (nI kk) k) (by omega) (by omega) (by rw [fwM, hq, if_pos ⟨hsT.trans c175, by simp [fwB, c180, eq_true c185, c200, eq_true c215, c222]⟩]) _ _ hP hD hS ls (lv_sub hl [0, 1, 5, 6, 7, 8] rfl)
                          · -- 116 False
                            have c116 : b < (gB gs) := (Nat.not_le.mp (fun z => c116 ((nI_leI (a := (gB gs)) (b := b) (by omega) (by omega)).mpr z)))
                            refine lv_iload hx hb dX5_fewest_119 (lv_at hl 1 rfl) ?_
                            refine lv_if_eq (tgt := 158) hx hb dX5_fewest_121 (by decide) (fun c121 => ?_) (fun c121 => ?_)
                            · -- 121 True
                              have c121 := bI_z.mp c121
                              have hsT : shB gs (soS mv (nI kk) k) (gB gs) = sh := by rw [c121]; exact whB_stop (hs_.symm.trans c121) hbB
                              refine lv_iload hx hb dX5_fewest_158 (lv_at hl 2 rfl) ?_
                              refine lv_i2l (v := (soS mv (nI kk) k).toInt64) hx hb dX5_fewest_160 rfl ?_
                              refine ro_Si (As := [.long ((soS mv (nI kk) k).toInt64)]) (rest := []) ⟨hx, hb, hml, hown, hts⟩ (c_X5_bits l D c ((soS mv (nI kk) k).toInt64)) (va_cwS 1 hts gX5_fewest_X5_bits rfl rfl rfl (by decide +kernel) ⟨Nat.le_of_ble_eq_true rfl, Nat.le_of_ble_eq_true rfl⟩) va_P0 hK rfl hl.1 rfl (Nat.le_of_ble_eq_true rfl) dX5_fewest_161 ⟨Nat.le_of_ble_eq_true rfl, Nat.le_of_ble_eq_true rfl⟩ ?_
                              refine lv_iload hx hb dX5_fewest_164 (lv_at hl 4 rfl) ?_
                              refine lv_i2l (v := be.toInt64) hx hb dX5_fewest_166 rfl ?_
                              refine ro_Si (As := [.long be.toInt64]) (rest := [.int (bitsN ((soS mv (nI kk) k).toInt64) 40)]) ⟨hx, hb, hml, hown, hts⟩ (c_X5_bits l D c be.toInt64) (va_cwS 1 hts gX5_fewest_X5_bits rfl rfl rfl (by decide +kernel) ⟨Nat.le_of_ble_eq_true rfl, Nat.le_of_ble_eq_true rfl⟩) va_P0 hK rfl hl.1 rfl (Nat.le_of_ble_eq_true rfl) dX5_fewest_167 ⟨Nat.le_of_ble_eq_true rfl, Nat.le_of_ble_eq_true rfl⟩ ?_
                              refine lv_isub hx hb dX5_fewest_170 ?_
                              refine lv_istore (lv' := [(8, .int ((bitsN ((soS mv (nI kk) k).toInt64) 40) - (bitsN be.toInt64 40))), (7, .int (bI sh)), (6, .int (soS mv (nI kk) k)), (5, .int (nI kk)), (4, .int be), (3, .int (nI k)), (2, .int (gEv gs)), (1, .int (gCo gs)), (0, .ref (z 0))]) hx hb dX5_fewest_171 hl (by decide) rfl (fun ls hl => ?_)
                              refine lv_iload hx hb dX5_fewest_173 (lv_at hl 1 rfl) ?_
                              refine lv_if_eq (tgt := 229) hx hb dX5_fewest_175 (by decide) (fun c175 => ?_) (fun c175 => ?_)
                              · -- 175 True
                                have c175 := bI_z.mp c175
                                refine lv_iinc (v := nI (kk + 1)) (lv' := [(5, .int (nI (kk + 1))), (8, .int ((bitsN ((soS mv (nI kk) k).toInt64) 40) - (bitsN be.toInt64 40))), (7, .int (bI sh)), (6, .int (soS mv (nI kk) k)), (4, .int be), (3, .int (nI k)), (2, .int (gEv gs)), (1, .int (gCo gs)), (0, .ref (z 0))]) hx hb dX5_fewest_229 hl (k := 3) rfl (nI_inc _) (by decide) rfl (fun ls hl => ?_)
                                refine lv_goto (tgt := 87) hx hb dX5_fewest_232 (by decide) ?_
                                exact ih87 (kk + 1) be (by omega) (by omega) (by rw [fwM, if_neg (fun h => by rw [hsT, c175] at h; cases h.1)]; exact hq) _ _ hP hD hS ls (lv_sub hl [0, 4, 5, 6, 7, 8] rfl)
                              · -- 175 False
                                have c175 := bI_nz.mp c175
                                exact absurd (c121.symm.trans c175) (by decide)
                            · -- 121 False
                              have c121 := bI_nz.mp c121
                              refine lv_aload_n hx hb dX5_fewest_124 rfl (lv_at hl 8 rfl) ?_
                              refine lv_iload hx hb dX5_fewest_125 (lv_at hl 0 rfl) ?_
                              refine lv_iload_n hx hb dX5_fewest_127 rfl (lv_at hl 7 rfl) ?_
                              refine ro_Vi (post := (gFo gs b (gCo gs))) (As := [.int (nI b), .int (gCo gs)]) (rest := []) ⟨hx, hb, hml, hown, hts⟩ (c_X5_fellOf l D z c (gFi gs, gFs gs, gT gs, gKd gs, gTi gs, gNd gs, gMs gs, gBy gs, gB gs, gCg gs, gVe gs, gAs gs, gMv gs, gPm gs, gPk gs, gPt gs, gPp gs, gPs gs, mv) b (gCo gs) (by omega) (by omega)) (cwV 2 hts gX5_fewest_X5_fellOf rfl rfl rfl (by decide +kernel) ⟨Nat.le_of_ble_eq_true rfl, Nat.le_of_ble_eq_true rfl⟩) hP hK (va_recv hK.1 hP (ci := 5) (q0 := 0) rfl rfl) rfl hl.1 rfl (Nat.le_of_ble_eq_true rfl) dX5_fewest_128 ⟨Nat.le_of_ble_eq_true rfl, Nat.le_of_ble_eq_true rfl⟩ ?_
                              refine lv_if_eq (tgt := 145) hx hb dX5_fewest_131 (by decide) (fun c131 => ?_) (fun c131 => ?_)
                              · -- 131 True
                                refine lv_iconst (v := 1) hx hb dX5_fewest_145 (by decide) ?_
                                refine lv_goto (tgt := 150) hx hb dX5_fewest_146 (by decide) ?_
                                refine lv_istore (lv' := [(7, .int 1), (8, .int (nI b)), (6, .int (soS mv (nI kk) k)), (5, .int (nI kk)), (4, .int be), (3, .int (nI k)), (2, .int (gEv gs)), (1, .int (gCo gs)), (0, .ref (z 0))]) hx hb dX5_fewest_150 hl (by decide) rfl (fun ls hl => ?_)
                                refine lv_iinc (v := nI (b + 1)) (lv' := [(8, .int (nI (b + 1))), (7, .int 1), (6, .int (soS mv (nI kk) k)), (5, .int (nI kk)), (4, .int be), (3, .int (nI k)), (2, .int (gEv gs)), (1, .int (gCo gs)), (0, .ref (z 0))]) hx hb dX5_fewest_152 hl (k := 1) rfl (nI_inc _) (by decide) rfl (fun ls hl => ?_)
                                refine lv_goto (tgt := 110) hx hb dX5_fewest_155 (by decide) ?_
                                exact ih110 (b + 1) true (by omega) (by omega) (by show _ = (shB gs (soS mv (nI kk) k) b && (decide (gFo gs b (gCo gs) = 0) || !decide (gFo gs b (soS mv (nI kk) k) = 0))); rw [← hs_, c121]; simp [eq_true c131]) _ _ hP hD hS ls (lv_sub hl [0, 1, 2, 3, 4, 5, 6, 7, 8] rfl)
                              · -- 131 False
                                refine lv_aload_n hx hb dX5_fewest_134 rfl (lv_at hl 8 rfl) ?_
                                refine lv_iload hx hb dX5_fewest_135 (lv_at hl 0 rfl) ?_
                                refine lv_iload hx hb dX5_fewest_137 (lv_at hl 2 rfl) ?_
                                refine ro_Vi (post := (gFo gs b (soS mv (nI kk) k))) (As := [.int (nI b), .int (soS mv (nI kk) k)]) (rest := []) ⟨hx, hb, hml, hown, hts⟩ (c_X5_fellOf l D z c (gFi gs, gFs gs, gT gs, gKd gs, gTi gs, gNd gs, gMs gs, gBy gs, gB gs, gCg gs, gVe gs, gAs gs, gMv gs, gPm gs, gPk gs, gPt gs, gPp gs, gPs gs, mv) b (soS mv (nI kk) k) (by omega) (by omega)) (cwV 2 hts gX5_fewest_X5_fellOf rfl rfl rfl (by decide +kernel) ⟨Nat.le_of_ble_eq_true rfl, Nat.le_of_ble_eq_true rfl⟩) hP hK (va_recv hK.1 hP (ci := 5) (q0 := 0) rfl rfl) rfl hl.1 rfl (Nat.le_of_ble_eq_true rfl) dX5_fewest_139 ⟨Nat.le_of_ble_eq_true rfl, Nat.le_of_ble_eq_true rfl⟩ ?_
                                refine lv_if_eq (tgt := 149) hx hb dX5_fewest_142 (by decide) (fun c142 => ?_) (fun c142 => ?_)
                                · -- 142 True
                                  refine lv_iconst (v := 0) hx hb dX5_fewest_149 (by decide) ?_
                                  refine lv_istore (lv' := [(7, .int 0), (8, .int (nI b)), (6, .int (soS mv (nI kk) k)), (5, .int (nI kk)), (4, .int be), (3, .int (nI k)), (2, .int (gEv gs)), (1, .int (gCo gs)), (0, .ref (z 0))]) hx hb dX5_fewest_150 hl (by decide) rfl (fun ls hl => ?_)
                                  refine lv_iinc (v := nI (b + 1)) (lv' := [(8, .int (nI (b + 1))), (7, .int 0), (6, .int (soS mv (nI kk) k)), (5, .int (nI kk)), (4, .int be), (3, .int (nI k)), (2, .int (gEv gs)), (1, .int (gCo gs)), (0, .ref (z 0))]) hx hb dX5_fewest_152 hl (k := 1) rfl (nI_inc _) (by decide) rfl (fun ls hl => ?_)
                                  refine lv_goto (tgt := 110) hx hb dX5_fewest_155 (by decide) ?_
                                  exact ih110 (b + 1) false (by omega) (by omega) (by show _ = (shB gs (soS mv (nI kk) k) b && (decide (gFo gs b (gCo gs) = 0) || !decide (gFo gs b (soS mv (nI kk) k) = 0))); rw [← hs_, c121]; simp [c131, eq_true c142]) _ _ hP hD hS ls (lv_sub hl [0, 1, 2, 3, 4, 5, 6, 7, 8] rfl)
                                · -- 142 False
                                  refine lv_iconst (v := 1) hx hb dX5_fewest_145 (by decide) ?_
                                  refine lv_goto (tgt := 150) hx hb dX5_fewest_146 (by decide) ?_
                                  refine lv_istore (lv' := [(7, .int 1), (8, .int (nI b)), (6, .int (soS mv (nI kk) k)), (5, .int (nI kk)), (4, .int be), (3, .int (nI k)), (2, .int (gEv gs)), (1, .int (gCo gs)), (0, .ref (z 0))]) hx hb dX5_fewest_150 hl (by decide) rfl (fun ls hl => ?_)
                                  refine lv_iinc (v := nI (b + 1)) (lv' := [(8, .int (nI (b + 1))), (7, .int 1), (6, .int (soS mv (nI kk) k)), (5, .int (nI kk)), (4, .int be), (3, .int (nI k)), (2, .int (gEv gs)), (1, .int (gCo gs)), (0, .ref (z 0))]) hx hb dX5_fewest_152 hl (k := 1) rfl (nI_inc _) (by decide) rfl (fun ls hl => ?_)
                                  refine lv_goto (tgt := 110) hx hb dX5_fewest_155 (by decide) ?_
                                  exact ih110 (b + 1) true (by omega) (by omega) (by show _ = (shB gs (soS mv (nI kk) k) b && (decide (gFo gs b (gCo gs) = 0) || !decide (gFo gs b (soS mv (nI kk) k) = 0))); rw [← hs_, c121]; simp [c131, c142]) _ _ hP hD hS ls (lv_sub hl [0, 1, 2, 3, 4, 5, 6, 7, 8] rfl)
                      exact L110 (gB gs + 1) 0 true (by omega) (by omega) (rfl) _ _ hP hD hS ls (lv_sub hl [0, 1, 2, 3, 4, 5, 6, 7, 8] rfl)
                exact L87 (2 ^ k + 1) 0 (gEv gs) (Nat.zero_le _) (by omega) (rfl) _ _ hP hD hS ls (lv_sub hl [0, 1, 2, 3, 4, 5] rfl)
              · -- 75 False
                have c75 : 12 < k := (Nat.not_le.mp (fun z => c75 ((nI_leI (a := k) (b := 12) (by omega) (by omega)).mpr z)))
                refine lv_bipush (v := (-6)) hx hb dX5_fewest_78 (by decide) ?_
                have e9 : gFewest gs = ((-6), (gFi gs, gFs gs, gT gs, gKd gs, gTi gs, gNd gs, gMs gs, gBy gs, gB gs, gCg gs, gVe gs, gAs gs, gMv gs, gPm gs, gPk gs, gPt gs, gPp gs, gPs gs, mv)) := by rw [gFewest, hfT, if_pos (by omega)]
                rw [e9]
                exact mu_reti hx hb hr hlk hP hD hS (rfl) dX5_fewest_80
            · -- 43 False
              have c43 : i < (gT gs) := (Nat.not_le.mp (fun z => c43 ((nI_leI (a := (gT gs)) (b := i) (by omega) (by omega)).mpr z)))
              refine lv_iload_n hx hb dX5_fewest_46 rfl (lv_at hl 2 rfl) ?_
              refine lv_iload hx hb dX5_fewest_47 (lv_at hl 0 rfl) ?_
              refine ro_Si (As := [.int (gEv gs), .int (nI i)]) (rest := []) ⟨hx, hb, hml, hown, hts⟩ (c_X5_has l D c (gEv gs) i (by omega)) (va_cwS 2 hts gX5_fewest_X5_has rfl rfl rfl (by decide +kernel) ⟨Nat.le_of_ble_eq_true rfl, Nat.le_of_ble_eq_true rfl⟩) va_P0 hK rfl hl.1 rfl (Nat.le_of_ble_eq_true rfl) dX5_fewest_49 ⟨Nat.le_of_ble_eq_true rfl, Nat.le_of_ble_eq_true rfl⟩ ?_
              refine lv_if_eq (tgt := 66) hx hb dX5_fewest_52 (by decide) (fun c52 => ?_) (fun c52 => ?_)
              · -- 52 True
                have c52 := bI_z.mp c52
                refine lv_iinc (v := nI (i + 1)) (lv' := [(4, .int (nI (i + 1))), (3, .int (nI k)), (2, .int (gEv gs)), (1, .int (gCo gs)), (0, .ref (z 0))]) hx hb dX5_fewest_66 hl (k := 0) rfl (nI_inc _) (by decide) rfl (fun ls hl => ?_)
                refine lv_goto (tgt := 37) hx hb dX5_fewest_69 (by decide) ?_
                exact ih37 (i + 1) mv k (by omega) (by omega) (by omega) (by rw [pkF, if_neg (by rw [c52]; decide)]; exact hf) _ _ hP hD hS ls (lv_sub hl [0, 1, 2, 3, 4] rfl)
              · -- 52 False
                have c52 := bI_nz.mp c52
                refine lv_aload_n hx hb dX5_fewest_55 rfl (lv_at hl 4 rfl) ?_
                refine va_get (D := D) (ci := 5) (v := .ref (z 11)) (C := RX5) (T := TX5) (N := 19) hx hb hts hin5 hown hK.1 hP 0 rfl rfl 18 (by decide) (hts (.fieldLink RX5 46 "TestPickerModel" "may" "[I") (by decide +kernel)) (fun _ h9 => h9) rfl dX5_fewest_56 ?_
                refine lv_iload_n hx hb dX5_fewest_59 rfl (lv_at hl 1 rfl) ?_
                refine lv_iload hx hb dX5_fewest_60 (lv_at hl 0 rfl) ?_
                refine st_i hx hb hK hP hD hS 11 rfl (i := k) (by omega) (by decide) dX5_fewest_62 (fun H locs hP hD hS => ?_)
                have hP : va_P D vwCl (wG z c (gFi gs, gFs gs, gT gs, gKd gs, gTi gs, gNd gs, gMs gs, gBy gs, gB gs, gCg gs, gVe gs, gAs gs, gMv gs, gPm gs, gPk gs, gPt gs, gPp gs, gPs gs, (upd mv k (nI i)))) H := hP
                have hD : va_D (va_A (wG z c gs) s.heap.size) (wG z c (gFi gs, gFs gs, gT gs, gKd gs, gTi gs, gNd gs, gMs gs, gBy gs, gB gs, gCg gs, gVe gs, gAs gs, gMv gs, gPm gs, gPk gs, gPt gs, gPp gs, gPs gs, (upd mv k (nI i)))) := hD
                refine lv_iinc (v := nI (k + 1)) (lv' := [(3, .int (nI (k + 1))), (4, .int (nI i)), (2, .int (gEv gs)), (1, .int (gCo gs)), (0, .ref (z 0))]) hx hb dX5_fewest_63 hl (k := 1) rfl (nI_inc _) (by decide) rfl (fun ls hl => ?_)
                refine lv_iinc (v := nI (i + 1)) (lv' := [(4, .int (nI (i + 1))), (3, .int (nI (k + 1))), (2, .int (gEv gs)), (1, .int (gCo gs)), (0, .ref (z 0))]) hx hb dX5_fewest_66 hl (k := 1) rfl (nI_inc _) (by decide) rfl (fun ls hl => ?_)
                refine lv_goto (tgt := 37) hx hb dX5_fewest_69 (by decide) ?_
                exact ih37 (i + 1) (upd mv k (nI i)) (k + 1) (by omega) (by omega) (by omega) (by rw [pkF, if_pos c52, hf]) _ _ hP hD hS ls (lv_sub hl [0, 1, 2, 3, 4] rfl)
        exact L37 (gT gs + 1) 0 (gMay gs) 0 (by omega) (by omega) (by omega) (rfl) _ _ hP hD hS ls (lv_sub hl [0, 1, 2, 3, 4] rfl)
      · -- 14 False
        have c14 : b < (gB gs) := (Nat.not_le.mp (fun z => c14 ((nI_leI (a := (gB gs)) (b := b) (by omega) (by omega)).mpr z)))
        refine lv_iload_n hx hb dX5_fewest_17 rfl (lv_at hl 1 rfl) ?_
        refine lv_aload_n hx hb dX5_fewest_18 rfl (lv_at hl 3 rfl) ?_
        refine lv_iload_n hx hb dX5_fewest_19 rfl (lv_at hl 0 rfl) ?_
        refine lv_iload_n hx hb dX5_fewest_20 rfl (lv_at hl 2 rfl) ?_
        refine ro_Vi (post := (gFo gs b (gCo gs))) (As := [.int (nI b), .int (gCo gs)]) (rest := [.int ev]) ⟨hx, hb, hml, hown, hts⟩ (c_X5_fellOf l D z c gs b (gCo gs) (by omega) (by omega)) (cwV 2 hts gX5_fewest_X5_fellOf rfl rfl rfl (by decide +kernel) ⟨Nat.le_of_ble_eq_true rfl, Nat.le_of_ble_eq_true rfl⟩) hP hK (va_recv hK.1 hP (ci := 5) (q0 := 0) rfl rfl) rfl hl.1 rfl (Nat.le_of_ble_eq_true rfl) dX5_fewest_21 ⟨Nat.le_of_ble_eq_true rfl, Nat.le_of_ble_eq_true rfl⟩ ?_
        refine lv_ior hx hb dX5_fewest_24 ?_
        refine lv_istore_n (lv' := [(2, .int (ev ||| (gFo gs b (gCo gs)))), (3, .int (nI b)), (1, .int (gCo gs)), (0, .ref (z 0))]) hx hb dX5_fewest_25 rfl hl (by decide) rfl (fun ls hl => ?_)
        refine lv_iinc (v := nI (b + 1)) (lv' := [(3, .int (nI (b + 1))), (2, .int (ev ||| (gFo gs b (gCo gs)))), (1, .int (gCo gs)), (0, .ref (z 0))]) hx hb dX5_fewest_26 hl (k := 1) rfl (nI_inc _) (by decide) rfl (fun ls hl => ?_)
        refine lv_goto (tgt := 9) hx hb dX5_fewest_29 (by decide) ?_
        exact ih9 (b + 1) (ev ||| (gFo gs b (gCo gs))) (by omega) (by omega) (by rw [he]; rfl) _ _ hP hD hS ls (lv_sub hl [0, 1, 2, 3] rfl)
  exact L9 (gB gs + 1) 0 0 (by omega) (by omega) (rfl) _ _ hP hD hS ls (lv_sub hl [0, 1, 2, 3] rfl)
