theorem dx_m {gs : GS} {t j : Nat} {a a2 a3 : Int64} (h1 : a = dgX gs t) (h2 : a2 = dgF (fun w => gTl gs t (nI w)) a 7) (h3 : a3 = dgF (fun i => gBy gs (5 * t + i)) (31 * a2 - 1) j) (hm : j = 0 ∨ gMs gs t = 0) (c : ¬ gMs gs t = 0) (_ : 0 ≤ j) : a3 = dgX gs (t + 1) := by
  rcases hm with rfl | h
  · rw [h3, dgX, ← h1, dgU, if_neg c, ← h2]; rfl
  · exact absurd h c
theorem dx_p {gs : GS} {t j : Nat} {a a2 a3 : Int64} (h1 : a = dgX gs t) (h2 : a2 = dgF (fun w => gTl gs t (nI w)) a 7) (h3 : a3 = dgF (fun i => gBy gs (5 * t + i)) a2 j) (_ : j = 0 ∨ gMs gs t = 0) (c : gMs gs t = 0) (h5 : j = 5) : a3 = dgX gs (t + 1) := by
  rw [h3, dgX, ← h1, dgU, if_pos c, ← h2, h5]
set_option maxHeartbeats 4000000 in
set_option maxRecDepth 100000 in
theorem c_X5_suspects (l : Launch) (D : va_G) (z : Nat → Nat) (c : CT) (gs : GS)  (hT : gT gs ≤ 20) (hB60 : gB gs ≤ 60) : MUi l yX5_suspects wsX5_suspects ({ frames := 2, cells := 0, slots := 0, locals := 52 } : Room) [.ref (z 0)] D c (wG z c gs) (wG z c (gSuspects gs).2) ((gSuspects gs).1) := by
  refine mu_start (cc := cX5_suspects) (maxL := 7) (ret := some .int) (by decide) rfl (Nat.le_of_ble_eq_true rfl) ?_
  intro p e s m args below meth c0 ls hx hb hr hml hown hts hlk hnm hP hK hD hS hA hl
  have hown : s.vm.findClass RX5 = some m.cls := hown
  have hl : lv_has ls 7 [(0, .ref (z 0))] := hl
  have hin5 : ∀ w ∈ wsX50, w ∈ wsX5_suspects := by decide +kernel
  refine lv_aload_n hx hb dX5_suspects_0 rfl (lv_at hl 0 rfl) ?_
  refine va_get (D := D) (ci := 5) (v := .int (nI (gB gs))) (C := RX5) (T := TX5) (N := 19) hx hb hts hin5 hown hK.1 hP 0 rfl rfl 8 (by decide) (hts (.fieldLink RX5 59 "TestPickerModel" "builds" "I") (by decide +kernel)) (fun _ h9 => h9) rfl dX5_suspects_1 ?_
  refine lv_if_ne (tgt := 10) hx hb dX5_suspects_4 (by decide) (fun c4 => ?_) (fun c4 => ?_)
  · -- 4 True
    have c4 : ¬ (gB gs) = 0 := fun z => c4 ((nI_eq (b := 0) (by omega) (by omega)).mpr z)
    refine lv_lconst (v := 0) hx hb dX5_suspects_10 (by decide) ?_
    refine lv_lstore_n (lv' := [(1, .long 0), (0, .ref (z 0))]) hx hb dX5_suspects_11 rfl hl (by decide) rfl (fun ls hl => ?_)
    refine lv_lconst (v := 0) hx hb dX5_suspects_12 (by decide) ?_
    refine lv_lstore_n (lv' := [(3, .long 0), (1, .long 0), (0, .ref (z 0))]) hx hb dX5_suspects_13 rfl hl (by decide) rfl (fun ls hl => ?_)
    refine lv_iconst (v := 0) hx hb dX5_suspects_14 (by decide) ?_
    refine lv_istore (lv' := [(5, .int 0), (3, .long 0), (1, .long 0), (0, .ref (z 0))]) hx hb dX5_suspects_15 hl (by decide) rfl (fun ls hl => ?_)
    have L17 : ∀ (n : Nat) (i : Nat) (ac : Int64) (cl : Int64), (i ≤ gT gs) → (gT gs < i + n) → (ac = gAc gs i) → (cl = gCl gs i) → ∀ (H : Heap) (locs : List Loc), va_P D vwCl (wG z c gs) H → va_D (va_A (wG z c gs) s.heap.size) (wG z c gs) → va_S (va_A (wG z c gs) s.heap.size) s.heap H locs → ∀ ls : Array Slot, lv_has ls 7 [(5, .int (nI i)), (3, .long cl), (1, .long ac), (0, .ref (z 0))] → W p l e ({ frames := 2, cells := 0, slots := 0, locals := 52 } : Room) s m args below meth c0 H locs 0 0 (QMi below args s D c (wG z c gs) (wG z c (gSuspects gs).2) ((gSuspects gs).1)) (F0 m 17 ls []) := by
      intro n
      induction n with
      | zero => intro i ac cl hi hn h1 h2 H locs hP hD hS ls hl; exact absurd hn (by omega)
      | succ n ih17 =>
        intro i ac cl hi hn h1 h2 H locs hP hD hS ls hl
        refine lv_iload hx hb dX5_suspects_17 (lv_at hl 0 rfl) ?_
        refine lv_aload_n hx hb dX5_suspects_19 rfl (lv_at hl 3 rfl) ?_
        refine va_get (D := D) (ci := 5) (v := .int (nI (gT gs))) (C := RX5) (T := TX5) (N := 19) hx hb hts hin5 hown hK.1 hP 0 rfl rfl 2 (by decide) (hts (.fieldLink RX5 52 "TestPickerModel" "tests" "I") (by decide +kernel)) (fun _ h9 => h9) rfl dX5_suspects_20 ?_
        refine lv_icmp_ge (tgt := 97) hx hb dX5_suspects_23 (by decide) (fun c23 => ?_) (fun c23 => ?_)
        · -- 23 True
          have c23 : (gT gs) ≤ i := (nI_leI (a := (gT gs)) (b := i) (by omega) (by omega)).mp c23
          refine lv_aload_n hx hb dX5_suspects_97 rfl (lv_at hl 3 rfl) ?_
          refine lv_aload_n hx hb dX5_suspects_98 rfl (lv_at hl 3 rfl) ?_
          refine va_get (D := D) (ci := 5) (v := .ref (z 7)) (C := RX5) (T := TX5) (N := 19) hx hb hts hin5 hown hK.1 hP 0 rfl rfl 9 (by decide) (hts (.fieldLink RX5 29 "TestPickerModel" "changes" "[J") (by decide +kernel)) (fun _ h9 => h9) rfl dX5_suspects_99 ?_
          refine lv_aload_n hx hb dX5_suspects_102 rfl (lv_at hl 3 rfl) ?_
          refine va_get (D := D) (ci := 5) (v := .int (nI (gB gs))) (C := RX5) (T := TX5) (N := 19) hx hb hts hin5 hown hK.1 hP 0 rfl rfl 8 (by decide) (hts (.fieldLink RX5 59 "TestPickerModel" "builds" "I") (by decide +kernel)) (fun _ h9 => h9) rfl dX5_suspects_103 ?_
          refine lv_iconst (v := 1) hx hb dX5_suspects_106 (by decide) ?_
          refine lv_isub hx hb dX5_suspects_107 ?_
          refine tp_i (z := nI (gB gs - 1)) (pred1 (by omega)) ?_
          refine ld_l hx hb hK hP 7 (f := gCg gs) rfl (i := (gB gs - 1)) (by omega) (by decide) dX5_suspects_108 ?_
          refine lv_lload_n hx hb dX5_suspects_109 rfl (lv_at hl 2 rfl) ?_
          refine lv_land hx hb dX5_suspects_110 ?_
          refine lv_lload_n hx hb dX5_suspects_111 rfl (lv_at hl 1 rfl) ?_
          refine lv_ldc2 (own := RX5) (v := (-1)) hx hb hown (hts (.constantLong RX5 122 (-1)) (by decide +kernel)) dX5_suspects_112 ?_
          refine lv_lxor hx hb dX5_suspects_115 ?_
          refine lv_land hx hb dX5_suspects_116 ?_
          refine va_put (D := D) (ci := 5) (v := .long (((gCg gs (gB gs - 1)) &&& ac) &&& (cl ^^^ (-1)))) (ty := .long) (C := RX5) (T := TX5) (N := 19) hx hb hts hin5 tyX5 tyX5_ok nmX5 hown hK.1 hP hD hS 0 rfl rfl 11 (by decide) (hts (.fieldLink RX5 108 "TestPickerModel" "asked" "J") (by decide +kernel)) (fun _ h9 => h9) rfl (by decide +kernel) rfl rfl (Nat.le_of_ble_eq_true rfl) dX5_suspects_117 (fun H locs hP hD hS => ?_)
          have hP : va_P D vwCl (wG z c (gFi gs, gFs gs, gT gs, gKd gs, gTi gs, gNd gs, gMs gs, gBy gs, gB gs, gCg gs, gVe gs, (((gCg gs (gB gs - 1)) &&& ac) &&& (cl ^^^ (-1))), gMv gs, gPm gs, gPk gs, gPt gs, gPp gs, gPs gs, gMay gs)) H := hP
          have hD : va_D (va_A (wG z c gs) s.heap.size) (wG z c (gFi gs, gFs gs, gT gs, gKd gs, gTi gs, gNd gs, gMs gs, gBy gs, gB gs, gCg gs, gVe gs, (((gCg gs (gB gs - 1)) &&& ac) &&& (cl ^^^ (-1))), gMv gs, gPm gs, gPk gs, gPt gs, gPp gs, gPs gs, gMay gs)) := hD
          refine lv_aload_n hx hb dX5_suspects_120 rfl (lv_at hl 3 rfl) ?_
          refine va_get (D := D) (ci := 5) (v := .long (((gCg gs (gB gs - 1)) &&& ac) &&& (cl ^^^ (-1)))) (C := RX5) (T := TX5) (N := 19) hx hb hts hin5 hown hK.1 hP 0 rfl rfl 11 (by decide) (hts (.fieldLink RX5 108 "TestPickerModel" "asked" "J") (by decide +kernel)) (fun _ h9 => h9) rfl dX5_suspects_121 ?_
          refine ro_Si (As := [.long (((gCg gs (gB gs - 1)) &&& ac) &&& (cl ^^^ (-1)))]) (rest := []) ⟨hx, hb, hml, hown, hts⟩ (c_X5_bits l D c (((gCg gs (gB gs - 1)) &&& ac) &&& (cl ^^^ (-1)))) (va_cwS 1 hts gX5_suspects_X5_bits rfl rfl rfl (by decide +kernel) ⟨Nat.le_of_ble_eq_true rfl, Nat.le_of_ble_eq_true rfl⟩) va_P0 hK rfl hl.1 rfl (Nat.le_of_ble_eq_true rfl) dX5_suspects_124 ⟨Nat.le_of_ble_eq_true rfl, Nat.le_of_ble_eq_true rfl⟩ ?_
          have hie : i = gT gs := by omega
          subst h1
          subst h2
          subst hie
          have e9 : gSuspects gs = ((bitsN (((gCg gs (gB gs - 1)) &&& (gAc gs (gT gs))) &&& ((gCl gs (gT gs)) ^^^ (-1))) 40), (gFi gs, gFs gs, gT gs, gKd gs, gTi gs, gNd gs, gMs gs, gBy gs, gB gs, gCg gs, gVe gs, (gSus gs), gMv gs, gPm gs, gPk gs, gPt gs, gPp gs, gPs gs, gMay gs)) := by rw [gSuspects, if_neg c4]
          rw [e9]
          exact mu_reti hx hb hr hlk hP hD hS (rfl) dX5_suspects_127
        · -- 23 False
          have c23 : i < (gT gs) := (Nat.not_le.mp (fun z => c23 ((nI_leI (a := (gT gs)) (b := i) (by omega) (by omega)).mpr z)))
          refine lv_aload_n hx hb dX5_suspects_26 rfl (lv_at hl 3 rfl) ?_
          refine va_get (D := D) (ci := 5) (v := .ref (z 8)) (C := RX5) (T := TX5) (N := 19) hx hb hts hin5 hown hK.1 hP 0 rfl rfl 10 (by decide) (hts (.fieldLink RX5 33 "TestPickerModel" "verdicts" "[I") (by decide +kernel)) (fun _ h9 => h9) rfl dX5_suspects_27 ?_
          refine lv_bipush (v := 20) hx hb dX5_suspects_30 (by decide) ?_
          refine lv_aload_n hx hb dX5_suspects_32 rfl (lv_at hl 3 rfl) ?_
          refine va_get (D := D) (ci := 5) (v := .int (nI (gB gs))) (C := RX5) (T := TX5) (N := 19) hx hb hts hin5 hown hK.1 hP 0 rfl rfl 8 (by decide) (hts (.fieldLink RX5 59 "TestPickerModel" "builds" "I") (by decide +kernel)) (fun _ h9 => h9) rfl dX5_suspects_33 ?_
          refine lv_iconst (v := 1) hx hb dX5_suspects_36 (by decide) ?_
          refine lv_isub hx hb dX5_suspects_37 ?_
          refine tp_i (z := nI (gB gs - 1)) (pred1 (by omega)) ?_
          refine lv_imul hx hb dX5_suspects_38 ?_
          refine lv_iload hx hb dX5_suspects_39 (lv_at hl 0 rfl) ?_
          refine lv_iadd hx hb dX5_suspects_41 ?_
          refine tp_i (z := nI (20 * (gB gs - 1) + i)) (ix20 _ _) ?_
          refine ld_i hx hb hK hP 8 (f := gVe gs) rfl (i := (20 * (gB gs - 1) + i)) (by omega) (by decide) dX5_suspects_42 ?_
          refine lv_istore (lv' := [(6, .int (gVe gs (20 * (gB gs - 1) + i))), (5, .int (nI i)), (3, .long cl), (1, .long ac), (0, .ref (z 0))]) hx hb dX5_suspects_43 hl (by decide) rfl (fun ls hl => ?_)
          refine lv_lload_n hx hb dX5_suspects_45 rfl (lv_at hl 3 rfl) ?_
          refine lv_iload hx hb dX5_suspects_46 (lv_at hl 0 rfl) ?_
          refine lv_iconst (v := 1) hx hb dX5_suspects_48 (by decide) ?_
          refine lv_icmp_ne (tgt := 70) hx hb dX5_suspects_49 (by decide) (fun c49 => ?_) (fun c49 => ?_)
          · -- 49 True
            refine lv_lconst (v := 0) hx hb dX5_suspects_70 (by decide) ?_
            refine lv_lor hx hb dX5_suspects_71 ?_
            refine lv_lstore_n (lv' := [(1, .long (ac ||| 0)), (6, .int (gVe gs (20 * (gB gs - 1) + i))), (5, .int (nI i)), (3, .long cl), (0, .ref (z 0))]) hx hb dX5_suspects_72 rfl hl (by decide) rfl (fun ls hl => ?_)
            refine lv_lload_n hx hb dX5_suspects_73 rfl (lv_at hl 3 rfl) ?_
            refine lv_iload hx hb dX5_suspects_74 (lv_at hl 1 rfl) ?_
            refine lv_if_ne (tgt := 88) hx hb dX5_suspects_76 (by decide) (fun c76 => ?_) (fun c76 => ?_)
            · -- 76 True
              refine lv_lconst (v := 0) hx hb dX5_suspects_88 (by decide) ?_
              refine lv_lor hx hb dX5_suspects_89 ?_
              refine lv_lstore_n (lv' := [(3, .long (cl ||| 0)), (1, .long (ac ||| 0)), (6, .int (gVe gs (20 * (gB gs - 1) + i))), (5, .int (nI i)), (0, .ref (z 0))]) hx hb dX5_suspects_90 rfl hl (by decide) rfl (fun ls hl => ?_)
              refine lv_iinc (v := nI (i + 1)) (lv' := [(5, .int (nI (i + 1))), (3, .long (cl ||| 0)), (1, .long (ac ||| 0)), (6, .int (gVe gs (20 * (gB gs - 1) + i))), (0, .ref (z 0))]) hx hb dX5_suspects_91 hl (k := 3) rfl (nI_inc _) (by decide) rfl (fun ls hl => ?_)
              refine lv_goto (tgt := 17) hx hb dX5_suspects_94 (by decide) ?_
              exact ih17 (i + 1) (ac ||| 0) (cl ||| 0) (by omega) (by omega) (by rw [h1]; simp [orL, lOr0, c49]) (by rw [h2]; simp [orL, lOr0, c76]) _ _ hP hD hS ls (lv_sub hl [0, 1, 2, 4] rfl)
            · -- 76 False
              refine lv_aload_n hx hb dX5_suspects_79 rfl (lv_at hl 4 rfl) ?_
              refine lv_iload hx hb dX5_suspects_80 (lv_at hl 2 rfl) ?_
              refine ro_Vl (post := (gRe gs i)) (As := [.int (nI i)]) (rest := [.long cl]) ⟨hx, hb, hml, hown, hts⟩ (c_X5_reachOf l D z c gs i (by omega)) (cwV 1 hts gX5_suspects_X5_reachOf rfl rfl rfl (by decide +kernel) ⟨Nat.le_of_ble_eq_true rfl, Nat.le_of_ble_eq_true rfl⟩) hP hK (va_recv hK.1 hP (ci := 5) (q0 := 0) rfl rfl) rfl hl.1 rfl (Nat.le_of_ble_eq_true rfl) dX5_suspects_82 ⟨Nat.le_of_ble_eq_true rfl, Nat.le_of_ble_eq_true rfl⟩ ?_
              refine lv_goto (tgt := 89) hx hb dX5_suspects_85 (by decide) ?_
              refine lv_lor hx hb dX5_suspects_89 ?_
              refine lv_lstore_n (lv' := [(3, .long (cl ||| (gRe gs i))), (1, .long (ac ||| 0)), (6, .int (gVe gs (20 * (gB gs - 1) + i))), (5, .int (nI i)), (0, .ref (z 0))]) hx hb dX5_suspects_90 rfl hl (by decide) rfl (fun ls hl => ?_)
              refine lv_iinc (v := nI (i + 1)) (lv' := [(5, .int (nI (i + 1))), (3, .long (cl ||| (gRe gs i))), (1, .long (ac ||| 0)), (6, .int (gVe gs (20 * (gB gs - 1) + i))), (0, .ref (z 0))]) hx hb dX5_suspects_91 hl (k := 3) rfl (nI_inc _) (by decide) rfl (fun ls hl => ?_)
              refine lv_goto (tgt := 17) hx hb dX5_suspects_94 (by decide) ?_
              exact ih17 (i + 1) (ac ||| 0) (cl ||| (gRe gs i)) (by omega) (by omega) (by rw [h1]; simp [orL, lOr0, c49]) (by rw [h2]; simp [orL, lOr0, eq_true c76]) _ _ hP hD hS ls (lv_sub hl [0, 1, 2, 4] rfl)
          · -- 49 False
            refine lv_aload_n hx hb dX5_suspects_52 rfl (lv_at hl 4 rfl) ?_
            refine lv_iload hx hb dX5_suspects_53 (lv_at hl 1 rfl) ?_
            refine ro_Vi (post := bI (gFk gs i)) (As := [.int (nI i)]) (rest := [.long ac]) ⟨hx, hb, hml, hown, hts⟩ (c_X5_isFlaky l D z c gs i (by omega) (by omega)) (cwV 1 hts gX5_suspects_X5_isFlaky rfl rfl rfl (by decide +kernel) ⟨Nat.le_of_ble_eq_true rfl, Nat.le_of_ble_eq_true rfl⟩) hP hK (va_recv hK.1 hP (ci := 5) (q0 := 0) rfl rfl) rfl hl.1 rfl (Nat.le_of_ble_eq_true rfl) dX5_suspects_55 ⟨Nat.le_of_ble_eq_true rfl, Nat.le_of_ble_eq_true rfl⟩ ?_
            refine lv_if_ne (tgt := 70) hx hb dX5_suspects_58 (by decide) (fun c58 => ?_) (fun c58 => ?_)
            · -- 58 True
              have c58 := bI_nz.mp c58
              refine lv_lconst (v := 0) hx hb dX5_suspects_70 (by decide) ?_
              refine lv_lor hx hb dX5_suspects_71 ?_
              refine lv_lstore_n (lv' := [(1, .long (ac ||| 0)), (6, .int (gVe gs (20 * (gB gs - 1) + i))), (5, .int (nI i)), (3, .long cl), (0, .ref (z 0))]) hx hb dX5_suspects_72 rfl hl (by decide) rfl (fun ls hl => ?_)
              refine lv_lload_n hx hb dX5_suspects_73 rfl (lv_at hl 3 rfl) ?_
              refine lv_iload hx hb dX5_suspects_74 (lv_at hl 1 rfl) ?_
              refine lv_if_ne (tgt := 88) hx hb dX5_suspects_76 (by decide) (fun c76 => ?_) (fun c76 => ?_)
              · -- 76 True
                refine lv_lconst (v := 0) hx hb dX5_suspects_88 (by decide) ?_
                refine lv_lor hx hb dX5_suspects_89 ?_
                refine lv_lstore_n (lv' := [(3, .long (cl ||| 0)), (1, .long (ac ||| 0)), (6, .int (gVe gs (20 * (gB gs - 1) + i))), (5, .int (nI i)), (0, .ref (z 0))]) hx hb dX5_suspects_90 rfl hl (by decide) rfl (fun ls hl => ?_)
                refine lv_iinc (v := nI (i + 1)) (lv' := [(5, .int (nI (i + 1))), (3, .long (cl ||| 0)), (1, .long (ac ||| 0)), (6, .int (gVe gs (20 * (gB gs - 1) + i))), (0, .ref (z 0))]) hx hb dX5_suspects_91 hl (k := 3) rfl (nI_inc _) (by decide) rfl (fun ls hl => ?_)
                refine lv_goto (tgt := 17) hx hb dX5_suspects_94 (by decide) ?_
                exact ih17 (i + 1) (ac ||| 0) (cl ||| 0) (by omega) (by omega) (by rw [h1]; simp [orL, lOr0, eq_true c49, c58]) (by rw [h2]; simp [orL, lOr0, c76]) _ _ hP hD hS ls (lv_sub hl [0, 1, 2, 4] rfl)
              · -- 76 False
                refine lv_aload_n hx hb dX5_suspects_79 rfl (lv_at hl 4 rfl) ?_
                refine lv_iload hx hb dX5_suspects_80 (lv_at hl 2 rfl) ?_
                refine ro_Vl (post := (gRe gs i)) (As := [.int (nI i)]) (rest := [.long cl]) ⟨hx, hb, hml, hown, hts⟩ (c_X5_reachOf l D z c gs i (by omega)) (cwV 1 hts gX5_suspects_X5_reachOf rfl rfl rfl (by decide +kernel) ⟨Nat.le_of_ble_eq_true rfl, Nat.le_of_ble_eq_true rfl⟩) hP hK (va_recv hK.1 hP (ci := 5) (q0 := 0) rfl rfl) rfl hl.1 rfl (Nat.le_of_ble_eq_true rfl) dX5_suspects_82 ⟨Nat.le_of_ble_eq_true rfl, Nat.le_of_ble_eq_true rfl⟩ ?_
                refine lv_goto (tgt := 89) hx hb dX5_suspects_85 (by decide) ?_
                refine lv_lor hx hb dX5_suspects_89 ?_
                refine lv_lstore_n (lv' := [(3, .long (cl ||| (gRe gs i))), (1, .long (ac ||| 0)), (6, .int (gVe gs (20 * (gB gs - 1) + i))), (5, .int (nI i)), (0, .ref (z 0))]) hx hb dX5_suspects_90 rfl hl (by decide) rfl (fun ls hl => ?_)
                refine lv_iinc (v := nI (i + 1)) (lv' := [(5, .int (nI (i + 1))), (3, .long (cl ||| (gRe gs i))), (1, .long (ac ||| 0)), (6, .int (gVe gs (20 * (gB gs - 1) + i))), (0, .ref (z 0))]) hx hb dX5_suspects_91 hl (k := 3) rfl (nI_inc _) (by decide) rfl (fun ls hl => ?_)
                refine lv_goto (tgt := 17) hx hb dX5_suspects_94 (by decide) ?_
                exact ih17 (i + 1) (ac ||| 0) (cl ||| (gRe gs i)) (by omega) (by omega) (by rw [h1]; simp [orL, lOr0, eq_true c49, c58]) (by rw [h2]; simp [orL, lOr0, eq_true c76]) _ _ hP hD hS ls (lv_sub hl [0, 1, 2, 4] rfl)
            · -- 58 False
              have c58 := bI_z.mp c58
              refine lv_aload_n hx hb dX5_suspects_61 rfl (lv_at hl 4 rfl) ?_
              refine lv_iload hx hb dX5_suspects_62 (lv_at hl 1 rfl) ?_
              refine ro_Vl (post := (gRe gs i)) (As := [.int (nI i)]) (rest := [.long ac]) ⟨hx, hb, hml, hown, hts⟩ (c_X5_reachOf l D z c gs i (by omega)) (cwV 1 hts gX5_suspects_X5_reachOf rfl rfl rfl (by decide +kernel) ⟨Nat.le_of_ble_eq_true rfl, Nat.le_of_ble_eq_true rfl⟩) hP hK (va_recv hK.1 hP (ci := 5) (q0 := 0) rfl rfl) rfl hl.1 rfl (Nat.le_of_ble_eq_true rfl) dX5_suspects_64 ⟨Nat.le_of_ble_eq_true rfl, Nat.le_of_ble_eq_true rfl⟩ ?_
              refine lv_goto (tgt := 71) hx hb dX5_suspects_67 (by decide) ?_
              refine lv_lor hx hb dX5_suspects_71 ?_
              refine lv_lstore_n (lv' := [(1, .long (ac ||| (gRe gs i))), (6, .int (gVe gs (20 * (gB gs - 1) + i))), (5, .int (nI i)), (3, .long cl), (0, .ref (z 0))]) hx hb dX5_suspects_72 rfl hl (by decide) rfl (fun ls hl => ?_)
              refine lv_lload_n hx hb dX5_suspects_73 rfl (lv_at hl 3 rfl) ?_
              refine lv_iload hx hb dX5_suspects_74 (lv_at hl 1 rfl) ?_
              refine lv_if_ne (tgt := 88) hx hb dX5_suspects_76 (by decide) (fun c76 => ?_) (fun c76 => ?_)
              · -- 76 True
                refine lv_lconst (v := 0) hx hb dX5_suspects_88 (by decide) ?_
                refine lv_lor hx hb dX5_suspects_89 ?_
                refine lv_lstore_n (lv' := [(3, .long (cl ||| 0)), (1, .long (ac ||| (gRe gs i))), (6, .int (gVe gs (20 * (gB gs - 1) + i))), (5, .int (nI i)), (0, .ref (z 0))]) hx hb dX5_suspects_90 rfl hl (by decide) rfl (fun ls hl => ?_)
                refine lv_iinc (v := nI (i + 1)) (lv' := [(5, .int (nI (i + 1))), (3, .long (cl ||| 0)), (1, .long (ac ||| (gRe gs i))), (6, .int (gVe gs (20 * (gB gs - 1) + i))), (0, .ref (z 0))]) hx hb dX5_suspects_91 hl (k := 3) rfl (nI_inc _) (by decide) rfl (fun ls hl => ?_)
                refine lv_goto (tgt := 17) hx hb dX5_suspects_94 (by decide) ?_
                exact ih17 (i + 1) (ac ||| (gRe gs i)) (cl ||| 0) (by omega) (by omega) (by rw [h1]; simp [orL, lOr0, eq_true c49, c58]) (by rw [h2]; simp [orL, lOr0, c76]) _ _ hP hD hS ls (lv_sub hl [0, 1, 2, 4] rfl)
              · -- 76 False
                refine lv_aload_n hx hb dX5_suspects_79 rfl (lv_at hl 4 rfl) ?_
                refine lv_iload hx hb dX5_suspects_80 (lv_at hl 2 rfl) ?_
                refine ro_Vl (post := (gRe gs i)) (As := [.int (nI i)]) (rest := [.long cl]) ⟨hx, hb, hml, hown, hts⟩ (c_X5_reachOf l D z c gs i (by omega)) (cwV 1 hts gX5_suspects_X5_reachOf rfl rfl rfl (by decide +kernel) ⟨Nat.le_of_ble_eq_true rfl, Nat.le_of_ble_eq_true rfl⟩) hP hK (va_recv hK.1 hP (ci := 5) (q0 := 0) rfl rfl) rfl hl.1 rfl (Nat.le_of_ble_eq_true rfl) dX5_suspects_82 ⟨Nat.le_of_ble_eq_true rfl, Nat.le_of_ble_eq_true rfl⟩ ?_
                refine lv_goto (tgt := 89) hx hb dX5_suspects_85 (by decide) ?_
                refine lv_lor hx hb dX5_suspects_89 ?_
                refine lv_lstore_n (lv' := [(3, .long (cl ||| (gRe gs i))), (1, .long (ac ||| (gRe gs i))), (6, .int (gVe gs (20 * (gB gs - 1) + i))), (5, .int (nI i)), (0, .ref (z 0))]) hx hb dX5_suspects_90 rfl hl (by decide) rfl (fun ls hl => ?_)
                refine lv_iinc (v := nI (i + 1)) (lv' := [(5, .int (nI (i + 1))), (3, .long (cl ||| (gRe gs i))), (1, .long (ac ||| (gRe gs i))), (6, .int (gVe gs (20 * (gB gs - 1) + i))), (0, .ref (z 0))]) hx hb dX5_suspects_91 hl (k := 3) rfl (nI_inc _) (by decide) rfl (fun ls hl => ?_)
                refine lv_goto (tgt := 17) hx hb dX5_suspects_94 (by decide) ?_
                exact ih17 (i + 1) (ac ||| (gRe gs i)) (cl ||| (gRe gs i)) (by omega) (by omega) (by rw [h1]; simp [orL, lOr0, eq_true c49, c58]) (by rw [h2]; simp [orL, lOr0, eq_true c76]) _ _ hP hD hS ls (lv_sub hl [0, 1, 2, 4] rfl)
    exact L17 (gT gs + 1) 0 0 0 (by omega) (by omega) (rfl) (rfl) _ _ hP hD hS ls (lv_sub hl [0, 1, 2, 3] rfl)
  · -- 4 False
    have c4 : (gB gs) = 0 := (nI_eq (b := 0) (by omega) (by omega)).mp c4
    refine lv_bipush (v := (-4)) hx hb dX5_suspects_7 (by decide) ?_
    have e9 : gSuspects gs = ((-4), gs) := by simp [gSuspects, eq_true c4]
    rw [e9]
    exact mu_reti hx hb hr hlk hP hD hS (rfl) dX5_suspects_9

set_option maxHeartbeats 4000000 in
set_option maxRecDepth 100000 in
theorem c_X5_badWork (l : Launch) (D : va_G) (z : Nat → Nat) (c : CT) (gs : GS)  (hT : gT gs ≤ 20) (hB60 : gB gs ≤ 60) : ROi l yX5_badWork wsX5_badWork ({ frames := 2, cells := 0, slots := 0, locals := 52 } : Room) [.ref (z 0)] D c (wG z c gs) (gBadWork gs) := by
  refine ro_starti (cc := cX5_badWork) (maxL := 3) (ret := some .int) (by decide) rfl (Nat.le_of_ble_eq_true rfl) ?_
  intro p e s m args below meth c0 ls hx hb hr hml hown hts hlk hP hK hl
  have hown : s.vm.findClass RX5 = some m.cls := hown
  have hl : lv_has ls 3 [(0, .ref (z 0))] := hl
  have hin5 : ∀ w ∈ wsX50, w ∈ wsX5_badWork := by decide +kernel
  refine lv_aload_n hx hb dX5_badWork_0 rfl (lv_at hl 0 rfl) ?_
  refine va_get (D := D) (ci := 5) (v := .int (nI (gB gs))) (C := RX5) (T := TX5) (N := 19) hx hb hts hin5 hown hK.1 hP 0 rfl rfl 8 (by decide) (hts (.fieldLink RX5 59 "TestPickerModel" "builds" "I") (by decide +kernel)) (fun _ h9 => h9) rfl dX5_badWork_1 ?_
  refine lv_if_ne (tgt := 10) hx hb dX5_badWork_4 (by decide) (fun c4 => ?_) (fun c4 => ?_)
  · -- 4 True
    have c4 : ¬ (gB gs) = 0 := fun z => c4 ((nI_eq (b := 0) (by omega) (by omega)).mpr z)
    refine lv_iconst (v := 0) hx hb dX5_badWork_10 (by decide) ?_
    refine lv_istore_n (lv' := [(1, .int 0), (0, .ref (z 0))]) hx hb dX5_badWork_11 rfl hl (by decide) rfl (fun ls hl => ?_)
    refine lv_iconst (v := 0) hx hb dX5_badWork_12 (by decide) ?_
    refine lv_istore_n (lv' := [(2, .int 0), (1, .int 0), (0, .ref (z 0))]) hx hb dX5_badWork_13 rfl hl (by decide) rfl (fun ls hl => ?_)
    have L14 : ∀ (n : Nat) (i : Nat) (a : Bool), (i ≤ gT gs) → (gT gs < i + n) → (a = anyB (fun t => decide (gVe gs (20 * (gB gs - 1) + t) = 1) && !gFk gs t) i) → ∀ ls : Array Slot, lv_has ls 3 [(2, .int (nI i)), (1, .int (bI a)), (0, .ref (z 0))] → W p l e ({ frames := 2, cells := 0, slots := 0, locals := 52 } : Room) s m args below meth c0 s.heap [] 0 0 (QRi below args s (gBadWork gs)) (F0 m 14 ls []) := by
      intro n
      induction n with
      | zero => intro i a hi hn h1 ls hl; exact absurd hn (by omega)
      | succ n ih14 =>
        intro i a hi hn h1 ls hl
        refine lv_iload_n hx hb dX5_badWork_14 rfl (lv_at hl 0 rfl) ?_
        refine lv_aload_n hx hb dX5_badWork_15 rfl (lv_at hl 2 rfl) ?_
        refine va_get (D := D) (ci := 5) (v := .int (nI (gT gs))) (C := RX5) (T := TX5) (N := 19) hx hb hts hin5 hown hK.1 hP 0 rfl rfl 2 (by decide) (hts (.fieldLink RX5 52 "TestPickerModel" "tests" "I") (by decide +kernel)) (fun _ h9 => h9) rfl dX5_badWork_16 ?_
        refine lv_icmp_ge (tgt := 66) hx hb dX5_badWork_19 (by decide) (fun c19 => ?_) (fun c19 => ?_)
        · -- 19 True
          have c19 : (gT gs) ≤ i := (nI_leI (a := (gT gs)) (b := i) (by omega) (by omega)).mp c19
          refine lv_iload_n hx hb dX5_badWork_66 rfl (lv_at hl 1 rfl) ?_
          refine lv_if_eq (tgt := 74) hx hb dX5_badWork_67 (by decide) (fun c67 => ?_) (fun c67 => ?_)
          · -- 67 True
            have c67 := bI_z.mp c67
            refine lv_iconst (v := 0) hx hb dX5_badWork_74 (by decide) ?_
            exact ro_reti hx hb hr hlk (by rw [gBadWork, if_neg c4, show gT gs = i by omega, ← h1]; simp [bI, c67]) dX5_badWork_75
          · -- 67 False
            have c67 := bI_nz.mp c67
            refine lv_iconst (v := 1) hx hb dX5_badWork_70 (by decide) ?_
            refine lv_goto (tgt := 75) hx hb dX5_badWork_71 (by decide) ?_
            exact ro_reti hx hb hr hlk (by rw [gBadWork, if_neg c4, show gT gs = i by omega, ← h1]; simp [bI, c67]) dX5_badWork_75
        · -- 19 False
          have c19 : i < (gT gs) := (Nat.not_le.mp (fun z => c19 ((nI_leI (a := (gT gs)) (b := i) (by omega) (by omega)).mpr z)))
          refine lv_iload_n hx hb dX5_badWork_22 rfl (lv_at hl 1 rfl) ?_
          refine lv_if_ne (tgt := 54) hx hb dX5_badWork_23 (by decide) (fun c23 => ?_) (fun c23 => ?_)
          · -- 23 True
            have c23 := bI_nz.mp c23
            refine lv_iconst (v := 1) hx hb dX5_badWork_54 (by decide) ?_
            refine lv_goto (tgt := 59) hx hb dX5_badWork_55 (by decide) ?_
            refine lv_istore_n (lv' := [(1, .int 1), (2, .int (nI i)), (0, .ref (z 0))]) hx hb dX5_badWork_59 rfl hl (by decide) rfl (fun ls hl => ?_)
            refine lv_iinc (v := nI (i + 1)) (lv' := [(2, .int (nI (i + 1))), (1, .int 1), (0, .ref (z 0))]) hx hb dX5_badWork_60 hl (k := 1) rfl (nI_inc _) (by decide) rfl (fun ls hl => ?_)
            refine lv_goto (tgt := 14) hx hb dX5_badWork_63 (by decide) ?_
            exact ih14 (i + 1) true (by omega) (by omega) (by rw [anyB, ← h1]; simp [c23]) ls (lv_sub hl [0, 1, 2] rfl)
          · -- 23 False
            have c23 := bI_z.mp c23
            refine lv_aload_n hx hb dX5_badWork_26 rfl (lv_at hl 2 rfl) ?_
            refine va_get (D := D) (ci := 5) (v := .ref (z 8)) (C := RX5) (T := TX5) (N := 19) hx hb hts hin5 hown hK.1 hP 0 rfl rfl 10 (by decide) (hts (.fieldLink RX5 33 "TestPickerModel" "verdicts" "[I") (by decide +kernel)) (fun _ h9 => h9) rfl dX5_badWork_27 ?_
            refine lv_bipush (v := 20) hx hb dX5_badWork_30 (by decide) ?_
            refine lv_aload_n hx hb dX5_badWork_32 rfl (lv_at hl 2 rfl) ?_
            refine va_get (D := D) (ci := 5) (v := .int (nI (gB gs))) (C := RX5) (T := TX5) (N := 19) hx hb hts hin5 hown hK.1 hP 0 rfl rfl 8 (by decide) (hts (.fieldLink RX5 59 "TestPickerModel" "builds" "I") (by decide +kernel)) (fun _ h9 => h9) rfl dX5_badWork_33 ?_
            refine lv_iconst (v := 1) hx hb dX5_badWork_36 (by decide) ?_
            refine lv_isub hx hb dX5_badWork_37 ?_
            refine tp_i (z := nI (gB gs - 1)) (pred1 (by omega)) ?_
            refine lv_imul hx hb dX5_badWork_38 ?_
            refine lv_iload_n hx hb dX5_badWork_39 rfl (lv_at hl 0 rfl) ?_
            refine lv_iadd hx hb dX5_badWork_40 ?_
            refine tp_i (z := nI (20 * (gB gs - 1) + i)) (ix20 _ _) ?_
            refine ld_i hx hb hK hP 8 (f := gVe gs) rfl (i := (20 * (gB gs - 1) + i)) (by omega) (by decide) dX5_badWork_41 ?_
            refine lv_iconst (v := 1) hx hb dX5_badWork_42 (by decide) ?_
            refine lv_icmp_ne (tgt := 58) hx hb dX5_badWork_43 (by decide) (fun c43 => ?_) (fun c43 => ?_)
            · -- 43 True
              refine lv_iconst (v := 0) hx hb dX5_badWork_58 (by decide) ?_
              refine lv_istore_n (lv' := [(1, .int 0), (2, .int (nI i)), (0, .ref (z 0))]) hx hb dX5_badWork_59 rfl hl (by decide) rfl (fun ls hl => ?_)
              refine lv_iinc (v := nI (i + 1)) (lv' := [(2, .int (nI (i + 1))), (1, .int 0), (0, .ref (z 0))]) hx hb dX5_badWork_60 hl (k := 1) rfl (nI_inc _) (by decide) rfl (fun ls hl => ?_)
              refine lv_goto (tgt := 14) hx hb dX5_badWork_63 (by decide) ?_
              exact ih14 (i + 1) false (by omega) (by omega) (by rw [anyB, ← h1]; simp [c23, c43]) ls (lv_sub hl [0, 1, 2] rfl)
            · -- 43 False
              refine lv_aload_n hx hb dX5_badWork_46 rfl (lv_at hl 2 rfl) ?_
              refine lv_iload_n hx hb dX5_badWork_47 rfl (lv_at hl 0 rfl) ?_
              refine ro_Vi (post := bI (gFk gs i)) (As := [.int (nI i)]) (rest := []) ⟨hx, hb, hml, hown, hts⟩ (c_X5_isFlaky l D z c gs i (by omega) (by omega)) (cwV 1 hts gX5_badWork_X5_isFlaky rfl rfl rfl (by decide +kernel) ⟨Nat.le_of_ble_eq_true rfl, Nat.le_of_ble_eq_true rfl⟩) hP hK (va_recv hK.1 hP (ci := 5) (q0 := 0) rfl rfl) rfl hl.1 rfl (Nat.le_of_ble_eq_true rfl) dX5_badWork_48 ⟨Nat.le_of_ble_eq_true rfl, Nat.le_of_ble_eq_true rfl⟩ ?_
              refine lv_if_ne (tgt := 58) hx hb dX5_badWork_51 (by decide) (fun c51 => ?_) (fun c51 => ?_)
              · -- 51 True
                have c51 := bI_nz.mp c51
                refine lv_iconst (v := 0) hx hb dX5_badWork_58 (by decide) ?_
                refine lv_istore_n (lv' := [(1, .int 0), (2, .int (nI i)), (0, .ref (z 0))]) hx hb dX5_badWork_59 rfl hl (by decide) rfl (fun ls hl => ?_)
                refine lv_iinc (v := nI (i + 1)) (lv' := [(2, .int (nI (i + 1))), (1, .int 0), (0, .ref (z 0))]) hx hb dX5_badWork_60 hl (k := 1) rfl (nI_inc _) (by decide) rfl (fun ls hl => ?_)
                refine lv_goto (tgt := 14) hx hb dX5_badWork_63 (by decide) ?_
                exact ih14 (i + 1) false (by omega) (by omega) (by rw [anyB, ← h1]; simp [c23, eq_true c43, c51]) ls (lv_sub hl [0, 1, 2] rfl)
              · -- 51 False
                have c51 := bI_z.mp c51
                refine lv_iconst (v := 1) hx hb dX5_badWork_54 (by decide) ?_
                refine lv_goto (tgt := 59) hx hb dX5_badWork_55 (by decide) ?_
                refine lv_istore_n (lv' := [(1, .int 1), (2, .int (nI i)), (0, .ref (z 0))]) hx hb dX5_badWork_59 rfl hl (by decide) rfl (fun ls hl => ?_)
                refine lv_iinc (v := nI (i + 1)) (lv' := [(2, .int (nI (i + 1))), (1, .int 1), (0, .ref (z 0))]) hx hb dX5_badWork_60 hl (k := 1) rfl (nI_inc _) (by decide) rfl (fun ls hl => ?_)
                refine lv_goto (tgt := 14) hx hb dX5_badWork_63 (by decide) ?_
                exact ih14 (i + 1) true (by omega) (by omega) (by rw [anyB, ← h1]; simp [c23, eq_true c43, c51]) ls (lv_sub hl [0, 1, 2] rfl)
    exact L14 (gT gs + 1) 0 false (by omega) (by omega) (rfl) ls (lv_sub hl [0, 1, 2] rfl)
  · -- 4 False
    have c4 : (gB gs) = 0 := (nI_eq (b := 0) (by omega) (by omega)).mp c4
    refine lv_bipush (v := (-4)) hx hb dX5_badWork_7 (by decide) ?_
    exact ro_reti hx hb hr hlk (by rw [gBadWork, if_pos c4]) dX5_badWork_9

set_option maxHeartbeats 4000000 in
set_option maxRecDepth 100000 in
theorem c_X5_missed (l : Launch) (D : va_G) (z : Nat → Nat) (c : CT) (gs : GS) (x : Int32) (hT : gT gs ≤ 20) (hB60 : gB gs ≤ 60) : ROi l yX5_missed wsX5_missed ({ frames := 3, cells := 0, slots := 0, locals := 74 } : Room) [.ref (z 0), .int x] D c (wG z c gs) (gMissed x gs) := by
  refine ro_starti (cc := cX5_missed) (maxL := 4) (ret := some .int) (by decide) rfl (Nat.le_of_ble_eq_true rfl) ?_
  intro p e s m args below meth c0 ls hx hb hr hml hown hts hlk hP hK hl
  have hown : s.vm.findClass RX5 = some m.cls := hown
  have hl : lv_has ls 4 [(0, .ref (z 0)), (1, .int x)] := hl
  have hin5 : ∀ w ∈ wsX50, w ∈ wsX5_missed := by decide +kernel
  refine lv_aload_n hx hb dX5_missed_0 rfl (lv_at hl 0 rfl) ?_
  refine lv_iload_n hx hb dX5_missed_1 rfl (lv_at hl 1 rfl) ?_
  refine ro_Vi (post := bI (arT x (gT gs))) (As := [.int x]) (rest := []) ⟨hx, hb, hml, hown, hts⟩ (c_X5_areTests l D z c gs x) (cwV 1 hts gX5_missed_X5_areTests rfl rfl rfl (by decide +kernel) ⟨Nat.le_of_ble_eq_true rfl, Nat.le_of_ble_eq_true rfl⟩) hP hK (va_recv hK.1 hP (ci := 5) (q0 := 0) rfl rfl) rfl hl.1 rfl (Nat.le_of_ble_eq_true rfl) dX5_missed_2 ⟨Nat.le_of_ble_eq_true rfl, Nat.le_of_ble_eq_true rfl⟩ ?_
  refine lv_if_ne (tgt := 10) hx hb dX5_missed_5 (by decide) (fun c5 => ?_) (fun c5 => ?_)
  · -- 5 True
    have c5 := bI_nz.mp c5
    refine lv_aload_n hx hb dX5_missed_10 rfl (lv_at hl 0 rfl) ?_
    refine ro_Vi (post := (gCo gs)) (As := []) (rest := []) ⟨hx, hb, hml, hown, hts⟩ (c_X5_counting l D z c gs (by omega) (by omega)) (cwV 0 hts gX5_missed_X5_counting rfl rfl rfl (by decide +kernel) ⟨Nat.le_of_ble_eq_true rfl, Nat.le_of_ble_eq_true rfl⟩) hP hK (va_recv hK.1 hP (ci := 5) (q0 := 0) rfl rfl) rfl hl.1 rfl (Nat.le_of_ble_eq_true rfl) dX5_missed_11 ⟨Nat.le_of_ble_eq_true rfl, Nat.le_of_ble_eq_true rfl⟩ ?_
    refine lv_istore_n (lv' := [(2, .int (gCo gs)), (0, .ref (z 0)), (1, .int x)]) hx hb dX5_missed_14 rfl hl (by decide) rfl (fun ls hl => ?_)
    refine lv_iconst (v := 0) hx hb dX5_missed_15 (by decide) ?_
    refine lv_istore_n (lv' := [(3, .int 0), (2, .int (gCo gs)), (0, .ref (z 0)), (1, .int x)]) hx hb dX5_missed_16 rfl hl (by decide) rfl (fun ls hl => ?_)
    have L17 : ∀ (n : Nat) (b : Nat), (b ≤ gB gs) → (gB gs < b + n) → (∀ i, i < b → gMi gs x i = false) → ∀ ls : Array Slot, lv_has ls 4 [(3, .int (nI b)), (2, .int (gCo gs)), (0, .ref (z 0)), (1, .int x)] → W p l e ({ frames := 3, cells := 0, slots := 0, locals := 74 } : Room) s m args below meth c0 s.heap [] 0 0 (QRi below args s (gMissed x gs)) (F0 m 17 ls []) := by
      intro n
      induction n with
      | zero => intro b hbB hn h1 ls hl; exact absurd hn (by omega)
      | succ n ih17 =>
        intro b hbB hn h1 ls hl
        refine lv_iload_n hx hb dX5_missed_17 rfl (lv_at hl 0 rfl) ?_
        refine lv_aload_n hx hb dX5_missed_18 rfl (lv_at hl 2 rfl) ?_
        refine va_get (D := D) (ci := 5) (v := .int (nI (gB gs))) (C := RX5) (T := TX5) (N := 19) hx hb hts hin5 hown hK.1 hP 0 rfl rfl 8 (by decide) (hts (.fieldLink RX5 59 "TestPickerModel" "builds" "I") (by decide +kernel)) (fun _ h9 => h9) rfl dX5_missed_19 ?_
        refine lv_icmp_ge (tgt := 51) hx hb dX5_missed_22 (by decide) (fun c22 => ?_) (fun c22 => ?_)
        · -- 22 True
          have c22 : (gB gs) ≤ b := (nI_leI (a := (gB gs)) (b := b) (by omega) (by omega)).mp c22
          refine lv_bipush (v := (-9)) hx hb dX5_missed_51 (by decide) ?_
          exact ro_reti hx hb hr hlk (by rw [gMissed, if_neg (by rw [c5]; decide), show gB gs = b by omega, fsN_no h1, if_neg (by omega)]) dX5_missed_53
        · -- 22 False
          have c22 : b < (gB gs) := (Nat.not_le.mp (fun z => c22 ((nI_leI (a := (gB gs)) (b := b) (by omega) (by omega)).mpr z)))
          refine lv_aload_n hx hb dX5_missed_25 rfl (lv_at hl 2 rfl) ?_
          refine lv_iload_n hx hb dX5_missed_26 rfl (lv_at hl 0 rfl) ?_
          refine lv_iload_n hx hb dX5_missed_27 rfl (lv_at hl 1 rfl) ?_
          refine ro_Vi (post := (gFo gs b (gCo gs))) (As := [.int (nI b), .int (gCo gs)]) (rest := []) ⟨hx, hb, hml, hown, hts⟩ (c_X5_fellOf l D z c gs b (gCo gs) (by omega) (by omega)) (cwV 2 hts gX5_missed_X5_fellOf rfl rfl rfl (by decide +kernel) ⟨Nat.le_of_ble_eq_true rfl, Nat.le_of_ble_eq_true rfl⟩) hP hK (va_recv hK.1 hP (ci := 5) (q0 := 0) rfl rfl) rfl hl.1 rfl (Nat.le_of_ble_eq_true rfl) dX5_missed_28 ⟨Nat.le_of_ble_eq_true rfl, Nat.le_of_ble_eq_true rfl⟩ ?_
          refine lv_if_eq (tgt := 45) hx hb dX5_missed_31 (by decide) (fun c31 => ?_) (fun c31 => ?_)
          · -- 31 True
            refine lv_iinc (v := nI (b + 1)) (lv' := [(3, .int (nI (b + 1))), (2, .int (gCo gs)), (0, .ref (z 0)), (1, .int x)]) hx hb dX5_missed_45 hl (k := 0) rfl (nI_inc _) (by decide) rfl (fun ls hl => ?_)
            refine lv_goto (tgt := 17) hx hb dX5_missed_48 (by decide) ?_
            exact ih17 (b + 1) (by omega) (by omega) (lt_s h1 (by simp [eq_true c31])) ls (lv_sub hl [0, 1, 2, 3] rfl)
          · -- 31 False
            refine lv_aload_n hx hb dX5_missed_34 rfl (lv_at hl 2 rfl) ?_
            refine lv_iload_n hx hb dX5_missed_35 rfl (lv_at hl 0 rfl) ?_
            refine lv_iload_n hx hb dX5_missed_36 rfl (lv_at hl 3 rfl) ?_
            refine ro_Vi (post := (gFo gs b x)) (As := [.int (nI b), .int x]) (rest := []) ⟨hx, hb, hml, hown, hts⟩ (c_X5_fellOf l D z c gs b x (by omega) (by omega)) (cwV 2 hts gX5_missed_X5_fellOf rfl rfl rfl (by decide +kernel) ⟨Nat.le_of_ble_eq_true rfl, Nat.le_of_ble_eq_true rfl⟩) hP hK (va_recv hK.1 hP (ci := 5) (q0 := 0) rfl rfl) rfl hl.1 rfl (Nat.le_of_ble_eq_true rfl) dX5_missed_37 ⟨Nat.le_of_ble_eq_true rfl, Nat.le_of_ble_eq_true rfl⟩ ?_
            refine lv_if_ne (tgt := 45) hx hb dX5_missed_40 (by decide) (fun c40 => ?_) (fun c40 => ?_)
            · -- 40 True
              refine lv_iinc (v := nI (b + 1)) (lv' := [(3, .int (nI (b + 1))), (2, .int (gCo gs)), (0, .ref (z 0)), (1, .int x)]) hx hb dX5_missed_45 hl (k := 0) rfl (nI_inc _) (by decide) rfl (fun ls hl => ?_)
              refine lv_goto (tgt := 17) hx hb dX5_missed_48 (by decide) ?_
              exact ih17 (b + 1) (by omega) (by omega) (lt_s h1 (by simp [c31, c40])) ls (lv_sub hl [0, 1, 2, 3] rfl)
            · -- 40 False
              refine lv_iload_n hx hb dX5_missed_43 rfl (lv_at hl 0 rfl) ?_
              exact ro_reti hx hb hr hlk (by rw [gMissed, if_neg (by rw [c5]; decide), fsN_eq h1 (show gMi gs x b = true by simp [c31, c40]) c22, if_pos c22]) dX5_missed_44
    exact L17 (gB gs + 1) 0 (by omega) (by omega) (fun i h => absurd h (Nat.not_lt_zero i)) ls (lv_sub hl [0, 1, 2, 3] rfl)
  · -- 5 False
    have c5 := bI_z.mp c5
    refine lv_iconst (v := (-1)) hx hb dX5_missed_8 (by decide) ?_
    exact ro_reti hx hb hr hlk (by rw [gMissed, if_pos c5]) dX5_missed_9

set_option maxHeartbeats 4000000 in
set_option maxRecDepth 100000 in
theorem c_X5_count (l : Launch) (D : va_G) (z : Nat → Nat) (c : CT) (gs : GS) (y : Int32) (hB60 : gB gs ≤ 60) : ROi l yX5_count wsX5_count ({ frames := 0, cells := 0, slots := 0, locals := 0 } : Room) [.ref (z 0), .int y] D c (wG z c gs) (gCount y gs) := by
  refine ro_starti (cc := cX5_count) (maxL := 4) (ret := some .int) (by decide) rfl (Nat.le_of_ble_eq_true rfl) ?_
  intro p e s m args below meth c0 ls hx hb hr hml hown hts hlk hP hK hl
  have hown : s.vm.findClass RX5 = some m.cls := hown
  have hl : lv_has ls 4 [(0, .ref (z 0)), (1, .int y)] := hl
  have hin5 : ∀ w ∈ wsX50, w ∈ wsX5_count := by decide +kernel
  refine lv_iconst (v := 0) hx hb dX5_count_0 (by decide) ?_
  refine lv_istore_n (lv' := [(2, .int 0), (0, .ref (z 0)), (1, .int y)]) hx hb dX5_count_1 rfl hl (by decide) rfl (fun ls hl => ?_)
  refine lv_iconst (v := 0) hx hb dX5_count_2 (by decide) ?_
  refine lv_istore_n (lv' := [(3, .int 0), (2, .int 0), (0, .ref (z 0)), (1, .int y)]) hx hb dX5_count_3 rfl hl (by decide) rfl (fun ls hl => ?_)
  have L4 : ∀ (n : Nat) (k : Nat) (a : Int32), (k ≤ 20 * gB gs) → (20 * gB gs < k + n) → (a = vcM (gVe gs) k) → ∀ ls : Array Slot, lv_has ls 4 [(3, .int (nI k)), (2, .int a), (0, .ref (z 0)), (1, .int y)] → W p l e ({ frames := 0, cells := 0, slots := 0, locals := 0 } : Room) s m args below meth c0 s.heap [] 0 0 (QRi below args s (gCount y gs)) (F0 m 4 ls []) := by
    intro n
    induction n with
    | zero => intro k a hk hn ha ls hl; exact absurd hn (by omega)
    | succ n ih4 =>
      intro k a hk hn ha ls hl
      refine lv_iload_n hx hb dX5_count_4 rfl (lv_at hl 0 rfl) ?_
      refine lv_bipush (v := 20) hx hb dX5_count_5 (by decide) ?_
      refine lv_aload_n hx hb dX5_count_7 rfl (lv_at hl 2 rfl) ?_
      refine va_get (D := D) (ci := 5) (v := .int (nI (gB gs))) (C := RX5) (T := TX5) (N := 19) hx hb hts hin5 hown hK.1 hP 0 rfl rfl 8 (by decide) (hts (.fieldLink RX5 59 "TestPickerModel" "builds" "I") (by decide +kernel)) (fun _ h9 => h9) rfl dX5_count_8 ?_
      refine lv_imul hx hb dX5_count_11 ?_
      refine tp_i (z := nI (20 * gB gs)) (pk_mul 20 _) ?_
      refine lv_icmp_ge (tgt := 38) hx hb dX5_count_12 (by decide) (fun c12 => ?_) (fun c12 => ?_)
      · -- 12 True
        have c12 : (20 * gB gs) ≤ k := (nI_leI (a := (20 * gB gs)) (b := k) (by omega) (by omega)).mp c12
        refine lv_iload_n hx hb dX5_count_38 rfl (lv_at hl 3 rfl) ?_
        refine lv_if_ne (tgt := 49) hx hb dX5_count_39 (by decide) (fun c39 => ?_) (fun c39 => ?_)
        · -- 39 True
          refine lv_iload_n hx hb dX5_count_49 rfl (lv_at hl 3 rfl) ?_
          refine lv_iconst (v := 1) hx hb dX5_count_50 (by decide) ?_
          refine lv_icmp_ne (tgt := 61) hx hb dX5_count_51 (by decide) (fun c51 => ?_) (fun c51 => ?_)
          · -- 51 True
            refine lv_iload_n hx hb dX5_count_61 rfl (lv_at hl 3 rfl) ?_
            refine lv_iconst (v := 2) hx hb dX5_count_62 (by decide) ?_
            refine lv_icmp_ne (tgt := 70) hx hb dX5_count_63 (by decide) (fun c63 => ?_) (fun c63 => ?_)
            · -- 63 True
              refine lv_iconst (v := (-1)) hx hb dX5_count_70 (by decide) ?_
              exact ro_reti hx hb hr hlk (by simp [gCount, ha, show k = 20 * gB gs by omega, c39, c51, c63]) dX5_count_71
            · -- 63 False
              refine lv_iload_n hx hb dX5_count_66 rfl (lv_at hl 1 rfl) ?_
              refine lv_goto (tgt := 71) hx hb dX5_count_67 (by decide) ?_
              exact ro_reti hx hb hr hlk (by simp [gCount, ha, show k = 20 * gB gs by omega, c39, c51, eq_true c63]) dX5_count_71
          · -- 51 False
            refine lv_aload_n hx hb dX5_count_54 rfl (lv_at hl 2 rfl) ?_
            refine va_get (D := D) (ci := 5) (v := .int (nI (gB gs))) (C := RX5) (T := TX5) (N := 19) hx hb hts hin5 hown hK.1 hP 0 rfl rfl 8 (by decide) (hts (.fieldLink RX5 59 "TestPickerModel" "builds" "I") (by decide +kernel)) (fun _ h9 => h9) rfl dX5_count_55 ?_
            refine lv_goto (tgt := 71) hx hb dX5_count_58 (by decide) ?_
            exact ro_reti hx hb hr hlk (by simp [gCount, ha, show k = 20 * gB gs by omega, c39, eq_true c51]) dX5_count_71
        · -- 39 False
          refine lv_aload_n hx hb dX5_count_42 rfl (lv_at hl 2 rfl) ?_
          refine va_get (D := D) (ci := 5) (v := .int (nI (gT gs))) (C := RX5) (T := TX5) (N := 19) hx hb hts hin5 hown hK.1 hP 0 rfl rfl 2 (by decide) (hts (.fieldLink RX5 52 "TestPickerModel" "tests" "I") (by decide +kernel)) (fun _ h9 => h9) rfl dX5_count_43 ?_
          refine lv_goto (tgt := 71) hx hb dX5_count_46 (by decide) ?_
          exact ro_reti hx hb hr hlk (by simp [gCount, ha, show k = 20 * gB gs by omega, eq_true c39]) dX5_count_71
      · -- 12 False
        have c12 : k < (20 * gB gs) := (Nat.not_le.mp (fun z => c12 ((nI_leI (a := (20 * gB gs)) (b := k) (by omega) (by omega)).mpr z)))
        refine lv_iload_n hx hb dX5_count_15 rfl (lv_at hl 1 rfl) ?_
        refine lv_aload_n hx hb dX5_count_16 rfl (lv_at hl 2 rfl) ?_
        refine va_get (D := D) (ci := 5) (v := .ref (z 8)) (C := RX5) (T := TX5) (N := 19) hx hb hts hin5 hown hK.1 hP 0 rfl rfl 10 (by decide) (hts (.fieldLink RX5 33 "TestPickerModel" "verdicts" "[I") (by decide +kernel)) (fun _ h9 => h9) rfl dX5_count_17 ?_
        refine lv_iload_n hx hb dX5_count_20 rfl (lv_at hl 0 rfl) ?_
        refine ld_i hx hb hK hP 8 (f := gVe gs) rfl (i := k) (by omega) (by decide) dX5_count_21 ?_
        refine lv_if_lt (tgt := 29) hx hb dX5_count_22 (by decide) (fun c22 => ?_) (fun c22 => ?_)
        · -- 22 True
          refine lv_iconst (v := 0) hx hb dX5_count_29 (by decide) ?_
          refine lv_iadd hx hb dX5_count_30 ?_
          refine lv_istore_n (lv' := [(2, .int (a + 0)), (3, .int (nI k)), (0, .ref (z 0)), (1, .int y)]) hx hb dX5_count_31 rfl hl (by decide) rfl (fun ls hl => ?_)
          refine lv_iinc (v := nI (k + 1)) (lv' := [(3, .int (nI (k + 1))), (2, .int (a + 0)), (0, .ref (z 0)), (1, .int y)]) hx hb dX5_count_32 hl (k := 1) rfl (nI_inc _) (by decide) rfl (fun ls hl => ?_)
          refine lv_goto (tgt := 4) hx hb dX5_count_35 (by decide) ?_
          exact ih4 (k + 1) (a + 0) (by omega) (by omega) (by rw [ha]; simp [vcM, c22]) ls (lv_sub hl [0, 1, 2, 3] rfl)
        · -- 22 False
          refine lv_iconst (v := 1) hx hb dX5_count_25 (by decide) ?_
          refine lv_goto (tgt := 30) hx hb dX5_count_26 (by decide) ?_
          refine lv_iadd hx hb dX5_count_30 ?_
          refine lv_istore_n (lv' := [(2, .int (a + 1)), (3, .int (nI k)), (0, .ref (z 0)), (1, .int y)]) hx hb dX5_count_31 rfl hl (by decide) rfl (fun ls hl => ?_)
          refine lv_iinc (v := nI (k + 1)) (lv' := [(3, .int (nI (k + 1))), (2, .int (a + 1)), (0, .ref (z 0)), (1, .int y)]) hx hb dX5_count_32 hl (k := 1) rfl (nI_inc _) (by decide) rfl (fun ls hl => ?_)
          refine lv_goto (tgt := 4) hx hb dX5_count_35 (by decide) ?_
          exact ih4 (k + 1) (a + 1) (by omega) (by omega) (by rw [ha]; simp [vcM, c22]) ls (lv_sub hl [0, 1, 2, 3] rfl)
  exact L4 (20 * gB gs + 1) 0 0 (by omega) (by omega) (rfl) ls (lv_sub hl [0, 1, 2, 3] rfl)

set_option maxHeartbeats 4000000 in
set_option maxRecDepth 100000 in
theorem c_X5_digest (l : Launch) (D : va_G) (z : Nat → Nat) (c : CT) (gs : GS)  (hT : gT gs ≤ 20) (hB60 : gB gs ≤ 60) (hN : WN (gNd gs) (gT gs)) : ROl l yX5_digest wsX5_digest ({ frames := 4, cells := 0, slots := 0, locals := 97 } : Room) [.ref (z 0)] D c (wG z c gs) (gDigest gs) := by
  refine ro_startl (cc := cX5_digest) (maxL := 5) (ret := some .long) (by decide) rfl (Nat.le_of_ble_eq_true rfl) ?_
  intro p e s m args below meth c0 ls hx hb hr hml hown hts hlk hP hK hl
  have hown : s.vm.findClass RX5 = some m.cls := hown
  have hl : lv_has ls 5 [(0, .ref (z 0))] := hl
  have hin5 : ∀ w ∈ wsX50, w ∈ wsX5_digest := by decide +kernel
  refine lv_ldc2 (own := RX5) (v := (17)) hx hb hown (hts (.constantLong RX5 153 (17)) (by decide +kernel)) dX5_digest_0 ?_
  refine lv_lstore_n (lv' := [(1, .long (17)), (0, .ref (z 0))]) hx hb dX5_digest_3 rfl hl (by decide) rfl (fun ls hl => ?_)
  refine lv_iconst (v := 0) hx hb dX5_digest_4 (by decide) ?_
  refine lv_istore_n (lv' := [(3, .int 0), (1, .long (17)), (0, .ref (z 0))]) hx hb dX5_digest_5 rfl hl (by decide) rfl (fun ls hl => ?_)
  have L6 : ∀ (n : Nat) (t : Nat) (a : Int64), (t ≤ gT gs) → (gT gs < t + n) → (a = dgX gs t) → ∀ ls : Array Slot, lv_has ls 5 [(3, .int (nI t)), (1, .long a), (0, .ref (z 0))] → W p l e ({ frames := 4, cells := 0, slots := 0, locals := 97 } : Room) s m args below meth c0 s.heap [] 0 0 (QRl below args s (gDigest gs)) (F0 m 6 ls []) := by
    intro n
    induction n with
    | zero => intro t a ht hn h1 ls hl; exact absurd hn (by omega)
    | succ n ih6 =>
      intro t a ht hn h1 ls hl
      refine lv_iload_n hx hb dX5_digest_6 rfl (lv_at hl 0 rfl) ?_
      refine lv_aload_n hx hb dX5_digest_7 rfl (lv_at hl 2 rfl) ?_
      refine va_get (D := D) (ci := 5) (v := .int (nI (gT gs))) (C := RX5) (T := TX5) (N := 19) hx hb hts hin5 hown hK.1 hP 0 rfl rfl 2 (by decide) (hts (.fieldLink RX5 52 "TestPickerModel" "tests" "I") (by decide +kernel)) (fun _ h9 => h9) rfl dX5_digest_8 ?_
      refine lv_icmp_ge (tgt := 111) hx hb dX5_digest_11 (by decide) (fun c11 => ?_) (fun c11 => ?_)
      · -- 11 True
        have c11 : (gT gs) ≤ t := (nI_leI (a := (gT gs)) (b := t) (by omega) (by omega)).mp c11
        refine lv_iconst (v := 0) hx hb dX5_digest_111 (by decide) ?_
        refine lv_istore_n (lv' := [(3, .int 0), (1, .long a), (0, .ref (z 0))]) hx hb dX5_digest_112 rfl hl (by decide) rfl (fun ls hl => ?_)
        have L113 : ∀ (n4 : Nat) (b : Nat) (a4 : Int64), (b ≤ gB gs) → (gB gs < b + n4) → (a4 = dgB (gCg gs) (fun t b => gVe gs (20 * b + t)) (gT gs) (dgX gs (gT gs)) b) → ∀ ls : Array Slot, lv_has ls 5 [(3, .int (nI b)), (1, .long a4), (0, .ref (z 0))] → W p l e ({ frames := 4, cells := 0, slots := 0, locals := 97 } : Room) s m args below meth c0 s.heap [] 0 0 (QRl below args s (gDigest gs)) (F0 m 113 ls []) := by
          intro n4
          induction n4 with
          | zero => intro b a4 hbB hn4 h4 ls hl; exact absurd hn4 (by omega)
          | succ n4 ih113 =>
            intro b a4 hbB hn4 h4 ls hl
            refine lv_iload_n hx hb dX5_digest_113 rfl (lv_at hl 0 rfl) ?_
            refine lv_aload_n hx hb dX5_digest_114 rfl (lv_at hl 2 rfl) ?_
            refine va_get (D := D) (ci := 5) (v := .int (nI (gB gs))) (C := RX5) (T := TX5) (N := 19) hx hb hts hin5 hown hK.1 hP 0 rfl rfl 8 (by decide) (hts (.fieldLink RX5 59 "TestPickerModel" "builds" "I") (by decide +kernel)) (fun _ h9 => h9) rfl dX5_digest_115 ?_
            refine lv_icmp_ge (tgt := 178) hx hb dX5_digest_118 (by decide) (fun c118 => ?_) (fun c118 => ?_)
            · -- 118 True
              have c118 : (gB gs) ≤ b := (nI_leI (a := (gB gs)) (b := b) (by omega) (by omega)).mp c118
              refine lv_lload_n hx hb dX5_digest_178 rfl (lv_at hl 1 rfl) ?_
              exact ro_retl hx hb hr hlk (by rw [h4, show b = gB gs by omega]; rfl) dX5_digest_179
            · -- 118 False
              have c118 : b < (gB gs) := (Nat.not_le.mp (fun z => c118 ((nI_leI (a := (gB gs)) (b := b) (by omega) (by omega)).mpr z)))
              refine lv_ldc2 (own := RX5) (v := (31)) hx hb hown (hts (.constantLong RX5 155 (31)) (by decide +kernel)) dX5_digest_121 ?_
              refine lv_lload_n hx hb dX5_digest_124 rfl (lv_at hl 1 rfl) ?_
              refine lv_lmul hx hb dX5_digest_125 ?_
              refine lv_aload_n hx hb dX5_digest_126 rfl (lv_at hl 2 rfl) ?_
              refine va_get (D := D) (ci := 5) (v := .ref (z 7)) (C := RX5) (T := TX5) (N := 19) hx hb hts hin5 hown hK.1 hP 0 rfl rfl 9 (by decide) (hts (.fieldLink RX5 29 "TestPickerModel" "changes" "[J") (by decide +kernel)) (fun _ h9 => h9) rfl dX5_digest_127 ?_
              refine lv_iload_n hx hb dX5_digest_130 rfl (lv_at hl 0 rfl) ?_
              refine ld_l hx hb hK hP 7 (f := gCg gs) rfl (i := b) (by omega) (by decide) dX5_digest_131 ?_
              refine lv_ladd hx hb dX5_digest_132 ?_
              refine lv_lstore_n (lv' := [(1, .long (((31) * a4) + (gCg gs b))), (3, .int (nI b)), (0, .ref (z 0))]) hx hb dX5_digest_133 rfl hl (by decide) rfl (fun ls hl => ?_)
              refine lv_iconst (v := 0) hx hb dX5_digest_134 (by decide) ?_
              refine lv_istore (lv' := [(4, .int 0), (1, .long (((31) * a4) + (gCg gs b))), (3, .int (nI b)), (0, .ref (z 0))]) hx hb dX5_digest_135 hl (by decide) rfl (fun ls hl => ?_)
              have L137 : ∀ (n5 : Nat) (j : Nat) (a5 : Int64), (j ≤ gT gs) → (gT gs < j + n5) → (a5 = dgF (fun t => gVe gs (20 * b + t)) (31 * a4 + gCg gs b) j) → ∀ ls : Array Slot, lv_has ls 5 [(4, .int (nI j)), (1, .long a5), (3, .int (nI b)), (0, .ref (z 0))] → W p l e ({ frames := 4, cells := 0, slots := 0, locals := 97 } : Room) s m args below meth c0 s.heap [] 0 0 (QRl below args s (gDigest gs)) (F0 m 137 ls []) := by
                intro n5
                induction n5 with
                | zero => intro j a5 hj hn5 h5 ls hl; exact absurd hn5 (by omega)
                | succ n5 ih137 =>
                  intro j a5 hj hn5 h5 ls hl
                  refine lv_iload hx hb dX5_digest_137 (lv_at hl 0 rfl) ?_
                  refine lv_aload_n hx hb dX5_digest_139 rfl (lv_at hl 3 rfl) ?_
                  refine va_get (D := D) (ci := 5) (v := .int (nI (gT gs))) (C := RX5) (T := TX5) (N := 19) hx hb hts hin5 hown hK.1 hP 0 rfl rfl 2 (by decide) (hts (.fieldLink RX5 52 "TestPickerModel" "tests" "I") (by decide +kernel)) (fun _ h9 => h9) rfl dX5_digest_140 ?_
                  refine lv_icmp_ge (tgt := 172) hx hb dX5_digest_143 (by decide) (fun c143 => ?_) (fun c143 => ?_)
                  · -- 143 True
                    have c143 : (gT gs) ≤ j := (nI_leI (a := (gT gs)) (b := j) (by omega) (by omega)).mp c143
                    refine lv_iinc (v := nI (b + 1)) (lv' := [(3, .int (nI (b + 1))), (4, .int (nI j)), (1, .long a5), (0, .ref (z 0))]) hx hb dX5_digest_172 hl (k := 2) rfl (nI_inc _) (by decide) rfl (fun ls hl => ?_)
                    refine lv_goto (tgt := 113) hx hb dX5_digest_175 (by decide) ?_
                    exact ih113 (b + 1) a5 (by omega) (by omega) (by rw [h5, show j = gT gs by omega, h4]; rfl) ls (lv_sub hl [0, 2, 3] rfl)
                  · -- 143 False
                    have c143 : j < (gT gs) := (Nat.not_le.mp (fun z => c143 ((nI_leI (a := (gT gs)) (b := j) (by omega) (by omega)).mpr z)))
                    refine lv_ldc2 (own := RX5) (v := (31)) hx hb hown (hts (.constantLong RX5 155 (31)) (by decide +kernel)) dX5_digest_146 ?_
                    refine lv_lload_n hx hb dX5_digest_149 rfl (lv_at hl 1 rfl) ?_
                    refine lv_lmul hx hb dX5_digest_150 ?_
                    refine lv_aload_n hx hb dX5_digest_151 rfl (lv_at hl 3 rfl) ?_
                    refine va_get (D := D) (ci := 5) (v := .ref (z 8)) (C := RX5) (T := TX5) (N := 19) hx hb hts hin5 hown hK.1 hP 0 rfl rfl 10 (by decide) (hts (.fieldLink RX5 33 "TestPickerModel" "verdicts" "[I") (by decide +kernel)) (fun _ h9 => h9) rfl dX5_digest_152 ?_
                    refine lv_bipush (v := 20) hx hb dX5_digest_155 (by decide) ?_
                    refine lv_iload_n hx hb dX5_digest_157 rfl (lv_at hl 2 rfl) ?_
                    refine lv_imul hx hb dX5_digest_158 ?_
                    refine lv_iload hx hb dX5_digest_159 (lv_at hl 0 rfl) ?_
                    refine lv_iadd hx hb dX5_digest_161 ?_
                    refine tp_i (z := nI (20 * b + j)) (ix20 _ _) ?_
                    refine ld_i hx hb hK hP 8 (f := gVe gs) rfl (i := (20 * b + j)) (by omega) (by decide) dX5_digest_162 ?_
                    refine lv_i2l (v := (gVe gs (20 * b + j)).toInt64) hx hb dX5_digest_163 rfl ?_
                    refine lv_ladd hx hb dX5_digest_164 ?_
                    refine lv_lstore_n (lv' := [(1, .long (((31) * a5) + (gVe gs (20 * b + j)).toInt64)), (4, .int (nI j)), (3, .int (nI b)), (0, .ref (z 0))]) hx hb dX5_digest_165 rfl hl (by decide) rfl (fun ls hl => ?_)
                    refine lv_iinc (v := nI (j + 1)) (lv' := [(4, .int (nI (j + 1))), (1, .long (((31) * a5) + (gVe gs (20 * b + j)).toInt64)), (3, .int (nI b)), (0, .ref (z 0))]) hx hb dX5_digest_166 hl (k := 1) rfl (nI_inc _) (by decide) rfl (fun ls hl => ?_)
                    refine lv_goto (tgt := 137) hx hb dX5_digest_169 (by decide) ?_
                    exact ih137 (j + 1) (((31) * a5) + (gVe gs (20 * b + j)).toInt64) (by omega) (by omega) (by rw [h5]; rfl) ls (lv_sub hl [0, 1, 2, 3] rfl)
              exact L137 (gT gs + 1) 0 (((31) * a4) + (gCg gs b)) (by omega) (by omega) (rfl) ls (lv_sub hl [0, 1, 2, 3] rfl)
        exact L113 (gB gs + 1) 0 a (by omega) (by omega) (by rw [h1, show t = gT gs by omega]; rfl) ls (lv_sub hl [0, 1, 2] rfl)
      · -- 11 False
        have c11 : t < (gT gs) := (Nat.not_le.mp (fun z => c11 ((nI_leI (a := (gT gs)) (b := t) (by omega) (by omega)).mpr z)))
        refine lv_iconst (v := 0) hx hb dX5_digest_14 (by decide) ?_
        refine lv_istore (lv' := [(4, .int 0), (3, .int (nI t)), (1, .long a), (0, .ref (z 0))]) hx hb dX5_digest_15 hl (by decide) rfl (fun ls hl => ?_)
        have L17 : ∀ (n2 : Nat) (i : Nat) (a2 : Int64), (i ≤ 7) → (7 < i + n2) → (a2 = dgF (fun w => gTl gs t (nI w)) a i) → ∀ ls : Array Slot, lv_has ls 5 [(4, .int (nI i)), (3, .int (nI t)), (1, .long a2), (0, .ref (z 0))] → W p l e ({ frames := 4, cells := 0, slots := 0, locals := 97 } : Room) s m args below meth c0 s.heap [] 0 0 (QRl below args s (gDigest gs)) (F0 m 17 ls []) := by
          intro n2
          induction n2 with
          | zero => intro i a2 hi hn2 h2 ls hl; exact absurd hn2 (by omega)
          | succ n2 ih17 =>
            intro i a2 hi hn2 h2 ls hl
            refine lv_iload hx hb dX5_digest_17 (lv_at hl 0 rfl) ?_
            refine lv_bipush (v := 6) hx hb dX5_digest_19 (by decide) ?_
            refine lv_icmp_gt (tgt := 45) hx hb dX5_digest_21 (by decide) (fun c21 => ?_) (fun c21 => ?_)
            · -- 21 True
              have c21 : 6 < i := (nI_ltI (a := 6) (b := i) (by omega) (by omega)).mp c21
              have h2 : a2 = dgF (fun w => gTl gs t (nI w)) a 7 := by rw [h2, show i = 7 by omega]
              refine lv_aload_n hx hb dX5_digest_45 rfl (lv_at hl 3 rfl) ?_
              refine va_get (D := D) (ci := 5) (v := .ref (z 5)) (C := RX5) (T := TX5) (N := 19) hx hb hts hin5 hown hK.1 hP 0 rfl rfl 6 (by decide) (hts (.fieldLink RX5 22 "TestPickerModel" "missing" "[Z") (by decide +kernel)) (fun _ h9 => h9) rfl dX5_digest_46 ?_
              refine lv_iload_n hx hb dX5_digest_49 rfl (lv_at hl 1 rfl) ?_
              refine ld_z hx hb hK hP 5 (f := gMs gs) rfl (i := t) (by omega) (by decide) dX5_digest_50 ?_
              refine lv_if_eq (tgt := 62) hx hb dX5_digest_51 (by decide) (fun c51 => ?_) (fun c51 => ?_)
              · -- 51 True
                refine lv_iconst (v := 0) hx hb dX5_digest_62 (by decide) ?_
                refine lv_istore (lv' := [(4, .int 0), (3, .int (nI t)), (1, .long a2), (0, .ref (z 0))]) hx hb dX5_digest_63 hl (by decide) rfl (fun ls hl => ?_)
                have L65 : ∀ (n3 : Nat) (j : Nat) (a3 : Int64), (j ≤ 5) → (5 < j + n3) → (a3 = dgF (fun i => gBy gs (5 * t + i)) (a2) j) → (j = 0 ∨ gMs gs t = 0) → ∀ ls : Array Slot, lv_has ls 5 [(4, .int (nI j)), (3, .int (nI t)), (1, .long a3), (0, .ref (z 0))] → W p l e ({ frames := 4, cells := 0, slots := 0, locals := 97 } : Room) s m args below meth c0 s.heap [] 0 0 (QRl below args s (gDigest gs)) (F0 m 65 ls []) := by
                  intro n3
                  induction n3 with
                  | zero => intro j a3 hj hn3 h3 hm ls hl; exact absurd hn3 (by omega)
                  | succ n3 ih65 =>
                    intro j a3 hj hn3 h3 hm ls hl
                    refine lv_iload hx hb dX5_digest_65 (lv_at hl 0 rfl) ?_
                    refine lv_iconst (v := 5) hx hb dX5_digest_67 (by decide) ?_
                    refine lv_icmp_ge (tgt := 105) hx hb dX5_digest_68 (by decide) (fun c68 => ?_) (fun c68 => ?_)
                    · -- 68 True
                      have c68 : 5 ≤ j := (nI_leI (a := 5) (b := j) (by omega) (by omega)).mp c68
                      refine lv_iinc (v := nI (t + 1)) (lv' := [(3, .int (nI (t + 1))), (4, .int (nI j)), (1, .long a3), (0, .ref (z 0))]) hx hb dX5_digest_105 hl (k := 1) rfl (nI_inc _) (by decide) rfl (fun ls hl => ?_)
                      refine lv_goto (tgt := 6) hx hb dX5_digest_108 (by decide) ?_
                      exact ih6 (t + 1) a3 (by omega) (by omega) (dx_p h1 h2 h3 hm c51 (by omega)) ls (lv_sub hl [0, 2, 3] rfl)
                    · -- 68 False
                      have c68 : j < 5 := (Nat.not_le.mp (fun z => c68 ((nI_leI (a := 5) (b := j) (by omega) (by omega)).mpr z)))
                      refine lv_aload_n hx hb dX5_digest_71 rfl (lv_at hl 3 rfl) ?_
                      refine va_get (D := D) (ci := 5) (v := .ref (z 5)) (C := RX5) (T := TX5) (N := 19) hx hb hts hin5 hown hK.1 hP 0 rfl rfl 6 (by decide) (hts (.fieldLink RX5 22 "TestPickerModel" "missing" "[Z") (by decide +kernel)) (fun _ h9 => h9) rfl dX5_digest_72 ?_
                      refine lv_iload_n hx hb dX5_digest_75 rfl (lv_at hl 1 rfl) ?_
                      refine ld_z hx hb hK hP 5 (f := gMs gs) rfl (i := t) (by omega) (by decide) dX5_digest_76 ?_
                      refine lv_if_ne (tgt := 105) hx hb dX5_digest_77 (by decide) (fun c77 => ?_) (fun c77 => ?_)
                      · -- 77 True
                        refine lv_iinc (v := nI (t + 1)) (lv' := [(3, .int (nI (t + 1))), (4, .int (nI j)), (1, .long a3), (0, .ref (z 0))]) hx hb dX5_digest_105 hl (k := 1) rfl (nI_inc _) (by decide) rfl (fun ls hl => ?_)
                        refine lv_goto (tgt := 6) hx hb dX5_digest_108 (by decide) ?_
                        exact ih6 (t + 1) a3 (by omega) (by omega) (absurd c51 c77) ls (lv_sub hl [0, 2, 3] rfl)
                      · -- 77 False
                        refine lv_ldc2 (own := RX5) (v := (31)) hx hb hown (hts (.constantLong RX5 155 (31)) (by decide +kernel)) dX5_digest_80 ?_
                        refine lv_lload_n hx hb dX5_digest_83 rfl (lv_at hl 2 rfl) ?_
                        refine lv_lmul hx hb dX5_digest_84 ?_
                        refine lv_aload_n hx hb dX5_digest_85 rfl (lv_at hl 3 rfl) ?_
                        refine va_get (D := D) (ci := 5) (v := .ref (z 6)) (C := RX5) (T := TX5) (N := 19) hx hb hts hin5 hown hK.1 hP 0 rfl rfl 7 (by decide) (hts (.fieldLink RX5 26 "TestPickerModel" "bytes" "[I") (by decide +kernel)) (fun _ h9 => h9) rfl dX5_digest_86 ?_
                        refine lv_iconst (v := 5) hx hb dX5_digest_89 (by decide) ?_
                        refine lv_iload_n hx hb dX5_digest_90 rfl (lv_at hl 1 rfl) ?_
                        refine lv_imul hx hb dX5_digest_91 ?_
                        refine lv_iload hx hb dX5_digest_92 (lv_at hl 0 rfl) ?_
                        refine lv_iadd hx hb dX5_digest_94 ?_
                        refine tp_i (z := nI (5 * t + j)) (ix5 _ _) ?_
                        refine ld_i hx hb hK hP 6 (f := gBy gs) rfl (i := (5 * t + j)) (by omega) (by decide) dX5_digest_95 ?_
                        refine lv_i2l (v := (gBy gs (5 * t + j)).toInt64) hx hb dX5_digest_96 rfl ?_
                        refine lv_ladd hx hb dX5_digest_97 ?_
                        refine lv_lstore_n (lv' := [(1, .long (((31) * a3) + (gBy gs (5 * t + j)).toInt64)), (4, .int (nI j)), (3, .int (nI t)), (0, .ref (z 0))]) hx hb dX5_digest_98 rfl hl (by decide) rfl (fun ls hl => ?_)
                        refine lv_iinc (v := nI (j + 1)) (lv' := [(4, .int (nI (j + 1))), (1, .long (((31) * a3) + (gBy gs (5 * t + j)).toInt64)), (3, .int (nI t)), (0, .ref (z 0))]) hx hb dX5_digest_99 hl (k := 1) rfl (nI_inc _) (by decide) rfl (fun ls hl => ?_)
                        refine lv_goto (tgt := 65) hx hb dX5_digest_102 (by decide) ?_
                        exact ih65 (j + 1) (((31) * a3) + (gBy gs (5 * t + j)).toInt64) (by omega) (by omega) (by rw [h3]; rfl) (Or.inr c77) ls (lv_sub hl [0, 2, 1, 3] rfl)
                exact L65 (6) 0 a2 (by omega) (by omega) (rfl) (Or.inl rfl) ls (lv_sub hl [0, 1, 2, 3] rfl)
              · -- 51 False
                refine lv_ldc2 (own := RX5) (v := (31)) hx hb hown (hts (.constantLong RX5 155 (31)) (by decide +kernel)) dX5_digest_54 ?_
                refine lv_lload_n hx hb dX5_digest_57 rfl (lv_at hl 2 rfl) ?_
                refine lv_lmul hx hb dX5_digest_58 ?_
                refine lv_lconst (v := 1) hx hb dX5_digest_59 (by decide) ?_
                refine lv_lsub hx hb dX5_digest_60 ?_
                refine lv_lstore_n (lv' := [(1, .long (((31) * a2) - 1)), (4, .int (nI i)), (3, .int (nI t)), (0, .ref (z 0))]) hx hb dX5_digest_61 rfl hl (by decide) rfl (fun ls hl => ?_)
                refine lv_iconst (v := 0) hx hb dX5_digest_62 (by decide) ?_
                refine lv_istore (lv' := [(4, .int 0), (1, .long (((31) * a2) - 1)), (3, .int (nI t)), (0, .ref (z 0))]) hx hb dX5_digest_63 hl (by decide) rfl (fun ls hl => ?_)
                have L65 : ∀ (n3 : Nat) (j : Nat) (a3 : Int64), (j ≤ 5) → (5 < j + n3) → (a3 = dgF (fun i => gBy gs (5 * t + i)) ((((31) * a2) - 1)) j) → (j = 0 ∨ gMs gs t = 0) → ∀ ls : Array Slot, lv_has ls 5 [(4, .int (nI j)), (1, .long a3), (3, .int (nI t)), (0, .ref (z 0))] → W p l e ({ frames := 4, cells := 0, slots := 0, locals := 97 } : Room) s m args below meth c0 s.heap [] 0 0 (QRl below args s (gDigest gs)) (F0 m 65 ls []) := by
                  intro n3
                  induction n3 with
                  | zero => intro j a3 hj hn3 h3 hm ls hl; exact absurd hn3 (by omega)
                  | succ n3 ih65 =>
                    intro j a3 hj hn3 h3 hm ls hl
                    refine lv_iload hx hb dX5_digest_65 (lv_at hl 0 rfl) ?_
                    refine lv_iconst (v := 5) hx hb dX5_digest_67 (by decide) ?_
                    refine lv_icmp_ge (tgt := 105) hx hb dX5_digest_68 (by decide) (fun c68 => ?_) (fun c68 => ?_)
                    · -- 68 True
                      have c68 : 5 ≤ j := (nI_leI (a := 5) (b := j) (by omega) (by omega)).mp c68
                      refine lv_iinc (v := nI (t + 1)) (lv' := [(3, .int (nI (t + 1))), (4, .int (nI j)), (1, .long a3), (0, .ref (z 0))]) hx hb dX5_digest_105 hl (k := 2) rfl (nI_inc _) (by decide) rfl (fun ls hl => ?_)
                      refine lv_goto (tgt := 6) hx hb dX5_digest_108 (by decide) ?_
                      exact ih6 (t + 1) a3 (by omega) (by omega) (dx_m h1 h2 h3 hm c51 (by omega)) ls (lv_sub hl [0, 2, 3] rfl)
                    · -- 68 False
                      have c68 : j < 5 := (Nat.not_le.mp (fun z => c68 ((nI_leI (a := 5) (b := j) (by omega) (by omega)).mpr z)))
                      refine lv_aload_n hx hb dX5_digest_71 rfl (lv_at hl 3 rfl) ?_
                      refine va_get (D := D) (ci := 5) (v := .ref (z 5)) (C := RX5) (T := TX5) (N := 19) hx hb hts hin5 hown hK.1 hP 0 rfl rfl 6 (by decide) (hts (.fieldLink RX5 22 "TestPickerModel" "missing" "[Z") (by decide +kernel)) (fun _ h9 => h9) rfl dX5_digest_72 ?_
                      refine lv_iload_n hx hb dX5_digest_75 rfl (lv_at hl 2 rfl) ?_
                      refine ld_z hx hb hK hP 5 (f := gMs gs) rfl (i := t) (by omega) (by decide) dX5_digest_76 ?_
                      refine lv_if_ne (tgt := 105) hx hb dX5_digest_77 (by decide) (fun c77 => ?_) (fun c77 => ?_)
                      · -- 77 True
                        refine lv_iinc (v := nI (t + 1)) (lv' := [(3, .int (nI (t + 1))), (4, .int (nI j)), (1, .long a3), (0, .ref (z 0))]) hx hb dX5_digest_105 hl (k := 2) rfl (nI_inc _) (by decide) rfl (fun ls hl => ?_)
                        refine lv_goto (tgt := 6) hx hb dX5_digest_108 (by decide) ?_
                        exact ih6 (t + 1) a3 (by omega) (by omega) (dx_m h1 h2 h3 hm c51 (by omega)) ls (lv_sub hl [0, 2, 3] rfl)
                      · -- 77 False
                        refine lv_ldc2 (own := RX5) (v := (31)) hx hb hown (hts (.constantLong RX5 155 (31)) (by decide +kernel)) dX5_digest_80 ?_
                        refine lv_lload_n hx hb dX5_digest_83 rfl (lv_at hl 1 rfl) ?_
                        refine lv_lmul hx hb dX5_digest_84 ?_
                        refine lv_aload_n hx hb dX5_digest_85 rfl (lv_at hl 3 rfl) ?_
                        refine va_get (D := D) (ci := 5) (v := .ref (z 6)) (C := RX5) (T := TX5) (N := 19) hx hb hts hin5 hown hK.1 hP 0 rfl rfl 7 (by decide) (hts (.fieldLink RX5 26 "TestPickerModel" "bytes" "[I") (by decide +kernel)) (fun _ h9 => h9) rfl dX5_digest_86 ?_
                        refine lv_iconst (v := 5) hx hb dX5_digest_89 (by decide) ?_
                        refine lv_iload_n hx hb dX5_digest_90 rfl (lv_at hl 2 rfl) ?_
                        refine lv_imul hx hb dX5_digest_91 ?_
                        refine lv_iload hx hb dX5_digest_92 (lv_at hl 0 rfl) ?_
                        refine lv_iadd hx hb dX5_digest_94 ?_
                        refine tp_i (z := nI (5 * t + j)) (ix5 _ _) ?_
                        refine ld_i hx hb hK hP 6 (f := gBy gs) rfl (i := (5 * t + j)) (by omega) (by decide) dX5_digest_95 ?_
                        refine lv_i2l (v := (gBy gs (5 * t + j)).toInt64) hx hb dX5_digest_96 rfl ?_
                        refine lv_ladd hx hb dX5_digest_97 ?_
                        refine lv_lstore_n (lv' := [(1, .long (((31) * a3) + (gBy gs (5 * t + j)).toInt64)), (4, .int (nI j)), (3, .int (nI t)), (0, .ref (z 0))]) hx hb dX5_digest_98 rfl hl (by decide) rfl (fun ls hl => ?_)
                        refine lv_iinc (v := nI (j + 1)) (lv' := [(4, .int (nI (j + 1))), (1, .long (((31) * a3) + (gBy gs (5 * t + j)).toInt64)), (3, .int (nI t)), (0, .ref (z 0))]) hx hb dX5_digest_99 hl (k := 1) rfl (nI_inc _) (by decide) rfl (fun ls hl => ?_)
                        refine lv_goto (tgt := 65) hx hb dX5_digest_102 (by decide) ?_
                        exact ih65 (j + 1) (((31) * a3) + (gBy gs (5 * t + j)).toInt64) (by omega) (by omega) (by rw [h3]; rfl) (Or.inr c77) ls (lv_sub hl [0, 1, 2, 3] rfl)
                exact L65 (6) 0 (((31) * a2) - 1) (by omega) (by omega) (rfl) (Or.inl rfl) ls (lv_sub hl [0, 1, 2, 3] rfl)
            · -- 21 False
              have c21 : i ≤ 6 := (Nat.not_lt.mp (fun z => c21 ((nI_ltI (a := 6) (b := i) (by omega) (by omega)).mpr z)))
              refine lv_ldc2 (own := RX5) (v := (31)) hx hb hown (hts (.constantLong RX5 155 (31)) (by decide +kernel)) dX5_digest_24 ?_
              refine lv_lload_n hx hb dX5_digest_27 rfl (lv_at hl 2 rfl) ?_
              refine lv_lmul hx hb dX5_digest_28 ?_
              refine lv_aload_n hx hb dX5_digest_29 rfl (lv_at hl 3 rfl) ?_
              refine lv_iload_n hx hb dX5_digest_30 rfl (lv_at hl 1 rfl) ?_
              refine lv_iload hx hb dX5_digest_31 (lv_at hl 0 rfl) ?_
              refine ro_Vi (post := (gTl gs t (nI i))) (As := [.int (nI t), .int (nI i)]) (rest := [.long ((31) * a2)]) ⟨hx, hb, hml, hown, hts⟩ (c_X5_tells l D z c gs t (nI i) (by omega) (by omega) (by omega) hN) (cwV 2 hts gX5_digest_X5_tells rfl rfl rfl (by decide +kernel) ⟨Nat.le_of_ble_eq_true rfl, Nat.le_of_ble_eq_true rfl⟩) hP hK (va_recv hK.1 hP (ci := 5) (q0 := 0) rfl rfl) rfl hl.1 rfl (Nat.le_of_ble_eq_true rfl) dX5_digest_33 ⟨Nat.le_of_ble_eq_true rfl, Nat.le_of_ble_eq_true rfl⟩ ?_
              refine lv_i2l (v := (gTl gs t (nI i)).toInt64) hx hb dX5_digest_36 rfl ?_
              refine lv_ladd hx hb dX5_digest_37 ?_
              refine lv_lstore_n (lv' := [(1, .long (((31) * a2) + (gTl gs t (nI i)).toInt64)), (4, .int (nI i)), (3, .int (nI t)), (0, .ref (z 0))]) hx hb dX5_digest_38 rfl hl (by decide) rfl (fun ls hl => ?_)
              refine lv_iinc (v := nI (i + 1)) (lv' := [(4, .int (nI (i + 1))), (1, .long (((31) * a2) + (gTl gs t (nI i)).toInt64)), (3, .int (nI t)), (0, .ref (z 0))]) hx hb dX5_digest_39 hl (k := 1) rfl (nI_inc _) (by decide) rfl (fun ls hl => ?_)
              refine lv_goto (tgt := 17) hx hb dX5_digest_42 (by decide) ?_
              exact ih17 (i + 1) (((31) * a2) + (gTl gs t (nI i)).toInt64) (by omega) (by omega) (by rw [h2]; rfl) ls (lv_sub hl [0, 2, 1, 3] rfl)
        exact L17 (8) 0 a (by omega) (by omega) (rfl) ls (lv_sub hl [0, 1, 2, 3] rfl)
  exact L6 (gT gs + 1) 0 (17) (by omega) (by omega) (rfl) ls (lv_sub hl [0, 1, 2] rfl)

set_option maxHeartbeats 4000000 in
set_option maxRecDepth 100000 in
theorem c_X5_run (l : Launch) (D : va_G) (z : Nat → Nat) (c : CT) (gs : GS) (x : Int32) (k : Nat) (hT : gT gs ≤ 20) (hB60 : gB gs ≤ 60) (hN : WN (gNd gs) (gT gs)) (hk20 : k ≤ 20) (hpm : 0 ≤ gPm gs → gPm gs = nI k) (hrow : ∀ i, i < k → ∃ u, u < gT gs ∧ gPk gs i = nI u) (hb0 : 0 ≤ gPm gs → 0 < gB gs) : MUi l yX5_run wsX5_run ({ frames := 1, cells := 0, slots := 0, locals := 24 } : Room) [.ref (z 0), .int x] D c (wG z c gs) (wG z c (gRun x k gs).2) ((gRun x k gs).1) := by
  refine mu_start (cc := cX5_run) (maxL := 7) (ret := some .int) (by decide) rfl (Nat.le_of_ble_eq_true rfl) ?_
  intro p e s m args below meth c0 ls hx hb hr hml hown hts hlk hnm hP hK hD hS hA hl
  have hown : s.vm.findClass RX5 = some m.cls := hown
  have hl : lv_has ls 7 [(0, .ref (z 0)), (1, .int x)] := hl
  have hin5 : ∀ w ∈ wsX50, w ∈ wsX5_run := by decide +kernel
  refine lv_aload_n hx hb dX5_run_0 rfl (lv_at hl 0 rfl) ?_
  refine lv_iload_n hx hb dX5_run_1 rfl (lv_at hl 1 rfl) ?_
  refine ro_Vi (post := bI (arT x (gT gs))) (As := [.int x]) (rest := []) ⟨hx, hb, hml, hown, hts⟩ (c_X5_areTests l D z c gs x) (cwV 1 hts gX5_run_X5_areTests rfl rfl rfl (by decide +kernel) ⟨Nat.le_of_ble_eq_true rfl, Nat.le_of_ble_eq_true rfl⟩) hP hK (va_recv hK.1 hP (ci := 5) (q0 := 0) rfl rfl) rfl hl.1 rfl (Nat.le_of_ble_eq_true rfl) dX5_run_2 ⟨Nat.le_of_ble_eq_true rfl, Nat.le_of_ble_eq_true rfl⟩ ?_
  refine lv_if_ne (tgt := 10) hx hb dX5_run_5 (by decide) (fun c5 => ?_) (fun c5 => ?_)
  · -- 5 True
    have c5 := bI_nz.mp c5
    refine lv_aload_n hx hb dX5_run_10 rfl (lv_at hl 0 rfl) ?_
    refine va_get (D := D) (ci := 5) (v := .int (gPm gs)) (C := RX5) (T := TX5) (N := 19) hx hb hts hin5 hown hK.1 hP 0 rfl rfl 13 (by decide) (hts (.fieldLink RX5 39 "TestPickerModel" "pickMany" "I") (by decide +kernel)) (fun _ h9 => h9) rfl dX5_run_11 ?_
    refine lv_if_ge (tgt := 20) hx hb dX5_run_14 (by decide) (fun c14 => ?_) (fun c14 => ?_)
    · -- 14 True
      have hbp : 0 < gB gs := hb0 c14
      have hpk : gPm gs = nI k := hpm c14
      have hP : va_P D vwCl (wG z c (gFi gs, gFs gs, gT gs, gKd gs, gTi gs, gNd gs, gMs gs, gBy gs, gB gs, gCg gs, gVe gs, gAs gs, gMv gs, nI k, gPk gs, gPt gs, gPp gs, gPs gs, gMay gs)) s.heap := by rw [← hpk]; exact hP
      have hD : va_D (va_A (wG z c gs) s.heap.size) (wG z c (gFi gs, gFs gs, gT gs, gKd gs, gTi gs, gNd gs, gMs gs, gBy gs, gB gs, gCg gs, gVe gs, gAs gs, gMv gs, nI k, gPk gs, gPt gs, gPp gs, gPs gs, gMay gs)) := by rw [← hpk]; exact hD
      refine lv_iconst (v := 0) hx hb dX5_run_20 (by decide) ?_
      refine lv_istore_n (lv' := [(2, .int 0), (0, .ref (z 0)), (1, .int x)]) hx hb dX5_run_21 rfl hl (by decide) rfl (fun ls hl => ?_)
      refine lv_iconst (v := 0) hx hb dX5_run_22 (by decide) ?_
      refine lv_istore_n (lv' := [(3, .int 0), (2, .int 0), (0, .ref (z 0)), (1, .int x)]) hx hb dX5_run_23 rfl hl (by decide) rfl (fun ls hl => ?_)
      refine lv_iconst (v := 0) hx hb dX5_run_24 (by decide) ?_
      refine lv_istore (lv' := [(4, .int 0), (3, .int 0), (2, .int 0), (0, .ref (z 0)), (1, .int x)]) hx hb dX5_run_25 hl (by decide) rfl (fun ls hl => ?_)
      have L27 : ∀ (n : Nat) (i : Nat) (fl : Int32) (nv : Int32) (ve : Nat → Int32), (i ≤ k) → (k < i + n) → (rnM gs x i = (fl, nv, ve)) → ∀ (H : Heap) (locs : List Loc), va_P D vwCl (wG z c (gFi gs, gFs gs, gT gs, gKd gs, gTi gs, gNd gs, gMs gs, gBy gs, gB gs, gCg gs, ve, gAs gs, gMv gs, nI k, gPk gs, gPt gs, gPp gs, gPs gs, gMay gs)) H → va_D (va_A (wG z c gs) s.heap.size) (wG z c (gFi gs, gFs gs, gT gs, gKd gs, gTi gs, gNd gs, gMs gs, gBy gs, gB gs, gCg gs, ve, gAs gs, gMv gs, nI k, gPk gs, gPt gs, gPp gs, gPs gs, gMay gs)) → va_S (va_A (wG z c gs) s.heap.size) s.heap H locs → ∀ ls : Array Slot, lv_has ls 7 [(4, .int (nI i)), (3, .int nv), (2, .int fl), (0, .ref (z 0)), (1, .int x)] → W p l e ({ frames := 1, cells := 0, slots := 0, locals := 24 } : Room) s m args below meth c0 H locs 0 0 (QMi below args s D c (wG z c gs) (wG z c (gRun x k gs).2) ((gRun x k gs).1)) (F0 m 27 ls []) := by
        intro n
        induction n with
        | zero => intro i fl nv ve hi hn hq H locs hP hD hS ls hl; exact absurd hn (by omega)
        | succ n ih27 =>
          intro i fl nv ve hi hn hq H locs hP hD hS ls hl
          refine lv_iload hx hb dX5_run_27 (lv_at hl 0 rfl) ?_
          refine lv_aload_n hx hb dX5_run_29 rfl (lv_at hl 3 rfl) ?_
          refine va_get (D := D) (ci := 5) (v := .int (nI k)) (C := RX5) (T := TX5) (N := 19) hx hb hts hin5 hown hK.1 hP 0 rfl rfl 13 (by decide) (hts (.fieldLink RX5 39 "TestPickerModel" "pickMany" "I") (by decide +kernel)) (fun _ h9 => h9) rfl dX5_run_30 ?_
          refine lv_icmp_ge (tgt := 99) hx hb dX5_run_33 (by decide) (fun c33 => ?_) (fun c33 => ?_)
          · -- 33 True
            have c33 : k ≤ i := (nI_leI (a := k) (b := i) (by omega) (by omega)).mp c33
            refine lv_iload_n hx hb dX5_run_99 rfl (lv_at hl 1 rfl) ?_
            have e9 : gRun x k gs = (nv, (gFi gs, gFs gs, gT gs, gKd gs, gTi gs, gNd gs, gMs gs, gBy gs, gB gs, gCg gs, ve, gAs gs, gMv gs, nI k, gPk gs, gPt gs, gPp gs, gPs gs, gMay gs)) := by rw [gRun, if_neg (by rw [c5]; decide), if_neg (fun y => y c14), show rnM gs x k = (fl, nv, ve) from (show k = i by omega) ▸ hq, ← hpk]
            rw [e9]
            exact mu_reti hx hb hr hlk hP hD hS (rfl) dX5_run_100
          · -- 33 False
            have c33 : i < k := (Nat.not_le.mp (fun z => c33 ((nI_leI (a := k) (b := i) (by omega) (by omega)).mpr z)))
            obtain ⟨u, hu1, hu2⟩ := hrow i c33
            refine lv_aload_n hx hb dX5_run_36 rfl (lv_at hl 3 rfl) ?_
            refine va_get (D := D) (ci := 5) (v := .ref (z 10)) (C := RX5) (T := TX5) (N := 19) hx hb hts hin5 hown hK.1 hP 0 rfl rfl 14 (by decide) (hts (.fieldLink RX5 43 "TestPickerModel" "picks" "[I") (by decide +kernel)) (fun _ h9 => h9) rfl dX5_run_37 ?_
            refine lv_iload hx hb dX5_run_40 (lv_at hl 0 rfl) ?_
            refine ld_i hx hb hK hP 10 (f := gPk gs) rfl (i := i) (by omega) (by decide) dX5_run_42 ?_
            refine tp_i (z := nI u) (hu2) ?_
            refine lv_istore (lv' := [(5, .int (nI u)), (4, .int (nI i)), (3, .int nv), (2, .int fl), (0, .ref (z 0)), (1, .int x)]) hx hb dX5_run_43 hl (by decide) rfl (fun ls hl => ?_)
            refine lv_aload_n hx hb dX5_run_45 rfl (lv_at hl 4 rfl) ?_
            refine lv_iload hx hb dX5_run_46 (lv_at hl 0 rfl) ?_
            refine ro_Vi (post := (gCh gs u)) (As := [.int (nI u)]) (rest := []) ⟨hx, hb, hml, hown, hts⟩ (c_X5_chainOf l D z c (gFi gs, gFs gs, gT gs, gKd gs, gTi gs, gNd gs, gMs gs, gBy gs, gB gs, gCg gs, ve, gAs gs, gMv gs, nI k, gPk gs, gPt gs, gPp gs, gPs gs, gMay gs) u (by omega) (by omega) hN) (cwV 1 hts gX5_run_X5_chainOf rfl rfl rfl (by decide +kernel) ⟨Nat.le_of_ble_eq_true rfl, Nat.le_of_ble_eq_true rfl⟩) hP hK (va_recv hK.1 hP (ci := 5) (q0 := 0) rfl rfl) rfl hl.1 rfl (Nat.le_of_ble_eq_true rfl) dX5_run_48 ⟨Nat.le_of_ble_eq_true rfl, Nat.le_of_ble_eq_true rfl⟩ ?_
            refine lv_iload_n hx hb dX5_run_51 rfl (lv_at hl 3 rfl) ?_
            refine lv_iand hx hb dX5_run_52 ?_
            refine lv_if_ne (tgt := 93) hx hb dX5_run_53 (by decide) (fun c53 => ?_) (fun c53 => ?_)
            · -- 53 True
              refine lv_iinc (v := nI (i + 1)) (lv' := [(4, .int (nI (i + 1))), (5, .int (nI u)), (3, .int nv), (2, .int fl), (0, .ref (z 0)), (1, .int x)]) hx hb dX5_run_93 hl (k := 1) rfl (nI_inc _) (by decide) rfl (fun ls hl => ?_)
              refine lv_goto (tgt := 27) hx hb dX5_run_96 (by decide) ?_
              exact ih27 (i + 1) fl nv ve (by omega) (by omega) (by rw [rnM, hq, hu2, cl_nI' (show u < 20 by omega), if_neg c53]) _ _ hP hD hS ls (lv_sub hl [0, 2, 3, 4, 5] rfl)
            · -- 53 False
              refine lv_aload_n hx hb dX5_run_56 rfl (lv_at hl 4 rfl) ?_
              refine lv_iload hx hb dX5_run_57 (lv_at hl 0 rfl) ?_
              refine lv_iload_n hx hb dX5_run_59 rfl (lv_at hl 5 rfl) ?_
              refine lv_iload hx hb dX5_run_60 (lv_at hl 0 rfl) ?_
              refine ro_Si (As := [.int x, .int (nI u)]) (rest := [.int (nI u), .ref (z 0)]) ⟨hx, hb, hml, hown, hts⟩ (c_X5_has l D c x u (by omega)) (va_cwS 2 hts gX5_run_X5_has rfl rfl rfl (by decide +kernel) ⟨Nat.le_of_ble_eq_true rfl, Nat.le_of_ble_eq_true rfl⟩) va_P0 hK rfl hl.1 rfl (Nat.le_of_ble_eq_true rfl) dX5_run_62 ⟨Nat.le_of_ble_eq_true rfl, Nat.le_of_ble_eq_true rfl⟩ ?_
              refine mu_Vi (As := [.int (nI u), .int (bI (bt x u))]) (rest := []) (wr := []) (wk := wG z c (gFi gs, gFs gs, gT gs, gKd gs, gTi gs, gNd gs, gMs gs, gBy gs, gB gs, gCg gs, (upd ve (20 * (gB gs - 1) + u) (bI (bt x u))), gAs gs, gMv gs, nI k, gPk gs, gPt gs, gPp gs, gPs gs, gMay gs)) [0, 1, 2, 3, 4, 5, 6, 7, 8, 9, 10, 11] [] [0, 1, 2, 3, 4, 5, 6, 7, 8, 9, 10, 11] ⟨hx, hb, hml, hown, hts⟩ (c_X5_judge l D z c (gFi gs, gFs gs, gT gs, gKd gs, gTi gs, gNd gs, gMs gs, gBy gs, gB gs, gCg gs, ve, gAs gs, gMv gs, nI k, gPk gs, gPt gs, gPp gs, gPs gs, gMay gs) u (bt x u) (by omega) (by omega) (by omega)) (cwV 2 hts gX5_run_X5_judge rfl rfl rfl (by decide +kernel) ⟨Nat.le_of_ble_eq_true rfl, Nat.le_of_ble_eq_true rfl⟩) hP hK hD hS hA (va_recv hK.1 hP (ci := 5) (q0 := 0) rfl rfl) rfl rfl (by decide) (by decide) (by decide) (by decide) rfl rfl hl.1 rfl (Nat.le_of_ble_eq_true rfl) dX5_run_65 ⟨Nat.le_of_ble_eq_true rfl, Nat.le_of_ble_eq_true rfl⟩ (fun H locs hP hD hS => ?_)
              refine lv_istore (lv' := [(6, .int (bI (!decide (ve (20 * (gB gs - 1) + u) < 0)))), (5, .int (nI u)), (4, .int (nI i)), (3, .int nv), (2, .int fl), (0, .ref (z 0)), (1, .int x)]) hx hb dX5_run_68 hl (by decide) rfl (fun ls hl => ?_)
              refine lv_iload_n hx hb dX5_run_70 rfl (lv_at hl 4 rfl) ?_
              refine lv_iload_n hx hb dX5_run_71 rfl (lv_at hl 6 rfl) ?_
              refine lv_iload hx hb dX5_run_72 (lv_at hl 1 rfl) ?_
              refine ro_Si (As := [.int x, .int (nI u)]) (rest := [.int fl]) ⟨hx, hb, hml, hown, hts⟩ (c_X5_has l D c x u (by omega)) (va_cwS 2 hts gX5_run_X5_has rfl rfl rfl (by decide +kernel) ⟨Nat.le_of_ble_eq_true rfl, Nat.le_of_ble_eq_true rfl⟩) va_P0 hK rfl hl.1 rfl (Nat.le_of_ble_eq_true rfl) dX5_run_74 ⟨Nat.le_of_ble_eq_true rfl, Nat.le_of_ble_eq_true rfl⟩ ?_
              refine lv_if_eq (tgt := 87) hx hb dX5_run_77 (by decide) (fun c77 => ?_) (fun c77 => ?_)
              · -- 77 True
                have c77 := bI_z.mp c77
                refine lv_iconst (v := 0) hx hb dX5_run_87 (by decide) ?_
                refine lv_ior hx hb dX5_run_88 ?_
                refine lv_istore_n (lv' := [(2, .int (fl ||| 0)), (6, .int (bI (!decide (ve (20 * (gB gs - 1) + u) < 0)))), (5, .int (nI u)), (4, .int (nI i)), (3, .int nv), (0, .ref (z 0)), (1, .int x)]) hx hb dX5_run_89 rfl hl (by decide) rfl (fun ls hl => ?_)
                refine lv_iinc (v := (nv + 1)) (lv' := [(3, .int (nv + 1)), (2, .int (fl ||| 0)), (6, .int (bI (!decide (ve (20 * (gB gs - 1) + u) < 0)))), (5, .int (nI u)), (4, .int (nI i)), (0, .ref (z 0)), (1, .int x)]) hx hb dX5_run_90 hl (k := 4) rfl (rfl) (by decide) rfl (fun ls hl => ?_)
                refine lv_iinc (v := nI (i + 1)) (lv' := [(4, .int (nI (i + 1))), (3, .int (nv + 1)), (2, .int (fl ||| 0)), (6, .int (bI (!decide (ve (20 * (gB gs - 1) + u) < 0)))), (5, .int (nI u)), (0, .ref (z 0)), (1, .int x)]) hx hb dX5_run_93 hl (k := 4) rfl (nI_inc _) (by decide) rfl (fun ls hl => ?_)
                refine lv_goto (tgt := 27) hx hb dX5_run_96 (by decide) ?_
                exact ih27 (i + 1) (fl ||| 0) (nv + 1) (upd ve (20 * (gB gs - 1) + u) (bI (bt x u))) (by omega) (by omega) (by rw [rnM, hq, hu2, cl_nI' (show u < 20 by omega), if_pos c53]; simp [c77, oneE, bI]) _ _ hP hD hS ls (lv_sub hl [0, 1, 2, 5, 6] rfl)
              · -- 77 False
                have c77 := bI_nz.mp c77
                refine lv_iconst (v := 1) hx hb dX5_run_80 (by decide) ?_
                refine lv_iload hx hb dX5_run_81 (lv_at hl 1 rfl) ?_
                refine lv_ishl hx hb dX5_run_83 ?_
                refine lv_goto (tgt := 88) hx hb dX5_run_84 (by decide) ?_
                refine lv_ior hx hb dX5_run_88 ?_
                refine lv_istore_n (lv' := [(2, .int (fl ||| ((1 : Int32) <<< (nI u &&& 31)))), (6, .int (bI (!decide (ve (20 * (gB gs - 1) + u) < 0)))), (5, .int (nI u)), (4, .int (nI i)), (3, .int nv), (0, .ref (z 0)), (1, .int x)]) hx hb dX5_run_89 rfl hl (by decide) rfl (fun ls hl => ?_)
                refine lv_iinc (v := (nv + 1)) (lv' := [(3, .int (nv + 1)), (2, .int (fl ||| ((1 : Int32) <<< (nI u &&& 31)))), (6, .int (bI (!decide (ve (20 * (gB gs - 1) + u) < 0)))), (5, .int (nI u)), (4, .int (nI i)), (0, .ref (z 0)), (1, .int x)]) hx hb dX5_run_90 hl (k := 4) rfl (rfl) (by decide) rfl (fun ls hl => ?_)
                refine lv_iinc (v := nI (i + 1)) (lv' := [(4, .int (nI (i + 1))), (3, .int (nv + 1)), (2, .int (fl ||| ((1 : Int32) <<< (nI u &&& 31)))), (6, .int (bI (!decide (ve (20 * (gB gs - 1) + u) < 0)))), (5, .int (nI u)), (0, .ref (z 0)), (1, .int x)]) hx hb dX5_run_93 hl (k := 4) rfl (nI_inc _) (by decide) rfl (fun ls hl => ?_)
                refine lv_goto (tgt := 27) hx hb dX5_run_96 (by decide) ?_
                exact ih27 (i + 1) (fl ||| ((1 : Int32) <<< (nI u &&& 31))) (nv + 1) (upd ve (20 * (gB gs - 1) + u) (bI (bt x u))) (by omega) (by omega) (by rw [rnM, hq, hu2, cl_nI' (show u < 20 by omega), if_pos c53]; simp [c77, oneE, bI]) _ _ hP hD hS ls (lv_sub hl [0, 1, 2, 5, 6] rfl)
      exact L27 (k + 1) 0 0 0 (gVe gs) (by omega) (by omega) (rfl) _ _ hP hD hS ls (lv_sub hl [0, 1, 2, 3, 4] rfl)
    · -- 14 False
      refine lv_bipush (v := (-4)) hx hb dX5_run_17 (by decide) ?_
      have e9 : gRun x k gs = ((-4), gs) := by simp [gRun, c5, c14]
      rw [e9]
      exact mu_reti hx hb hr hlk hP hD hS (rfl) dX5_run_19
  · -- 5 False
    have c5 := bI_z.mp c5
    refine lv_iconst (v := (-1)) hx hb dX5_run_8 (by decide) ?_
    have e9 : gRun x k gs = ((-1), gs) := by simp [gRun, c5]
    rw [e9]
    exact mu_reti hx hb hr hlk hP hD hS (rfl) dX5_run_9
