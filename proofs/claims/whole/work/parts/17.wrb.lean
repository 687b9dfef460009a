set_option maxHeartbeats 4000000 in
set_option maxRecDepth 100000 in
theorem c_X2_seekFewest (l : Launch) (D : va_G) (q : Nat → Nat) (c : CT) (ss : SS) (go : Int64) (hN12 : sN ss ≤ 12) : MUv l yX2_seekFewest wsX2_seekFewest ({ frames := 2, cells := 0, slots := 0, locals := 44 } : Room) [.ref (q 15), .long go] D c (wS q c ss) (wS q c (skF go (enF go (sN ss)) 4097 ss 1 13)) := by
  refine mu_start (cc := cX2_seekFewest) (maxL := 10) (ret := none) (by decide) rfl (Nat.le_of_ble_eq_true rfl) ?_
  intro p e s m args below meth c0 ls hx hb hr hml hown hts hlk hnm hP hK hD hS hA hl
  have hown : s.vm.findClass RX2 = some m.cls := hown
  have hl : lv_has ls 10 [(0, .ref (q 15)), (1, .long go)] := hl
  have hin2 : ∀ w ∈ wsX20, w ∈ wsX2_seekFewest := by decide +kernel
  have h4096 := enF_le go hN12
  have h4097 := pow_le12 hN12
  have J16 : ∀ (x3 : Int32), x3 = nI (enF go (sN ss)) → W p l e ({ frames := 2, cells := 0, slots := 0, locals := 44 } : Room) s m args below meth c0 s.heap [] 0 0 (QMv below args s D c (wS q c ss) (wS q c (skF go (enF go (sN ss)) 4097 ss 1 13))) (F0 m 16 ls [.int x3]) := by
    intro x3 hx3
    subst hx3
    refine lv_istore_n (lv' := [(3, .int (nI (enF go (sN ss)))), (0, .ref (q 15)), (1, .long go)]) hx hb dX2_seekFewest_16 rfl hl (by decide) rfl (fun ls hl => ?_)
    refine lv_bipush (v := 13) hx hb dX2_seekFewest_17 (by decide) ?_
    refine lv_istore (lv' := [(4, .int 13), (3, .int (nI (enF go (sN ss)))), (0, .ref (q 15)), (1, .long go)]) hx hb dX2_seekFewest_19 hl (by decide) rfl (fun ls hl => ?_)
    refine lv_iconst (v := 1) hx hb dX2_seekFewest_21 (by decide) ?_
    refine lv_istore (lv' := [(5, .int 1), (4, .int 13), (3, .int (nI (enF go (sN ss)))), (0, .ref (q 15)), (1, .long go)]) hx hb dX2_seekFewest_22 hl (by decide) rfl (fun ls hl => ?_)
    have L24 : ∀ (n : Nat) (k : Nat) (s2 : SS) (fy : Int32), (sN s2 = sN ss) → (0 < k) → (k ≤ 2 ^ sN ss) → (2 ^ sN ss < k + n) → (skF go (enF go (sN ss)) n s2 k fy = skF go (enF go (sN ss)) 4097 ss 1 13) → ∀ (H : Heap) (locs : List Loc), va_P D vwCl (wS q c s2) H → va_D (va_A (wS q c ss) s.heap.size) (wS q c s2) → va_S (va_A (wS q c ss) s.heap.size) s.heap H locs → ∀ ls : Array Slot, lv_has ls 10 [(5, .int (nI k)), (4, .int fy), (3, .int (nI (enF go (sN ss)))), (0, .ref (q 15)), (1, .long go)] → W p l e ({ frames := 2, cells := 0, slots := 0, locals := 44 } : Room) s m args below meth c0 H locs 0 0 (QMv below args s D c (wS q c ss) (wS q c (skF go (enF go (sN ss)) 4097 ss 1 13))) (F0 m 24 ls []) := by
      intro n
      induction n with
      | zero => intro k s2 fy hs2 hk0 hkN hn hq H locs hP hD hS ls hl; exact absurd hn (by omega)
      | succ n ih24 =>
        intro k s2 fy hs2 hk0 hkN hn hq H locs hP hD hS ls hl
        refine lv_iload hx hb dX2_seekFewest_24 (lv_at hl 0 rfl) ?_
        refine lv_iload_n hx hb dX2_seekFewest_26 rfl (lv_at hl 2 rfl) ?_
        refine lv_icmp_ge (tgt := 147) hx hb dX2_seekFewest_27 (by decide) (fun c27 => ?_) (fun c27 => ?_)
        · -- 27 True
          have c27 : (enF go (sN ss)) ≤ k := (nI_leI (a := (enF go (sN ss))) (b := k) (by omega) (by omega)).mp c27
          have e9 : skF go (enF go (sN ss)) 4097 ss 1 13 = s2 := by rw [← hq, skF, if_neg (by omega)]
          rw [e9]
          exact mu_retv hx hb hr hlk hP hD hS dX2_seekFewest_147
        · -- 27 False
          have c27 : k < (enF go (sN ss)) := (Nat.not_le.mp (fun z => c27 ((nI_leI (a := (enF go (sN ss))) (b := k) (by omega) (by omega)).mpr z)))
          have hk2 : k < 2 ^ sN ss := by unfold enF at c27; split at c27 <;> omega
          have hlw : lw k < 12 := lw_lt 12 k hk0 (by omega)
          refine lv_aload_n hx hb dX2_seekFewest_30 rfl (lv_at hl 3 rfl) ?_
          refine lv_iload hx hb dX2_seekFewest_31 (lv_at hl 0 rfl) ?_
          refine mu_Vi (As := [.int (nI k)]) (rest := []) (wr := []) (wk := wS q c (sumS s2 k)) [0, 1, 2, 3, 4, 5, 6, 7, 8] [] [0, 1, 2, 3, 4, 5, 6, 7, 8] ⟨hx, hb, hml, hown, hts⟩ (c_X2_sumUp l D q c s2 k (by omega) (by omega)) (cwV 1 hts gX2_seekFewest_X2_sumUp rfl rfl rfl (by decide +kernel) ⟨Nat.le_of_ble_eq_true rfl, Nat.le_of_ble_eq_true rfl⟩) hP hK hD hS hA (va_recv hK.1 hP (ci := 2) (q0 := 0) rfl rfl) rfl rfl (by decide) (by decide) (by decide) (by decide) rfl rfl hl.1 rfl (Nat.le_of_ble_eq_true rfl) dX2_seekFewest_33 ⟨Nat.le_of_ble_eq_true rfl, Nat.le_of_ble_eq_true rfl⟩ (fun H locs hP hD hS => ?_)
          refine lv_istore (lv' := [(6, .int (nI (lw k))), (5, .int (nI k)), (4, .int fy), (3, .int (nI (enF go (sN ss)))), (0, .ref (q 15)), (1, .long go)]) hx hb dX2_seekFewest_36 hl (by decide) rfl (fun ls hl => ?_)
          refine lv_iload hx hb dX2_seekFewest_38 (lv_at hl 1 rfl) ?_
          refine ro_Si (As := [.int (nI k)]) (rest := []) ⟨hx, hb, hml, hown, hts⟩ (c_J6_bitCount_0f7a4 l D c (nI k)) (va_cwS 1 hts gX2_seekFewest_J6_bitCount_0f7a4 rfl rfl rfl (by decide +kernel) ⟨Nat.le_of_ble_eq_true rfl, Nat.le_of_ble_eq_true rfl⟩) va_P0 hK rfl hl.1 rfl (Nat.le_of_ble_eq_true rfl) dX2_seekFewest_40 ⟨Nat.le_of_ble_eq_true rfl, Nat.le_of_ble_eq_true rfl⟩ ?_
          refine lv_istore (lv' := [(7, .int (popI (nI k))), (6, .int (nI (lw k))), (5, .int (nI k)), (4, .int fy), (3, .int (nI (enF go (sN ss)))), (0, .ref (q 15)), (1, .long go)]) hx hb dX2_seekFewest_43 hl (by decide) rfl (fun ls hl => ?_)
          refine lv_aload_n hx hb dX2_seekFewest_45 rfl (lv_at hl 5 rfl) ?_
          refine va_get (D := D) (ci := 2) (v := .ref (q 23)) (C := RX2) (T := TX2) (N := 12) hx hb hts hin2 hown hK.1 hP 0 rfl rfl 8 (by decide) (hts (.fieldLink RX2 38 "TestPicker$Sets" "coverFrom" "[J") (by decide +kernel)) (fun _ h9 => h9) rfl dX2_seekFewest_46 ?_
          refine lv_iload hx hb dX2_seekFewest_49 (lv_at hl 1 rfl) ?_
          refine ld_l hx hb hK hP 8 (f := sVf (sumS s2 k)) rfl (i := (lw k)) (by omega) (by decide) dX2_seekFewest_51 ?_
          refine lv_lload_n hx hb dX2_seekFewest_52 rfl (lv_at hl 6 rfl) ?_
          refine W.lcmp hx hb dX2_seekFewest_53 ?_
          refine lv_if_ne (tgt := 61) hx hb dX2_seekFewest_54 (by decide) (fun c54 => ?_) (fun c54 => ?_)
          · -- 54 True
            have c54 := lg_ne.mp c54
            refine lv_iconst (v := 0) hx hb dX2_seekFewest_61 (by decide) ?_
            refine lv_istore (lv' := [(8, .int 0), (7, .int (popI (nI k))), (6, .int (nI (lw k))), (5, .int (nI k)), (4, .int fy), (3, .int (nI (enF go (sN ss)))), (0, .ref (q 15)), (1, .long go)]) hx hb dX2_seekFewest_62 hl (by decide) rfl (fun ls hl => ?_)
            refine lv_iload hx hb dX2_seekFewest_64 (lv_at hl 1 rfl) ?_
            refine lv_iload hx hb dX2_seekFewest_66 (lv_at hl 4 rfl) ?_
            refine lv_icmp_lt (tgt := 92) hx hb dX2_seekFewest_68 (by decide) (fun c68 => ?_) (fun c68 => ?_)
            · -- 68 True
              refine lv_iconst (v := 1) hx hb dX2_seekFewest_92 (by decide) ?_
              refine lv_goto (tgt := 97) hx hb dX2_seekFewest_93 (by decide) ?_
              refine lv_istore (lv' := [(9, .int 1), (8, .int 0), (7, .int (popI (nI k))), (6, .int (nI (lw k))), (5, .int (nI k)), (4, .int fy), (3, .int (nI (enF go (sN ss)))), (0, .ref (q 15)), (1, .long go)]) hx hb dX2_seekFewest_97 hl (by decide) rfl (fun ls hl => ?_)
              refine lv_iload hx hb dX2_seekFewest_99 (lv_at hl 1 rfl) ?_
              refine lv_if_eq (tgt := 119) hx hb dX2_seekFewest_101 (by decide) (fun c101 => ?_) (fun c101 => ?_)
              · -- 101 True
                refine lv_iload hx hb dX2_seekFewest_119 (lv_at hl 4 rfl) ?_
                refine lv_iload hx hb dX2_seekFewest_121 (lv_at hl 1 rfl) ?_
                refine lv_if_ne (tgt := 133) hx hb dX2_seekFewest_123 (by decide) (fun c123 => ?_) (fun c123 => ?_)
                · -- 123 True
                  exact absurd c123 (by decide)
                · -- 123 False
                  refine lv_iload hx hb dX2_seekFewest_126 (lv_at hl 2 rfl) ?_
                  refine lv_iload hx hb dX2_seekFewest_128 (lv_at hl 5 rfl) ?_
                  refine lv_icmp_lt (tgt := 140) hx hb dX2_seekFewest_130 (by decide) (fun c130 => ?_) (fun c130 => ?_)
                  · -- 130 True
                    refine lv_iconst (v := 1) hx hb dX2_seekFewest_140 (by decide) ?_
                    refine lv_iadd hx hb dX2_seekFewest_141 ?_
                    refine tp_i (z := nI (k + 1)) (nI_1 _) ?_
                    refine lv_istore (lv' := [(5, .int (nI (k + 1))), (9, .int 1), (8, .int 0), (7, .int (popI (nI k))), (6, .int (nI (lw k))), (4, .int fy), (3, .int (nI (enF go (sN ss)))), (0, .ref (q 15)), (1, .long go)]) hx hb dX2_seekFewest_142 hl (by decide) rfl (fun ls hl => ?_)
                    refine lv_goto (tgt := 24) hx hb dX2_seekFewest_144 (by decide) ?_
                    exact ih24 (k + 1) (sumS s2 k) fy (by first | exact hs2 | (show sN s2 = sN ss; exact hs2)) (Nat.lt_of_lt_of_le hk0 (Nat.le_add_right _ _)) (hk2) (by omega) (by rw [← hq, skF, if_pos c27]; simp [fwS, fwK, fwY, fwR, c54, c68, c130]) _ _ hP hD hS ls (lv_sub hl [0, 5, 6, 7, 8] rfl)
                  · -- 130 False
                    exact absurd c68 c130
              · -- 101 False
                exact absurd c101 (by decide)
            · -- 68 False
              refine lv_iload hx hb dX2_seekFewest_71 (lv_at hl 1 rfl) ?_
              refine lv_iload hx hb dX2_seekFewest_73 (lv_at hl 4 rfl) ?_
              refine lv_icmp_ne (tgt := 96) hx hb dX2_seekFewest_75 (by decide) (fun c75 => ?_) (fun c75 => ?_)
              · -- 75 True
                refine lv_iconst (v := 0) hx hb dX2_seekFewest_96 (by decide) ?_
                refine lv_istore (lv' := [(9, .int 0), (8, .int 0), (7, .int (popI (nI k))), (6, .int (nI (lw k))), (5, .int (nI k)), (4, .int fy), (3, .int (nI (enF go (sN ss)))), (0, .ref (q 15)), (1, .long go)]) hx hb dX2_seekFewest_97 hl (by decide) rfl (fun ls hl => ?_)
                refine lv_iload hx hb dX2_seekFewest_99 (lv_at hl 1 rfl) ?_
                refine lv_if_eq (tgt := 119) hx hb dX2_seekFewest_101 (by decide) (fun c101 => ?_) (fun c101 => ?_)
                · -- 101 True
                  refine lv_iload hx hb dX2_seekFewest_119 (lv_at hl 4 rfl) ?_
                  refine lv_iload hx hb dX2_seekFewest_121 (lv_at hl 1 rfl) ?_
                  refine lv_if_ne (tgt := 133) hx hb dX2_seekFewest_123 (by decide) (fun c123 => ?_) (fun c123 => ?_)
                  · -- 123 True
                    exact absurd c123 (by decide)
                  · -- 123 False
                    refine lv_iload hx hb dX2_seekFewest_126 (lv_at hl 2 rfl) ?_
                    refine lv_iload hx hb dX2_seekFewest_128 (lv_at hl 5 rfl) ?_
                    refine lv_icmp_lt (tgt := 140) hx hb dX2_seekFewest_130 (by decide) (fun c130 => ?_) (fun c130 => ?_)
                    · -- 130 True
                      exact absurd c130 c68
                    · -- 130 False
                      refine lv_iconst (v := 1) hx hb dX2_seekFewest_133 (by decide) ?_
                      refine lv_iload hx hb dX2_seekFewest_134 (lv_at hl 3 rfl) ?_
                      refine lv_ishl hx hb dX2_seekFewest_136 ?_
                      refine tp_i (z := nI (2 ^ lw k)) (one_pow _ (by omega)) ?_
                      refine lv_goto (tgt := 141) hx hb dX2_seekFewest_137 (by decide) ?_
                      refine lv_iadd hx hb dX2_seekFewest_141 ?_
                      refine tp_i (z := nI (k + 2 ^ lw k)) (nI_add _ _) ?_
                      refine lv_istore (lv' := [(5, .int (nI (k + 2 ^ lw k))), (9, .int 0), (8, .int 0), (7, .int (popI (nI k))), (6, .int (nI (lw k))), (4, .int fy), (3, .int (nI (enF go (sN ss)))), (0, .ref (q 15)), (1, .long go)]) hx hb dX2_seekFewest_142 hl (by decide) rfl (fun ls hl => ?_)
                      refine lv_goto (tgt := 24) hx hb dX2_seekFewest_144 (by decide) ?_
                      exact ih24 (k + 2 ^ lw k) (sumS s2 k) fy (by first | exact hs2 | (show sN s2 = sN ss; exact hs2)) (Nat.lt_of_lt_of_le hk0 (Nat.le_add_right _ _)) (lw_add 12 k (sN ss) hk0 hN12 hk2) (by have := Nat.one_le_two_pow (n := lw k); omega) (by rw [← hq, skF, if_pos c27]; simp [fwS, fwK, fwY, fwR, c54, c68, c75, c130]) _ _ hP hD hS ls (lv_sub hl [0, 5, 6, 7, 8] rfl)
                · -- 101 False
                  exact absurd c101 (by decide)
              · -- 75 False
                refine lv_aload_n hx hb dX2_seekFewest_78 rfl (lv_at hl 6 rfl) ?_
                refine va_get (D := D) (ci := 2) (v := .ref (q 22)) (C := RX2) (T := TX2) (N := 12) hx hb hts hin2 hown hK.1 hP 0 rfl rfl 7 (by decide) (hts (.fieldLink RX2 35 "TestPicker$Sets" "timeFrom" "[I") (by decide +kernel)) (fun _ h9 => h9) rfl dX2_seekFewest_79 ?_
                refine lv_iload hx hb dX2_seekFewest_82 (lv_at hl 2 rfl) ?_
                refine ld_i hx hb hK hP 7 (f := sTf (sumS s2 k)) rfl (i := (lw k)) (by omega) (by decide) dX2_seekFewest_84 ?_
                refine lv_aload_n hx hb dX2_seekFewest_85 rfl (lv_at hl 6 rfl) ?_
                refine va_get (D := D) (ci := 2) (v := .int (sFt (sumS s2 k))) (C := RX2) (T := TX2) (N := 12) hx hb hts hin2 hown hK.1 hP 0 rfl rfl 10 (by decide) (hts (.fieldLink RX2 44 "TestPicker$Sets" "foundTime" "I") (by decide +kernel)) (fun _ h9 => h9) rfl dX2_seekFewest_86 ?_
                refine lv_icmp_ge (tgt := 96) hx hb dX2_seekFewest_89 (by decide) (fun c89 => ?_) (fun c89 => ?_)
                · -- 89 True
                  refine lv_iconst (v := 0) hx hb dX2_seekFewest_96 (by decide) ?_
                  refine lv_istore (lv' := [(9, .int 0), (8, .int 0), (7, .int (popI (nI k))), (6, .int (nI (lw k))), (5, .int (nI k)), (4, .int fy), (3, .int (nI (enF go (sN ss)))), (0, .ref (q 15)), (1, .long go)]) hx hb dX2_seekFewest_97 hl (by decide) rfl (fun ls hl => ?_)
                  refine lv_iload hx hb dX2_seekFewest_99 (lv_at hl 1 rfl) ?_
                  refine lv_if_eq (tgt := 119) hx hb dX2_seekFewest_101 (by decide) (fun c101 => ?_) (fun c101 => ?_)
                  · -- 101 True
                    refine lv_iload hx hb dX2_seekFewest_119 (lv_at hl 4 rfl) ?_
                    refine lv_iload hx hb dX2_seekFewest_121 (lv_at hl 1 rfl) ?_
                    refine lv_if_ne (tgt := 133) hx hb dX2_seekFewest_123 (by decide) (fun c123 => ?_) (fun c123 => ?_)
                    · -- 123 True
                      exact absurd c123 (by decide)
                    · -- 123 False
                      refine lv_iload hx hb dX2_seekFewest_126 (lv_at hl 2 rfl) ?_
                      refine lv_iload hx hb dX2_seekFewest_128 (lv_at hl 5 rfl) ?_
                      refine lv_icmp_lt (tgt := 140) hx hb dX2_seekFewest_130 (by decide) (fun c130 => ?_) (fun c130 => ?_)
                      · -- 130 True
                        exact absurd c130 c68
                      · -- 130 False
                        refine lv_iconst (v := 1) hx hb dX2_seekFewest_133 (by decide) ?_
                        refine lv_iload hx hb dX2_seekFewest_134 (lv_at hl 3 rfl) ?_
                        refine lv_ishl hx hb dX2_seekFewest_136 ?_
                        refine tp_i (z := nI (2 ^ lw k)) (one_pow _ (by omega)) ?_
                        refine lv_goto (tgt := 141) hx hb dX2_seekFewest_137 (by decide) ?_
                        refine lv_iadd hx hb dX2_seekFewest_141 ?_
                        refine tp_i (z := nI (k + 2 ^ lw k)) (nI_add _ _) ?_
                        refine lv_istore (lv' := [(5, .int (nI (k + 2 ^ lw k))), (9, .int 0), (8, .int 0), (7, .int (popI (nI k))), (6, .int (nI (lw k))), (4, .int fy), (3, .int (nI (enF go (sN ss)))), (0, .ref (q 15)), (1, .long go)]) hx hb dX2_seekFewest_142 hl (by decide) rfl (fun ls hl => ?_)
                        refine lv_goto (tgt := 24) hx hb dX2_seekFewest_144 (by decide) ?_
                        exact ih24 (k + 2 ^ lw k) (sumS s2 k) fy (by first | exact hs2 | (show sN s2 = sN ss; exact hs2)) (Nat.lt_of_lt_of_le hk0 (Nat.le_add_right _ _)) (lw_add 12 k (sN ss) hk0 hN12 hk2) (by have := Nat.one_le_two_pow (n := lw k); omega) (by rw [← hq, skF, if_pos c27]; simp [fwS, fwK, fwY, fwR, c54, c68, c75, c89, c130]) _ _ hP hD hS ls (lv_sub hl [0, 5, 6, 7, 8] rfl)
                  · -- 101 False
                    exact absurd c101 (by decide)
                · -- 89 False
                  refine lv_iconst (v := 1) hx hb dX2_seekFewest_92 (by decide) ?_
                  refine lv_goto (tgt := 97) hx hb dX2_seekFewest_93 (by decide) ?_
                  refine lv_istore (lv' := [(9, .int 1), (8, .int 0), (7, .int (popI (nI k))), (6, .int (nI (lw k))), (5, .int (nI k)), (4, .int fy), (3, .int (nI (enF go (sN ss)))), (0, .ref (q 15)), (1, .long go)]) hx hb dX2_seekFewest_97 hl (by decide) rfl (fun ls hl => ?_)
                  refine lv_iload hx hb dX2_seekFewest_99 (lv_at hl 1 rfl) ?_
                  refine lv_if_eq (tgt := 119) hx hb dX2_seekFewest_101 (by decide) (fun c101 => ?_) (fun c101 => ?_)
                  · -- 101 True
                    refine lv_iload hx hb dX2_seekFewest_119 (lv_at hl 4 rfl) ?_
                    refine lv_iload hx hb dX2_seekFewest_121 (lv_at hl 1 rfl) ?_
                    refine lv_if_ne (tgt := 133) hx hb dX2_seekFewest_123 (by decide) (fun c123 => ?_) (fun c123 => ?_)
                    · -- 123 True
                      exact absurd c123 (by decide)
                    · -- 123 False
                      refine lv_iload hx hb dX2_seekFewest_126 (lv_at hl 2 rfl) ?_
                      refine lv_iload hx hb dX2_seekFewest_128 (lv_at hl 5 rfl) ?_
                      refine lv_icmp_lt (tgt := 140) hx hb dX2_seekFewest_130 (by decide) (fun c130 => ?_) (fun c130 => ?_)
                      · -- 130 True
                        exact absurd c130 c68
                      · -- 130 False
                        refine lv_iconst (v := 1) hx hb dX2_seekFewest_133 (by decide) ?_
                        refine lv_iload hx hb dX2_seekFewest_134 (lv_at hl 3 rfl) ?_
                        refine lv_ishl hx hb dX2_seekFewest_136 ?_
                        refine tp_i (z := nI (2 ^ lw k)) (one_pow _ (by omega)) ?_
                        refine lv_goto (tgt := 141) hx hb dX2_seekFewest_137 (by decide) ?_
                        refine lv_iadd hx hb dX2_seekFewest_141 ?_
                        refine tp_i (z := nI (k + 2 ^ lw k)) (nI_add _ _) ?_
                        refine lv_istore (lv' := [(5, .int (nI (k + 2 ^ lw k))), (9, .int 1), (8, .int 0), (7, .int (popI (nI k))), (6, .int (nI (lw k))), (4, .int fy), (3, .int (nI (enF go (sN ss)))), (0, .ref (q 15)), (1, .long go)]) hx hb dX2_seekFewest_142 hl (by decide) rfl (fun ls hl => ?_)
                        refine lv_goto (tgt := 24) hx hb dX2_seekFewest_144 (by decide) ?_
                        exact ih24 (k + 2 ^ lw k) (sumS s2 k) fy (by first | exact hs2 | (show sN s2 = sN ss; exact hs2)) (Nat.lt_of_lt_of_le hk0 (Nat.le_add_right _ _)) (lw_add 12 k (sN ss) hk0 hN12 hk2) (by have := Nat.one_le_two_pow (n := lw k); omega) (by rw [← hq, skF, if_pos c27]; simp [fwS, fwK, fwY, fwR, c54, c68, c75, c89, c130]) _ _ hP hD hS ls (lv_sub hl [0, 5, 6, 7, 8] rfl)
                  · -- 101 False
                    exact absurd c101 (by decide)
          · -- 54 False
            have c54 := (lg_cmp_eq _ _).mp c54
            refine lv_iconst (v := 1) hx hb dX2_seekFewest_57 (by decide) ?_
            refine lv_goto (tgt := 62) hx hb dX2_seekFewest_58 (by decide) ?_
            refine lv_istore (lv' := [(8, .int 1), (7, .int (popI (nI k))), (6, .int (nI (lw k))), (5, .int (nI k)), (4, .int fy), (3, .int (nI (enF go (sN ss)))), (0, .ref (q 15)), (1, .long go)]) hx hb dX2_seekFewest_62 hl (by decide) rfl (fun ls hl => ?_)
            refine lv_iload hx hb dX2_seekFewest_64 (lv_at hl 1 rfl) ?_
            refine lv_iload hx hb dX2_seekFewest_66 (lv_at hl 4 rfl) ?_
            refine lv_icmp_lt (tgt := 92) hx hb dX2_seekFewest_68 (by decide) (fun c68 => ?_) (fun c68 => ?_)
            · -- 68 True
              refine lv_iconst (v := 1) hx hb dX2_seekFewest_92 (by decide) ?_
              refine lv_goto (tgt := 97) hx hb dX2_seekFewest_93 (by decide) ?_
              refine lv_istore (lv' := [(9, .int 1), (8, .int 1), (7, .int (popI (nI k))), (6, .int (nI (lw k))), (5, .int (nI k)), (4, .int fy), (3, .int (nI (enF go (sN ss)))), (0, .ref (q 15)), (1, .long go)]) hx hb dX2_seekFewest_97 hl (by decide) rfl (fun ls hl => ?_)
              refine lv_iload hx hb dX2_seekFewest_99 (lv_at hl 1 rfl) ?_
              refine lv_if_eq (tgt := 119) hx hb dX2_seekFewest_101 (by decide) (fun c101 => ?_) (fun c101 => ?_)
              · -- 101 True
                exact absurd c101 (by decide)
              · -- 101 False
                refine lv_iload hx hb dX2_seekFewest_104 (lv_at hl 0 rfl) ?_
                refine lv_if_eq (tgt := 119) hx hb dX2_seekFewest_106 (by decide) (fun c106 => ?_) (fun c106 => ?_)
                · -- 106 True
                  exact absurd c106 (by decide)
                · -- 106 False
                  refine lv_iload hx hb dX2_seekFewest_109 (lv_at hl 2 rfl) ?_
                  refine lv_istore (lv' := [(4, .int (popI (nI k))), (9, .int 1), (8, .int 1), (7, .int (popI (nI k))), (6, .int (nI (lw k))), (5, .int (nI k)), (3, .int (nI (enF go (sN ss)))), (0, .ref (q 15)), (1, .long go)]) hx hb dX2_seekFewest_111 hl (by decide) rfl (fun ls hl => ?_)
                  refine lv_aload_n hx hb dX2_seekFewest_113 rfl (lv_at hl 7 rfl) ?_
                  refine lv_iload hx hb dX2_seekFewest_114 (lv_at hl 4 rfl) ?_
                  refine mu_Vv (As := [.int (nI (lw k))]) (rest := []) (wr := []) (wk := wS q c (keepS (sumS s2 k) (lw k))) [0, 1, 2, 3, 4, 5, 6, 7, 8] [] [0, 1, 2, 3, 4, 5, 6, 7, 8] ⟨hx, hb, hml, hown, hts⟩ (c_X2_keep l D q c (sumS s2 k) (lw k) (by omega)) (cwV 1 hts gX2_seekFewest_X2_keep rfl rfl rfl (by decide +kernel) ⟨Nat.le_of_ble_eq_true rfl, Nat.le_of_ble_eq_true rfl⟩) hP hK hD hS hA (va_recv hK.1 hP (ci := 2) (q0 := 0) rfl rfl) rfl rfl (by decide) (by decide) (by decide) (by decide) rfl rfl hl.1 rfl (Nat.le_of_ble_eq_true rfl) dX2_seekFewest_116 ⟨Nat.le_of_ble_eq_true rfl, Nat.le_of_ble_eq_true rfl⟩ (fun H locs hP hD hS => ?_)
                  refine lv_iload hx hb dX2_seekFewest_119 (lv_at hl 5 rfl) ?_
                  refine lv_iload hx hb dX2_seekFewest_121 (lv_at hl 2 rfl) ?_
                  refine lv_if_ne (tgt := 133) hx hb dX2_seekFewest_123 (by decide) (fun c123 => ?_) (fun c123 => ?_)
                  · -- 123 True
                    refine lv_iconst (v := 1) hx hb dX2_seekFewest_133 (by decide) ?_
                    refine lv_iload hx hb dX2_seekFewest_134 (lv_at hl 4 rfl) ?_
                    refine lv_ishl hx hb dX2_seekFewest_136 ?_
                    refine tp_i (z := nI (2 ^ lw k)) (one_pow _ (by omega)) ?_
                    refine lv_goto (tgt := 141) hx hb dX2_seekFewest_137 (by decide) ?_
                    refine lv_iadd hx hb dX2_seekFewest_141 ?_
                    refine tp_i (z := nI (k + 2 ^ lw k)) (nI_add _ _) ?_
                    refine lv_istore (lv' := [(5, .int (nI (k + 2 ^ lw k))), (4, .int (popI (nI k))), (9, .int 1), (8, .int 1), (7, .int (popI (nI k))), (6, .int (nI (lw k))), (3, .int (nI (enF go (sN ss)))), (0, .ref (q 15)), (1, .long go)]) hx hb dX2_seekFewest_142 hl (by decide) rfl (fun ls hl => ?_)
                    refine lv_goto (tgt := 24) hx hb dX2_seekFewest_144 (by decide) ?_
                    exact ih24 (k + 2 ^ lw k) (keepS (sumS s2 k) (lw k)) (popI (nI k)) (by first | exact hs2 | (show sN s2 = sN ss; exact hs2)) (Nat.lt_of_lt_of_le hk0 (Nat.le_add_right _ _)) (lw_add 12 k (sN ss) hk0 hN12 hk2) (by have := Nat.one_le_two_pow (n := lw k); omega) (by rw [← hq, skF, if_pos c27]; simp [fwS, fwK, fwY, fwR, c54, c68]) _ _ hP hD hS ls (lv_sub hl [0, 1, 6, 7, 8] rfl)
                  · -- 123 False
                    exact absurd c123 (by decide)
            · -- 68 False
              refine lv_iload hx hb dX2_seekFewest_71 (lv_at hl 1 rfl) ?_
              refine lv_iload hx hb dX2_seekFewest_73 (lv_at hl 4 rfl) ?_
              refine lv_icmp_ne (tgt := 96) hx hb dX2_seekFewest_75 (by decide) (fun c75 => ?_) (fun c75 => ?_)
              · -- 75 True
                refine lv_iconst (v := 0) hx hb dX2_seekFewest_96 (by decide) ?_
                refine lv_istore (lv' := [(9, .int 0), (8, .int 1), (7, .int (popI (nI k))), (6, .int (nI (lw k))), (5, .int (nI k)), (4, .int fy), (3, .int (nI (enF go (sN ss)))), (0, .ref (q 15)), (1, .long go)]) hx hb dX2_seekFewest_97 hl (by decide) rfl (fun ls hl => ?_)
                refine lv_iload hx hb dX2_seekFewest_99 (lv_at hl 1 rfl) ?_
                refine lv_if_eq (tgt := 119) hx hb dX2_seekFewest_101 (by decide) (fun c101 => ?_) (fun c101 => ?_)
                · -- 101 True
                  exact absurd c101 (by decide)
                · -- 101 False
                  refine lv_iload hx hb dX2_seekFewest_104 (lv_at hl 0 rfl) ?_
                  refine lv_if_eq (tgt := 119) hx hb dX2_seekFewest_106 (by decide) (fun c106 => ?_) (fun c106 => ?_)
                  · -- 106 True
                    refine lv_iload hx hb dX2_seekFewest_119 (lv_at hl 4 rfl) ?_
                    refine lv_iload hx hb dX2_seekFewest_121 (lv_at hl 1 rfl) ?_
                    refine lv_if_ne (tgt := 133) hx hb dX2_seekFewest_123 (by decide) (fun c123 => ?_) (fun c123 => ?_)
                    · -- 123 True
                      refine lv_iconst (v := 1) hx hb dX2_seekFewest_133 (by decide) ?_
                      refine lv_iload hx hb dX2_seekFewest_134 (lv_at hl 3 rfl) ?_
                      refine lv_ishl hx hb dX2_seekFewest_136 ?_
                      refine tp_i (z := nI (2 ^ lw k)) (one_pow _ (by omega)) ?_
                      refine lv_goto (tgt := 141) hx hb dX2_seekFewest_137 (by decide) ?_
                      refine lv_iadd hx hb dX2_seekFewest_141 ?_
                      refine tp_i (z := nI (k + 2 ^ lw k)) (nI_add _ _) ?_
                      refine lv_istore (lv' := [(5, .int (nI (k + 2 ^ lw k))), (9, .int 0), (8, .int 1), (7, .int (popI (nI k))), (6, .int (nI (lw k))), (4, .int fy), (3, .int (nI (enF go (sN ss)))), (0, .ref (q 15)), (1, .long go)]) hx hb dX2_seekFewest_142 hl (by decide) rfl (fun ls hl => ?_)
                      refine lv_goto (tgt := 24) hx hb dX2_seekFewest_144 (by decide) ?_
                      exact ih24 (k + 2 ^ lw k) (sumS s2 k) fy (by first | exact hs2 | (show sN s2 = sN ss; exact hs2)) (Nat.lt_of_lt_of_le hk0 (Nat.le_add_right _ _)) (lw_add 12 k (sN ss) hk0 hN12 hk2) (by have := Nat.one_le_two_pow (n := lw k); omega) (by rw [← hq, skF, if_pos c27]; simp [fwS, fwK, fwY, fwR, c54, c68, c75]) _ _ hP hD hS ls (lv_sub hl [0, 5, 6, 7, 8] rfl)
                    · -- 123 False
                      exact absurd c123 (by decide)
                  · -- 106 False
                    exact absurd c106 (by decide)
              · -- 75 False
                refine lv_aload_n hx hb dX2_seekFewest_78 rfl (lv_at hl 6 rfl) ?_
                refine va_get (D := D) (ci := 2) (v := .ref (q 22)) (C := RX2) (T := TX2) (N := 12) hx hb hts hin2 hown hK.1 hP 0 rfl rfl 7 (by decide) (hts (.fieldLink RX2 35 "TestPicker$Sets" "timeFrom" "[I") (by decide +kernel)) (fun _ h9 => h9) rfl dX2_seekFewest_79 ?_
                refine lv_iload hx hb dX2_seekFewest_82 (lv_at hl 2 rfl) ?_
                refine ld_i hx hb hK hP 7 (f := sTf (sumS s2 k)) rfl (i := (lw k)) (by omega) (by decide) dX2_seekFewest_84 ?_
                refine lv_aload_n hx hb dX2_seekFewest_85 rfl (lv_at hl 6 rfl) ?_
                refine va_get (D := D) (ci := 2) (v := .int (sFt (sumS s2 k))) (C := RX2) (T := TX2) (N := 12) hx hb hts hin2 hown hK.1 hP 0 rfl rfl 10 (by decide) (hts (.fieldLink RX2 44 "TestPicker$Sets" "foundTime" "I") (by decide +kernel)) (fun _ h9 => h9) rfl dX2_seekFewest_86 ?_
                refine lv_icmp_ge (tgt := 96) hx hb dX2_seekFewest_89 (by decide) (fun c89 => ?_) (fun c89 => ?_)
                · -- 89 True
                  refine lv_iconst (v := 0) hx hb dX2_seekFewest_96 (by decide) ?_
                  refine lv_istore (lv' := [(9, .int 0), (8, .int 1), (7, .int (popI (nI k))), (6, .int (nI (lw k))), (5, .int (nI k)), (4, .int fy), (3, .int (nI (enF go (sN ss)))), (0, .ref (q 15)), (1, .long go)]) hx hb dX2_seekFewest_97 hl (by decide) rfl (fun ls hl => ?_)
                  refine lv_iload hx hb dX2_seekFewest_99 (lv_at hl 1 rfl) ?_
                  refine lv_if_eq (tgt := 119) hx hb dX2_seekFewest_101 (by decide) (fun c101 => ?_) (fun c101 => ?_)
                  · -- 101 True
                    exact absurd c101 (by decide)
                  · -- 101 False
                    refine lv_iload hx hb dX2_seekFewest_104 (lv_at hl 0 rfl) ?_
                    refine lv_if_eq (tgt := 119) hx hb dX2_seekFewest_106 (by decide) (fun c106 => ?_) (fun c106 => ?_)
                    · -- 106 True
                      refine lv_iload hx hb dX2_seekFewest_119 (lv_at hl 4 rfl) ?_
                      refine lv_iload hx hb dX2_seekFewest_121 (lv_at hl 1 rfl) ?_
                      refine lv_if_ne (tgt := 133) hx hb dX2_seekFewest_123 (by decide) (fun c123 => ?_) (fun c123 => ?_)
                      · -- 123 True
                        refine lv_iconst (v := 1) hx hb dX2_seekFewest_133 (by decide) ?_
                        refine lv_iload hx hb dX2_seekFewest_134 (lv_at hl 3 rfl) ?_
                        refine lv_ishl hx hb dX2_seekFewest_136 ?_
                        refine tp_i (z := nI (2 ^ lw k)) (one_pow _ (by omega)) ?_
                        refine lv_goto (tgt := 141) hx hb dX2_seekFewest_137 (by decide) ?_
                        refine lv_iadd hx hb dX2_seekFewest_141 ?_
                        refine tp_i (z := nI (k + 2 ^ lw k)) (nI_add _ _) ?_
                        refine lv_istore (lv' := [(5, .int (nI (k + 2 ^ lw k))), (9, .int 0), (8, .int 1), (7, .int (popI (nI k))), (6, .int (nI (lw k))), (4, .int fy), (3, .int (nI (enF go (sN ss)))), (0, .ref (q 15)), (1, .long go)]) hx hb dX2_seekFewest_142 hl (by decide) rfl (fun ls hl => ?_)
                        refine lv_goto (tgt := 24) hx hb dX2_seekFewest_144 (by decide) ?_
                        exact ih24 (k + 2 ^ lw k) (sumS s2 k) fy (by first | exact hs2 | (show sN s2 = sN ss; exact hs2)) (Nat.lt_of_lt_of_le hk0 (Nat.le_add_right _ _)) (lw_add 12 k (sN ss) hk0 hN12 hk2) (by have := Nat.one_le_two_pow (n := lw k); omega) (by rw [← hq, skF, if_pos c27]; simp [fwS, fwK, fwY, fwR, c54, c68, c75, c89]) _ _ hP hD hS ls (lv_sub hl [0, 5, 6, 7, 8] rfl)
                      · -- 123 False
                        exact absurd c123 (by decide)
                    · -- 106 False
                      exact absurd c106 (by decide)
                · -- 89 False
                  refine lv_iconst (v := 1) hx hb dX2_seekFewest_92 (by decide) ?_
                  refine lv_goto (tgt := 97) hx hb dX2_seekFewest_93 (by decide) ?_
                  refine lv_istore (lv' := [(9, .int 1), (8, .int 1), (7, .int (popI (nI k))), (6, .int (nI (lw k))), (5, .int (nI k)), (4, .int fy), (3, .int (nI (enF go (sN ss)))), (0, .ref (q 15)), (1, .long go)]) hx hb dX2_seekFewest_97 hl (by decide) rfl (fun ls hl => ?_)
                  refine lv_iload hx hb dX2_seekFewest_99 (lv_at hl 1 rfl) ?_
                  refine lv_if_eq (tgt := 119) hx hb dX2_seekFewest_101 (by decide) (fun c101 => ?_) (fun c101 => ?_)
                  · -- 101 True
                    exact absurd c101 (by decide)
                  · -- 101 False
                    refine lv_iload hx hb dX2_seekFewest_104 (lv_at hl 0 rfl) ?_
                    refine lv_if_eq (tgt := 119) hx hb dX2_seekFewest_106 (by decide) (fun c106 => ?_) (fun c106 => ?_)
                    · -- 106 True
                      exact absurd c106 (by decide)
                    · -- 106 False
                      refine lv_iload hx hb dX2_seekFewest_109 (lv_at hl 2 rfl) ?_
                      refine lv_istore (lv' := [(4, .int (popI (nI k))), (9, .int 1), (8, .int 1), (7, .int (popI (nI k))), (6, .int (nI (lw k))), (5, .int (nI k)), (3, .int (nI (enF go (sN ss)))), (0, .ref (q 15)), (1, .long go)]) hx hb dX2_seekFewest_111 hl (by decide) rfl (fun ls hl => ?_)
                      refine lv_aload_n hx hb dX2_seekFewest_113 rfl (lv_at hl 7 rfl) ?_
                      refine lv_iload hx hb dX2_seekFewest_114 (lv_at hl 4 rfl) ?_
                      refine mu_Vv (As := [.int (nI (lw k))]) (rest := []) (wr := []) (wk := wS q c (keepS (sumS s2 k) (lw k))) [0, 1, 2, 3, 4, 5, 6, 7, 8] [] [0, 1, 2, 3, 4, 5, 6, 7, 8] ⟨hx, hb, hml, hown, hts⟩ (c_X2_keep l D q c (sumS s2 k) (lw k) (by omega)) (cwV 1 hts gX2_seekFewest_X2_keep rfl rfl rfl (by decide +kernel) ⟨Nat.le_of_ble_eq_true rfl, Nat.le_of_ble_eq_true rfl⟩) hP hK hD hS hA (va_recv hK.1 hP (ci := 2) (q0 := 0) rfl rfl) rfl rfl (by decide) (by decide) (by decide) (by decide) rfl rfl hl.1 rfl (Nat.le_of_ble_eq_true rfl) dX2_seekFewest_116 ⟨Nat.le_of_ble_eq_true rfl, Nat.le_of_ble_eq_true rfl⟩ (fun H locs hP hD hS => ?_)
                      refine lv_iload hx hb dX2_seekFewest_119 (lv_at hl 5 rfl) ?_
                      refine lv_iload hx hb dX2_seekFewest_121 (lv_at hl 2 rfl) ?_
                      refine lv_if_ne (tgt := 133) hx hb dX2_seekFewest_123 (by decide) (fun c123 => ?_) (fun c123 => ?_)
                      · -- 123 True
                        refine lv_iconst (v := 1) hx hb dX2_seekFewest_133 (by decide) ?_
                        refine lv_iload hx hb dX2_seekFewest_134 (lv_at hl 4 rfl) ?_
                        refine lv_ishl hx hb dX2_seekFewest_136 ?_
                        refine tp_i (z := nI (2 ^ lw k)) (one_pow _ (by omega)) ?_
                        refine lv_goto (tgt := 141) hx hb dX2_seekFewest_137 (by decide) ?_
                        refine lv_iadd hx hb dX2_seekFewest_141 ?_
                        refine tp_i (z := nI (k + 2 ^ lw k)) (nI_add _ _) ?_
                        refine lv_istore (lv' := [(5, .int (nI (k + 2 ^ lw k))), (4, .int (popI (nI k))), (9, .int 1), (8, .int 1), (7, .int (popI (nI k))), (6, .int (nI (lw k))), (3, .int (nI (enF go (sN ss)))), (0, .ref (q 15)), (1, .long go)]) hx hb dX2_seekFewest_142 hl (by decide) rfl (fun ls hl => ?_)
                        refine lv_goto (tgt := 24) hx hb dX2_seekFewest_144 (by decide) ?_
                        exact ih24 (k + 2 ^ lw k) (keepS (sumS s2 k) (lw k)) (popI (nI k)) (by first | exact hs2 | (show sN s2 = sN ss; exact hs2)) (Nat.lt_of_lt_of_le hk0 (Nat.le_add_right _ _)) (lw_add 12 k (sN ss) hk0 hN12 hk2) (by have := Nat.one_le_two_pow (n := lw k); omega) (by rw [← hq, skF, if_pos c27]; simp [fwS, fwK, fwY, fwR, c54, c68, c75, c89]) _ _ hP hD hS ls (lv_sub hl [0, 1, 6, 7, 8] rfl)
                      · -- 123 False
                        exact absurd c123 (by decide)
    exact L24 (4097) 1 ss 13 (rfl) (by decide) (Nat.one_le_two_pow) (by omega) (rfl) _ _ hP hD hS ls (lv_sub hl [0, 1, 2, 3, 4] rfl)
  refine lv_lload_n hx hb dX2_seekFewest_0 rfl (lv_at hl 1 rfl) ?_
  refine lv_lconst (v := 0) hx hb dX2_seekFewest_1 (by decide) ?_
  refine W.lcmp hx hb dX2_seekFewest_2 ?_
  refine lv_if_ne (tgt := 10) hx hb dX2_seekFewest_3 (by decide) (fun c3 => ?_) (fun c3 => ?_)
  · -- 3 True
    have c3 := lg_ne.mp c3
    refine lv_iconst (v := 1) hx hb dX2_seekFewest_10 (by decide) ?_
    refine lv_aload_n hx hb dX2_seekFewest_11 rfl (lv_at hl 0 rfl) ?_
    refine va_get (D := D) (ci := 2) (v := .int (nI (sN ss))) (C := RX2) (T := TX2) (N := 12) hx hb hts hin2 hown hK.1 hP 0 rfl rfl 4 (by decide) (hts (.fieldLink RX2 25 "TestPicker$Sets" "size" "I") (by decide +kernel)) (fun _ h9 => h9) rfl dX2_seekFewest_12 ?_
    refine lv_ishl hx hb dX2_seekFewest_15 ?_
    exact J16 ((1 : Int32) <<< (nI (sN ss) &&& 31)) (by rw [enF, if_neg c3]; exact one_pow _ (by omega))
  · -- 3 False
    have c3 := (lg_cmp_eq _ _).mp c3
    refine lv_iconst (v := 0) hx hb dX2_seekFewest_6 (by decide) ?_
    refine lv_goto (tgt := 16) hx hb dX2_seekFewest_7 (by decide) ?_
    exact J16 0 (by rw [enF, if_pos c3]; rfl)

set_option maxHeartbeats 4000000 in
set_option maxRecDepth 100000 in
theorem c_X4_takeChain (l : Launch) (D : va_G) (q : Nat → Nat) (c : CT) (ms : MS) (ts : TS) (hs : HS) (ps : PS) (ss : SS) (t : Nat) (ht : t < 20) (hT : tT ts ≤ 20) (hN20 : pN ps ≤ 20) : MUv l yX4_takeChain wsX4_takeChain ({ frames := 1, cells := 0, slots := 0, locals := 24 } : Room) [.ref (q 0), .int (nI t)] D c (wC q c (ms, ts, hs, ps, ss)) (wC q c (ms, ts, hs, tkS ts (tCh ts t &&& (pBits ps ^^^ (-1))) ps (tT ts), ss)) := by
  refine mu_start (cc := cX4_takeChain) (maxL := 4) (ret := none) (by decide) rfl (Nat.le_of_ble_eq_true rfl) ?_
  intro p e s m args below meth c0 ls hx hb hr hml hown hts hlk hnm hP hK hD hS hA hl
  have hown : s.vm.findClass RX4 = some m.cls := hown
  have hl : lv_has ls 4 [(0, .ref (q 0)), (1, .int (nI t))] := hl
  have hin1 : ∀ w ∈ wsX10, w ∈ wsX4_takeChain := by decide +kernel
  have hin3 : ∀ w ∈ wsX30, w ∈ wsX4_takeChain := by decide +kernel
  have hin4 : ∀ w ∈ wsX40, w ∈ wsX4_takeChain := by decide +kernel
  refine lv_aload_n hx hb dX4_takeChain_0 rfl (lv_at hl 0 rfl) ?_
  refine va_get (D := D) (ci := 4) (v := .ref (q 2)) (C := RX4) (T := TX4) (N := 7) hx hb hts hin4 hown hK.1 hP 0 rfl rfl 0 (by decide) (hts (.fieldLink RX4 10 "TestPicker" "tests" "LTestPicker$Tests;") (by decide +kernel)) (fun _ h9 => h9) rfl dX4_takeChain_1 ?_
  refine va_get (D := D) (ci := 3) (v := .ref (q 6)) (C := RX3) (T := TX3) (N := 7) hx hb hts hin3 hown hK.1 hP 2 rfl rfl 3 (by decide) (hts (.fieldLink RX4 180 "TestPicker$Tests" "chains" "[I") (by decide +kernel)) (fun _ h9 => h9) rfl dX4_takeChain_4 ?_
  refine lv_iload_n hx hb dX4_takeChain_7 rfl (lv_at hl 1 rfl) ?_
  refine ld_i hx hb hK hP 6 (f := tCh ts) rfl (i := t) (by omega) (by decide) dX4_takeChain_8 ?_
  refine lv_aload_n hx hb dX4_takeChain_9 rfl (lv_at hl 0 rfl) ?_
  refine va_get (D := D) (ci := 4) (v := .ref (q 13)) (C := RX4) (T := TX4) (N := 7) hx hb hts hin4 hown hK.1 hP 0 rfl rfl 2 (by decide) (hts (.fieldLink RX4 26 "TestPicker" "plan" "LTestPicker$Plan;") (by decide +kernel)) (fun _ h9 => h9) rfl dX4_takeChain_10 ?_
  refine va_get (D := D) (ci := 1) (v := .int (pBits ps)) (C := RX1) (T := TX1) (N := 7) hx hb hts hin1 hown hK.1 hP 13 rfl rfl 2 (by decide) (hts (.fieldLink RX4 147 "TestPicker$Plan" "bits" "I") (by decide +kernel)) (fun _ h9 => h9) rfl dX4_takeChain_13 ?_
  refine lv_iconst (v := (-1)) hx hb dX4_takeChain_16 (by decide) ?_
  refine lv_ixor hx hb dX4_takeChain_17 ?_
  refine lv_iand hx hb dX4_takeChain_18 ?_
  refine lv_istore_n (lv' := [(2, .int ((tCh ts t) &&& (pBits ps ^^^ (-1)))), (0, .ref (q 0)), (1, .int (nI t))]) hx hb dX4_takeChain_19 rfl hl (by decide) rfl (fun ls hl => ?_)
  refine lv_iconst (v := 0) hx hb dX4_takeChain_20 (by decide) ?_
  refine lv_istore_n (lv' := [(3, .int 0), (2, .int ((tCh ts t) &&& (pBits ps ^^^ (-1)))), (0, .ref (q 0)), (1, .int (nI t))]) hx hb dX4_takeChain_21 rfl hl (by decide) rfl (fun ls hl => ?_)
  have L22 : ∀ (n : Nat) (i : Nat) (p2 : PS), (i ≤ tT ts) → (tT ts < i + n) → (pN p2 ≤ 20) → (p2 = tkS ts (tCh ts t &&& (pBits ps ^^^ (-1))) ps i) → ∀ (H : Heap) (locs : List Loc), va_P D vwCl (wC q c (ms, ts, hs, p2, ss)) H → va_D (va_A (wC q c (ms, ts, hs, ps, ss)) s.heap.size) (wC q c (ms, ts, hs, p2, ss)) → va_S (va_A (wC q c (ms, ts, hs, ps, ss)) s.heap.size) s.heap H locs → ∀ ls : Array Slot, lv_has ls 4 [(3, .int (nI i)), (2, .int ((tCh ts t) &&& (pBits ps ^^^ (-1)))), (0, .ref (q 0)), (1, .int (nI t))] → W p l e ({ frames := 1, cells := 0, slots := 0, locals := 24 } : Room) s m args below meth c0 H locs 0 0 (QMv below args s D c (wC q c (ms, ts, hs, ps, ss)) (wC q c (ms, ts, hs, tkS ts (tCh ts t &&& (pBits ps ^^^ (-1))) ps (tT ts), ss))) (F0 m 22 ls []) := by
    intro n
    induction n with
    | zero => intro i p2 hi hn h20 hp2 H locs hP hD hS ls hl; exact absurd hn (by omega)
    | succ n ih22 =>
      intro i p2 hi hn h20 hp2 H locs hP hD hS ls hl
      refine lv_iload_n hx hb dX4_takeChain_22 rfl (lv_at hl 0 rfl) ?_
      refine lv_aload_n hx hb dX4_takeChain_23 rfl (lv_at hl 2 rfl) ?_
      refine va_get (D := D) (ci := 4) (v := .ref (q 2)) (C := RX4) (T := TX4) (N := 7) hx hb hts hin4 hown hK.1 hP 0 rfl rfl 0 (by decide) (hts (.fieldLink RX4 10 "TestPicker" "tests" "LTestPicker$Tests;") (by decide +kernel)) (fun _ h9 => h9) rfl dX4_takeChain_24 ?_
      refine va_get (D := D) (ci := 3) (v := .int (nI (tT ts))) (C := RX3) (T := TX3) (N := 7) hx hb hts hin3 hown hK.1 hP 2 rfl rfl 6 (by decide) (hts (.fieldLink RX4 56 "TestPicker$Tests" "size" "I") (by decide +kernel)) (fun _ h9 => h9) rfl dX4_takeChain_27 ?_
      refine lv_icmp_ge (tgt := 72) hx hb dX4_takeChain_30 (by decide) (fun c30 => ?_) (fun c30 => ?_)
      · -- 30 True
        have c30 : (tT ts) ≤ i := (nI_leI (a := (tT ts)) (b := i) (by omega) (by omega)).mp c30
        have e9 : tkS ts (tCh ts t &&& (pBits ps ^^^ (-1))) ps (tT ts) = p2 := by rw [hp2, show i = tT ts by omega]
        rw [e9]
        exact mu_retv hx hb hr hlk hP hD hS dX4_takeChain_72
      · -- 30 False
        have c30 : i < (tT ts) := (Nat.not_le.mp (fun z => c30 ((nI_leI (a := (tT ts)) (b := i) (by omega) (by omega)).mpr z)))
        refine lv_iload_n hx hb dX4_takeChain_33 rfl (lv_at hl 0 rfl) ?_
        refine lv_iload_n hx hb dX4_takeChain_34 rfl (lv_at hl 1 rfl) ?_
        refine ro_Si (As := [.int (nI i), .int ((tCh ts t) &&& (pBits ps ^^^ (-1)))]) (rest := []) ⟨hx, hb, hml, hown, hts⟩ (c_X4_isIn l D c i ((tCh ts t) &&& (pBits ps ^^^ (-1))) (by omega)) (va_cwS 2 hts gX4_takeChain_X4_isIn rfl rfl rfl (by decide +kernel) ⟨Nat.le_of_ble_eq_true rfl, Nat.le_of_ble_eq_true rfl⟩) va_P0 hK rfl hl.1 rfl (Nat.le_of_ble_eq_true rfl) dX4_takeChain_35 ⟨Nat.le_of_ble_eq_true rfl, Nat.le_of_ble_eq_true rfl⟩ ?_
        refine lv_if_eq (tgt := 66) hx hb dX4_takeChain_38 (by decide) (fun c38 => ?_) (fun c38 => ?_)
        · -- 38 True
          have c38 := bI_z.mp c38
          refine lv_iinc (v := nI (i + 1)) (lv' := [(3, .int (nI (i + 1))), (2, .int ((tCh ts t) &&& (pBits ps ^^^ (-1)))), (0, .ref (q 0)), (1, .int (nI t))]) hx hb dX4_takeChain_66 hl (k := 0) rfl (nI_inc _) (by decide) rfl (fun ls hl => ?_)
          refine lv_goto (tgt := 22) hx hb dX4_takeChain_69 (by decide) ?_
          exact ih22 (i + 1) p2 (by omega) (by omega) (h20) (by rw [tkS, if_neg (by rw [c38]; decide)]; exact hp2) _ _ hP hD hS ls (lv_sub hl [0, 1, 2, 3] rfl)
        · -- 38 False
          have c38 := bI_nz.mp c38
          refine lv_aload_n hx hb dX4_takeChain_41 rfl (lv_at hl 2 rfl) ?_
          refine va_get (D := D) (ci := 4) (v := .ref (q 13)) (C := RX4) (T := TX4) (N := 7) hx hb hts hin4 hown hK.1 hP 0 rfl rfl 2 (by decide) (hts (.fieldLink RX4 26 "TestPicker" "plan" "LTestPicker$Plan;") (by decide +kernel)) (fun _ h9 => h9) rfl dX4_takeChain_42 ?_
          refine lv_iload_n hx hb dX4_takeChain_45 rfl (lv_at hl 0 rfl) ?_
          refine lv_aload_n hx hb dX4_takeChain_46 rfl (lv_at hl 2 rfl) ?_
          refine va_get (D := D) (ci := 4) (v := .ref (q 2)) (C := RX4) (T := TX4) (N := 7) hx hb hts hin4 hown hK.1 hP 0 rfl rfl 0 (by decide) (hts (.fieldLink RX4 10 "TestPicker" "tests" "LTestPicker$Tests;") (by decide +kernel)) (fun _ h9 => h9) rfl dX4_takeChain_47 ?_
          refine lv_iload_n hx hb dX4_takeChain_50 rfl (lv_at hl 0 rfl) ?_
          refine ro_Vi (post := (cTm (tKd ts) (tOt ts) i)) (As := [.int (nI i)]) (rest := [.int (nI i), .ref (q 13)]) ⟨hx, hb, hml, hown, hts⟩ (c_X3_countedTime l D q c ts i (by omega)) (cwV 1 hts gX4_takeChain_X3_countedTime rfl rfl rfl (by decide +kernel) ⟨Nat.le_of_ble_eq_true rfl, Nat.le_of_ble_eq_true rfl⟩) (hP.sub (ws' := wT q c ts) [2, 3, 4, 5, 6, 7, 8] rfl) hK (va_recv hK.1 hP (ci := 3) (q0 := 2) rfl rfl) rfl hl.1 rfl (Nat.le_of_ble_eq_true rfl) dX4_takeChain_51 ⟨Nat.le_of_ble_eq_true rfl, Nat.le_of_ble_eq_true rfl⟩ ?_
          refine lv_aload_n hx hb dX4_takeChain_54 rfl (lv_at hl 2 rfl) ?_
          refine va_get (D := D) (ci := 4) (v := .ref (q 2)) (C := RX4) (T := TX4) (N := 7) hx hb hts hin4 hown hK.1 hP 0 rfl rfl 0 (by decide) (hts (.fieldLink RX4 10 "TestPicker" "tests" "LTestPicker$Tests;") (by decide +kernel)) (fun _ h9 => h9) rfl dX4_takeChain_55 ?_
          refine va_get (D := D) (ci := 3) (v := .ref (q 7)) (C := RX3) (T := TX3) (N := 7) hx hb hts hin3 hown hK.1 hP 2 rfl rfl 4 (by decide) (hts (.fieldLink RX4 85 "TestPicker$Tests" "parts" "[J") (by decide +kernel)) (fun _ h9 => h9) rfl dX4_takeChain_58 ?_
          refine lv_iload_n hx hb dX4_takeChain_61 rfl (lv_at hl 0 rfl) ?_
          refine ld_l hx hb hK hP 7 (f := tPa ts) rfl (i := i) (by omega) (by decide) dX4_takeChain_62 ?_
          refine mu_Vv (As := [.int (nI i), .int (cTm (tKd ts) (tOt ts) i), .long (tPa ts i)]) (rest := []) (wr := wM q c ms ++ wT q c ts ++ wH q c hs ++ wS q c ss) (wk := wC q c (ms, ts, hs, (takeP p2 i (cTm (tKd ts) (tOt ts) i) (tPa ts i)), ss)) [13, 14] [0, 1, 2, 3, 4, 5, 6, 7, 8, 9, 10, 11, 12, 15, 16, 17, 18, 19, 20, 21, 22, 23] [0, 1, 2, 3, 4, 5, 6, 7, 8, 9, 10, 11, 12, 22, 23, 13, 14, 15, 16, 17, 18, 19, 20, 21] ⟨hx, hb, hml, hown, hts⟩ (c_X1_take l D q c p2 i (cTm (tKd ts) (tOt ts) i) (tPa ts i) (by omega)) (cwV 3 hts gX4_takeChain_X1_take rfl rfl rfl (by decide +kernel) ⟨Nat.le_of_ble_eq_true rfl, Nat.le_of_ble_eq_true rfl⟩) hP hK hD hS hA (va_recv hK.1 hP (ci := 1) (q0 := 13) rfl rfl) rfl rfl (by decide) (by decide) (by decide) (by decide) rfl rfl hl.1 rfl (Nat.le_of_ble_eq_true rfl) dX4_takeChain_63 ⟨Nat.le_of_ble_eq_true rfl, Nat.le_of_ble_eq_true rfl⟩ (fun H locs hP hD hS => ?_)
          refine lv_iinc (v := nI (i + 1)) (lv' := [(3, .int (nI (i + 1))), (2, .int ((tCh ts t) &&& (pBits ps ^^^ (-1)))), (0, .ref (q 0)), (1, .int (nI t))]) hx hb dX4_takeChain_66 hl (k := 0) rfl (nI_inc _) (by decide) rfl (fun ls hl => ?_)
          refine lv_goto (tgt := 22) hx hb dX4_takeChain_69 (by decide) ?_
          exact ih22 (i + 1) (takeP p2 i (cTm (tKd ts) (tOt ts) i) (tPa ts i)) (by omega) (by omega) (take20 h20) (by rw [tkS, if_pos c38, ← hp2]) _ _ hP hD hS ls (lv_sub hl [0, 1, 2, 3] rfl)
  exact L22 (tT ts + 1) 0 ps (by omega) (by omega) (hN20) (rfl) _ _ hP hD hS ls (lv_sub hl [0, 1, 2, 3] rfl)

set_option maxHeartbeats 4000000 in
set_option maxRecDepth 100000 in
theorem c_X5_meets (l : Launch) (D : va_G) (z : Nat → Nat) (c : CT) (gs : GS) (k : Nat) (hk : k < 5) : MUi l yX5_meets wsX5_meets ({ frames := 0, cells := 0, slots := 0, locals := 0 } : Room) [.ref (z 0), .int (nI k)] D c (wG z c gs) (wG z c (metG gs k)) ((-3)) := by
  refine mu_start (cc := cX5_meets) (maxL := 2) (ret := some .int) (by decide) rfl (Nat.le_of_ble_eq_true rfl) ?_
  intro p e s m args below meth c0 ls hx hb hr hml hown hts hlk hnm hP hK hD hS hA hl
  have hown : s.vm.findClass RX5 = some m.cls := hown
  have hl : lv_has ls 2 [(0, .ref (z 0)), (1, .int (nI k))] := hl
  have hin5 : ∀ w ∈ wsX50, w ∈ wsX5_meets := by decide +kernel
  refine lv_aload_n hx hb dX5_meets_0 rfl (lv_at hl 0 rfl) ?_
  refine lv_iload_n hx hb dX5_meets_1 rfl (lv_at hl 1 rfl) ?_
  refine va_put (D := D) (ci := 5) (v := .int (nI k)) (ty := .int) (C := RX5) (T := TX5) (N := 19) hx hb hts hin5 tyX5 tyX5_ok nmX5 hown hK.1 hP hD hS 0 rfl rfl 0 (by decide) (hts (.fieldLink RX5 49 "TestPickerModel" "finding" "I") (by decide +kernel)) (fun _ h9 => h9) rfl (by decide +kernel) rfl rfl (Nat.le_of_ble_eq_true rfl) dX5_meets_2 (fun H locs hP hD hS => ?_)
  have hP : va_P D vwCl (wG z c (nI k, gFs gs, gT gs, gKd gs, gTi gs, gNd gs, gMs gs, gBy gs, gB gs, gCg gs, gVe gs, gAs gs, gMv gs, gPm gs, gPk gs, gPt gs, gPp gs, gPs gs, gMay gs)) H := hP
  have hD : va_D (va_A (wG z c gs) s.heap.size) (wG z c (nI k, gFs gs, gT gs, gKd gs, gTi gs, gNd gs, gMs gs, gBy gs, gB gs, gCg gs, gVe gs, gAs gs, gMv gs, gPm gs, gPk gs, gPt gs, gPp gs, gPs gs, gMay gs)) := hD
  refine lv_aload_n hx hb dX5_meets_5 rfl (lv_at hl 0 rfl) ?_
  refine va_get (D := D) (ci := 5) (v := .ref (z 1)) (C := RX5) (T := TX5) (N := 19) hx hb hts hin5 hown hK.1 hP 0 rfl rfl 1 (by decide) (hts (.fieldLink RX5 7 "TestPickerModel" "findings" "[I") (by decide +kernel)) (fun _ h9 => h9) rfl dX5_meets_6 ?_
  refine lv_iload_n hx hb dX5_meets_9 rfl (lv_at hl 1 rfl) ?_
  refine lv_dup2_11 hx hb dX5_meets_10 rfl rfl ?_
  refine ld_i hx hb hK hP 1 (f := gFs gs) rfl (i := k) (by omega) (by decide) dX5_meets_11 ?_
  refine lv_iconst (v := 1) hx hb dX5_meets_12 (by decide) ?_
  refine lv_iadd hx hb dX5_meets_13 ?_
  refine st_i hx hb hK hP hD hS 1 rfl (i := k) (by omega) (by decide) dX5_meets_14 (fun H locs hP hD hS => ?_)
  have hP : va_P D vwCl (wG z c (nI k, (upd (gFs gs) k ((gFs gs k) + 1)), gT gs, gKd gs, gTi gs, gNd gs, gMs gs, gBy gs, gB gs, gCg gs, gVe gs, gAs gs, gMv gs, gPm gs, gPk gs, gPt gs, gPp gs, gPs gs, gMay gs)) H := hP
  have hD : va_D (va_A (wG z c gs) s.heap.size) (wG z c (nI k, (upd (gFs gs) k ((gFs gs k) + 1)), gT gs, gKd gs, gTi gs, gNd gs, gMs gs, gBy gs, gB gs, gCg gs, gVe gs, gAs gs, gMv gs, gPm gs, gPk gs, gPt gs, gPp gs, gPs gs, gMay gs)) := hD
  refine lv_bipush (v := (-3)) hx hb dX5_meets_15 (by decide) ?_
  exact mu_reti hx hb hr hlk hP hD hS (rfl) dX5_meets_17

set_option maxHeartbeats 4000000 in
set_option maxRecDepth 100000 in
theorem c_X5_judge (l : Launch) (D : va_G) (z : Nat → Nat) (c : CT) (gs : GS) (t : Nat) (f : Bool) (ht : t < 20) (hb0 : 0 < gB gs) (hB60 : gB gs ≤ 60) : MUi l yX5_judge wsX5_judge ({ frames := 0, cells := 0, slots := 0, locals := 0 } : Room) [.ref (z 0), .int (nI t), .int (bI f)] D c (wG z c gs) (wG z c (judG gs t f)) (bI (!decide (gVe gs (20 * (gB gs - 1) + t) < 0))) := by
  refine mu_start (cc := cX5_judge) (maxL := 5) (ret := some .int) (by decide) rfl (Nat.le_of_ble_eq_true rfl) ?_
  intro p e s m args below meth c0 ls hx hb hr hml hown hts hlk hnm hP hK hD hS hA hl
  have hown : s.vm.findClass RX5 = some m.cls := hown
  have hl : lv_has ls 5 [(0, .ref (z 0)), (1, .int (nI t)), (2, .int (bI f))] := hl
  have hin5 : ∀ w ∈ wsX50, w ∈ wsX5_judge := by decide +kernel
  refine lv_bipush (v := 20) hx hb dX5_judge_0 (by decide) ?_
  refine lv_aload_n hx hb dX5_judge_2 rfl (lv_at hl 0 rfl) ?_
  refine va_get (D := D) (ci := 5) (v := .int (nI (gB gs))) (C := RX5) (T := TX5) (N := 19) hx hb hts hin5 hown hK.1 hP 0 rfl rfl 8 (by decide) (hts (.fieldLink RX5 59 "TestPickerModel" "builds" "I") (by decide +kernel)) (fun _ h9 => h9) rfl dX5_judge_3 ?_
  refine lv_iconst (v := 1) hx hb dX5_judge_6 (by decide) ?_
  refine lv_isub hx hb dX5_judge_7 ?_
  refine tp_i (z := nI (gB gs - 1)) (pred1 (by omega)) ?_
  refine lv_imul hx hb dX5_judge_8 ?_
  refine lv_iload_n hx hb dX5_judge_9 rfl (lv_at hl 1 rfl) ?_
  refine lv_iadd hx hb dX5_judge_10 ?_
  refine tp_i (z := nI (20 * (gB gs - 1) + t)) (ix20 _ _) ?_
  refine lv_istore_n (lv' := [(3, .int (nI (20 * (gB gs - 1) + t))), (0, .ref (z 0)), (1, .int (nI t)), (2, .int (bI f))]) hx hb dX5_judge_11 rfl hl (by decide) rfl (fun ls hl => ?_)
  refine lv_aload_n hx hb dX5_judge_12 rfl (lv_at hl 1 rfl) ?_
  refine va_get (D := D) (ci := 5) (v := .ref (z 8)) (C := RX5) (T := TX5) (N := 19) hx hb hts hin5 hown hK.1 hP 0 rfl rfl 10 (by decide) (hts (.fieldLink RX5 33 "TestPickerModel" "verdicts" "[I") (by decide +kernel)) (fun _ h9 => h9) rfl dX5_judge_13 ?_
  refine lv_iload_n hx hb dX5_judge_16 rfl (lv_at hl 0 rfl) ?_
  refine ld_i hx hb hK hP 8 (f := gVe gs) rfl (i := (20 * (gB gs - 1) + t)) (by omega) (by decide) dX5_judge_17 ?_
  refine lv_if_lt (tgt := 25) hx hb dX5_judge_18 (by decide) (fun c18 => ?_) (fun c18 => ?_)
  · -- 18 True
    refine lv_iconst (v := 0) hx hb dX5_judge_25 (by decide) ?_
    refine lv_istore (lv' := [(4, .int 0), (3, .int (nI (20 * (gB gs - 1) + t))), (0, .ref (z 0)), (1, .int (nI t)), (2, .int (bI f))]) hx hb dX5_judge_26 hl (by decide) rfl (fun ls hl => ?_)
    refine lv_aload_n hx hb dX5_judge_28 rfl (lv_at hl 2 rfl) ?_
    refine va_get (D := D) (ci := 5) (v := .ref (z 8)) (C := RX5) (T := TX5) (N := 19) hx hb hts hin5 hown hK.1 hP 0 rfl rfl 10 (by decide) (hts (.fieldLink RX5 33 "TestPickerModel" "verdicts" "[I") (by decide +kernel)) (fun _ h9 => h9) rfl dX5_judge_29 ?_
    refine lv_iload_n hx hb dX5_judge_32 rfl (lv_at hl 1 rfl) ?_
    refine lv_iload_n hx hb dX5_judge_33 rfl (lv_at hl 4 rfl) ?_
    refine lv_if_eq (tgt := 41) hx hb dX5_judge_34 (by decide) (fun c34 => ?_) (fun c34 => ?_)
    · -- 34 True
      have c34 := bI_z.mp c34
      refine lv_iconst (v := 0) hx hb dX5_judge_41 (by decide) ?_
      refine st_i hx hb hK hP hD hS 8 rfl (i := (20 * (gB gs - 1) + t)) (by omega) (by decide) dX5_judge_42 (fun H locs hP hD hS => ?_)
      have hP : va_P D vwCl (wG z c (gFi gs, gFs gs, gT gs, gKd gs, gTi gs, gNd gs, gMs gs, gBy gs, gB gs, gCg gs, (upd (gVe gs) (20 * (gB gs - 1) + t) 0), gAs gs, gMv gs, gPm gs, gPk gs, gPt gs, gPp gs, gPs gs, gMay gs)) H := hP
      have hD : va_D (va_A (wG z c gs) s.heap.size) (wG z c (gFi gs, gFs gs, gT gs, gKd gs, gTi gs, gNd gs, gMs gs, gBy gs, gB gs, gCg gs, (upd (gVe gs) (20 * (gB gs - 1) + t) 0), gAs gs, gMv gs, gPm gs, gPk gs, gPt gs, gPp gs, gPs gs, gMay gs)) := hD
      refine lv_iload hx hb dX5_judge_43 (lv_at hl 0 rfl) ?_
      have e9 : judG gs t f = (gFi gs, gFs gs, gT gs, gKd gs, gTi gs, gNd gs, gMs gs, gBy gs, gB gs, gCg gs, (upd (gVe gs) (20 * (gB gs - 1) + t) 0), gAs gs, gMv gs, gPm gs, gPk gs, gPt gs, gPp gs, gPs gs, gMay gs) := by simp [judG, bI, c34]
      rw [e9]
      exact mu_reti hx hb hr hlk hP hD hS (by simp [bI, c18]) dX5_judge_45
    · -- 34 False
      have c34 := bI_nz.mp c34
      refine lv_iconst (v := 1) hx hb dX5_judge_37 (by decide) ?_
      refine lv_goto (tgt := 42) hx hb dX5_judge_38 (by decide) ?_
      refine st_i hx hb hK hP hD hS 8 rfl (i := (20 * (gB gs - 1) + t)) (by omega) (by decide) dX5_judge_42 (fun H locs hP hD hS => ?_)
      have hP : va_P D vwCl (wG z c (gFi gs, gFs gs, gT gs, gKd gs, gTi gs, gNd gs, gMs gs, gBy gs, gB gs, gCg gs, (upd (gVe gs) (20 * (gB gs - 1) + t) 1), gAs gs, gMv gs, gPm gs, gPk gs, gPt gs, gPp gs, gPs gs, gMay gs)) H := hP
      have hD : va_D (va_A (wG z c gs) s.heap.size) (wG z c (gFi gs, gFs gs, gT gs, gKd gs, gTi gs, gNd gs, gMs gs, gBy gs, gB gs, gCg gs, (upd (gVe gs) (20 * (gB gs - 1) + t) 1), gAs gs, gMv gs, gPm gs, gPk gs, gPt gs, gPp gs, gPs gs, gMay gs)) := hD
      refine lv_iload hx hb dX5_judge_43 (lv_at hl 0 rfl) ?_
      have e9 : judG gs t f = (gFi gs, gFs gs, gT gs, gKd gs, gTi gs, gNd gs, gMs gs, gBy gs, gB gs, gCg gs, (upd (gVe gs) (20 * (gB gs - 1) + t) 1), gAs gs, gMv gs, gPm gs, gPk gs, gPt gs, gPp gs, gPs gs, gMay gs) := by simp [judG, bI, c34]
      rw [e9]
      exact mu_reti hx hb hr hlk hP hD hS (by simp [bI, c18]) dX5_judge_45
  · -- 18 False
    refine lv_iconst (v := 1) hx hb dX5_judge_21 (by decide) ?_
    refine lv_goto (tgt := 26) hx hb dX5_judge_22 (by decide) ?_
    refine lv_istore (lv' := [(4, .int 1), (3, .int (nI (20 * (gB gs - 1) + t))), (0, .ref (z 0)), (1, .int (nI t)), (2, .int (bI f))]) hx hb dX5_judge_26 hl (by decide) rfl (fun ls hl => ?_)
    refine lv_aload_n hx hb dX5_judge_28 rfl (lv_at hl 2 rfl) ?_
    refine va_get (D := D) (ci := 5) (v := .ref (z 8)) (C := RX5) (T := TX5) (N := 19) hx hb hts hin5 hown hK.1 hP 0 rfl rfl 10 (by decide) (hts (.fieldLink RX5 33 "TestPickerModel" "verdicts" "[I") (by decide +kernel)) (fun _ h9 => h9) rfl dX5_judge_29 ?_
    refine lv_iload_n hx hb dX5_judge_32 rfl (lv_at hl 1 rfl) ?_
    refine lv_iload_n hx hb dX5_judge_33 rfl (lv_at hl 4 rfl) ?_
    refine lv_if_eq (tgt := 41) hx hb dX5_judge_34 (by decide) (fun c34 => ?_) (fun c34 => ?_)
    · -- 34 True
      have c34 := bI_z.mp c34
      refine lv_iconst (v := 0) hx hb dX5_judge_41 (by decide) ?_
      refine st_i hx hb hK hP hD hS 8 rfl (i := (20 * (gB gs - 1) + t)) (by omega) (by decide) dX5_judge_42 (fun H locs hP hD hS => ?_)
      have hP : va_P D vwCl (wG z c (gFi gs, gFs gs, gT gs, gKd gs, gTi gs, gNd gs, gMs gs, gBy gs, gB gs, gCg gs, (upd (gVe gs) (20 * (gB gs - 1) + t) 0), gAs gs, gMv gs, gPm gs, gPk gs, gPt gs, gPp gs, gPs gs, gMay gs)) H := hP
      have hD : va_D (va_A (wG z c gs) s.heap.size) (wG z c (gFi gs, gFs gs, gT gs, gKd gs, gTi gs, gNd gs, gMs gs, gBy gs, gB gs, gCg gs, (upd (gVe gs) (20 * (gB gs - 1) + t) 0), gAs gs, gMv gs, gPm gs, gPk gs, gPt gs, gPp gs, gPs gs, gMay gs)) := hD
      refine lv_iload hx hb dX5_judge_43 (lv_at hl 0 rfl) ?_
      have e9 : judG gs t f = (gFi gs, gFs gs, gT gs, gKd gs, gTi gs, gNd gs, gMs gs, gBy gs, gB gs, gCg gs, (upd (gVe gs) (20 * (gB gs - 1) + t) 0), gAs gs, gMv gs, gPm gs, gPk gs, gPt gs, gPp gs, gPs gs, gMay gs) := by simp [judG, bI, c34]
      rw [e9]
      exact mu_reti hx hb hr hlk hP hD hS (by simp [bI, c18]) dX5_judge_45
    · -- 34 False
      have c34 := bI_nz.mp c34
      refine lv_iconst (v := 1) hx hb dX5_judge_37 (by decide) ?_
      refine lv_goto (tgt := 42) hx hb dX5_judge_38 (by decide) ?_
      refine st_i hx hb hK hP hD hS 8 rfl (i := (20 * (gB gs - 1) + t)) (by omega) (by decide) dX5_judge_42 (fun H locs hP hD hS => ?_)
      have hP : va_P D vwCl (wG z c (gFi gs, gFs gs, gT gs, gKd gs, gTi gs, gNd gs, gMs gs, gBy gs, gB gs, gCg gs, (upd (gVe gs) (20 * (gB gs - 1) + t) 1), gAs gs, gMv gs, gPm gs, gPk gs, gPt gs, gPp gs, gPs gs, gMay gs)) H := hP
      have hD : va_D (va_A (wG z c gs) s.heap.size) (wG z c (gFi gs, gFs gs, gT gs, gKd gs, gTi gs, gNd gs, gMs gs, gBy gs, gB gs, gCg gs, (upd (gVe gs) (20 * (gB gs - 1) + t) 1), gAs gs, gMv gs, gPm gs, gPk gs, gPt gs, gPp gs, gPs gs, gMay gs)) := hD
      refine lv_iload hx hb dX5_judge_43 (lv_at hl 0 rfl) ?_
      have e9 : judG gs t f = (gFi gs, gFs gs, gT gs, gKd gs, gTi gs, gNd gs, gMs gs, gBy gs, gB gs, gCg gs, (upd (gVe gs) (20 * (gB gs - 1) + t) 1), gAs gs, gMv gs, gPm gs, gPk gs, gPt gs, gPp gs, gPs gs, gMay gs) := by simp [judG, bI, c34]
      rw [e9]
      exact mu_reti hx hb hr hlk hP hD hS (by simp [bI, c18]) dX5_judge_45

set_option maxHeartbeats 4000000 in
set_option maxRecDepth 100000 in
theorem c_X5_take (l : Launch) (D : va_G) (z : Nat → Nat) (c : CT) (gs : GS) (t k : Nat) (ht : t < gT gs) (hT : gT gs ≤ 20) (hN : WN (gNd gs) (gT gs)) (hm : gPm gs = nI k) (hcap : ∀ i, i < gT gs → bt (gCh gs t &&& (gPs gs ^^^ (-1))) i = true → (pkR (gCh gs t &&& (gPs gs ^^^ (-1))) (gPk gs) k i).2 < 20) : MUv l yX5_take wsX5_take ({ frames := 1, cells := 0, slots := 0, locals := 23 } : Room) [.ref (z 0), .int (nI t)] D c (wG z c gs) (wG z c (takG gs t k)) := by
  refine mu_start (cc := cX5_take) (maxL := 4) (ret := none) (by decide) rfl (Nat.le_of_ble_eq_true rfl) ?_
  intro p e s m args below meth c0 ls hx hb hr hml hown hts hlk hnm hP hK hD hS hA hl
  have hown : s.vm.findClass RX5 = some m.cls := hown
  have hl : lv_has ls 4 [(0, .ref (z 0)), (1, .int (nI t))] := hl
  have hin5 : ∀ w ∈ wsX50, w ∈ wsX5_take := by decide +kernel
  refine lv_aload_n hx hb dX5_take_0 rfl (lv_at hl 0 rfl) ?_
  refine lv_iload_n hx hb dX5_take_1 rfl (lv_at hl 1 rfl) ?_
  refine ro_Vi (post := (gCh gs t)) (As := [.int (nI t)]) (rest := []) ⟨hx, hb, hml, hown, hts⟩ (c_X5_chainOf l D z c gs t (by omega) (by omega) hN) (cwV 1 hts gX5_take_X5_chainOf rfl rfl rfl (by decide +kernel) ⟨Nat.le_of_ble_eq_true rfl, Nat.le_of_ble_eq_true rfl⟩) hP hK (va_recv hK.1 hP (ci := 5) (q0 := 0) rfl rfl) rfl hl.1 rfl (Nat.le_of_ble_eq_true rfl) dX5_take_2 ⟨Nat.le_of_ble_eq_true rfl, Nat.le_of_ble_eq_true rfl⟩ ?_
  refine lv_aload_n hx hb dX5_take_5 rfl (lv_at hl 0 rfl) ?_
  refine va_get (D := D) (ci := 5) (v := .int (gPs gs)) (C := RX5) (T := TX5) (N := 19) hx hb hts hin5 hown hK.1 hP 0 rfl rfl 17 (by decide) (hts (.fieldLink RX5 116 "TestPickerModel" "pickSet" "I") (by decide +kernel)) (fun _ h9 => h9) rfl dX5_take_6 ?_
  refine lv_iconst (v := (-1)) hx hb dX5_take_9 (by decide) ?_
  refine lv_ixor hx hb dX5_take_10 ?_
  refine lv_iand hx hb dX5_take_11 ?_
  refine lv_istore_n (lv' := [(2, .int ((gCh gs t) &&& (gPs gs ^^^ (-1)))), (0, .ref (z 0)), (1, .int (nI t))]) hx hb dX5_take_12 rfl hl (by decide) rfl (fun ls hl => ?_)
  have hP : va_P D vwCl (wG z c (gFi gs, gFs gs, gT gs, gKd gs, gTi gs, gNd gs, gMs gs, gBy gs, gB gs, gCg gs, gVe gs, gAs gs, gMv gs, nI k, gPk gs, gPt gs, gPp gs, gPs gs, gMay gs)) s.heap := by rw [← hm]; exact hP
  have hD : va_D (va_A (wG z c gs) s.heap.size) (wG z c (gFi gs, gFs gs, gT gs, gKd gs, gTi gs, gNd gs, gMs gs, gBy gs, gB gs, gCg gs, gVe gs, gAs gs, gMv gs, nI k, gPk gs, gPt gs, gPp gs, gPs gs, gMay gs)) := by rw [← hm]; exact hD
  refine lv_iconst (v := 0) hx hb dX5_take_13 (by decide) ?_
  refine lv_istore_n (lv' := [(3, .int 0), (2, .int ((gCh gs t) &&& (gPs gs ^^^ (-1)))), (0, .ref (z 0)), (1, .int (nI t))]) hx hb dX5_take_14 rfl hl (by decide) rfl (fun ls hl => ?_)
  have L15 : ∀ (n : Nat) (i : Nat) (pk : Nat → Int32) (k2 : Nat), (i ≤ gT gs) → (gT gs < i + n) → (pkR (gCh gs t &&& (gPs gs ^^^ (-1))) (gPk gs) k i = (pk, k2)) → ∀ (H : Heap) (locs : List Loc), va_P D vwCl (wG z c (gFi gs, gFs gs, gT gs, gKd gs, gTi gs, gNd gs, gMs gs, gBy gs, gB gs, gCg gs, gVe gs, gAs gs, gMv gs, nI k2, pk, gPt gs, gPp gs, gPs gs, gMay gs)) H → va_D (va_A (wG z c gs) s.heap.size) (wG z c (gFi gs, gFs gs, gT gs, gKd gs, gTi gs, gNd gs, gMs gs, gBy gs, gB gs, gCg gs, gVe gs, gAs gs, gMv gs, nI k2, pk, gPt gs, gPp gs, gPs gs, gMay gs)) → va_S (va_A (wG z c gs) s.heap.size) s.heap H locs → ∀ ls : Array Slot, lv_has ls 4 [(3, .int (nI i)), (2, .int ((gCh gs t) &&& (gPs gs ^^^ (-1)))), (0, .ref (z 0)), (1, .int (nI t))] → W p l e ({ frames := 1, cells := 0, slots := 0, locals := 23 } : Room) s m args below meth c0 H locs 0 0 (QMv below args s D c (wG z c gs) (wG z c (takG gs t k))) (F0 m 15 ls []) := by
    intro n
    induction n with
    | zero => intro i pk k2 hi hn hp H locs hP hD hS ls hl; exact absurd hn (by omega)
    | succ n ih15 =>
      intro i pk k2 hi hn hp H locs hP hD hS ls hl
      refine lv_iload_n hx hb dX5_take_15 rfl (lv_at hl 0 rfl) ?_
      refine lv_aload_n hx hb dX5_take_16 rfl (lv_at hl 2 rfl) ?_
      refine va_get (D := D) (ci := 5) (v := .int (nI (gT gs))) (C := RX5) (T := TX5) (N := 19) hx hb hts hin5 hown hK.1 hP 0 rfl rfl 2 (by decide) (hts (.fieldLink RX5 52 "TestPickerModel" "tests" "I") (by decide +kernel)) (fun _ h9 => h9) rfl dX5_take_17 ?_
      refine lv_icmp_ge (tgt := 57) hx hb dX5_take_20 (by decide) (fun c20 => ?_) (fun c20 => ?_)
      · -- 20 True
        have c20 : (gT gs) ≤ i := (nI_leI (a := (gT gs)) (b := i) (by omega) (by omega)).mp c20
        refine lv_aload_n hx hb dX5_take_57 rfl (lv_at hl 2 rfl) ?_
        refine lv_dup hx hb dX5_take_58 rfl ?_
        refine va_get (D := D) (ci := 5) (v := .int (gPs gs)) (C := RX5) (T := TX5) (N := 19) hx hb hts hin5 hown hK.1 hP 0 rfl rfl 17 (by decide) (hts (.fieldLink RX5 116 "TestPickerModel" "pickSet" "I") (by decide +kernel)) (fun _ h9 => h9) rfl dX5_take_59 ?_
        refine lv_iload_n hx hb dX5_take_62 rfl (lv_at hl 1 rfl) ?_
        refine lv_ior hx hb dX5_take_63 ?_
        refine va_put (D := D) (ci := 5) (v := .int (gPs gs ||| ((gCh gs t) &&& (gPs gs ^^^ (-1))))) (ty := .int) (C := RX5) (T := TX5) (N := 19) hx hb hts hin5 tyX5 tyX5_ok nmX5 hown hK.1 hP hD hS 0 rfl rfl 17 (by decide) (hts (.fieldLink RX5 116 "TestPickerModel" "pickSet" "I") (by decide +kernel)) (fun _ h9 => h9) rfl (by decide +kernel) rfl rfl (Nat.le_of_ble_eq_true rfl) dX5_take_64 (fun H locs hP hD hS => ?_)
        have hP : va_P D vwCl (wG z c (gFi gs, gFs gs, gT gs, gKd gs, gTi gs, gNd gs, gMs gs, gBy gs, gB gs, gCg gs, gVe gs, gAs gs, gMv gs, nI k2, pk, gPt gs, gPp gs, (gPs gs ||| ((gCh gs t) &&& (gPs gs ^^^ (-1)))), gMay gs)) H := hP
        have hD : va_D (va_A (wG z c gs) s.heap.size) (wG z c (gFi gs, gFs gs, gT gs, gKd gs, gTi gs, gNd gs, gMs gs, gBy gs, gB gs, gCg gs, gVe gs, gAs gs, gMv gs, nI k2, pk, gPt gs, gPp gs, (gPs gs ||| ((gCh gs t) &&& (gPs gs ^^^ (-1)))), gMay gs)) := hD
        have e9 : takG gs t k = (gFi gs, gFs gs, gT gs, gKd gs, gTi gs, gNd gs, gMs gs, gBy gs, gB gs, gCg gs, gVe gs, gAs gs, gMv gs, nI k2, pk, gPt gs, gPp gs, gPs gs ||| (gCh gs t &&& (gPs gs ^^^ (-1))), gMay gs) := by rw [takG, show gT gs = i by omega, hp]
        rw [e9]
        exact mu_retv hx hb hr hlk hP hD hS dX5_take_67
      · -- 20 False
        have c20 : i < (gT gs) := (Nat.not_le.mp (fun z => c20 ((nI_leI (a := (gT gs)) (b := i) (by omega) (by omega)).mpr z)))
        refine lv_iload_n hx hb dX5_take_23 rfl (lv_at hl 1 rfl) ?_
        refine lv_iload_n hx hb dX5_take_24 rfl (lv_at hl 0 rfl) ?_
        refine ro_Si (As := [.int ((gCh gs t) &&& (gPs gs ^^^ (-1))), .int (nI i)]) (rest := []) ⟨hx, hb, hml, hown, hts⟩ (c_X5_has l D c ((gCh gs t) &&& (gPs gs ^^^ (-1))) i (by omega)) (va_cwS 2 hts gX5_take_X5_has rfl rfl rfl (by decide +kernel) ⟨Nat.le_of_ble_eq_true rfl, Nat.le_of_ble_eq_true rfl⟩) va_P0 hK rfl hl.1 rfl (Nat.le_of_ble_eq_true rfl) dX5_take_25 ⟨Nat.le_of_ble_eq_true rfl, Nat.le_of_ble_eq_true rfl⟩ ?_
        refine lv_if_eq (tgt := 51) hx hb dX5_take_28 (by decide) (fun c28 => ?_) (fun c28 => ?_)
        · -- 28 True
          have c28 := bI_z.mp c28
          refine lv_iinc (v := nI (i + 1)) (lv' := [(3, .int (nI (i + 1))), (2, .int ((gCh gs t) &&& (gPs gs ^^^ (-1)))), (0, .ref (z 0)), (1, .int (nI t))]) hx hb dX5_take_51 hl (k := 0) rfl (nI_inc _) (by decide) rfl (fun ls hl => ?_)
          refine lv_goto (tgt := 15) hx hb dX5_take_54 (by decide) ?_
          exact ih15 (i + 1) pk k2 (by omega) (by omega) (by rw [pkR, if_neg (by rw [c28]; decide)]; exact hp) _ _ hP hD hS ls (lv_sub hl [0, 1, 2, 3] rfl)
        · -- 28 False
          have c28 := bI_nz.mp c28
          have hk2 : k2 < 20 := by have := hcap i c20 c28; rw [hp] at this; exact this
          refine lv_aload_n hx hb dX5_take_31 rfl (lv_at hl 2 rfl) ?_
          refine va_get (D := D) (ci := 5) (v := .ref (z 10)) (C := RX5) (T := TX5) (N := 19) hx hb hts hin5 hown hK.1 hP 0 rfl rfl 14 (by decide) (hts (.fieldLink RX5 43 "TestPickerModel" "picks" "[I") (by decide +kernel)) (fun _ h9 => h9) rfl dX5_take_32 ?_
          refine lv_aload_n hx hb dX5_take_35 rfl (lv_at hl 2 rfl) ?_
          refine va_get (D := D) (ci := 5) (v := .int (nI k2)) (C := RX5) (T := TX5) (N := 19) hx hb hts hin5 hown hK.1 hP 0 rfl rfl 13 (by decide) (hts (.fieldLink RX5 39 "TestPickerModel" "pickMany" "I") (by decide +kernel)) (fun _ h9 => h9) rfl dX5_take_36 ?_
          refine lv_iload_n hx hb dX5_take_39 rfl (lv_at hl 0 rfl) ?_
          refine st_i hx hb hK hP hD hS 10 rfl (i := k2) (hk2) (by decide) dX5_take_40 (fun H locs hP hD hS => ?_)
          have hP : va_P D vwCl (wG z c (gFi gs, gFs gs, gT gs, gKd gs, gTi gs, gNd gs, gMs gs, gBy gs, gB gs, gCg gs, gVe gs, gAs gs, gMv gs, nI k2, (upd pk k2 (nI i)), gPt gs, gPp gs, gPs gs, gMay gs)) H := hP
          have hD : va_D (va_A (wG z c gs) s.heap.size) (wG z c (gFi gs, gFs gs, gT gs, gKd gs, gTi gs, gNd gs, gMs gs, gBy gs, gB gs, gCg gs, gVe gs, gAs gs, gMv gs, nI k2, (upd pk k2 (nI i)), gPt gs, gPp gs, gPs gs, gMay gs)) := hD
          refine lv_aload_n hx hb dX5_take_41 rfl (lv_at hl 2 rfl) ?_
          refine lv_dup hx hb dX5_take_42 rfl ?_
          refine va_get (D := D) (ci := 5) (v := .int (nI k2)) (C := RX5) (T := TX5) (N := 19) hx hb hts hin5 hown hK.1 hP 0 rfl rfl 13 (by decide) (hts (.fieldLink RX5 39 "TestPickerModel" "pickMany" "I") (by decide +kernel)) (fun _ h9 => h9) rfl dX5_take_43 ?_
          refine lv_iconst (v := 1) hx hb dX5_take_46 (by decide) ?_
          refine lv_iadd hx hb dX5_take_47 ?_
          refine tp_i (z := nI (k2 + 1)) (nI_1 _) ?_
          refine va_put (D := D) (ci := 5) (v := .int (nI (k2 + 1))) (ty := .int) (C := RX5) (T := TX5) (N := 19) hx hb hts hin5 tyX5 tyX5_ok nmX5 hown hK.1 hP hD hS 0 rfl rfl 13 (by decide) (hts (.fieldLink RX5 39 "TestPickerModel" "pickMany" "I") (by decide +kernel)) (fun _ h9 => h9) rfl (by decide +kernel) rfl rfl (Nat.le_of_ble_eq_true rfl) dX5_take_48 (fun H locs hP hD hS => ?_)
          have hP : va_P D vwCl (wG z c (gFi gs, gFs gs, gT gs, gKd gs, gTi gs, gNd gs, gMs gs, gBy gs, gB gs, gCg gs, gVe gs, gAs gs, gMv gs, nI (k2 + 1), (upd pk k2 (nI i)), gPt gs, gPp gs, gPs gs, gMay gs)) H := hP
          have hD : va_D (va_A (wG z c gs) s.heap.size) (wG z c (gFi gs, gFs gs, gT gs, gKd gs, gTi gs, gNd gs, gMs gs, gBy gs, gB gs, gCg gs, gVe gs, gAs gs, gMv gs, nI (k2 + 1), (upd pk k2 (nI i)), gPt gs, gPp gs, gPs gs, gMay gs)) := hD
          refine lv_iinc (v := nI (i + 1)) (lv' := [(3, .int (nI (i + 1))), (2, .int ((gCh gs t) &&& (gPs gs ^^^ (-1)))), (0, .ref (z 0)), (1, .int (nI t))]) hx hb dX5_take_51 hl (k := 0) rfl (nI_inc _) (by decide) rfl (fun ls hl => ?_)
          refine lv_goto (tgt := 15) hx hb dX5_take_54 (by decide) ?_
          exact ih15 (i + 1) (upd pk k2 (nI i)) (k2 + 1) (by omega) (by omega) (by rw [pkR, if_pos c28, hp]) _ _ hP hD hS ls (lv_sub hl [0, 1, 2, 3] rfl)
  exact L15 (gT gs + 1) 0 (gPk gs) k (by omega) (by omega) (rfl) _ _ hP hD hS ls (lv_sub hl [0, 1, 2, 3] rfl)
