theorem ra_miss {gs : GS} {t i : Nat} {a : Int64} (ha : a = rbS (gBy gs) t i) (hm : i = 0 ∨ gMs gs t = 0) (c : ¬ gMs gs t = 0) : a = gRe gs t := by
  rcases hm with rfl | h
  · rw [ha, gRe, raM, if_neg c]; rfl
  · exact absurd h c
theorem ra_full {gs : GS} {t i : Nat} {a : Int64} (ha : a = rbS (gBy gs) t i) (h5 : i = 5) (hm : i = 0 ∨ gMs gs t = 0) : a = gRe gs t := by
  rcases hm with h | h
  · omega
  · rw [ha, gRe, raM, if_pos h, h5]
theorem ch_at {n T : Nat} {y : Int32} (h : 0 < n + 1 ∧ (y < 0 ∨ ∃ u, u + 1 < n + 1 ∧ u < T ∧ y = nI u)) (c : ¬ y < 0) : ∃ u, u < n ∧ u < T ∧ y = nI u := by
  rcases h.2 with h | ⟨u, h1, h2, h3⟩
  · exact absurd h c
  · exact ⟨u, by omega, h2, h3⟩
theorem ch_next {nd : Nat → Int32} {n T u : Nat} (hN : WN nd T) (h1 : u < n) (h2 : u < T) : 0 < n ∧ (nd u < 0 ∨ ∃ v, v + 1 < n ∧ v < T ∧ nd u = nI v) := by
  refine ⟨by omega, ?_⟩
  rcases hN u h2 with h | ⟨v, h3, h4⟩
  · exact Or.inl h
  · exact Or.inr ⟨v, by omega, by omega, h4⟩
theorem ht_stop {ve : Nat → Int32} {B t : Nat} : ∀ {k : Nat}, B < k + 2 → k ≤ 8 → htM ve B t k = htM ve B t 8 := by
  intro k h hk
  have e : ∀ j, htM ve B t (k + j) = htM ve B t k := by
    intro j
    induction j with
    | zero => rfl
    | succ j ih =>
      have h2 : B < k + j + 2 := by omega
      show htM ve B t (k + j) + (if B < k + j + 2 then (0 : Int32) else _) = _
      rw [if_pos h2, ih]; simp
  have h8 := e (8 - k)
  rw [show k + (8 - k) = 8 by omega] at h8
  exact h8.symm
set_option maxHeartbeats 4000000 in
set_option maxRecDepth 100000 in
theorem c_X5_isTest (l : Launch) (D : va_G) (z : Nat → Nat) (c : CT) (gs : GS) (x : Int32) (hT : gT gs ≤ 20) : ROi l yX5_isTest wsX5_isTest ({ frames := 1, cells := 0, slots := 0, locals := 22 } : Room) [.ref (z 0), .int x] D c (wG z c gs) (bI (inN x (gT gs))) := by
  refine ro_starti (cc := cX5_isTest) (maxL := 2) (ret := some .boolean) (by decide) rfl (Nat.le_of_ble_eq_true rfl) ?_
  intro p e s m args below meth c0 ls hx hb hr hml hown hts hlk hP hK hl
  have hown : s.vm.findClass RX5 = some m.cls := hown
  have hl : lv_has ls 2 [(0, .ref (z 0)), (1, .int x)] := hl
  have hin5 : ∀ w ∈ wsX50, w ∈ wsX5_isTest := by decide +kernel
  refine lv_iload_n hx hb dX5_isTest_0 rfl (lv_at hl 1 rfl) ?_
  refine lv_iconst (v := 0) hx hb dX5_isTest_1 (by decide) ?_
  refine lv_aload_n hx hb dX5_isTest_2 rfl (lv_at hl 0 rfl) ?_
  refine va_get (D := D) (ci := 5) (v := .int (nI (gT gs))) (C := RX5) (T := TX5) (N := 19) hx hb hts hin5 hown hK.1 hP 0 rfl rfl 2 (by decide) (hts (.fieldLink RX5 52 "TestPickerModel" "tests" "I") (by decide +kernel)) (fun _ h9 => h9) rfl dX5_isTest_3 ?_
  refine lv_iconst (v := 1) hx hb dX5_isTest_6 (by decide) ?_
  refine lv_isub hx hb dX5_isTest_7 ?_
  refine ro_Si (As := [.int x, .int 0, .int (nI (gT gs) - 1)]) (rest := []) ⟨hx, hb, hml, hown, hts⟩ (c_X5_in l D c x 0 (nI (gT gs) - 1)) (va_cwS 3 hts gX5_isTest_X5_in rfl rfl rfl (by decide +kernel) ⟨Nat.le_of_ble_eq_true rfl, Nat.le_of_ble_eq_true rfl⟩) va_P0 hK rfl hl.1 rfl (Nat.le_of_ble_eq_true rfl) dX5_isTest_8 ⟨Nat.le_of_ble_eq_true rfl, Nat.le_of_ble_eq_true rfl⟩ ?_
  exact ro_retz hx hb hr hlk (bI_or _) (by rw [rg_inN (by omega)]) dX5_isTest_11

set_option maxHeartbeats 4000000 in
set_option maxRecDepth 100000 in
theorem c_X5_isBuild (l : Launch) (D : va_G) (z : Nat → Nat) (c : CT) (gs : GS) (x : Int32) (hB60 : gB gs ≤ 60) : ROi l yX5_isBuild wsX5_isBuild ({ frames := 1, cells := 0, slots := 0, locals := 22 } : Room) [.ref (z 0), .int x] D c (wG z c gs) (bI (inN x (gB gs))) := by
  refine ro_starti (cc := cX5_isBuild) (maxL := 2) (ret := some .boolean) (by decide) rfl (Nat.le_of_ble_eq_true rfl) ?_
  intro p e s m args below meth c0 ls hx hb hr hml hown hts hlk hP hK hl
  have hown : s.vm.findClass RX5 = some m.cls := hown
  have hl : lv_has ls 2 [(0, .ref (z 0)), (1, .int x)] := hl
  have hin5 : ∀ w ∈ wsX50, w ∈ wsX5_isBuild := by decide +kernel
  refine lv_iload_n hx hb dX5_isBuild_0 rfl (lv_at hl 1 rfl) ?_
  refine lv_iconst (v := 0) hx hb dX5_isBuild_1 (by decide) ?_
  refine lv_aload_n hx hb dX5_isBuild_2 rfl (lv_at hl 0 rfl) ?_
  refine va_get (D := D) (ci := 5) (v := .int (nI (gB gs))) (C := RX5) (T := TX5) (N := 19) hx hb hts hin5 hown hK.1 hP 0 rfl rfl 8 (by decide) (hts (.fieldLink RX5 59 "TestPickerModel" "builds" "I") (by decide +kernel)) (fun _ h9 => h9) rfl dX5_isBuild_3 ?_
  refine lv_iconst (v := 1) hx hb dX5_isBuild_6 (by decide) ?_
  refine lv_isub hx hb dX5_isBuild_7 ?_
  refine ro_Si (As := [.int x, .int 0, .int (nI (gB gs) - 1)]) (rest := []) ⟨hx, hb, hml, hown, hts⟩ (c_X5_in l D c x 0 (nI (gB gs) - 1)) (va_cwS 3 hts gX5_isBuild_X5_in rfl rfl rfl (by decide +kernel) ⟨Nat.le_of_ble_eq_true rfl, Nat.le_of_ble_eq_true rfl⟩) va_P0 hK rfl hl.1 rfl (Nat.le_of_ble_eq_true rfl) dX5_isBuild_8 ⟨Nat.le_of_ble_eq_true rfl, Nat.le_of_ble_eq_true rfl⟩ ?_
  exact ro_retz hx hb hr hlk (bI_or _) (by rw [rg_inN (by omega)]) dX5_isBuild_11

set_option maxHeartbeats 4000000 in
set_option maxRecDepth 100000 in
theorem c_X5_reachOf (l : Launch) (D : va_G) (z : Nat → Nat) (c : CT) (gs : GS) (t : Nat) (ht : t < 20) : ROl l yX5_reachOf wsX5_reachOf ({ frames := 0, cells := 0, slots := 0, locals := 0 } : Room) [.ref (z 0), .int (nI t)] D c (wG z c gs) (gRe gs t) := by
  refine ro_startl (cc := cX5_reachOf) (maxL := 5) (ret := some .long) (by decide) rfl (Nat.le_of_ble_eq_true rfl) ?_
  intro p e s m args below meth c0 ls hx hb hr hml hown hts hlk hP hK hl
  have hown : s.vm.findClass RX5 = some m.cls := hown
  have hl : lv_has ls 5 [(0, .ref (z 0)), (1, .int (nI t))] := hl
  have hin5 : ∀ w ∈ wsX50, w ∈ wsX5_reachOf := by decide +kernel
  refine lv_lconst (v := 0) hx hb dX5_reachOf_0 (by decide) ?_
  refine lv_lstore_n (lv' := [(2, .long 0), (0, .ref (z 0)), (1, .int (nI t))]) hx hb dX5_reachOf_1 rfl hl (by decide) rfl (fun ls hl => ?_)
  refine lv_iconst (v := 0) hx hb dX5_reachOf_2 (by decide) ?_
  refine lv_istore (lv' := [(4, .int 0), (2, .long 0), (0, .ref (z 0)), (1, .int (nI t))]) hx hb dX5_reachOf_3 hl (by decide) rfl (fun ls hl => ?_)
  have L5 : ∀ (n : Nat) (i : Nat) (a : Int64), (i ≤ 5) → (5 < i + n) → (a = rbS (gBy gs) t i) → (i = 0 ∨ gMs gs t = 0) → ∀ ls : Array Slot, lv_has ls 5 [(4, .int (nI i)), (2, .long a), (0, .ref (z 0)), (1, .int (nI t))] → W p l e ({ frames := 0, cells := 0, slots := 0, locals := 0 } : Room) s m args below meth c0 s.heap [] 0 0 (QRl below args s (gRe gs t)) (F0 m 5 ls []) := by
    intro n
    induction n with
    | zero => intro i a hi hn ha hm ls hl; exact absurd hn (by omega)
    | succ n ih5 =>
      intro i a hi hn ha hm ls hl
      refine lv_iload hx hb dX5_reachOf_5 (lv_at hl 0 rfl) ?_
      refine lv_iconst (v := 5) hx hb dX5_reachOf_7 (by decide) ?_
      refine lv_icmp_ge (tgt := 47) hx hb dX5_reachOf_8 (by decide) (fun c8 => ?_) (fun c8 => ?_)
      · -- 8 True
        have c8 : 5 ≤ i := (nI_leI (a := 5) (b := i) (by omega) (by omega)).mp c8
        refine lv_lload_n hx hb dX5_reachOf_47 rfl (lv_at hl 1 rfl) ?_
        exact ro_retl hx hb hr hlk (ra_full ha (by omega) hm) dX5_reachOf_48
      · -- 8 False
        have c8 : i < 5 := (Nat.not_le.mp (fun z => c8 ((nI_leI (a := 5) (b := i) (by omega) (by omega)).mpr z)))
        refine lv_aload_n hx hb dX5_reachOf_11 rfl (lv_at hl 2 rfl) ?_
        refine va_get (D := D) (ci := 5) (v := .ref (z 5)) (C := RX5) (T := TX5) (N := 19) hx hb hts hin5 hown hK.1 hP 0 rfl rfl 6 (by decide) (hts (.fieldLink RX5 22 "TestPickerModel" "missing" "[Z") (by decide +kernel)) (fun _ h9 => h9) rfl dX5_reachOf_12 ?_
        refine lv_iload_n hx hb dX5_reachOf_15 rfl (lv_at hl 3 rfl) ?_
        refine ld_z hx hb hK hP 5 (f := gMs gs) rfl (i := t) (by omega) (by decide) dX5_reachOf_16 ?_
        refine lv_if_ne (tgt := 47) hx hb dX5_reachOf_17 (by decide) (fun c17 => ?_) (fun c17 => ?_)
        · -- 17 True
          refine lv_lload_n hx hb dX5_reachOf_47 rfl (lv_at hl 1 rfl) ?_
          exact ro_retl hx hb hr hlk (ra_miss ha hm c17) dX5_reachOf_48
        · -- 17 False
          refine lv_lload_n hx hb dX5_reachOf_20 rfl (lv_at hl 1 rfl) ?_
          refine lv_aload_n hx hb dX5_reachOf_21 rfl (lv_at hl 2 rfl) ?_
          refine va_get (D := D) (ci := 5) (v := .ref (z 6)) (C := RX5) (T := TX5) (N := 19) hx hb hts hin5 hown hK.1 hP 0 rfl rfl 7 (by decide) (hts (.fieldLink RX5 26 "TestPickerModel" "bytes" "[I") (by decide +kernel)) (fun _ h9 => h9) rfl dX5_reachOf_22 ?_
          refine lv_iconst (v := 5) hx hb dX5_reachOf_25 (by decide) ?_
          refine lv_iload_n hx hb dX5_reachOf_26 rfl (lv_at hl 3 rfl) ?_
          refine lv_imul hx hb dX5_reachOf_27 ?_
          refine lv_iload hx hb dX5_reachOf_28 (lv_at hl 0 rfl) ?_
          refine lv_iadd hx hb dX5_reachOf_30 ?_
          refine tp_i (z := nI (5 * t + i)) (ix5 t i) ?_
          refine ld_i hx hb hK hP 6 (f := gBy gs) rfl (i := (5 * t + i)) (by omega) (by decide) dX5_reachOf_31 ?_
          refine lv_i2l (v := (gBy gs (5 * t + i)).toInt64) hx hb dX5_reachOf_32 rfl ?_
          refine lv_bipush (v := 8) hx hb dX5_reachOf_33 (by decide) ?_
          refine lv_iload hx hb dX5_reachOf_35 (lv_at hl 0 rfl) ?_
          refine lv_imul hx hb dX5_reachOf_37 ?_
          refine tp_i (z := nI (8 * i)) (mul8 i) ?_
          refine lv_lshl (v := ((gBy gs (5 * t + i)).toInt64 <<< ((nI (8 * i)).toInt64 &&& 63))) hx hb dX5_reachOf_38 rfl ?_
          refine lv_lor hx hb dX5_reachOf_39 ?_
          refine lv_lstore_n (lv' := [(2, .long (a ||| ((gBy gs (5 * t + i)).toInt64 <<< ((nI (8 * i)).toInt64 &&& 63)))), (4, .int (nI i)), (0, .ref (z 0)), (1, .int (nI t))]) hx hb dX5_reachOf_40 rfl hl (by decide) rfl (fun ls hl => ?_)
          refine lv_iinc (v := nI (i + 1)) (lv' := [(4, .int (nI (i + 1))), (2, .long (a ||| ((gBy gs (5 * t + i)).toInt64 <<< ((nI (8 * i)).toInt64 &&& 63)))), (0, .ref (z 0)), (1, .int (nI t))]) hx hb dX5_reachOf_41 hl (k := 1) rfl (nI_inc _) (by decide) rfl (fun ls hl => ?_)
          refine lv_goto (tgt := 5) hx hb dX5_reachOf_44 (by decide) ?_
          exact ih5 (i + 1) (a ||| ((gBy gs (5 * t + i)).toInt64 <<< ((nI (8 * i)).toInt64 &&& 63))) (by omega) (by omega) (by rw [ha]; rfl) (Or.inr c17) ls (lv_sub hl [0, 1, 2, 3] rfl)
  exact L5 (6) 0 0 (by omega) (by omega) (rfl) (Or.inl rfl) ls (lv_sub hl [0, 1, 2, 3] rfl)

set_option maxHeartbeats 4000000 in
set_option maxRecDepth 100000 in
theorem c_X5_timeOf (l : Launch) (D : va_G) (z : Nat → Nat) (c : CT) (gs : GS) (t : Nat) (ht : t < 20) : ROi l yX5_timeOf wsX5_timeOf ({ frames := 0, cells := 0, slots := 0, locals := 0 } : Room) [.ref (z 0), .int (nI t)] D c (wG z c gs) (cTm (gKd gs) (gTi gs) t) := by
  refine ro_starti (cc := cX5_timeOf) (maxL := 2) (ret := some .int) (by decide) rfl (Nat.le_of_ble_eq_true rfl) ?_
  intro p e s m args below meth c0 ls hx hb hr hml hown hts hlk hP hK hl
  have hown : s.vm.findClass RX5 = some m.cls := hown
  have hl : lv_has ls 2 [(0, .ref (z 0)), (1, .int (nI t))] := hl
  have hin5 : ∀ w ∈ wsX50, w ∈ wsX5_timeOf := by decide +kernel
  refine lv_aload_n hx hb dX5_timeOf_0 rfl (lv_at hl 0 rfl) ?_
  refine va_get (D := D) (ci := 5) (v := .ref (z 2)) (C := RX5) (T := TX5) (N := 19) hx hb hts hin5 hown hK.1 hP 0 rfl rfl 3 (by decide) (hts (.fieldLink RX5 13 "TestPickerModel" "kinds" "[I") (by decide +kernel)) (fun _ h9 => h9) rfl dX5_timeOf_1 ?_
  refine lv_iload_n hx hb dX5_timeOf_4 rfl (lv_at hl 1 rfl) ?_
  refine ld_i hx hb hK hP 2 (f := gKd gs) rfl (i := t) (by omega) (by decide) dX5_timeOf_5 ?_
  refine lv_iconst (v := 1) hx hb dX5_timeOf_6 (by decide) ?_
  refine lv_icmp_ne (tgt := 21) hx hb dX5_timeOf_7 (by decide) (fun c7 => ?_) (fun c7 => ?_)
  · -- 7 True
    refine lv_aload_n hx hb dX5_timeOf_21 rfl (lv_at hl 0 rfl) ?_
    refine va_get (D := D) (ci := 5) (v := .ref (z 3)) (C := RX5) (T := TX5) (N := 19) hx hb hts hin5 hown hK.1 hP 0 rfl rfl 4 (by decide) (hts (.fieldLink RX5 16 "TestPickerModel" "times" "[I") (by decide +kernel)) (fun _ h9 => h9) rfl dX5_timeOf_22 ?_
    refine lv_iload_n hx hb dX5_timeOf_25 rfl (lv_at hl 1 rfl) ?_
    refine ld_i hx hb hK hP 3 (f := gTi gs) rfl (i := t) (by omega) (by decide) dX5_timeOf_26 ?_
    exact ro_reti hx hb hr hlk (by simp [cTm, c7]) dX5_timeOf_27
  · -- 7 False
    refine lv_iconst (v := 3) hx hb dX5_timeOf_10 (by decide) ?_
    refine lv_aload_n hx hb dX5_timeOf_11 rfl (lv_at hl 0 rfl) ?_
    refine va_get (D := D) (ci := 5) (v := .ref (z 3)) (C := RX5) (T := TX5) (N := 19) hx hb hts hin5 hown hK.1 hP 0 rfl rfl 4 (by decide) (hts (.fieldLink RX5 16 "TestPickerModel" "times" "[I") (by decide +kernel)) (fun _ h9 => h9) rfl dX5_timeOf_12 ?_
    refine lv_iload_n hx hb dX5_timeOf_15 rfl (lv_at hl 1 rfl) ?_
    refine ld_i hx hb hK hP 3 (f := gTi gs) rfl (i := t) (by omega) (by decide) dX5_timeOf_16 ?_
    refine lv_imul hx hb dX5_timeOf_17 ?_
    refine lv_goto (tgt := 27) hx hb dX5_timeOf_18 (by decide) ?_
    exact ro_reti hx hb hr hlk (by simp [cTm, c7]) dX5_timeOf_27

set_option maxHeartbeats 4000000 in
set_option maxRecDepth 100000 in
theorem c_X5_chainOf (l : Launch) (D : va_G) (z : Nat → Nat) (c : CT) (gs : GS) (t : Nat) (ht : t < gT gs) (hT : gT gs ≤ 20) (hN : WN (gNd gs) (gT gs)) : ROi l yX5_chainOf wsX5_chainOf ({ frames := 0, cells := 0, slots := 0, locals := 0 } : Room) [.ref (z 0), .int (nI t)] D c (wG z c gs) (gCh gs t) := by
  refine ro_starti (cc := cX5_chainOf) (maxL := 4) (ret := some .int) (by decide) rfl (Nat.le_of_ble_eq_true rfl) ?_
  intro p e s m args below meth c0 ls hx hb hr hml hown hts hlk hP hK hl
  have hown : s.vm.findClass RX5 = some m.cls := hown
  have hl : lv_has ls 4 [(0, .ref (z 0)), (1, .int (nI t))] := hl
  have hin5 : ∀ w ∈ wsX50, w ∈ wsX5_chainOf := by decide +kernel
  refine lv_iconst (v := 0) hx hb dX5_chainOf_0 (by decide) ?_
  refine lv_istore_n (lv' := [(2, .int 0), (0, .ref (z 0)), (1, .int (nI t))]) hx hb dX5_chainOf_1 rfl hl (by decide) rfl (fun ls hl => ?_)
  refine lv_iload_n hx hb dX5_chainOf_2 rfl (lv_at hl 2 rfl) ?_
  refine lv_istore_n (lv' := [(3, .int (nI t)), (2, .int 0), (0, .ref (z 0)), (1, .int (nI t))]) hx hb dX5_chainOf_3 rfl hl (by decide) rfl (fun ls hl => ?_)
  have L4 : ∀ (n : Nat) (y : Int32) (a : Int32), (0 < n ∧ (y < 0 ∨ ∃ u, u + 1 < n ∧ u < gT gs ∧ y = nI u)) → (a ||| chM (gNd gs) n y = gCh gs t) → ∀ ls : Array Slot, lv_has ls 4 [(3, .int y), (2, .int a), (0, .ref (z 0)), (1, .int (nI t))] → W p l e ({ frames := 0, cells := 0, slots := 0, locals := 0 } : Room) s m args below meth c0 s.heap [] 0 0 (QRi below args s (gCh gs t)) (F0 m 4 ls []) := by
    intro n
    induction n with
    | zero => intro y a hn ha ls hl; exact absurd hn.1 (by omega)
    | succ n ih4 =>
      intro y a hn ha ls hl
      refine lv_iload_n hx hb dX5_chainOf_4 rfl (lv_at hl 0 rfl) ?_
      refine lv_if_lt (tgt := 24) hx hb dX5_chainOf_5 (by decide) (fun c5 => ?_) (fun c5 => ?_)
      · -- 5 True
        refine lv_iload_n hx hb dX5_chainOf_24 rfl (lv_at hl 1 rfl) ?_
        exact ro_reti hx hb hr hlk (by rw [← ha, show chM (gNd gs) (n + 1) y = 0 from if_pos c5, or0]) dX5_chainOf_25
      · -- 5 False
        obtain ⟨u, hu1, hu2, rfl⟩ := ch_at hn c5
        refine lv_iload_n hx hb dX5_chainOf_8 rfl (lv_at hl 1 rfl) ?_
        refine lv_iconst (v := 1) hx hb dX5_chainOf_9 (by decide) ?_
        refine lv_iload_n hx hb dX5_chainOf_10 rfl (lv_at hl 0 rfl) ?_
        refine lv_ishl hx hb dX5_chainOf_11 ?_
        refine lv_ior hx hb dX5_chainOf_12 ?_
        refine lv_istore_n (lv' := [(2, .int (a ||| ((1 : Int32) <<< ((nI u) &&& 31)))), (3, .int (nI u)), (0, .ref (z 0)), (1, .int (nI t))]) hx hb dX5_chainOf_13 rfl hl (by decide) rfl (fun ls hl => ?_)
        refine lv_aload_n hx hb dX5_chainOf_14 rfl (lv_at hl 2 rfl) ?_
        refine va_get (D := D) (ci := 5) (v := .ref (z 4)) (C := RX5) (T := TX5) (N := 19) hx hb hts hin5 hown hK.1 hP 0 rfl rfl 5 (by decide) (hts (.fieldLink RX5 19 "TestPickerModel" "needs" "[I") (by decide +kernel)) (fun _ h9 => h9) rfl dX5_chainOf_15 ?_
        refine lv_iload_n hx hb dX5_chainOf_18 rfl (lv_at hl 1 rfl) ?_
        refine ld_i hx hb hK hP 4 (f := gNd gs) rfl (i := u) (by omega) (by decide) dX5_chainOf_19 ?_
        refine lv_istore_n (lv' := [(3, .int (gNd gs u)), (2, .int (a ||| ((1 : Int32) <<< ((nI u) &&& 31)))), (0, .ref (z 0)), (1, .int (nI t))]) hx hb dX5_chainOf_20 rfl hl (by decide) rfl (fun ls hl => ?_)
        refine lv_goto (tgt := 4) hx hb dX5_chainOf_21 (by decide) ?_
        exact ih4 (gNd gs u) (a ||| ((1 : Int32) <<< ((nI u) &&& 31))) (ch_next hN hu1 hu2) (by rw [← ha, chM_pos (by omega), orA]; rfl) ls (lv_sub hl [0, 1, 2, 3] rfl)
  exact L4 (21) (nI t) 0 (⟨by omega, Or.inr ⟨t, by omega, ht, rfl⟩⟩) (zor _) ls (lv_sub hl [0, 1, 2, 3] rfl)

set_option maxHeartbeats 4000000 in
set_option maxRecDepth 100000 in
theorem c_X5_heatOf (l : Launch) (D : va_G) (z : Nat → Nat) (c : CT) (gs : GS) (t : Nat) (ht : t < 20) (hB60 : gB gs ≤ 60) : ROi l yX5_heatOf wsX5_heatOf ({ frames := 0, cells := 0, slots := 0, locals := 0 } : Room) [.ref (z 0), .int (nI t)] D c (wG z c gs) (htM (gVe gs) (gB gs) t 8) := by
  refine ro_starti (cc := cX5_heatOf) (maxL := 4) (ret := some .int) (by decide) rfl (Nat.le_of_ble_eq_true rfl) ?_
  intro p e s m args below meth c0 ls hx hb hr hml hown hts hlk hP hK hl
  have hown : s.vm.findClass RX5 = some m.cls := hown
  have hl : lv_has ls 4 [(0, .ref (z 0)), (1, .int (nI t))] := hl
  have hin5 : ∀ w ∈ wsX50, w ∈ wsX5_heatOf := by decide +kernel
  refine lv_iconst (v := 0) hx hb dX5_heatOf_0 (by decide) ?_
  refine lv_istore_n (lv' := [(2, .int 0), (0, .ref (z 0)), (1, .int (nI t))]) hx hb dX5_heatOf_1 rfl hl (by decide) rfl (fun ls hl => ?_)
  refine lv_iconst (v := 1) hx hb dX5_heatOf_2 (by decide) ?_
  refine lv_istore_n (lv' := [(3, .int 1), (2, .int 0), (0, .ref (z 0)), (1, .int (nI t))]) hx hb dX5_heatOf_3 rfl hl (by decide) rfl (fun ls hl => ?_)
  have L4 : ∀ (n : Nat) (k : Nat) (a : Int32), (k ≤ 8) → (8 < k + n) → (a = htM (gVe gs) (gB gs) t k) → ∀ ls : Array Slot, lv_has ls 4 [(3, .int (nI (k + 1))), (2, .int a), (0, .ref (z 0)), (1, .int (nI t))] → W p l e ({ frames := 0, cells := 0, slots := 0, locals := 0 } : Room) s m args below meth c0 s.heap [] 0 0 (QRi below args s (htM (gVe gs) (gB gs) t 8)) (F0 m 4 ls []) := by
    intro n
    induction n with
    | zero => intro k a hk hn ha ls hl; exact absurd hn (by omega)
    | succ n ih4 =>
      intro k a hk hn ha ls hl
      refine lv_iload_n hx hb dX5_heatOf_4 rfl (lv_at hl 0 rfl) ?_
      refine lv_bipush (v := 8) hx hb dX5_heatOf_5 (by decide) ?_
      refine lv_icmp_gt (tgt := 62) hx hb dX5_heatOf_7 (by decide) (fun c7 => ?_) (fun c7 => ?_)
      · -- 7 True
        have c7 : 8 < (k + 1) := (nI_ltI (a := 8) (b := (k + 1)) (by omega) (by omega)).mp c7
        refine lv_iload_n hx hb dX5_heatOf_62 rfl (lv_at hl 1 rfl) ?_
        exact ro_reti hx hb hr hlk (by rw [ha, show k = 8 by omega]) dX5_heatOf_63
      · -- 7 False
        have c7 : (k + 1) ≤ 8 := (Nat.not_lt.mp (fun z => c7 ((nI_ltI (a := 8) (b := (k + 1)) (by omega) (by omega)).mpr z)))
        refine lv_aload_n hx hb dX5_heatOf_10 rfl (lv_at hl 2 rfl) ?_
        refine va_get (D := D) (ci := 5) (v := .int (nI (gB gs))) (C := RX5) (T := TX5) (N := 19) hx hb hts hin5 hown hK.1 hP 0 rfl rfl 8 (by decide) (hts (.fieldLink RX5 59 "TestPickerModel" "builds" "I") (by decide +kernel)) (fun _ h9 => h9) rfl dX5_heatOf_11 ?_
        refine lv_iconst (v := 1) hx hb dX5_heatOf_14 (by decide) ?_
        refine lv_isub hx hb dX5_heatOf_15 ?_
        refine lv_iload_n hx hb dX5_heatOf_16 rfl (lv_at hl 0 rfl) ?_
        refine lv_isub hx hb dX5_heatOf_17 ?_
        refine lv_if_lt (tgt := 62) hx hb dX5_heatOf_18 (by decide) (fun c18 => ?_) (fun c18 => ?_)
        · -- 18 True
          have c18 : gB gs < k + 2 := (ag_lt _ (by omega) _ (by omega)).mp c18
          refine lv_iload_n hx hb dX5_heatOf_62 rfl (lv_at hl 1 rfl) ?_
          exact ro_reti hx hb hr hlk (by rw [ha]; exact ht_stop c18 (by omega)) dX5_heatOf_63
        · -- 18 False
          have c18 : ¬ gB gs < k + 2 := fun z => c18 ((ag_lt _ (by omega) _ (by omega)).mpr z)
          refine lv_iload_n hx hb dX5_heatOf_21 rfl (lv_at hl 1 rfl) ?_
          refine lv_aload_n hx hb dX5_heatOf_22 rfl (lv_at hl 2 rfl) ?_
          refine va_get (D := D) (ci := 5) (v := .ref (z 8)) (C := RX5) (T := TX5) (N := 19) hx hb hts hin5 hown hK.1 hP 0 rfl rfl 10 (by decide) (hts (.fieldLink RX5 33 "TestPickerModel" "verdicts" "[I") (by decide +kernel)) (fun _ h9 => h9) rfl dX5_heatOf_23 ?_
          refine lv_bipush (v := 20) hx hb dX5_heatOf_26 (by decide) ?_
          refine lv_aload_n hx hb dX5_heatOf_28 rfl (lv_at hl 2 rfl) ?_
          refine va_get (D := D) (ci := 5) (v := .int (nI (gB gs))) (C := RX5) (T := TX5) (N := 19) hx hb hts hin5 hown hK.1 hP 0 rfl rfl 8 (by decide) (hts (.fieldLink RX5 59 "TestPickerModel" "builds" "I") (by decide +kernel)) (fun _ h9 => h9) rfl dX5_heatOf_29 ?_
          refine lv_iconst (v := 1) hx hb dX5_heatOf_32 (by decide) ?_
          refine lv_isub hx hb dX5_heatOf_33 ?_
          refine lv_iload_n hx hb dX5_heatOf_34 rfl (lv_at hl 0 rfl) ?_
          refine lv_isub hx hb dX5_heatOf_35 ?_
          refine tp_i (z := nI (gB gs - 1 - (k + 1))) (ag_eq (by omega)) ?_
          refine lv_imul hx hb dX5_heatOf_36 ?_
          refine lv_iload_n hx hb dX5_heatOf_37 rfl (lv_at hl 3 rfl) ?_
          refine lv_iadd hx hb dX5_heatOf_38 ?_
          refine tp_i (z := nI (20 * (gB gs - 1 - (k + 1)) + t)) (ix20 _ _) ?_
          refine ld_i hx hb hK hP 8 (f := gVe gs) rfl (i := (20 * (gB gs - 1 - (k + 1)) + t)) (by omega) (by decide) dX5_heatOf_39 ?_
          refine lv_iconst (v := 1) hx hb dX5_heatOf_40 (by decide) ?_
          refine lv_icmp_ne (tgt := 53) hx hb dX5_heatOf_41 (by decide) (fun c41 => ?_) (fun c41 => ?_)
          · -- 41 True
            refine lv_iconst (v := 0) hx hb dX5_heatOf_53 (by decide) ?_
            refine lv_iadd hx hb dX5_heatOf_54 ?_
            refine lv_istore_n (lv' := [(2, .int (a + 0)), (3, .int (nI (k + 1))), (0, .ref (z 0)), (1, .int (nI t))]) hx hb dX5_heatOf_55 rfl hl (by decide) rfl (fun ls hl => ?_)
            refine lv_iinc (v := nI ((k + 1) + 1)) (lv' := [(3, .int (nI ((k + 1) + 1))), (2, .int (a + 0)), (0, .ref (z 0)), (1, .int (nI t))]) hx hb dX5_heatOf_56 hl (k := 1) rfl (nI_inc _) (by decide) rfl (fun ls hl => ?_)
            refine lv_goto (tgt := 4) hx hb dX5_heatOf_59 (by decide) ?_
            exact ih4 (k + 1) (a + 0) (by omega) (by omega) (by rw [ha]; simp [htM, oneE, show ¬ gB gs < k + 2 by omega, c41]) ls (lv_sub hl [0, 1, 2, 3] rfl)
          · -- 41 False
            refine lv_iconst (v := 1) hx hb dX5_heatOf_44 (by decide) ?_
            refine lv_bipush (v := 8) hx hb dX5_heatOf_45 (by decide) ?_
            refine lv_iload_n hx hb dX5_heatOf_47 rfl (lv_at hl 0 rfl) ?_
            refine lv_isub hx hb dX5_heatOf_48 ?_
            refine tp_i (z := nI (8 - (k + 1))) (pk_sub (by omega)) ?_
            refine lv_ishl hx hb dX5_heatOf_49 ?_
            refine lv_goto (tgt := 54) hx hb dX5_heatOf_50 (by decide) ?_
            refine lv_iadd hx hb dX5_heatOf_54 ?_
            refine lv_istore_n (lv' := [(2, .int (a + ((1 : Int32) <<< (nI (8 - (k + 1)) &&& 31)))), (3, .int (nI (k + 1))), (0, .ref (z 0)), (1, .int (nI t))]) hx hb dX5_heatOf_55 rfl hl (by decide) rfl (fun ls hl => ?_)
            refine lv_iinc (v := nI ((k + 1) + 1)) (lv' := [(3, .int (nI ((k + 1) + 1))), (2, .int (a + ((1 : Int32) <<< (nI (8 - (k + 1)) &&& 31)))), (0, .ref (z 0)), (1, .int (nI t))]) hx hb dX5_heatOf_56 hl (k := 1) rfl (nI_inc _) (by decide) rfl (fun ls hl => ?_)
            refine lv_goto (tgt := 4) hx hb dX5_heatOf_59 (by decide) ?_
            exact ih4 (k + 1) (a + ((1 : Int32) <<< (nI (8 - (k + 1)) &&& 31))) (by omega) (by omega) (by rw [ha]; simp [htM, oneE, show ¬ gB gs < k + 2 by omega, c41]) ls (lv_sub hl [0, 1, 2, 3] rfl)
  exact L4 (9) 0 0 (by omega) (by omega) (rfl) ls (lv_sub hl [0, 1, 2, 3] rfl)

set_option maxHeartbeats 4000000 in
set_option maxRecDepth 100000 in
theorem c_X5_isFlaky (l : Launch) (D : va_G) (z : Nat → Nat) (c : CT) (gs : GS) (t : Nat) (ht : t < 20) (hB60 : gB gs ≤ 60) : ROi l yX5_isFlaky wsX5_isFlaky ({ frames := 1, cells := 0, slots := 0, locals := 24 } : Room) [.ref (z 0), .int (nI t)] D c (wG z c gs) (bI (gFk gs t)) := by
  refine ro_starti (cc := cX5_isFlaky) (maxL := 9) (ret := some .boolean) (by decide) rfl (Nat.le_of_ble_eq_true rfl) ?_
  intro p e s m args below meth c0 ls hx hb hr hml hown hts hlk hP hK hl
  have hown : s.vm.findClass RX5 = some m.cls := hown
  have hl : lv_has ls 9 [(0, .ref (z 0)), (1, .int (nI t))] := hl
  have hin5 : ∀ w ∈ wsX50, w ∈ wsX5_isFlaky := by decide +kernel
  refine lv_aload_n hx hb dX5_isFlaky_0 rfl (lv_at hl 0 rfl) ?_
  refine lv_iload_n hx hb dX5_isFlaky_1 rfl (lv_at hl 1 rfl) ?_
  refine ro_Vl (post := (gRe gs t)) (As := [.int (nI t)]) (rest := []) ⟨hx, hb, hml, hown, hts⟩ (c_X5_reachOf l D z c gs t (by omega)) (cwV 1 hts gX5_isFlaky_X5_reachOf rfl rfl rfl (by decide +kernel) ⟨Nat.le_of_ble_eq_true rfl, Nat.le_of_ble_eq_true rfl⟩) hP hK (va_recv hK.1 hP (ci := 5) (q0 := 0) rfl rfl) rfl hl.1 rfl (Nat.le_of_ble_eq_true rfl) dX5_isFlaky_2 ⟨Nat.le_of_ble_eq_true rfl, Nat.le_of_ble_eq_true rfl⟩ ?_
  refine lv_lstore_n (lv' := [(2, .long (gRe gs t)), (0, .ref (z 0)), (1, .int (nI t))]) hx hb dX5_isFlaky_5 rfl hl (by decide) rfl (fun ls hl => ?_)
  refine lv_bipush (v := (-9)) hx hb dX5_isFlaky_6 (by decide) ?_
  refine lv_istore (lv' := [(4, .int (-9)), (2, .long (gRe gs t)), (0, .ref (z 0)), (1, .int (nI t))]) hx hb dX5_isFlaky_8 hl (by decide) rfl (fun ls hl => ?_)
  refine lv_iconst (v := 0) hx hb dX5_isFlaky_10 (by decide) ?_
  refine lv_istore (lv' := [(5, .int 0), (4, .int (-9)), (2, .long (gRe gs t)), (0, .ref (z 0)), (1, .int (nI t))]) hx hb dX5_isFlaky_11 hl (by decide) rfl (fun ls hl => ?_)
  refine lv_iconst (v := 0) hx hb dX5_isFlaky_13 (by decide) ?_
  refine lv_istore (lv' := [(6, .int 0), (5, .int 0), (4, .int (-9)), (2, .long (gRe gs t)), (0, .ref (z 0)), (1, .int (nI t))]) hx hb dX5_isFlaky_14 hl (by decide) rfl (fun ls hl => ?_)
  refine lv_iconst (v := 0) hx hb dX5_isFlaky_16 (by decide) ?_
  refine lv_istore (lv' := [(7, .int 0), (6, .int 0), (5, .int 0), (4, .int (-9)), (2, .long (gRe gs t)), (0, .ref (z 0)), (1, .int (nI t))]) hx hb dX5_isFlaky_17 hl (by decide) rfl (fun ls hl => ?_)
  have L19 : ∀ (n : Nat) (b : Nat) (la : Int32) (tc : Bool) (fk : Bool), (b ≤ gB gs) → (gB gs < b + n) → (flS (gCg gs) (gV gs t) (gRe gs t) b = (la, tc, fk)) → ∀ ls : Array Slot, lv_has ls 9 [(7, .int (nI b)), (6, .int (bI fk)), (5, .int (bI tc)), (4, .int la), (2, .long (gRe gs t)), (0, .ref (z 0)), (1, .int (nI t))] → W p l e ({ frames := 1, cells := 0, slots := 0, locals := 24 } : Room) s m args below meth c0 s.heap [] 0 0 (QRi below args s (bI (gFk gs t))) (F0 m 19 ls []) := by
    intro n
    induction n with
    | zero => intro b la tc fk hbB hn hf ls hl; exact absurd hn (by omega)
    | succ n ih19 =>
      intro b la tc fk hbB hn hf ls hl
      refine lv_iload hx hb dX5_isFlaky_19 (lv_at hl 0 rfl) ?_
      refine lv_aload_n hx hb dX5_isFlaky_21 rfl (lv_at hl 5 rfl) ?_
      refine va_get (D := D) (ci := 5) (v := .int (nI (gB gs))) (C := RX5) (T := TX5) (N := 19) hx hb hts hin5 hown hK.1 hP 0 rfl rfl 8 (by decide) (hts (.fieldLink RX5 59 "TestPickerModel" "builds" "I") (by decide +kernel)) (fun _ h9 => h9) rfl dX5_isFlaky_22 ?_
      refine lv_icmp_ge (tgt := 115) hx hb dX5_isFlaky_25 (by decide) (fun c25 => ?_) (fun c25 => ?_)
      · -- 25 True
        have c25 : (gB gs) ≤ b := (nI_leI (a := (gB gs)) (b := b) (by omega) (by omega)).mp c25
        refine lv_iload hx hb dX5_isFlaky_115 (lv_at hl 1 rfl) ?_
        exact ro_retz hx hb hr hlk (bI_or _) (by rw [gFk, flk, show gB gs = b by omega, hf]) dX5_isFlaky_117
      · -- 25 False
        have c25 : b < (gB gs) := (Nat.not_le.mp (fun z => c25 ((nI_leI (a := (gB gs)) (b := b) (by omega) (by omega)).mpr z)))
        have J52 : ∀ (x5 : Int32), x5 = bI (tc || !decide (gCg gs b &&& gRe gs t = 0)) → W p l e ({ frames := 1, cells := 0, slots := 0, locals := 24 } : Room) s m args below meth c0 s.heap [] 0 0 (QRi below args s (bI (gFk gs t))) (F0 m 52 ls [.int x5]) := by
          intro x5 hx5
          subst hx5
          refine lv_istore (lv' := [(5, .int (bI (tc || !decide (gCg gs b &&& gRe gs t = 0)))), (7, .int (nI b)), (6, .int (bI fk)), (4, .int la), (2, .long (gRe gs t)), (0, .ref (z 0)), (1, .int (nI t))]) hx hb dX5_isFlaky_52 hl (by decide) rfl (fun ls hl => ?_)
          refine lv_aload_n hx hb dX5_isFlaky_54 rfl (lv_at hl 5 rfl) ?_
          refine va_get (D := D) (ci := 5) (v := .ref (z 8)) (C := RX5) (T := TX5) (N := 19) hx hb hts hin5 hown hK.1 hP 0 rfl rfl 10 (by decide) (hts (.fieldLink RX5 33 "TestPickerModel" "verdicts" "[I") (by decide +kernel)) (fun _ h9 => h9) rfl dX5_isFlaky_55 ?_
          refine lv_bipush (v := 20) hx hb dX5_isFlaky_58 (by decide) ?_
          refine lv_iload hx hb dX5_isFlaky_60 (lv_at hl 1 rfl) ?_
          refine lv_imul hx hb dX5_isFlaky_62 ?_
          refine lv_iload_n hx hb dX5_isFlaky_63 rfl (lv_at hl 6 rfl) ?_
          refine lv_iadd hx hb dX5_isFlaky_64 ?_
          refine tp_i (z := nI (20 * b + t)) (ix20 _ _) ?_
          refine ld_i hx hb hK hP 8 (f := gVe gs) rfl (i := (20 * b + t)) (by omega) (by decide) dX5_isFlaky_65 ?_
          refine lv_istore (lv' := [(8, .int (gVe gs (20 * b + t))), (5, .int (bI (tc || !decide (gCg gs b &&& gRe gs t = 0)))), (7, .int (nI b)), (6, .int (bI fk)), (4, .int la), (2, .long (gRe gs t)), (0, .ref (z 0)), (1, .int (nI t))]) hx hb dX5_isFlaky_66 hl (by decide) rfl (fun ls hl => ?_)
          refine lv_iload hx hb dX5_isFlaky_68 (lv_at hl 0 rfl) ?_
          refine lv_if_lt (tgt := 109) hx hb dX5_isFlaky_70 (by decide) (fun c70 => ?_) (fun c70 => ?_)
          · -- 70 True
            refine lv_iinc (v := nI (b + 1)) (lv' := [(7, .int (nI (b + 1))), (8, .int (gVe gs (20 * b + t))), (5, .int (bI (tc || !decide (gCg gs b &&& gRe gs t = 0)))), (6, .int (bI fk)), (4, .int la), (2, .long (gRe gs t)), (0, .ref (z 0)), (1, .int (nI t))]) hx hb dX5_isFlaky_109 hl (k := 2) rfl (nI_inc _) (by decide) rfl (fun ls hl => ?_)
            refine lv_goto (tgt := 19) hx hb dX5_isFlaky_112 (by decide) ?_
            exact ih19 (b + 1) la (tc || !decide (gCg gs b &&& gRe gs t = 0)) fk (by omega) (by omega) (by simp [flS, hf, c70]) ls (lv_sub hl [0, 3, 2, 4, 5, 6, 7] rfl)
          · -- 70 False
            have J100 : ∀ (x6 : Int32), x6 = bI (fk || (!decide (la < 0) && !decide (la = gVe gs (20 * b + t)) && !(tc || !decide (gCg gs b &&& gRe gs t = 0)))) → W p l e ({ frames := 1, cells := 0, slots := 0, locals := 24 } : Room) s m args below meth c0 s.heap [] 0 0 (QRi below args s (bI (gFk gs t))) (F0 m 100 ls [.int x6]) := by
              intro x6 hx6
              subst hx6
              refine lv_istore (lv' := [(6, .int (bI (fk || (!decide (la < 0) && !decide (la = gVe gs (20 * b + t)) && !(tc || !decide (gCg gs b &&& gRe gs t = 0)))))), (8, .int (gVe gs (20 * b + t))), (5, .int (bI (tc || !decide (gCg gs b &&& gRe gs t = 0)))), (7, .int (nI b)), (4, .int la), (2, .long (gRe gs t)), (0, .ref (z 0)), (1, .int (nI t))]) hx hb dX5_isFlaky_100 hl (by decide) rfl (fun ls hl => ?_)
              refine lv_iload hx hb dX5_isFlaky_102 (lv_at hl 1 rfl) ?_
              refine lv_istore (lv' := [(4, .int (gVe gs (20 * b + t))), (6, .int (bI (fk || (!decide (la < 0) && !decide (la = gVe gs (20 * b + t)) && !(tc || !decide (gCg gs b &&& gRe gs t = 0)))))), (8, .int (gVe gs (20 * b + t))), (5, .int (bI (tc || !decide (gCg gs b &&& gRe gs t = 0)))), (7, .int (nI b)), (2, .long (gRe gs t)), (0, .ref (z 0)), (1, .int (nI t))]) hx hb dX5_isFlaky_104 hl (by decide) rfl (fun ls hl => ?_)
              refine lv_iconst (v := 0) hx hb dX5_isFlaky_106 (by decide) ?_
              refine lv_istore (lv' := [(5, .int 0), (4, .int (gVe gs (20 * b + t))), (6, .int (bI (fk || (!decide (la < 0) && !decide (la = gVe gs (20 * b + t)) && !(tc || !decide (gCg gs b &&& gRe gs t = 0)))))), (8, .int (gVe gs (20 * b + t))), (7, .int (nI b)), (2, .long (gRe gs t)), (0, .ref (z 0)), (1, .int (nI t))]) hx hb dX5_isFlaky_107 hl (by decide) rfl (fun ls hl => ?_)
              refine lv_iinc (v := nI (b + 1)) (lv' := [(7, .int (nI (b + 1))), (5, .int 0), (4, .int (gVe gs (20 * b + t))), (6, .int (bI (fk || (!decide (la < 0) && !decide (la = gVe gs (20 * b + t)) && !(tc || !decide (gCg gs b &&& gRe gs t = 0)))))), (8, .int (gVe gs (20 * b + t))), (2, .long (gRe gs t)), (0, .ref (z 0)), (1, .int (nI t))]) hx hb dX5_isFlaky_109 hl (k := 4) rfl (nI_inc _) (by decide) rfl (fun ls hl => ?_)
              refine lv_goto (tgt := 19) hx hb dX5_isFlaky_112 (by decide) ?_
              exact ih19 (b + 1) (gVe gs (20 * b + t)) false (fk || (!decide (la < 0) && !decide (la = gVe gs (20 * b + t)) && !(tc || !decide (gCg gs b &&& gRe gs t = 0)))) (by omega) (by omega) (by simp [flS, hf, c70]) ls (lv_sub hl [0, 3, 1, 2, 5, 6, 7] rfl)
            refine lv_iload hx hb dX5_isFlaky_73 (lv_at hl 3 rfl) ?_
            refine lv_if_ne (tgt := 95) hx hb dX5_isFlaky_75 (by decide) (fun c75 => ?_) (fun c75 => ?_)
            · -- 75 True
              have c75 := bI_nz.mp c75
              refine lv_iconst (v := 1) hx hb dX5_isFlaky_95 (by decide) ?_
              refine lv_goto (tgt := 100) hx hb dX5_isFlaky_96 (by decide) ?_
              exact J100 1 (by simp only [bI, c75, decide_true, decide_false, Bool.not_true, Bool.not_false, Bool.true_or, Bool.false_or, Bool.or_true, Bool.or_false, Bool.true_and, Bool.false_and, Bool.and_true, Bool.and_false, if_true, if_false, Bool.false_eq_true])
            · -- 75 False
              have c75 := bI_z.mp c75
              refine lv_iload hx hb dX5_isFlaky_78 (lv_at hl 4 rfl) ?_
              refine lv_if_lt (tgt := 99) hx hb dX5_isFlaky_80 (by decide) (fun c80 => ?_) (fun c80 => ?_)
              · -- 80 True
                refine lv_iconst (v := 0) hx hb dX5_isFlaky_99 (by decide) ?_
                exact J100 0 (by simp only [bI, c75, c80, decide_true, decide_false, Bool.not_true, Bool.not_false, Bool.true_or, Bool.false_or, Bool.or_true, Bool.or_false, Bool.true_and, Bool.false_and, Bool.and_true, Bool.and_false, if_true, if_false, Bool.false_eq_true])
              · -- 80 False
                refine lv_iload hx hb dX5_isFlaky_83 (lv_at hl 4 rfl) ?_
                refine lv_iload hx hb dX5_isFlaky_85 (lv_at hl 0 rfl) ?_
                refine lv_icmp_eq (tgt := 99) hx hb dX5_isFlaky_87 (by decide) (fun c87 => ?_) (fun c87 => ?_)
                · -- 87 True
                  refine lv_iconst (v := 0) hx hb dX5_isFlaky_99 (by decide) ?_
                  exact J100 0 (by simp only [bI, c75, c80, c87, decide_true, decide_false, Bool.not_true, Bool.not_false, Bool.true_or, Bool.false_or, Bool.or_true, Bool.or_false, Bool.true_and, Bool.false_and, Bool.and_true, Bool.and_false, if_true, if_false, Bool.false_eq_true])
                · -- 87 False
                  refine lv_iload hx hb dX5_isFlaky_90 (lv_at hl 1 rfl) ?_
                  refine lv_if_ne (tgt := 99) hx hb dX5_isFlaky_92 (by decide) (fun c92 => ?_) (fun c92 => ?_)
                  · -- 92 True
                    have c92 := bI_nz.mp c92
                    refine lv_iconst (v := 0) hx hb dX5_isFlaky_99 (by decide) ?_
                    exact J100 0 (by simp only [bI, c75, c80, c87, c92, decide_true, decide_false, Bool.not_true, Bool.not_false, Bool.true_or, Bool.false_or, Bool.or_true, Bool.or_false, Bool.true_and, Bool.false_and, Bool.and_true, Bool.and_false, if_true, if_false, Bool.false_eq_true])
                  · -- 92 False
                    have c92 := bI_z.mp c92
                    refine lv_iconst (v := 1) hx hb dX5_isFlaky_95 (by decide) ?_
                    refine lv_goto (tgt := 100) hx hb dX5_isFlaky_96 (by decide) ?_
                    exact J100 1 (by simp only [bI, c75, c80, c87, c92, decide_true, decide_false, Bool.not_true, Bool.not_false, Bool.true_or, Bool.false_or, Bool.or_true, Bool.or_false, Bool.true_and, Bool.false_and, Bool.and_true, Bool.and_false, if_true, if_false, Bool.false_eq_true])
        refine lv_iload hx hb dX5_isFlaky_28 (lv_at hl 2 rfl) ?_
        refine lv_if_ne (tgt := 47) hx hb dX5_isFlaky_30 (by decide) (fun c30 => ?_) (fun c30 => ?_)
        · -- 30 True
          have c30 := bI_nz.mp c30
          refine lv_iconst (v := 1) hx hb dX5_isFlaky_47 (by decide) ?_
          refine lv_goto (tgt := 52) hx hb dX5_isFlaky_48 (by decide) ?_
          exact J52 1 (by simp [bI, c30])
        · -- 30 False
          have c30 := bI_z.mp c30
          refine lv_aload_n hx hb dX5_isFlaky_33 rfl (lv_at hl 5 rfl) ?_
          refine va_get (D := D) (ci := 5) (v := .ref (z 7)) (C := RX5) (T := TX5) (N := 19) hx hb hts hin5 hown hK.1 hP 0 rfl rfl 9 (by decide) (hts (.fieldLink RX5 29 "TestPickerModel" "changes" "[J") (by decide +kernel)) (fun _ h9 => h9) rfl dX5_isFlaky_34 ?_
          refine lv_iload hx hb dX5_isFlaky_37 (lv_at hl 0 rfl) ?_
          refine ld_l hx hb hK hP 7 (f := gCg gs) rfl (i := b) (by omega) (by decide) dX5_isFlaky_39 ?_
          refine lv_lload_n hx hb dX5_isFlaky_40 rfl (lv_at hl 4 rfl) ?_
          refine lv_land hx hb dX5_isFlaky_41 ?_
          refine lv_lconst (v := 0) hx hb dX5_isFlaky_42 (by decide) ?_
          refine W.lcmp hx hb dX5_isFlaky_43 ?_
          refine lv_if_eq (tgt := 51) hx hb dX5_isFlaky_44 (by decide) (fun c44 => ?_) (fun c44 => ?_)
          · -- 44 True
            have c44 := (lg_cmp_eq _ _).mp c44
            refine lv_iconst (v := 0) hx hb dX5_isFlaky_51 (by decide) ?_
            exact J52 0 (by simp [bI, c30, c44])
          · -- 44 False
            have c44 := lg_ne.mp c44
            refine lv_iconst (v := 1) hx hb dX5_isFlaky_47 (by decide) ?_
            refine lv_goto (tgt := 52) hx hb dX5_isFlaky_48 (by decide) ?_
            exact J52 1 (by simp [bI, c30, c44])
  exact L19 (gB gs + 1) 0 (-9) false false (by omega) (by omega) (rfl) ls (lv_sub hl [0, 1, 2, 3, 4, 5, 6] rfl)

set_option maxHeartbeats 4000000 in
set_option maxRecDepth 100000 in
theorem c_X5_isBroken (l : Launch) (D : va_G) (z : Nat → Nat) (c : CT) (gs : GS) (t : Nat) (ht : t < 20) (hB60 : gB gs ≤ 60) : ROi l yX5_isBroken wsX5_isBroken ({ frames := 2, cells := 0, slots := 0, locals := 52 } : Room) [.ref (z 0), .int (nI t)] D c (wG z c gs) (bI (decide (lastV (gV gs t) (gB gs) = 1) && !gFk gs t)) := by
  refine ro_starti (cc := cX5_isBroken) (maxL := 4) (ret := some .boolean) (by decide) rfl (Nat.le_of_ble_eq_true rfl) ?_
  intro p e s m args below meth c0 ls hx hb hr hml hown hts hlk hP hK hl
  have hown : s.vm.findClass RX5 = some m.cls := hown
  have hl : lv_has ls 4 [(0, .ref (z 0)), (1, .int (nI t))] := hl
  have hin5 : ∀ w ∈ wsX50, w ∈ wsX5_isBroken := by decide +kernel
  refine lv_bipush (v := (-9)) hx hb dX5_isBroken_0 (by decide) ?_
  refine lv_istore_n (lv' := [(2, .int (-9)), (0, .ref (z 0)), (1, .int (nI t))]) hx hb dX5_isBroken_2 rfl hl (by decide) rfl (fun ls hl => ?_)
  refine lv_iconst (v := 0) hx hb dX5_isBroken_3 (by decide) ?_
  refine lv_istore_n (lv' := [(3, .int 0), (2, .int (-9)), (0, .ref (z 0)), (1, .int (nI t))]) hx hb dX5_isBroken_4 rfl hl (by decide) rfl (fun ls hl => ?_)
  have L5 : ∀ (n : Nat) (b : Nat) (la : Int32), (b ≤ gB gs) → (gB gs < b + n) → (la = lastV (gV gs t) b) → ∀ ls : Array Slot, lv_has ls 4 [(3, .int (nI b)), (2, .int la), (0, .ref (z 0)), (1, .int (nI t))] → W p l e ({ frames := 2, cells := 0, slots := 0, locals := 52 } : Room) s m args below meth c0 s.heap [] 0 0 (QRi below args s (bI (decide (lastV (gV gs t) (gB gs) = 1) && !gFk gs t))) (F0 m 5 ls []) := by
    intro n
    induction n with
    | zero => intro b la hbB hn hf ls hl; exact absurd hn (by omega)
    | succ n ih5 =>
      intro b la hbB hn hf ls hl
      refine lv_iload_n hx hb dX5_isBroken_5 rfl (lv_at hl 0 rfl) ?_
      refine lv_aload_n hx hb dX5_isBroken_6 rfl (lv_at hl 2 rfl) ?_
      refine va_get (D := D) (ci := 5) (v := .int (nI (gB gs))) (C := RX5) (T := TX5) (N := 19) hx hb hts hin5 hown hK.1 hP 0 rfl rfl 8 (by decide) (hts (.fieldLink RX5 59 "TestPickerModel" "builds" "I") (by decide +kernel)) (fun _ h9 => h9) rfl dX5_isBroken_7 ?_
      refine lv_icmp_ge (tgt := 49) hx hb dX5_isBroken_10 (by decide) (fun c10 => ?_) (fun c10 => ?_)
      · -- 10 True
        have c10 : (gB gs) ≤ b := (nI_leI (a := (gB gs)) (b := b) (by omega) (by omega)).mp c10
        have hbe : b = gB gs := by omega
        subst hbe
        refine lv_iload_n hx hb dX5_isBroken_49 rfl (lv_at hl 1 rfl) ?_
        refine lv_iconst (v := 1) hx hb dX5_isBroken_50 (by decide) ?_
        refine lv_icmp_ne (tgt := 66) hx hb dX5_isBroken_51 (by decide) (fun c51 => ?_) (fun c51 => ?_)
        · -- 51 True
          refine lv_iconst (v := 0) hx hb dX5_isBroken_66 (by decide) ?_
          exact ro_retz hx hb hr hlk (by decide) (by simp [bI, ← hf, c51]) dX5_isBroken_67
        · -- 51 False
          refine lv_aload_n hx hb dX5_isBroken_54 rfl (lv_at hl 2 rfl) ?_
          refine lv_iload_n hx hb dX5_isBroken_55 rfl (lv_at hl 3 rfl) ?_
          refine ro_Vi (post := bI (gFk gs t)) (As := [.int (nI t)]) (rest := []) ⟨hx, hb, hml, hown, hts⟩ (c_X5_isFlaky l D z c gs t (by omega) (by omega)) (cwV 1 hts gX5_isBroken_X5_isFlaky rfl rfl rfl (by decide +kernel) ⟨Nat.le_of_ble_eq_true rfl, Nat.le_of_ble_eq_true rfl⟩) hP hK (va_recv hK.1 hP (ci := 5) (q0 := 0) rfl rfl) rfl hl.1 rfl (Nat.le_of_ble_eq_true rfl) dX5_isBroken_56 ⟨Nat.le_of_ble_eq_true rfl, Nat.le_of_ble_eq_true rfl⟩ ?_
          refine lv_if_ne (tgt := 66) hx hb dX5_isBroken_59 (by decide) (fun c59 => ?_) (fun c59 => ?_)
          · -- 59 True
            have c59 := bI_nz.mp c59
            refine lv_iconst (v := 0) hx hb dX5_isBroken_66 (by decide) ?_
            exact ro_retz hx hb hr hlk (by decide) (by simp [bI, ← hf, c51, c59]) dX5_isBroken_67
          · -- 59 False
            have c59 := bI_z.mp c59
            refine lv_iconst (v := 1) hx hb dX5_isBroken_62 (by decide) ?_
            refine lv_goto (tgt := 67) hx hb dX5_isBroken_63 (by decide) ?_
            exact ro_retz hx hb hr hlk (by decide) (by simp [bI, ← hf, c51, c59]) dX5_isBroken_67
      · -- 10 False
        have c10 : b < (gB gs) := (Nat.not_le.mp (fun z => c10 ((nI_leI (a := (gB gs)) (b := b) (by omega) (by omega)).mpr z)))
        refine lv_aload_n hx hb dX5_isBroken_13 rfl (lv_at hl 2 rfl) ?_
        refine va_get (D := D) (ci := 5) (v := .ref (z 8)) (C := RX5) (T := TX5) (N := 19) hx hb hts hin5 hown hK.1 hP 0 rfl rfl 10 (by decide) (hts (.fieldLink RX5 33 "TestPickerModel" "verdicts" "[I") (by decide +kernel)) (fun _ h9 => h9) rfl dX5_isBroken_14 ?_
        refine lv_bipush (v := 20) hx hb dX5_isBroken_17 (by decide) ?_
        refine lv_iload_n hx hb dX5_isBroken_19 rfl (lv_at hl 0 rfl) ?_
        refine lv_imul hx hb dX5_isBroken_20 ?_
        refine lv_iload_n hx hb dX5_isBroken_21 rfl (lv_at hl 3 rfl) ?_
        refine lv_iadd hx hb dX5_isBroken_22 ?_
        refine tp_i (z := nI (20 * b + t)) (ix20 _ _) ?_
        refine ld_i hx hb hK hP 8 (f := gVe gs) rfl (i := (20 * b + t)) (by omega) (by decide) dX5_isBroken_23 ?_
        refine lv_if_lt (tgt := 41) hx hb dX5_isBroken_24 (by decide) (fun c24 => ?_) (fun c24 => ?_)
        · -- 24 True
          refine lv_iload_n hx hb dX5_isBroken_41 rfl (lv_at hl 1 rfl) ?_
          refine lv_istore_n (lv' := [(2, .int la), (3, .int (nI b)), (0, .ref (z 0)), (1, .int (nI t))]) hx hb dX5_isBroken_42 rfl hl (by decide) rfl (fun ls hl => ?_)
          refine lv_iinc (v := nI (b + 1)) (lv' := [(3, .int (nI (b + 1))), (2, .int la), (0, .ref (z 0)), (1, .int (nI t))]) hx hb dX5_isBroken_43 hl (k := 1) rfl (nI_inc _) (by decide) rfl (fun ls hl => ?_)
          refine lv_goto (tgt := 5) hx hb dX5_isBroken_46 (by decide) ?_
          exact ih5 (b + 1) la (by omega) (by omega) (by simp [lastV, hf, c24]) ls (lv_sub hl [0, 1, 2, 3] rfl)
        · -- 24 False
          refine lv_aload_n hx hb dX5_isBroken_27 rfl (lv_at hl 2 rfl) ?_
          refine va_get (D := D) (ci := 5) (v := .ref (z 8)) (C := RX5) (T := TX5) (N := 19) hx hb hts hin5 hown hK.1 hP 0 rfl rfl 10 (by decide) (hts (.fieldLink RX5 33 "TestPickerModel" "verdicts" "[I") (by decide +kernel)) (fun _ h9 => h9) rfl dX5_isBroken_28 ?_
          refine lv_bipush (v := 20) hx hb dX5_isBroken_31 (by decide) ?_
          refine lv_iload_n hx hb dX5_isBroken_33 rfl (lv_at hl 0 rfl) ?_
          refine lv_imul hx hb dX5_isBroken_34 ?_
          refine lv_iload_n hx hb dX5_isBroken_35 rfl (lv_at hl 3 rfl) ?_
          refine lv_iadd hx hb dX5_isBroken_36 ?_
          refine tp_i (z := nI (20 * b + t)) (ix20 _ _) ?_
          refine ld_i hx hb hK hP 8 (f := gVe gs) rfl (i := (20 * b + t)) (by omega) (by decide) dX5_isBroken_37 ?_
          refine lv_goto (tgt := 42) hx hb dX5_isBroken_38 (by decide) ?_
          refine lv_istore_n (lv' := [(2, .int (gVe gs (20 * b + t))), (3, .int (nI b)), (0, .ref (z 0)), (1, .int (nI t))]) hx hb dX5_isBroken_42 rfl hl (by decide) rfl (fun ls hl => ?_)
          refine lv_iinc (v := nI (b + 1)) (lv' := [(3, .int (nI (b + 1))), (2, .int (gVe gs (20 * b + t))), (0, .ref (z 0)), (1, .int (nI t))]) hx hb dX5_isBroken_43 hl (k := 1) rfl (nI_inc _) (by decide) rfl (fun ls hl => ?_)
          refine lv_goto (tgt := 5) hx hb dX5_isBroken_46 (by decide) ?_
          exact ih5 (b + 1) (gVe gs (20 * b + t)) (by omega) (by omega) (by simp [lastV, hf, c24]) ls (lv_sub hl [0, 1, 2, 3] rfl)
  exact L5 (gB gs + 1) 0 (-9) (by omega) (by omega) (rfl) ls (lv_sub hl [0, 1, 2, 3] rfl)

set_option maxHeartbeats 4000000 in
set_option maxRecDepth 100000 in
theorem c_X5_tells (l : Launch) (D : va_G) (z : Nat → Nat) (c : CT) (gs : GS) (t : Nat) (x : Int32) (ht : t < gT gs) (hT : gT gs ≤ 20) (hB60 : gB gs ≤ 60) (hN : WN (gNd gs) (gT gs)) : ROi l yX5_tells wsX5_tells ({ frames := 3, cells := 0, slots := 0, locals := 75 } : Room) [.ref (z 0), .int (nI t), .int x] D c (wG z c gs) (gTl gs t x) := by
  refine ro_starti (cc := cX5_tells) (maxL := 3) (ret := some .int) (by decide) rfl (Nat.le_of_ble_eq_true rfl) ?_
  intro p e s m args below meth c0 ls hx hb hr hml hown hts hlk hP hK hl
  have hown : s.vm.findClass RX5 = some m.cls := hown
  have hl : lv_has ls 3 [(0, .ref (z 0)), (1, .int (nI t)), (2, .int x)] := hl
  have hin5 : ∀ w ∈ wsX50, w ∈ wsX5_tells := by decide +kernel
  refine lv_iload_n hx hb dX5_tells_0 rfl (lv_at hl 2 rfl) ?_
  by_cases c1_0 : x = 0
  · -- case 0
    refine lv_tableIn (tgt := 40) (off := 39) hx hb dX5_tells_1 (by rw [c1_0]; decide) (by rw [c1_0]; decide) (by rw [c1_0]; decide) (by decide) ?_
    refine lv_aload_n hx hb dX5_tells_40 rfl (lv_at hl 0 rfl) ?_
    refine va_get (D := D) (ci := 5) (v := .ref (z 2)) (C := RX5) (T := TX5) (N := 19) hx hb hts hin5 hown hK.1 hP 0 rfl rfl 3 (by decide) (hts (.fieldLink RX5 13 "TestPickerModel" "kinds" "[I") (by decide +kernel)) (fun _ h9 => h9) rfl dX5_tells_41 ?_
    refine lv_iload_n hx hb dX5_tells_44 rfl (lv_at hl 1 rfl) ?_
    refine ld_i hx hb hK hP 2 (f := gKd gs) rfl (i := t) (by omega) (by decide) dX5_tells_45 ?_
    exact ro_reti hx hb hr hlk (by simp [gTl, c1_0]) dX5_tells_46
  by_cases c1_1 : x = 1
  · -- case 1
    refine lv_tableIn (tgt := 47) (off := 46) hx hb dX5_tells_1 (by rw [c1_1]; decide) (by rw [c1_1]; decide) (by rw [c1_1]; decide) (by decide) ?_
    refine lv_aload_n hx hb dX5_tells_47 rfl (lv_at hl 0 rfl) ?_
    refine lv_iload_n hx hb dX5_tells_48 rfl (lv_at hl 1 rfl) ?_
    refine ro_Vi (post := (cTm (gKd gs) (gTi gs) t)) (As := [.int (nI t)]) (rest := []) ⟨hx, hb, hml, hown, hts⟩ (c_X5_timeOf l D z c gs t (by omega)) (cwV 1 hts gX5_tells_X5_timeOf rfl rfl rfl (by decide +kernel) ⟨Nat.le_of_ble_eq_true rfl, Nat.le_of_ble_eq_true rfl⟩) hP hK (va_recv hK.1 hP (ci := 5) (q0 := 0) rfl rfl) rfl hl.1 rfl (Nat.le_of_ble_eq_true rfl) dX5_tells_49 ⟨Nat.le_of_ble_eq_true rfl, Nat.le_of_ble_eq_true rfl⟩ ?_
    exact ro_reti hx hb hr hlk (by simp [gTl, c1_1]) dX5_tells_52
  by_cases c1_2 : x = 2
  · -- case 2
    refine lv_tableIn (tgt := 53) (off := 52) hx hb dX5_tells_1 (by rw [c1_2]; decide) (by rw [c1_2]; decide) (by rw [c1_2]; decide) (by decide) ?_
    refine lv_aload_n hx hb dX5_tells_53 rfl (lv_at hl 0 rfl) ?_
    refine va_get (D := D) (ci := 5) (v := .ref (z 4)) (C := RX5) (T := TX5) (N := 19) hx hb hts hin5 hown hK.1 hP 0 rfl rfl 5 (by decide) (hts (.fieldLink RX5 19 "TestPickerModel" "needs" "[I") (by decide +kernel)) (fun _ h9 => h9) rfl dX5_tells_54 ?_
    refine lv_iload_n hx hb dX5_tells_57 rfl (lv_at hl 1 rfl) ?_
    refine ld_i hx hb hK hP 4 (f := gNd gs) rfl (i := t) (by omega) (by decide) dX5_tells_58 ?_
    exact ro_reti hx hb hr hlk (by simp [gTl, c1_2]) dX5_tells_59
  by_cases c1_3 : x = 3
  · -- case 3
    refine lv_tableIn (tgt := 60) (off := 59) hx hb dX5_tells_1 (by rw [c1_3]; decide) (by rw [c1_3]; decide) (by rw [c1_3]; decide) (by decide) ?_
    refine lv_aload_n hx hb dX5_tells_60 rfl (lv_at hl 0 rfl) ?_
    refine lv_iload_n hx hb dX5_tells_61 rfl (lv_at hl 1 rfl) ?_
    refine ro_Vi (post := (htM (gVe gs) (gB gs) t 8)) (As := [.int (nI t)]) (rest := []) ⟨hx, hb, hml, hown, hts⟩ (c_X5_heatOf l D z c gs t (by omega) (by omega)) (cwV 1 hts gX5_tells_X5_heatOf rfl rfl rfl (by decide +kernel) ⟨Nat.le_of_ble_eq_true rfl, Nat.le_of_ble_eq_true rfl⟩) hP hK (va_recv hK.1 hP (ci := 5) (q0 := 0) rfl rfl) rfl hl.1 rfl (Nat.le_of_ble_eq_true rfl) dX5_tells_62 ⟨Nat.le_of_ble_eq_true rfl, Nat.le_of_ble_eq_true rfl⟩ ?_
    exact ro_reti hx hb hr hlk (by simp [gTl, c1_3]) dX5_tells_65
  by_cases c1_4 : x = 4
  · -- case 4
    refine lv_tableIn (tgt := 66) (off := 65) hx hb dX5_tells_1 (by rw [c1_4]; decide) (by rw [c1_4]; decide) (by rw [c1_4]; decide) (by decide) ?_
    refine lv_aload_n hx hb dX5_tells_66 rfl (lv_at hl 0 rfl) ?_
    refine lv_iload_n hx hb dX5_tells_67 rfl (lv_at hl 1 rfl) ?_
    refine ro_Vi (post := bI (gFk gs t)) (As := [.int (nI t)]) (rest := []) ⟨hx, hb, hml, hown, hts⟩ (c_X5_isFlaky l D z c gs t (by omega) (by omega)) (cwV 1 hts gX5_tells_X5_isFlaky rfl rfl rfl (by decide +kernel) ⟨Nat.le_of_ble_eq_true rfl, Nat.le_of_ble_eq_true rfl⟩) hP hK (va_recv hK.1 hP (ci := 5) (q0 := 0) rfl rfl) rfl hl.1 rfl (Nat.le_of_ble_eq_true rfl) dX5_tells_68 ⟨Nat.le_of_ble_eq_true rfl, Nat.le_of_ble_eq_true rfl⟩ ?_
    refine lv_if_eq (tgt := 78) hx hb dX5_tells_71 (by decide) (fun c71 => ?_) (fun c71 => ?_)
    · -- 71 True
      have c71 := bI_z.mp c71
      refine lv_iconst (v := 0) hx hb dX5_tells_78 (by decide) ?_
      exact ro_reti hx hb hr hlk (by simp [gTl, c1_4, c71, bI]) dX5_tells_79
    · -- 71 False
      have c71 := bI_nz.mp c71
      refine lv_iconst (v := 1) hx hb dX5_tells_74 (by decide) ?_
      refine lv_goto (tgt := 79) hx hb dX5_tells_75 (by decide) ?_
      exact ro_reti hx hb hr hlk (by simp [gTl, c1_4, c71, bI]) dX5_tells_79
  by_cases c1_5 : x = 5
  · -- case 5
    refine lv_tableIn (tgt := 80) (off := 79) hx hb dX5_tells_1 (by rw [c1_5]; decide) (by rw [c1_5]; decide) (by rw [c1_5]; decide) (by decide) ?_
    refine lv_aload_n hx hb dX5_tells_80 rfl (lv_at hl 0 rfl) ?_
    refine lv_iload_n hx hb dX5_tells_81 rfl (lv_at hl 1 rfl) ?_
    refine ro_Vi (post := bI (decide (lastV (gV gs t) (gB gs) = 1) && !gFk gs t)) (As := [.int (nI t)]) (rest := []) ⟨hx, hb, hml, hown, hts⟩ (c_X5_isBroken l D z c gs t (by omega) (by omega)) (cwV 1 hts gX5_tells_X5_isBroken rfl rfl rfl (by decide +kernel) ⟨Nat.le_of_ble_eq_true rfl, Nat.le_of_ble_eq_true rfl⟩) hP hK (va_recv hK.1 hP (ci := 5) (q0 := 0) rfl rfl) rfl hl.1 rfl (Nat.le_of_ble_eq_true rfl) dX5_tells_82 ⟨Nat.le_of_ble_eq_true rfl, Nat.le_of_ble_eq_true rfl⟩ ?_
    refine lv_if_eq (tgt := 92) hx hb dX5_tells_85 (by decide) (fun c85 => ?_) (fun c85 => ?_)
    · -- 85 True
      have c85 := bI_z.mp c85
      refine lv_iconst (v := 0) hx hb dX5_tells_92 (by decide) ?_
      exact ro_reti hx hb hr hlk (by simp [gTl, c1_5, c85, bI]) dX5_tells_93
    · -- 85 False
      have c85 := bI_nz.mp c85
      refine lv_iconst (v := 1) hx hb dX5_tells_88 (by decide) ?_
      refine lv_goto (tgt := 93) hx hb dX5_tells_89 (by decide) ?_
      exact ro_reti hx hb hr hlk (by simp [gTl, c1_5, c85, bI]) dX5_tells_93
  refine lv_tableOut (tgt := 94) hx hb dX5_tells_1 (sw6 c1_0 c1_1 c1_2 c1_3 c1_4 c1_5) (by decide) ?_
  refine lv_aload_n hx hb dX5_tells_94 rfl (lv_at hl 0 rfl) ?_
  refine lv_iload_n hx hb dX5_tells_95 rfl (lv_at hl 1 rfl) ?_
  refine ro_Vi (post := (gCh gs t)) (As := [.int (nI t)]) (rest := []) ⟨hx, hb, hml, hown, hts⟩ (c_X5_chainOf l D z c gs t (by omega) (by omega) hN) (cwV 1 hts gX5_tells_X5_chainOf rfl rfl rfl (by decide +kernel) ⟨Nat.le_of_ble_eq_true rfl, Nat.le_of_ble_eq_true rfl⟩) hP hK (va_recv hK.1 hP (ci := 5) (q0 := 0) rfl rfl) rfl hl.1 rfl (Nat.le_of_ble_eq_true rfl) dX5_tells_96 ⟨Nat.le_of_ble_eq_true rfl, Nat.le_of_ble_eq_true rfl⟩ ?_
  refine lv_i2l (v := (gCh gs t).toInt64) hx hb dX5_tells_99 rfl ?_
  refine ro_Si (As := [.long ((gCh gs t).toInt64)]) (rest := []) ⟨hx, hb, hml, hown, hts⟩ (c_X5_bits l D c ((gCh gs t).toInt64)) (va_cwS 1 hts gX5_tells_X5_bits rfl rfl rfl (by decide +kernel) ⟨Nat.le_of_ble_eq_true rfl, Nat.le_of_ble_eq_true rfl⟩) va_P0 hK rfl hl.1 rfl (Nat.le_of_ble_eq_true rfl) dX5_tells_100 ⟨Nat.le_of_ble_eq_true rfl, Nat.le_of_ble_eq_true rfl⟩ ?_
  exact ro_reti hx hb hr hlk (by simp [gTl, c1_0, c1_1, c1_2, c1_3, c1_4, c1_5]) dX5_tells_103

set_option maxHeartbeats 4000000 in
set_option maxRecDepth 100000 in
theorem c_X5_mayBe (l : Launch) (D : va_G) (z : Nat → Nat) (c : CT) (gs : GS) (t : Nat) (ht : t < gT gs) (hT : gT gs ≤ 20) (hN : WN (gNd gs) (gT gs)) : ROi l yX5_mayBe wsX5_mayBe ({ frames := 0, cells := 0, slots := 0, locals := 0 } : Room) [.ref (z 0), .int (nI t)] D c (wG z c gs) (bI (gMb gs t)) := by
  refine ro_starti (cc := cX5_mayBe) (maxL := 4) (ret := some .boolean) (by decide) rfl (Nat.le_of_ble_eq_true rfl) ?_
  intro p e s m args below meth c0 ls hx hb hr hml hown hts hlk hP hK hl
  have hown : s.vm.findClass RX5 = some m.cls := hown
  have hl : lv_has ls 4 [(0, .ref (z 0)), (1, .int (nI t))] := hl
  have hin5 : ∀ w ∈ wsX50, w ∈ wsX5_mayBe := by decide +kernel
  refine lv_iconst (v := 1) hx hb dX5_mayBe_0 (by decide) ?_
  refine lv_istore_n (lv' := [(2, .int 1), (0, .ref (z 0)), (1, .int (nI t))]) hx hb dX5_mayBe_1 rfl hl (by decide) rfl (fun ls hl => ?_)
  refine lv_iload_n hx hb dX5_mayBe_2 rfl (lv_at hl 2 rfl) ?_
  refine lv_istore_n (lv' := [(3, .int (nI t)), (2, .int 1), (0, .ref (z 0)), (1, .int (nI t))]) hx hb dX5_mayBe_3 rfl hl (by decide) rfl (fun ls hl => ?_)
  have L4 : ∀ (n : Nat) (y : Int32) (a : Bool), (0 < n ∧ (y < 0 ∨ ∃ u, u + 1 < n ∧ u < gT gs ∧ y = nI u)) → ((a && mbM (gKd gs) (gMs gs) (gNd gs) n y) = gMb gs t) → ∀ ls : Array Slot, lv_has ls 4 [(3, .int y), (2, .int (bI a)), (0, .ref (z 0)), (1, .int (nI t))] → W p l e ({ frames := 0, cells := 0, slots := 0, locals := 0 } : Room) s m args below meth c0 s.heap [] 0 0 (QRi below args s (bI (gMb gs t))) (F0 m 4 ls []) := by
    intro n
    induction n with
    | zero => intro y a hn ha ls hl; exact absurd hn.1 (by omega)
    | succ n ih4 =>
      intro y a hn ha ls hl
      refine lv_iload_n hx hb dX5_mayBe_4 rfl (lv_at hl 0 rfl) ?_
      refine lv_if_lt (tgt := 47) hx hb dX5_mayBe_5 (by decide) (fun c5 => ?_) (fun c5 => ?_)
      · -- 5 True
        refine lv_iload_n hx hb dX5_mayBe_47 rfl (lv_at hl 1 rfl) ?_
        exact ro_retz hx hb hr hlk (bI_or _) (by rw [← ha, show mbM (gKd gs) (gMs gs) (gNd gs) (n + 1) y = true from if_pos c5, Bool.and_true]) dX5_mayBe_48
      · -- 5 False
        obtain ⟨u, hu1, hu2, rfl⟩ := ch_at hn c5
        refine lv_iload_n hx hb dX5_mayBe_8 rfl (lv_at hl 1 rfl) ?_
        refine lv_if_eq (tgt := 35) hx hb dX5_mayBe_9 (by decide) (fun c9 => ?_) (fun c9 => ?_)
        · -- 9 True
          have c9 := bI_z.mp c9
          refine lv_iconst (v := 0) hx hb dX5_mayBe_35 (by decide) ?_
          refine lv_istore_n (lv' := [(2, .int 0), (3, .int (nI u)), (0, .ref (z 0)), (1, .int (nI t))]) hx hb dX5_mayBe_36 rfl hl (by decide) rfl (fun ls hl => ?_)
          refine lv_aload_n hx hb dX5_mayBe_37 rfl (lv_at hl 2 rfl) ?_
          refine va_get (D := D) (ci := 5) (v := .ref (z 4)) (C := RX5) (T := TX5) (N := 19) hx hb hts hin5 hown hK.1 hP 0 rfl rfl 5 (by decide) (hts (.fieldLink RX5 19 "TestPickerModel" "needs" "[I") (by decide +kernel)) (fun _ h9 => h9) rfl dX5_mayBe_38 ?_
          refine lv_iload_n hx hb dX5_mayBe_41 rfl (lv_at hl 1 rfl) ?_
          refine ld_i hx hb hK hP 4 (f := gNd gs) rfl (i := u) (by omega) (by decide) dX5_mayBe_42 ?_
          refine lv_istore_n (lv' := [(3, .int (gNd gs u)), (2, .int 0), (0, .ref (z 0)), (1, .int (nI t))]) hx hb dX5_mayBe_43 rfl hl (by decide) rfl (fun ls hl => ?_)
          refine lv_goto (tgt := 4) hx hb dX5_mayBe_44 (by decide) ?_
          exact ih4 (gNd gs u) false (ch_next hN hu1 hu2) (by rw [← ha, mbM_pos (by omega)]; simp [c9]) ls (lv_sub hl [0, 1, 2, 3] rfl)
        · -- 9 False
          have c9 := bI_nz.mp c9
          refine lv_aload_n hx hb dX5_mayBe_12 rfl (lv_at hl 2 rfl) ?_
          refine va_get (D := D) (ci := 5) (v := .ref (z 2)) (C := RX5) (T := TX5) (N := 19) hx hb hts hin5 hown hK.1 hP 0 rfl rfl 3 (by decide) (hts (.fieldLink RX5 13 "TestPickerModel" "kinds" "[I") (by decide +kernel)) (fun _ h9 => h9) rfl dX5_mayBe_13 ?_
          refine lv_iload_n hx hb dX5_mayBe_16 rfl (lv_at hl 0 rfl) ?_
          refine ld_i hx hb hK hP 2 (f := gKd gs) rfl (i := u) (by omega) (by decide) dX5_mayBe_17 ?_
          refine lv_iconst (v := 3) hx hb dX5_mayBe_18 (by decide) ?_
          refine lv_icmp_eq (tgt := 35) hx hb dX5_mayBe_19 (by decide) (fun c19 => ?_) (fun c19 => ?_)
          · -- 19 True
            refine lv_iconst (v := 0) hx hb dX5_mayBe_35 (by decide) ?_
            refine lv_istore_n (lv' := [(2, .int 0), (3, .int (nI u)), (0, .ref (z 0)), (1, .int (nI t))]) hx hb dX5_mayBe_36 rfl hl (by decide) rfl (fun ls hl => ?_)
            refine lv_aload_n hx hb dX5_mayBe_37 rfl (lv_at hl 2 rfl) ?_
            refine va_get (D := D) (ci := 5) (v := .ref (z 4)) (C := RX5) (T := TX5) (N := 19) hx hb hts hin5 hown hK.1 hP 0 rfl rfl 5 (by decide) (hts (.fieldLink RX5 19 "TestPickerModel" "needs" "[I") (by decide +kernel)) (fun _ h9 => h9) rfl dX5_mayBe_38 ?_
            refine lv_iload_n hx hb dX5_mayBe_41 rfl (lv_at hl 1 rfl) ?_
            refine ld_i hx hb hK hP 4 (f := gNd gs) rfl (i := u) (by omega) (by decide) dX5_mayBe_42 ?_
            refine lv_istore_n (lv' := [(3, .int (gNd gs u)), (2, .int 0), (0, .ref (z 0)), (1, .int (nI t))]) hx hb dX5_mayBe_43 rfl hl (by decide) rfl (fun ls hl => ?_)
            refine lv_goto (tgt := 4) hx hb dX5_mayBe_44 (by decide) ?_
            exact ih4 (gNd gs u) false (ch_next hN hu1 hu2) (by rw [← ha, mbM_pos (by omega)]; simp [c9, c19]) ls (lv_sub hl [0, 1, 2, 3] rfl)
          · -- 19 False
            refine lv_aload_n hx hb dX5_mayBe_22 rfl (lv_at hl 2 rfl) ?_
            refine va_get (D := D) (ci := 5) (v := .ref (z 5)) (C := RX5) (T := TX5) (N := 19) hx hb hts hin5 hown hK.1 hP 0 rfl rfl 6 (by decide) (hts (.fieldLink RX5 22 "TestPickerModel" "missing" "[Z") (by decide +kernel)) (fun _ h9 => h9) rfl dX5_mayBe_23 ?_
            refine lv_iload_n hx hb dX5_mayBe_26 rfl (lv_at hl 0 rfl) ?_
            refine ld_z hx hb hK hP 5 (f := gMs gs) rfl (i := u) (by omega) (by decide) dX5_mayBe_27 ?_
            refine lv_if_ne (tgt := 35) hx hb dX5_mayBe_28 (by decide) (fun c28 => ?_) (fun c28 => ?_)
            · -- 28 True
              refine lv_iconst (v := 0) hx hb dX5_mayBe_35 (by decide) ?_
              refine lv_istore_n (lv' := [(2, .int 0), (3, .int (nI u)), (0, .ref (z 0)), (1, .int (nI t))]) hx hb dX5_mayBe_36 rfl hl (by decide) rfl (fun ls hl => ?_)
              refine lv_aload_n hx hb dX5_mayBe_37 rfl (lv_at hl 2 rfl) ?_
              refine va_get (D := D) (ci := 5) (v := .ref (z 4)) (C := RX5) (T := TX5) (N := 19) hx hb hts hin5 hown hK.1 hP 0 rfl rfl 5 (by decide) (hts (.fieldLink RX5 19 "TestPickerModel" "needs" "[I") (by decide +kernel)) (fun _ h9 => h9) rfl dX5_mayBe_38 ?_
              refine lv_iload_n hx hb dX5_mayBe_41 rfl (lv_at hl 1 rfl) ?_
              refine ld_i hx hb hK hP 4 (f := gNd gs) rfl (i := u) (by omega) (by decide) dX5_mayBe_42 ?_
              refine lv_istore_n (lv' := [(3, .int (gNd gs u)), (2, .int 0), (0, .ref (z 0)), (1, .int (nI t))]) hx hb dX5_mayBe_43 rfl hl (by decide) rfl (fun ls hl => ?_)
              refine lv_goto (tgt := 4) hx hb dX5_mayBe_44 (by decide) ?_
              exact ih4 (gNd gs u) false (ch_next hN hu1 hu2) (by rw [← ha, mbM_pos (by omega)]; simp [c9, c19, c28]) ls (lv_sub hl [0, 1, 2, 3] rfl)
            · -- 28 False
              refine lv_iconst (v := 1) hx hb dX5_mayBe_31 (by decide) ?_
              refine lv_goto (tgt := 36) hx hb dX5_mayBe_32 (by decide) ?_
              refine lv_istore_n (lv' := [(2, .int 1), (3, .int (nI u)), (0, .ref (z 0)), (1, .int (nI t))]) hx hb dX5_mayBe_36 rfl hl (by decide) rfl (fun ls hl => ?_)
              refine lv_aload_n hx hb dX5_mayBe_37 rfl (lv_at hl 2 rfl) ?_
              refine va_get (D := D) (ci := 5) (v := .ref (z 4)) (C := RX5) (T := TX5) (N := 19) hx hb hts hin5 hown hK.1 hP 0 rfl rfl 5 (by decide) (hts (.fieldLink RX5 19 "TestPickerModel" "needs" "[I") (by decide +kernel)) (fun _ h9 => h9) rfl dX5_mayBe_38 ?_
              refine lv_iload_n hx hb dX5_mayBe_41 rfl (lv_at hl 1 rfl) ?_
              refine ld_i hx hb hK hP 4 (f := gNd gs) rfl (i := u) (by omega) (by decide) dX5_mayBe_42 ?_
              refine lv_istore_n (lv' := [(3, .int (gNd gs u)), (2, .int 1), (0, .ref (z 0)), (1, .int (nI t))]) hx hb dX5_mayBe_43 rfl hl (by decide) rfl (fun ls hl => ?_)
              refine lv_goto (tgt := 4) hx hb dX5_mayBe_44 (by decide) ?_
              exact ih4 (gNd gs u) true (ch_next hN hu1 hu2) (by rw [← ha, mbM_pos (by omega)]; simp [c9, c19, c28]) ls (lv_sub hl [0, 1, 2, 3] rfl)
  exact L4 (21) (nI t) true (⟨by omega, Or.inr ⟨t, by omega, ht, rfl⟩⟩) (Bool.true_and _) ls (lv_sub hl [0, 1, 2, 3] rfl)

set_option maxHeartbeats 4000000 in
set_option maxRecDepth 100000 in
theorem c_X5_reachOfSet (l : Launch) (D : va_G) (z : Nat → Nat) (c : CT) (gs : GS) (x : Int32) (hT : gT gs ≤ 20) : ROl l yX5_reachOfSet wsX5_reachOfSet ({ frames := 1, cells := 0, slots := 0, locals := 24 } : Room) [.ref (z 0), .int x] D c (wG z c gs) (gRS gs x) := by
  refine ro_startl (cc := cX5_reachOfSet) (maxL := 5) (ret := some .long) (by decide) rfl (Nat.le_of_ble_eq_true rfl) ?_
  intro p e s m args below meth c0 ls hx hb hr hml hown hts hlk hP hK hl
  have hown : s.vm.findClass RX5 = some m.cls := hown
  have hl : lv_has ls 5 [(0, .ref (z 0)), (1, .int x)] := hl
  have hin5 : ∀ w ∈ wsX50, w ∈ wsX5_reachOfSet := by decide +kernel
  refine lv_lconst (v := 0) hx hb dX5_reachOfSet_0 (by decide) ?_
  refine lv_lstore_n (lv' := [(2, .long 0), (0, .ref (z 0)), (1, .int x)]) hx hb dX5_reachOfSet_1 rfl hl (by decide) rfl (fun ls hl => ?_)
  refine lv_iconst (v := 0) hx hb dX5_reachOfSet_2 (by decide) ?_
  refine lv_istore (lv' := [(4, .int 0), (2, .long 0), (0, .ref (z 0)), (1, .int x)]) hx hb dX5_reachOfSet_3 hl (by decide) rfl (fun ls hl => ?_)
  have L5 : ∀ (n : Nat) (i : Nat) (a : Int64), (i ≤ gT gs) → (gT gs < i + n) → (a = paS (gRe gs) x i) → ∀ ls : Array Slot, lv_has ls 5 [(4, .int (nI i)), (2, .long a), (0, .ref (z 0)), (1, .int x)] → W p l e ({ frames := 1, cells := 0, slots := 0, locals := 24 } : Room) s m args below meth c0 s.heap [] 0 0 (QRl below args s (gRS gs x)) (F0 m 5 ls []) := by
    intro n
    induction n with
    | zero => intro i a hi hn ha ls hl; exact absurd hn (by omega)
    | succ n ih5 =>
      intro i a hi hn ha ls hl
      refine lv_iload hx hb dX5_reachOfSet_5 (lv_at hl 0 rfl) ?_
      refine lv_aload_n hx hb dX5_reachOfSet_7 rfl (lv_at hl 2 rfl) ?_
      refine va_get (D := D) (ci := 5) (v := .int (nI (gT gs))) (C := RX5) (T := TX5) (N := 19) hx hb hts hin5 hown hK.1 hP 0 rfl rfl 2 (by decide) (hts (.fieldLink RX5 52 "TestPickerModel" "tests" "I") (by decide +kernel)) (fun _ h9 => h9) rfl dX5_reachOfSet_8 ?_
      refine lv_icmp_ge (tgt := 42) hx hb dX5_reachOfSet_11 (by decide) (fun c11 => ?_) (fun c11 => ?_)
      · -- 11 True
        have c11 : (gT gs) ≤ i := (nI_leI (a := (gT gs)) (b := i) (by omega) (by omega)).mp c11
        refine lv_lload_n hx hb dX5_reachOfSet_42 rfl (lv_at hl 1 rfl) ?_
        exact ro_retl hx hb hr hlk (by rw [ha, show i = gT gs by omega]) dX5_reachOfSet_43
      · -- 11 False
        have c11 : i < (gT gs) := (Nat.not_le.mp (fun z => c11 ((nI_leI (a := (gT gs)) (b := i) (by omega) (by omega)).mpr z)))
        refine lv_lload_n hx hb dX5_reachOfSet_14 rfl (lv_at hl 1 rfl) ?_
        refine lv_iload_n hx hb dX5_reachOfSet_15 rfl (lv_at hl 3 rfl) ?_
        refine lv_iload hx hb dX5_reachOfSet_16 (lv_at hl 0 rfl) ?_
        refine ro_Si (As := [.int x, .int (nI i)]) (rest := [.long a]) ⟨hx, hb, hml, hown, hts⟩ (c_X5_has l D c x i (by omega)) (va_cwS 2 hts gX5_reachOfSet_X5_has rfl rfl rfl (by decide +kernel) ⟨Nat.le_of_ble_eq_true rfl, Nat.le_of_ble_eq_true rfl⟩) va_P0 hK rfl hl.1 rfl (Nat.le_of_ble_eq_true rfl) dX5_reachOfSet_18 ⟨Nat.le_of_ble_eq_true rfl, Nat.le_of_ble_eq_true rfl⟩ ?_
        refine lv_if_eq (tgt := 33) hx hb dX5_reachOfSet_21 (by decide) (fun c21 => ?_) (fun c21 => ?_)
        · -- 21 True
          have c21 := bI_z.mp c21
          refine lv_lconst (v := 0) hx hb dX5_reachOfSet_33 (by decide) ?_
          refine lv_lor hx hb dX5_reachOfSet_34 ?_
          refine lv_lstore_n (lv' := [(2, .long (a ||| 0)), (4, .int (nI i)), (0, .ref (z 0)), (1, .int x)]) hx hb dX5_reachOfSet_35 rfl hl (by decide) rfl (fun ls hl => ?_)
          refine lv_iinc (v := nI (i + 1)) (lv' := [(4, .int (nI (i + 1))), (2, .long (a ||| 0)), (0, .ref (z 0)), (1, .int x)]) hx hb dX5_reachOfSet_36 hl (k := 1) rfl (nI_inc _) (by decide) rfl (fun ls hl => ?_)
          refine lv_goto (tgt := 5) hx hb dX5_reachOfSet_39 (by decide) ?_
          exact ih5 (i + 1) (a ||| 0) (by omega) (by omega) (by rw [ha]; simp [paS, c21]) ls (lv_sub hl [0, 1, 2, 3] rfl)
        · -- 21 False
          have c21 := bI_nz.mp c21
          refine lv_aload_n hx hb dX5_reachOfSet_24 rfl (lv_at hl 2 rfl) ?_
          refine lv_iload hx hb dX5_reachOfSet_25 (lv_at hl 0 rfl) ?_
          refine ro_Vl (post := (gRe gs i)) (As := [.int (nI i)]) (rest := [.long a]) ⟨hx, hb, hml, hown, hts⟩ (c_X5_reachOf l D z c gs i (by omega)) (cwV 1 hts gX5_reachOfSet_X5_reachOf rfl rfl rfl (by decide +kernel) ⟨Nat.le_of_ble_eq_true rfl, Nat.le_of_ble_eq_true rfl⟩) hP hK (va_recv hK.1 hP (ci := 5) (q0 := 0) rfl rfl) rfl hl.1 rfl (Nat.le_of_ble_eq_true rfl) dX5_reachOfSet_27 ⟨Nat.le_of_ble_eq_true rfl, Nat.le_of_ble_eq_true rfl⟩ ?_
          refine lv_goto (tgt := 34) hx hb dX5_reachOfSet_30 (by decide) ?_
          refine lv_lor hx hb dX5_reachOfSet_34 ?_
          refine lv_lstore_n (lv' := [(2, .long (a ||| (gRe gs i))), (4, .int (nI i)), (0, .ref (z 0)), (1, .int x)]) hx hb dX5_reachOfSet_35 rfl hl (by decide) rfl (fun ls hl => ?_)
          refine lv_iinc (v := nI (i + 1)) (lv' := [(4, .int (nI (i + 1))), (2, .long (a ||| (gRe gs i))), (0, .ref (z 0)), (1, .int x)]) hx hb dX5_reachOfSet_36 hl (k := 1) rfl (nI_inc _) (by decide) rfl (fun ls hl => ?_)
          refine lv_goto (tgt := 5) hx hb dX5_reachOfSet_39 (by decide) ?_
          exact ih5 (i + 1) (a ||| (gRe gs i)) (by omega) (by omega) (by rw [ha]; simp [paS, c21]) ls (lv_sub hl [0, 1, 2, 3] rfl)
  exact L5 (gT gs + 1) 0 0 (by omega) (by omega) (rfl) ls (lv_sub hl [0, 1, 2, 3] rfl)

set_option maxHeartbeats 4000000 in
set_option maxRecDepth 100000 in
theorem c_X5_timeOfSet (l : Launch) (D : va_G) (z : Nat → Nat) (c : CT) (gs : GS) (x : Int32) (hT : gT gs ≤ 20) : ROi l yX5_timeOfSet wsX5_timeOfSet ({ frames := 1, cells := 0, slots := 0, locals := 21 } : Room) [.ref (z 0), .int x] D c (wG z c gs) (gTS gs x) := by
  refine ro_starti (cc := cX5_timeOfSet) (maxL := 4) (ret := some .int) (by decide) rfl (Nat.le_of_ble_eq_true rfl) ?_
  intro p e s m args below meth c0 ls hx hb hr hml hown hts hlk hP hK hl
  have hown : s.vm.findClass RX5 = some m.cls := hown
  have hl : lv_has ls 4 [(0, .ref (z 0)), (1, .int x)] := hl
  have hin5 : ∀ w ∈ wsX50, w ∈ wsX5_timeOfSet := by decide +kernel
  refine lv_iconst (v := 0) hx hb dX5_timeOfSet_0 (by decide) ?_
  refine lv_istore_n (lv' := [(2, .int 0), (0, .ref (z 0)), (1, .int x)]) hx hb dX5_timeOfSet_1 rfl hl (by decide) rfl (fun ls hl => ?_)
  refine lv_iconst (v := 0) hx hb dX5_timeOfSet_2 (by decide) ?_
  refine lv_istore_n (lv' := [(3, .int 0), (2, .int 0), (0, .ref (z 0)), (1, .int x)]) hx hb dX5_timeOfSet_3 rfl hl (by decide) rfl (fun ls hl => ?_)
  have L4 : ∀ (n : Nat) (i : Nat) (a : Int32), (i ≤ gT gs) → (gT gs < i + n) → (a = tmS (gKd gs) (gTi gs) x i) → ∀ ls : Array Slot, lv_has ls 4 [(3, .int (nI i)), (2, .int a), (0, .ref (z 0)), (1, .int x)] → W p l e ({ frames := 1, cells := 0, slots := 0, locals := 21 } : Room) s m args below meth c0 s.heap [] 0 0 (QRi below args s (gTS gs x)) (F0 m 4 ls []) := by
    intro n
    induction n with
    | zero => intro i a hi hn ha ls hl; exact absurd hn (by omega)
    | succ n ih4 =>
      intro i a hi hn ha ls hl
      refine lv_iload_n hx hb dX5_timeOfSet_4 rfl (lv_at hl 0 rfl) ?_
      refine lv_aload_n hx hb dX5_timeOfSet_5 rfl (lv_at hl 2 rfl) ?_
      refine va_get (D := D) (ci := 5) (v := .int (nI (gT gs))) (C := RX5) (T := TX5) (N := 19) hx hb hts hin5 hown hK.1 hP 0 rfl rfl 2 (by decide) (hts (.fieldLink RX5 52 "TestPickerModel" "tests" "I") (by decide +kernel)) (fun _ h9 => h9) rfl dX5_timeOfSet_6 ?_
      refine lv_icmp_ge (tgt := 38) hx hb dX5_timeOfSet_9 (by decide) (fun c9 => ?_) (fun c9 => ?_)
      · -- 9 True
        have c9 : (gT gs) ≤ i := (nI_leI (a := (gT gs)) (b := i) (by omega) (by omega)).mp c9
        refine lv_iload_n hx hb dX5_timeOfSet_38 rfl (lv_at hl 1 rfl) ?_
        exact ro_reti hx hb hr hlk (by rw [ha, show i = gT gs by omega]) dX5_timeOfSet_39
      · -- 9 False
        have c9 : i < (gT gs) := (Nat.not_le.mp (fun z => c9 ((nI_leI (a := (gT gs)) (b := i) (by omega) (by omega)).mpr z)))
        refine lv_iload_n hx hb dX5_timeOfSet_12 rfl (lv_at hl 1 rfl) ?_
        refine lv_iload_n hx hb dX5_timeOfSet_13 rfl (lv_at hl 3 rfl) ?_
        refine lv_iload_n hx hb dX5_timeOfSet_14 rfl (lv_at hl 0 rfl) ?_
        refine ro_Si (As := [.int x, .int (nI i)]) (rest := [.int a]) ⟨hx, hb, hml, hown, hts⟩ (c_X5_has l D c x i (by omega)) (va_cwS 2 hts gX5_timeOfSet_X5_has rfl rfl rfl (by decide +kernel) ⟨Nat.le_of_ble_eq_true rfl, Nat.le_of_ble_eq_true rfl⟩) va_P0 hK rfl hl.1 rfl (Nat.le_of_ble_eq_true rfl) dX5_timeOfSet_15 ⟨Nat.le_of_ble_eq_true rfl, Nat.le_of_ble_eq_true rfl⟩ ?_
        refine lv_if_eq (tgt := 29) hx hb dX5_timeOfSet_18 (by decide) (fun c18 => ?_) (fun c18 => ?_)
        · -- 18 True
          have c18 := bI_z.mp c18
          refine lv_iconst (v := 0) hx hb dX5_timeOfSet_29 (by decide) ?_
          refine lv_iadd hx hb dX5_timeOfSet_30 ?_
          refine lv_istore_n (lv' := [(2, .int (a + 0)), (3, .int (nI i)), (0, .ref (z 0)), (1, .int x)]) hx hb dX5_timeOfSet_31 rfl hl (by decide) rfl (fun ls hl => ?_)
          refine lv_iinc (v := nI (i + 1)) (lv' := [(3, .int (nI (i + 1))), (2, .int (a + 0)), (0, .ref (z 0)), (1, .int x)]) hx hb dX5_timeOfSet_32 hl (k := 1) rfl (nI_inc _) (by decide) rfl (fun ls hl => ?_)
          refine lv_goto (tgt := 4) hx hb dX5_timeOfSet_35 (by decide) ?_
          exact ih4 (i + 1) (a + 0) (by omega) (by omega) (by rw [ha]; simp [tmS, c18]) ls (lv_sub hl [0, 1, 2, 3] rfl)
        · -- 18 False
          have c18 := bI_nz.mp c18
          refine lv_aload_n hx hb dX5_timeOfSet_21 rfl (lv_at hl 2 rfl) ?_
          refine lv_iload_n hx hb dX5_timeOfSet_22 rfl (lv_at hl 0 rfl) ?_
          refine ro_Vi (post := (cTm (gKd gs) (gTi gs) i)) (As := [.int (nI i)]) (rest := [.int a]) ⟨hx, hb, hml, hown, hts⟩ (c_X5_timeOf l D z c gs i (by omega)) (cwV 1 hts gX5_timeOfSet_X5_timeOf rfl rfl rfl (by decide +kernel) ⟨Nat.le_of_ble_eq_true rfl, Nat.le_of_ble_eq_true rfl⟩) hP hK (va_recv hK.1 hP (ci := 5) (q0 := 0) rfl rfl) rfl hl.1 rfl (Nat.le_of_ble_eq_true rfl) dX5_timeOfSet_23 ⟨Nat.le_of_ble_eq_true rfl, Nat.le_of_ble_eq_true rfl⟩ ?_
          refine lv_goto (tgt := 30) hx hb dX5_timeOfSet_26 (by decide) ?_
          refine lv_iadd hx hb dX5_timeOfSet_30 ?_
          refine lv_istore_n (lv' := [(2, .int (a + (cTm (gKd gs) (gTi gs) i))), (3, .int (nI i)), (0, .ref (z 0)), (1, .int x)]) hx hb dX5_timeOfSet_31 rfl hl (by decide) rfl (fun ls hl => ?_)
          refine lv_iinc (v := nI (i + 1)) (lv' := [(3, .int (nI (i + 1))), (2, .int (a + (cTm (gKd gs) (gTi gs) i))), (0, .ref (z 0)), (1, .int x)]) hx hb dX5_timeOfSet_32 hl (k := 1) rfl (nI_inc _) (by decide) rfl (fun ls hl => ?_)
          refine lv_goto (tgt := 4) hx hb dX5_timeOfSet_35 (by decide) ?_
          exact ih4 (i + 1) (a + (cTm (gKd gs) (gTi gs) i)) (by omega) (by omega) (by rw [ha]; simp [tmS, c18]) ls (lv_sub hl [0, 1, 2, 3] rfl)
  exact L4 (gT gs + 1) 0 0 (by omega) (by omega) (rfl) ls (lv_sub hl [0, 1, 2, 3] rfl)

set_option maxHeartbeats 4000000 in
set_option maxRecDepth 100000 in
theorem c_X5_setOf (l : Launch) (D : va_G) (z : Nat → Nat) (c : CT) (gs : GS) (x : Int32) (k : Nat) (hk : k ≤ 20) : ROi l yX5_setOf wsX5_setOf ({ frames := 1, cells := 0, slots := 0, locals := 21 } : Room) [.ref (z 0), .int x, .int (nI k)] D c (wG z c gs) (soS (gMay gs) x k) := by
  refine ro_starti (cc := cX5_setOf) (maxL := 5) (ret := some .int) (by decide) rfl (Nat.le_of_ble_eq_true rfl) ?_
  intro p e s m args below meth c0 ls hx hb hr hml hown hts hlk hP hK hl
  have hown : s.vm.findClass RX5 = some m.cls := hown
  have hl : lv_has ls 5 [(0, .ref (z 0)), (1, .int x), (2, .int (nI k))] := hl
  have hin5 : ∀ w ∈ wsX50, w ∈ wsX5_setOf := by decide +kernel
  refine lv_iconst (v := 0) hx hb dX5_setOf_0 (by decide) ?_
  refine lv_istore_n (lv' := [(3, .int 0), (0, .ref (z 0)), (1, .int x), (2, .int (nI k))]) hx hb dX5_setOf_1 rfl hl (by decide) rfl (fun ls hl => ?_)
  refine lv_iconst (v := 0) hx hb dX5_setOf_2 (by decide) ?_
  refine lv_istore (lv' := [(4, .int 0), (3, .int 0), (0, .ref (z 0)), (1, .int x), (2, .int (nI k))]) hx hb dX5_setOf_3 hl (by decide) rfl (fun ls hl => ?_)
  have L5 : ∀ (n : Nat) (i : Nat) (a : Int32), (i ≤ k) → (k < i + n) → (a = soS (gMay gs) x i) → ∀ ls : Array Slot, lv_has ls 5 [(4, .int (nI i)), (3, .int a), (0, .ref (z 0)), (1, .int x), (2, .int (nI k))] → W p l e ({ frames := 1, cells := 0, slots := 0, locals := 21 } : Room) s m args below meth c0 s.heap [] 0 0 (QRi below args s (soS (gMay gs) x k)) (F0 m 5 ls []) := by
    intro n
    induction n with
    | zero => intro i a hi hn ha ls hl; exact absurd hn (by omega)
    | succ n ih5 =>
      intro i a hi hn ha ls hl
      refine lv_iload hx hb dX5_setOf_5 (lv_at hl 0 rfl) ?_
      refine lv_iload_n hx hb dX5_setOf_7 rfl (lv_at hl 4 rfl) ?_
      refine lv_icmp_ge (tgt := 42) hx hb dX5_setOf_8 (by decide) (fun c8 => ?_) (fun c8 => ?_)
      · -- 8 True
        have c8 : k ≤ i := (nI_leI (a := k) (b := i) (by omega) (by omega)).mp c8
        refine lv_iload_n hx hb dX5_setOf_42 rfl (lv_at hl 1 rfl) ?_
        exact ro_reti hx hb hr hlk (by rw [ha, show i = k by omega]) dX5_setOf_43
      · -- 8 False
        have c8 : i < k := (Nat.not_le.mp (fun z => c8 ((nI_leI (a := k) (b := i) (by omega) (by omega)).mpr z)))
        refine lv_iload_n hx hb dX5_setOf_11 rfl (lv_at hl 1 rfl) ?_
        refine lv_iload_n hx hb dX5_setOf_12 rfl (lv_at hl 3 rfl) ?_
        refine lv_iload hx hb dX5_setOf_13 (lv_at hl 0 rfl) ?_
        refine ro_Si (As := [.int x, .int (nI i)]) (rest := [.int a]) ⟨hx, hb, hml, hown, hts⟩ (c_X5_has l D c x i (by omega)) (va_cwS 2 hts gX5_setOf_X5_has rfl rfl rfl (by decide +kernel) ⟨Nat.le_of_ble_eq_true rfl, Nat.le_of_ble_eq_true rfl⟩) va_P0 hK rfl hl.1 rfl (Nat.le_of_ble_eq_true rfl) dX5_setOf_15 ⟨Nat.le_of_ble_eq_true rfl, Nat.le_of_ble_eq_true rfl⟩ ?_
        refine lv_if_eq (tgt := 33) hx hb dX5_setOf_18 (by decide) (fun c18 => ?_) (fun c18 => ?_)
        · -- 18 True
          have c18 := bI_z.mp c18
          refine lv_iconst (v := 0) hx hb dX5_setOf_33 (by decide) ?_
          refine lv_ior hx hb dX5_setOf_34 ?_
          refine lv_istore_n (lv' := [(3, .int (a ||| 0)), (4, .int (nI i)), (0, .ref (z 0)), (1, .int x), (2, .int (nI k))]) hx hb dX5_setOf_35 rfl hl (by decide) rfl (fun ls hl => ?_)
          refine lv_iinc (v := nI (i + 1)) (lv' := [(4, .int (nI (i + 1))), (3, .int (a ||| 0)), (0, .ref (z 0)), (1, .int x), (2, .int (nI k))]) hx hb dX5_setOf_36 hl (k := 1) rfl (nI_inc _) (by decide) rfl (fun ls hl => ?_)
          refine lv_goto (tgt := 5) hx hb dX5_setOf_39 (by decide) ?_
          exact ih5 (i + 1) (a ||| 0) (by omega) (by omega) (by rw [ha]; simp [soS, c18]) ls (lv_sub hl [0, 1, 2, 3, 4] rfl)
        · -- 18 False
          have c18 := bI_nz.mp c18
          refine lv_iconst (v := 1) hx hb dX5_setOf_21 (by decide) ?_
          refine lv_aload_n hx hb dX5_setOf_22 rfl (lv_at hl 2 rfl) ?_
          refine va_get (D := D) (ci := 5) (v := .ref (z 11)) (C := RX5) (T := TX5) (N := 19) hx hb hts hin5 hown hK.1 hP 0 rfl rfl 18 (by decide) (hts (.fieldLink RX5 46 "TestPickerModel" "may" "[I") (by decide +kernel)) (fun _ h9 => h9) rfl dX5_setOf_23 ?_
          refine lv_iload hx hb dX5_setOf_26 (lv_at hl 0 rfl) ?_
          refine ld_i hx hb hK hP 11 (f := gMay gs) rfl (i := i) (by omega) (by decide) dX5_setOf_28 ?_
          refine lv_ishl hx hb dX5_setOf_29 ?_
          refine lv_goto (tgt := 34) hx hb dX5_setOf_30 (by decide) ?_
          refine lv_ior hx hb dX5_setOf_34 ?_
          refine lv_istore_n (lv' := [(3, .int (a ||| ((1 : Int32) <<< ((gMay gs i) &&& 31)))), (4, .int (nI i)), (0, .ref (z 0)), (1, .int x), (2, .int (nI k))]) hx hb dX5_setOf_35 rfl hl (by decide) rfl (fun ls hl => ?_)
          refine lv_iinc (v := nI (i + 1)) (lv' := [(4, .int (nI (i + 1))), (3, .int (a ||| ((1 : Int32) <<< ((gMay gs i) &&& 31)))), (0, .ref (z 0)), (1, .int x), (2, .int (nI k))]) hx hb dX5_setOf_36 hl (k := 1) rfl (nI_inc _) (by decide) rfl (fun ls hl => ?_)
          refine lv_goto (tgt := 5) hx hb dX5_setOf_39 (by decide) ?_
          exact ih5 (i + 1) (a ||| ((1 : Int32) <<< ((gMay gs i) &&& 31))) (by omega) (by omega) (by rw [ha]; simp [soS, c18]) ls (lv_sub hl [0, 1, 2, 3, 4] rfl)
  exact L5 (k + 1) 0 0 (by omega) (by omega) (rfl) ls (lv_sub hl [0, 1, 2, 3, 4] rfl)

set_option maxHeartbeats 4000000 in
set_option maxRecDepth 100000 in
theorem c_X5_areTests (l : Launch) (D : va_G) (z : Nat → Nat) (c : CT) (gs : GS) (x : Int32)  : ROi l yX5_areTests wsX5_areTests ({ frames := 0, cells := 0, slots := 0, locals := 0 } : Room) [.ref (z 0), .int x] D c (wG z c gs) (bI (arT x (gT gs))) := by
  refine ro_starti (cc := cX5_areTests) (maxL := 2) (ret := some .boolean) (by decide) rfl (Nat.le_of_ble_eq_true rfl) ?_
  intro p e s m args below meth c0 ls hx hb hr hml hown hts hlk hP hK hl
  have hown : s.vm.findClass RX5 = some m.cls := hown
  have hl : lv_has ls 2 [(0, .ref (z 0)), (1, .int x)] := hl
  have hin5 : ∀ w ∈ wsX50, w ∈ wsX5_areTests := by decide +kernel
  refine lv_iload_n hx hb dX5_areTests_0 rfl (lv_at hl 1 rfl) ?_
  refine lv_if_lt (tgt := 17) hx hb dX5_areTests_1 (by decide) (fun c1 => ?_) (fun c1 => ?_)
  · -- 1 True
    refine lv_iconst (v := 0) hx hb dX5_areTests_17 (by decide) ?_
    exact ro_retz hx hb hr hlk (by decide) (by simp [arT, bI, c1]) dX5_areTests_18
  · -- 1 False
    refine lv_iload_n hx hb dX5_areTests_4 rfl (lv_at hl 1 rfl) ?_
    refine lv_aload_n hx hb dX5_areTests_5 rfl (lv_at hl 0 rfl) ?_
    refine va_get (D := D) (ci := 5) (v := .int (nI (gT gs))) (C := RX5) (T := TX5) (N := 19) hx hb hts hin5 hown hK.1 hP 0 rfl rfl 2 (by decide) (hts (.fieldLink RX5 52 "TestPickerModel" "tests" "I") (by decide +kernel)) (fun _ h9 => h9) rfl dX5_areTests_6 ?_
    refine lv_ishr hx hb dX5_areTests_9 ?_
    refine lv_if_ne (tgt := 17) hx hb dX5_areTests_10 (by decide) (fun c10 => ?_) (fun c10 => ?_)
    · -- 10 True
      refine lv_iconst (v := 0) hx hb dX5_areTests_17 (by decide) ?_
      exact ro_retz hx hb hr hlk (by decide) (by simp [arT, bI, c1, c10]) dX5_areTests_18
    · -- 10 False
      refine lv_iconst (v := 1) hx hb dX5_areTests_13 (by decide) ?_
      refine lv_goto (tgt := 18) hx hb dX5_areTests_14 (by decide) ?_
      exact ro_retz hx hb hr hlk (by decide) (by simp [arT, bI, c1, c10]) dX5_areTests_18

set_option maxHeartbeats 4000000 in
set_option maxRecDepth 100000 in
theorem c_X5_fellOf (l : Launch) (D : va_G) (z : Nat → Nat) (c : CT) (gs : GS) (b : Nat) (x : Int32) (hb60 : b < 60) (hT : gT gs ≤ 20) : ROi l yX5_fellOf wsX5_fellOf ({ frames := 1, cells := 0, slots := 0, locals := 21 } : Room) [.ref (z 0), .int (nI b), .int x] D c (wG z c gs) (gFo gs b x) := by
  refine ro_starti (cc := cX5_fellOf) (maxL := 5) (ret := some .int) (by decide) rfl (Nat.le_of_ble_eq_true rfl) ?_
  intro p e s m args below meth c0 ls hx hb hr hml hown hts hlk hP hK hl
  have hown : s.vm.findClass RX5 = some m.cls := hown
  have hl : lv_has ls 5 [(0, .ref (z 0)), (1, .int (nI b)), (2, .int x)] := hl
  have hin5 : ∀ w ∈ wsX50, w ∈ wsX5_fellOf := by decide +kernel
  refine lv_iconst (v := 0) hx hb dX5_fellOf_0 (by decide) ?_
  refine lv_istore_n (lv' := [(3, .int 0), (0, .ref (z 0)), (1, .int (nI b)), (2, .int x)]) hx hb dX5_fellOf_1 rfl hl (by decide) rfl (fun ls hl => ?_)
  refine lv_iconst (v := 0) hx hb dX5_fellOf_2 (by decide) ?_
  refine lv_istore (lv' := [(4, .int 0), (3, .int 0), (0, .ref (z 0)), (1, .int (nI b)), (2, .int x)]) hx hb dX5_fellOf_3 hl (by decide) rfl (fun ls hl => ?_)
  have L5 : ∀ (n : Nat) (i : Nat) (a : Int32), (i ≤ gT gs) → (gT gs < i + n) → (a = orI (fun t => bt x t && decide (gVe gs (20 * b + t) = 1)) i) → ∀ ls : Array Slot, lv_has ls 5 [(4, .int (nI i)), (3, .int a), (0, .ref (z 0)), (1, .int (nI b)), (2, .int x)] → W p l e ({ frames := 1, cells := 0, slots := 0, locals := 21 } : Room) s m args below meth c0 s.heap [] 0 0 (QRi below args s (gFo gs b x)) (F0 m 5 ls []) := by
    intro n
    induction n with
    | zero => intro i a hi hn ha ls hl; exact absurd hn (by omega)
    | succ n ih5 =>
      intro i a hi hn ha ls hl
      refine lv_iload hx hb dX5_fellOf_5 (lv_at hl 0 rfl) ?_
      refine lv_aload_n hx hb dX5_fellOf_7 rfl (lv_at hl 2 rfl) ?_
      refine va_get (D := D) (ci := 5) (v := .int (nI (gT gs))) (C := RX5) (T := TX5) (N := 19) hx hb hts hin5 hown hK.1 hP 0 rfl rfl 2 (by decide) (hts (.fieldLink RX5 52 "TestPickerModel" "tests" "I") (by decide +kernel)) (fun _ h9 => h9) rfl dX5_fellOf_8 ?_
      refine lv_icmp_ge (tgt := 56) hx hb dX5_fellOf_11 (by decide) (fun c11 => ?_) (fun c11 => ?_)
      · -- 11 True
        have c11 : (gT gs) ≤ i := (nI_leI (a := (gT gs)) (b := i) (by omega) (by omega)).mp c11
        refine lv_iload_n hx hb dX5_fellOf_56 rfl (lv_at hl 1 rfl) ?_
        exact ro_reti hx hb hr hlk (by rw [ha, show i = gT gs by omega]) dX5_fellOf_57
      · -- 11 False
        have c11 : i < (gT gs) := (Nat.not_le.mp (fun z => c11 ((nI_leI (a := (gT gs)) (b := i) (by omega) (by omega)).mpr z)))
        refine lv_iload_n hx hb dX5_fellOf_14 rfl (lv_at hl 1 rfl) ?_
        refine lv_iload_n hx hb dX5_fellOf_15 rfl (lv_at hl 4 rfl) ?_
        refine lv_iload hx hb dX5_fellOf_16 (lv_at hl 0 rfl) ?_
        refine ro_Si (As := [.int x, .int (nI i)]) (rest := [.int a]) ⟨hx, hb, hml, hown, hts⟩ (c_X5_has l D c x i (by omega)) (va_cwS 2 hts gX5_fellOf_X5_has rfl rfl rfl (by decide +kernel) ⟨Nat.le_of_ble_eq_true rfl, Nat.le_of_ble_eq_true rfl⟩) va_P0 hK rfl hl.1 rfl (Nat.le_of_ble_eq_true rfl) dX5_fellOf_18 ⟨Nat.le_of_ble_eq_true rfl, Nat.le_of_ble_eq_true rfl⟩ ?_
        refine lv_if_eq (tgt := 47) hx hb dX5_fellOf_21 (by decide) (fun c21 => ?_) (fun c21 => ?_)
        · -- 21 True
          have c21 := bI_z.mp c21
          refine lv_iconst (v := 0) hx hb dX5_fellOf_47 (by decide) ?_
          refine lv_ior hx hb dX5_fellOf_48 ?_
          refine lv_istore_n (lv' := [(3, .int (a ||| 0)), (4, .int (nI i)), (0, .ref (z 0)), (1, .int (nI b)), (2, .int x)]) hx hb dX5_fellOf_49 rfl hl (by decide) rfl (fun ls hl => ?_)
          refine lv_iinc (v := nI (i + 1)) (lv' := [(4, .int (nI (i + 1))), (3, .int (a ||| 0)), (0, .ref (z 0)), (1, .int (nI b)), (2, .int x)]) hx hb dX5_fellOf_50 hl (k := 1) rfl (nI_inc _) (by decide) rfl (fun ls hl => ?_)
          refine lv_goto (tgt := 5) hx hb dX5_fellOf_53 (by decide) ?_
          exact ih5 (i + 1) (a ||| 0) (by omega) (by omega) (by rw [ha]; simp [orI, oneE, c21]) ls (lv_sub hl [0, 1, 2, 3, 4] rfl)
        · -- 21 False
          have c21 := bI_nz.mp c21
          refine lv_aload_n hx hb dX5_fellOf_24 rfl (lv_at hl 2 rfl) ?_
          refine va_get (D := D) (ci := 5) (v := .ref (z 8)) (C := RX5) (T := TX5) (N := 19) hx hb hts hin5 hown hK.1 hP 0 rfl rfl 10 (by decide) (hts (.fieldLink RX5 33 "TestPickerModel" "verdicts" "[I") (by decide +kernel)) (fun _ h9 => h9) rfl dX5_fellOf_25 ?_
          refine lv_bipush (v := 20) hx hb dX5_fellOf_28 (by decide) ?_
          refine lv_iload_n hx hb dX5_fellOf_30 rfl (lv_at hl 3 rfl) ?_
          refine lv_imul hx hb dX5_fellOf_31 ?_
          refine lv_iload hx hb dX5_fellOf_32 (lv_at hl 0 rfl) ?_
          refine lv_iadd hx hb dX5_fellOf_34 ?_
          refine tp_i (z := nI (20 * b + i)) (ix20 _ _) ?_
          refine ld_i hx hb hK hP 8 (f := gVe gs) rfl (i := (20 * b + i)) (by omega) (by decide) dX5_fellOf_35 ?_
          refine lv_iconst (v := 1) hx hb dX5_fellOf_36 (by decide) ?_
          refine lv_icmp_ne (tgt := 47) hx hb dX5_fellOf_37 (by decide) (fun c37 => ?_) (fun c37 => ?_)
          · -- 37 True
            refine lv_iconst (v := 0) hx hb dX5_fellOf_47 (by decide) ?_
            refine lv_ior hx hb dX5_fellOf_48 ?_
            refine lv_istore_n (lv' := [(3, .int (a ||| 0)), (4, .int (nI i)), (0, .ref (z 0)), (1, .int (nI b)), (2, .int x)]) hx hb dX5_fellOf_49 rfl hl (by decide) rfl (fun ls hl => ?_)
            refine lv_iinc (v := nI (i + 1)) (lv' := [(4, .int (nI (i + 1))), (3, .int (a ||| 0)), (0, .ref (z 0)), (1, .int (nI b)), (2, .int x)]) hx hb dX5_fellOf_50 hl (k := 1) rfl (nI_inc _) (by decide) rfl (fun ls hl => ?_)
            refine lv_goto (tgt := 5) hx hb dX5_fellOf_53 (by decide) ?_
            exact ih5 (i + 1) (a ||| 0) (by omega) (by omega) (by rw [ha]; simp [orI, oneE, c21, c37]) ls (lv_sub hl [0, 1, 2, 3, 4] rfl)
          · -- 37 False
            refine lv_iconst (v := 1) hx hb dX5_fellOf_40 (by decide) ?_
            refine lv_iload hx hb dX5_fellOf_41 (lv_at hl 0 rfl) ?_
            refine lv_ishl hx hb dX5_fellOf_43 ?_
            refine lv_goto (tgt := 48) hx hb dX5_fellOf_44 (by decide) ?_
            refine lv_ior hx hb dX5_fellOf_48 ?_
            refine lv_istore_n (lv' := [(3, .int (a ||| ((1 : Int32) <<< (nI i &&& 31)))), (4, .int (nI i)), (0, .ref (z 0)), (1, .int (nI b)), (2, .int x)]) hx hb dX5_fellOf_49 rfl hl (by decide) rfl (fun ls hl => ?_)
            refine lv_iinc (v := nI (i + 1)) (lv' := [(4, .int (nI (i + 1))), (3, .int (a ||| ((1 : Int32) <<< (nI i &&& 31)))), (0, .ref (z 0)), (1, .int (nI b)), (2, .int x)]) hx hb dX5_fellOf_50 hl (k := 1) rfl (nI_inc _) (by decide) rfl (fun ls hl => ?_)
            refine lv_goto (tgt := 5) hx hb dX5_fellOf_53 (by decide) ?_
            exact ih5 (i + 1) (a ||| ((1 : Int32) <<< (nI i &&& 31))) (by omega) (by omega) (by rw [ha]; simp [orI, oneE, c21, c37]) ls (lv_sub hl [0, 1, 2, 3, 4] rfl)
  exact L5 (gT gs + 1) 0 0 (by omega) (by omega) (rfl) ls (lv_sub hl [0, 1, 2, 3, 4] rfl)

set_option maxHeartbeats 4000000 in
set_option maxRecDepth 100000 in
theorem c_X5_counting (l : Launch) (D : va_G) (z : Nat → Nat) (c : CT) (gs : GS) (hT : gT gs ≤ 20) (hB60 : gB gs ≤ 60) : ROi l yX5_counting wsX5_counting ({ frames := 2, cells := 0, slots := 0, locals := 52 } : Room) [.ref (z 0)] D c (wG z c gs) (gCo gs) := by
  refine ro_starti (cc := cX5_counting) (maxL := 3) (ret := some .int) (by decide) rfl (Nat.le_of_ble_eq_true rfl) ?_
  intro p e s m args below meth c0 ls hx hb hr hml hown hts hlk hP hK hl
  have hown : s.vm.findClass RX5 = some m.cls := hown
  have hl : lv_has ls 3 [(0, .ref (z 0))] := hl
  have hin5 : ∀ w ∈ wsX50, w ∈ wsX5_counting := by decide +kernel
  refine lv_iconst (v := 0) hx hb dX5_counting_0 (by decide) ?_
  refine lv_istore_n (lv' := [(1, .int 0), (0, .ref (z 0))]) hx hb dX5_counting_1 rfl hl (by decide) rfl (fun ls hl => ?_)
  refine lv_iconst (v := 0) hx hb dX5_counting_2 (by decide) ?_
  refine lv_istore_n (lv' := [(2, .int 0), (1, .int 0), (0, .ref (z 0))]) hx hb dX5_counting_3 rfl hl (by decide) rfl (fun ls hl => ?_)
  have L4 : ∀ (n : Nat) (i : Nat) (a : Int32), (i ≤ gT gs) → (gT gs < i + n) → (a = orI (fun t => !decide (gKd gs t = 3) && !gFk gs t) i) → ∀ ls : Array Slot, lv_has ls 3 [(2, .int (nI i)), (1, .int a), (0, .ref (z 0))] → W p l e ({ frames := 2, cells := 0, slots := 0, locals := 52 } : Room) s m args below meth c0 s.heap [] 0 0 (QRi below args s (gCo gs)) (F0 m 4 ls []) := by
    intro n
    induction n with
    | zero => intro i a hi hn ha ls hl; exact absurd hn (by omega)
    | succ n ih4 =>
      intro i a hi hn ha ls hl
      refine lv_iload_n hx hb dX5_counting_4 rfl (lv_at hl 0 rfl) ?_
      refine lv_aload_n hx hb dX5_counting_5 rfl (lv_at hl 2 rfl) ?_
      refine va_get (D := D) (ci := 5) (v := .int (nI (gT gs))) (C := RX5) (T := TX5) (N := 19) hx hb hts hin5 hown hK.1 hP 0 rfl rfl 2 (by decide) (hts (.fieldLink RX5 52 "TestPickerModel" "tests" "I") (by decide +kernel)) (fun _ h9 => h9) rfl dX5_counting_6 ?_
      refine lv_icmp_ge (tgt := 46) hx hb dX5_counting_9 (by decide) (fun c9 => ?_) (fun c9 => ?_)
      · -- 9 True
        have c9 : (gT gs) ≤ i := (nI_leI (a := (gT gs)) (b := i) (by omega) (by omega)).mp c9
        refine lv_iload_n hx hb dX5_counting_46 rfl (lv_at hl 1 rfl) ?_
        exact ro_reti hx hb hr hlk (by rw [ha, show i = gT gs by omega]) dX5_counting_47
      · -- 9 False
        have c9 : i < (gT gs) := (Nat.not_le.mp (fun z => c9 ((nI_leI (a := (gT gs)) (b := i) (by omega) (by omega)).mpr z)))
        refine lv_iload_n hx hb dX5_counting_12 rfl (lv_at hl 1 rfl) ?_
        refine lv_aload_n hx hb dX5_counting_13 rfl (lv_at hl 2 rfl) ?_
        refine va_get (D := D) (ci := 5) (v := .ref (z 2)) (C := RX5) (T := TX5) (N := 19) hx hb hts hin5 hown hK.1 hP 0 rfl rfl 3 (by decide) (hts (.fieldLink RX5 13 "TestPickerModel" "kinds" "[I") (by decide +kernel)) (fun _ h9 => h9) rfl dX5_counting_14 ?_
        refine lv_iload_n hx hb dX5_counting_17 rfl (lv_at hl 0 rfl) ?_
        refine ld_i hx hb hK hP 2 (f := gKd gs) rfl (i := i) (by omega) (by decide) dX5_counting_18 ?_
        refine lv_iconst (v := 3) hx hb dX5_counting_19 (by decide) ?_
        refine lv_icmp_eq (tgt := 37) hx hb dX5_counting_20 (by decide) (fun c20 => ?_) (fun c20 => ?_)
        · -- 20 True
          refine lv_iconst (v := 0) hx hb dX5_counting_37 (by decide) ?_
          refine lv_ior hx hb dX5_counting_38 ?_
          refine lv_istore_n (lv' := [(1, .int (a ||| 0)), (2, .int (nI i)), (0, .ref (z 0))]) hx hb dX5_counting_39 rfl hl (by decide) rfl (fun ls hl => ?_)
          refine lv_iinc (v := nI (i + 1)) (lv' := [(2, .int (nI (i + 1))), (1, .int (a ||| 0)), (0, .ref (z 0))]) hx hb dX5_counting_40 hl (k := 1) rfl (nI_inc _) (by decide) rfl (fun ls hl => ?_)
          refine lv_goto (tgt := 4) hx hb dX5_counting_43 (by decide) ?_
          exact ih4 (i + 1) (a ||| 0) (by omega) (by omega) (by rw [ha]; simp [orI, oneE, c20]) ls (lv_sub hl [0, 1, 2] rfl)
        · -- 20 False
          refine lv_aload_n hx hb dX5_counting_23 rfl (lv_at hl 2 rfl) ?_
          refine lv_iload_n hx hb dX5_counting_24 rfl (lv_at hl 0 rfl) ?_
          refine ro_Vi (post := bI (gFk gs i)) (As := [.int (nI i)]) (rest := [.int a]) ⟨hx, hb, hml, hown, hts⟩ (c_X5_isFlaky l D z c gs i (by omega) (by omega)) (cwV 1 hts gX5_counting_X5_isFlaky rfl rfl rfl (by decide +kernel) ⟨Nat.le_of_ble_eq_true rfl, Nat.le_of_ble_eq_true rfl⟩) hP hK (va_recv hK.1 hP (ci := 5) (q0 := 0) rfl rfl) rfl hl.1 rfl (Nat.le_of_ble_eq_true rfl) dX5_counting_25 ⟨Nat.le_of_ble_eq_true rfl, Nat.le_of_ble_eq_true rfl⟩ ?_
          refine lv_if_ne (tgt := 37) hx hb dX5_counting_28 (by decide) (fun c28 => ?_) (fun c28 => ?_)
          · -- 28 True
            have c28 := bI_nz.mp c28
            refine lv_iconst (v := 0) hx hb dX5_counting_37 (by decide) ?_
            refine lv_ior hx hb dX5_counting_38 ?_
            refine lv_istore_n (lv' := [(1, .int (a ||| 0)), (2, .int (nI i)), (0, .ref (z 0))]) hx hb dX5_counting_39 rfl hl (by decide) rfl (fun ls hl => ?_)
            refine lv_iinc (v := nI (i + 1)) (lv' := [(2, .int (nI (i + 1))), (1, .int (a ||| 0)), (0, .ref (z 0))]) hx hb dX5_counting_40 hl (k := 1) rfl (nI_inc _) (by decide) rfl (fun ls hl => ?_)
            refine lv_goto (tgt := 4) hx hb dX5_counting_43 (by decide) ?_
            exact ih4 (i + 1) (a ||| 0) (by omega) (by omega) (by rw [ha]; simp [orI, oneE, c20, c28]) ls (lv_sub hl [0, 1, 2] rfl)
          · -- 28 False
            have c28 := bI_z.mp c28
            refine lv_iconst (v := 1) hx hb dX5_counting_31 (by decide) ?_
            refine lv_iload_n hx hb dX5_counting_32 rfl (lv_at hl 0 rfl) ?_
            refine lv_ishl hx hb dX5_counting_33 ?_
            refine lv_goto (tgt := 38) hx hb dX5_counting_34 (by decide) ?_
            refine lv_ior hx hb dX5_counting_38 ?_
            refine lv_istore_n (lv' := [(1, .int (a ||| ((1 : Int32) <<< (nI i &&& 31)))), (2, .int (nI i)), (0, .ref (z 0))]) hx hb dX5_counting_39 rfl hl (by decide) rfl (fun ls hl => ?_)
            refine lv_iinc (v := nI (i + 1)) (lv' := [(2, .int (nI (i + 1))), (1, .int (a ||| ((1 : Int32) <<< (nI i &&& 31)))), (0, .ref (z 0))]) hx hb dX5_counting_40 hl (k := 1) rfl (nI_inc _) (by decide) rfl (fun ls hl => ?_)
            refine lv_goto (tgt := 4) hx hb dX5_counting_43 (by decide) ?_
            exact ih4 (i + 1) (a ||| ((1 : Int32) <<< (nI i &&& 31))) (by omega) (by omega) (by rw [ha]; simp [orI, oneE, c20, c28]) ls (lv_sub hl [0, 1, 2] rfl)
  exact L4 (gT gs + 1) 0 0 (by omega) (by omega) (rfl) ls (lv_sub hl [0, 1, 2] rfl)
