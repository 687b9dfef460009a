/-! the law's calls, case by case -/
set_option maxHeartbeats 4000000 in
set_option maxRecDepth 100000 in
theorem lw_k14 {p : Program} {l : Launch} {e : Env} {s : State} {m : MethodId} {b : Nat} {below : List Frame} {meth : Method} {c0 : Code} {H : Heap} {locs : List Loc} {L : Nat} {xs : Nat → Int32} {D : va_G} {c : CT} {q z : Nat → Nat} {xc : CS} {g : GS} {ls : Array Slot} {i : Nat} (hL : L ≤ 3072) (C0 : lw_At p s m meth c0 b L xs) (hK : KK D c s) (hi : i + 6 ≤ L) (hR : Rel xc g) (hh : LwH s D c q z xc g H locs) (hl : lv_has ls 4 (LwL b i q z))
    (kk : ∀ (xd : CS) (g1 : GS) (H1 : Heap) (locs1 : List Loc), Rel xd g1 → LwH s D c q z xd g1 H1 locs1 → LW p l e s m b below meth c0 H1 locs1 (F0 m 942 ls [])) : LW p l e s m b below meth c0 H locs (F0 m 678 ls []) := by
  obtain ⟨ms, ts, hs, ps, ss⟩ := xc
  obtain ⟨hx, hb, hr, hml, hown, hts, hX, hbl, hlk, hgv⟩ := id C0
  have hown : s.vm.findClass RL = some m.cls := hown
  refine lv_aload_n hx hb dL_law_678 rfl (lv_at hl 1 rfl) ?_
  refine lw_arg C0 hL 1 (by decide) (by omega) hh hl dL_law_679 dL_law_680 dL_law_681 dL_law_682 dL_law_683 ?_
  refine lwXi (As := [.int (xs (i + 1))]) (rest := []) C0 hK hh (c_X4_pick l D q c ms ts hs ps ss (xs (i + 1)) (rl_T hR) (rl_B hR)) (cwV 1 hts gL_X4_pick rfl rfl rfl (by decide +kernel) ⟨Nat.le_of_ble_eq_true rfl, Nat.le_of_ble_eq_true rfl⟩) rfl hl.1 rfl (Nat.le_of_ble_eq_true rfl) dL_law_684 (fun H locs hh => ?_)
  refine lv_aload_n hx hb dL_law_687 rfl (lv_at hl 2 rfl) ?_
  refine lw_arg C0 hL 1 (by decide) (by omega) hh hl dL_law_688 dL_law_689 dL_law_690 dL_law_691 dL_law_692 ?_
  refine lwGi (As := [.int (xs (i + 1))]) C0 hK hh (c_X5_pick l D z c g (xs (i + 1)) hR.T20 hR.B60 (rl_W hR)) (cwV 1 hts gL_X5_pick rfl rfl rfl (by decide +kernel) ⟨Nat.le_of_ble_eq_true rfl, Nat.le_of_ble_eq_true rfl⟩) rfl hl.1 rfl (Nat.le_of_ble_eq_true rfl) dL_law_693 (fun H locs hh => ?_)
  exact lv_icmp_eq (tgt := 942) hx hb dL_law_696 (by decide) (fun _ => kk _ _ _ _ (st_pick hR (xs (i + 1))).2 hh) (fun h9 => absurd (st_pick hR (xs (i + 1))).1 h9)
set_option maxHeartbeats 4000000 in
set_option maxRecDepth 100000 in
theorem lw_k15 {p : Program} {l : Launch} {e : Env} {s : State} {m : MethodId} {b : Nat} {below : List Frame} {meth : Method} {c0 : Code} {H : Heap} {locs : List Loc} {L : Nat} {xs : Nat → Int32} {D : va_G} {c : CT} {q z : Nat → Nat} {xc : CS} {g : GS} {ls : Array Slot} {i : Nat} (hL : L ≤ 3072) (C0 : lw_At p s m meth c0 b L xs) (hK : KK D c s) (hi : i + 6 ≤ L) (hR : Rel xc g) (hh : LwH s D c q z xc g H locs) (hl : lv_has ls 4 (LwL b i q z))
    (kk : ∀ (xd : CS) (g1 : GS) (H1 : Heap) (locs1 : List Loc), Rel xd g1 → LwH s D c q z xd g1 H1 locs1 → LW p l e s m b below meth c0 H1 locs1 (F0 m 942 ls [])) : LW p l e s m b below meth c0 H locs (F0 m 701 ls []) := by
  obtain ⟨ms, ts, hs, ps, ss⟩ := xc
  obtain ⟨hx, hb, hr, hml, hown, hts, hX, hbl, hlk, hgv⟩ := id C0
  have hown : s.vm.findClass RL = some m.cls := hown
  refine lv_aload_n hx hb dL_law_701 rfl (lv_at hl 1 rfl) ?_
  refine lw_arg C0 hL 1 (by decide) (by omega) hh hl dL_law_702 dL_law_703 dL_law_704 dL_law_705 dL_law_706 ?_
  refine lwXr (As := [.int (xs (i + 1))]) (rest := []) C0 hK hh (c_X4_picked l D q c ms ts hs ps ss (xs (i + 1)) (rl_N hR)) (cwV 1 hts gL_X4_picked rfl rfl rfl (by decide +kernel) ⟨Nat.le_of_ble_eq_true rfl, Nat.le_of_ble_eq_true rfl⟩) rfl hl.1 rfl (Nat.le_of_ble_eq_true rfl) dL_law_707 ?_
  refine lv_aload_n hx hb dL_law_710 rfl (lv_at hl 2 rfl) ?_
  refine lw_arg C0 hL 1 (by decide) (by omega) hh hl dL_law_711 dL_law_712 dL_law_713 dL_law_714 dL_law_715 ?_
  refine lwGr (As := [.int (xs (i + 1))]) C0 hK hh (c_X5_picked l D z c g (xs (i + 1)) (rl_m hR)) (cwV 1 hts gL_X5_picked rfl rfl rfl (by decide +kernel) ⟨Nat.le_of_ble_eq_true rfl, Nat.le_of_ble_eq_true rfl⟩) rfl hl.1 rfl (Nat.le_of_ble_eq_true rfl) dL_law_716 ?_
  exact lv_icmp_eq (tgt := 942) hx hb dL_law_719 (by decide) (fun _ => kk _ _ _ _ hR hh) (fun h9 => absurd (st_picked hR (xs (i + 1))) h9)
set_option maxHeartbeats 4000000 in
set_option maxRecDepth 100000 in
theorem lw_k16 {p : Program} {l : Launch} {e : Env} {s : State} {m : MethodId} {b : Nat} {below : List Frame} {meth : Method} {c0 : Code} {H : Heap} {locs : List Loc} {L : Nat} {xs : Nat → Int32} {D : va_G} {c : CT} {q z : Nat → Nat} {xc : CS} {g : GS} {ls : Array Slot} {i : Nat} (hL : L ≤ 3072) (C0 : lw_At p s m meth c0 b L xs) (hK : KK D c s) (hi : i + 6 ≤ L) (hR : Rel xc g) (hh : LwH s D c q z xc g H locs) (hl : lv_has ls 4 (LwL b i q z))
    (kk : ∀ (xd : CS) (g1 : GS) (H1 : Heap) (locs1 : List Loc), Rel xd g1 → LwH s D c q z xd g1 H1 locs1 → LW p l e s m b below meth c0 H1 locs1 (F0 m 942 ls [])) : LW p l e s m b below meth c0 H locs (F0 m 724 ls []) := by
  obtain ⟨ms, ts, hs, ps, ss⟩ := xc
  obtain ⟨hx, hb, hr, hml, hown, hts, hX, hbl, hlk, hgv⟩ := id C0
  have hown : s.vm.findClass RL = some m.cls := hown
  refine lv_aload_n hx hb dL_law_724 rfl (lv_at hl 1 rfl) ?_
  refine lw_arg C0 hL 1 (by decide) (by omega) hh hl dL_law_725 dL_law_726 dL_law_727 dL_law_728 dL_law_729 ?_
  refine lwXr (As := [.int (xs (i + 1))]) (rest := []) C0 hK hh (c_X4_about l D q c ms ts hs ps ss (xs (i + 1)) ) (cwV 1 hts gL_X4_about rfl rfl rfl (by decide +kernel) ⟨Nat.le_of_ble_eq_true rfl, Nat.le_of_ble_eq_true rfl⟩) rfl hl.1 rfl (Nat.le_of_ble_eq_true rfl) dL_law_730 ?_
  refine lv_aload_n hx hb dL_law_733 rfl (lv_at hl 2 rfl) ?_
  refine lw_arg C0 hL 1 (by decide) (by omega) hh hl dL_law_734 dL_law_735 dL_law_736 dL_law_737 dL_law_738 ?_
  refine lwGr (As := [.int (xs (i + 1))]) C0 hK hh (c_X5_about l D z c g (xs (i + 1)) ) (cwV 1 hts gL_X5_about rfl rfl rfl (by decide +kernel) ⟨Nat.le_of_ble_eq_true rfl, Nat.le_of_ble_eq_true rfl⟩) rfl hl.1 rfl (Nat.le_of_ble_eq_true rfl) dL_law_739 ?_
  exact lv_icmp_eq (tgt := 942) hx hb dL_law_742 (by decide) (fun _ => kk _ _ _ _ hR hh) (fun h9 => absurd (st_about hR (xs (i + 1))) h9)
set_option maxHeartbeats 4000000 in
set_option maxRecDepth 100000 in
theorem lw_k17 {p : Program} {l : Launch} {e : Env} {s : State} {m : MethodId} {b : Nat} {below : List Frame} {meth : Method} {c0 : Code} {H : Heap} {locs : List Loc} {L : Nat} {xs : Nat → Int32} {D : va_G} {c : CT} {q z : Nat → Nat} {xc : CS} {g : GS} {ls : Array Slot} {i : Nat} (hL : L ≤ 3072) (C0 : lw_At p s m meth c0 b L xs) (hK : KK D c s) (hi : i + 6 ≤ L) (hR : Rel xc g) (hh : LwH s D c q z xc g H locs) (hl : lv_has ls 4 (LwL b i q z))
    (kk : ∀ (xd : CS) (g1 : GS) (H1 : Heap) (locs1 : List Loc), Rel xd g1 → LwH s D c q z xd g1 H1 locs1 → LW p l e s m b below meth c0 H1 locs1 (F0 m 942 ls [])) : LW p l e s m b below meth c0 H locs (F0 m 747 ls []) := by
  obtain ⟨ms, ts, hs, ps, ss⟩ := xc
  obtain ⟨hx, hb, hr, hml, hown, hts, hX, hbl, hlk, hgv⟩ := id C0
  have hown : s.vm.findClass RL = some m.cls := hown
  refine lv_aload_n hx hb dL_law_747 rfl (lv_at hl 1 rfl) ?_
  refine lw_arg C0 hL 1 (by decide) (by omega) hh hl dL_law_748 dL_law_749 dL_law_750 dL_law_751 dL_law_752 ?_
  refine lwXi (As := [.int (xs (i + 1))]) (rest := []) C0 hK hh (c_X4_best l D q c ms ts hs ps ss (xs (i + 1)) (rl_T hR) (rl_B hR)) (cwV 1 hts gL_X4_best rfl rfl rfl (by decide +kernel) ⟨Nat.le_of_ble_eq_true rfl, Nat.le_of_ble_eq_true rfl⟩) rfl hl.1 rfl (Nat.le_of_ble_eq_true rfl) dL_law_753 (fun H locs hh => ?_)
  refine lv_aload_n hx hb dL_law_756 rfl (lv_at hl 2 rfl) ?_
  refine lw_arg C0 hL 1 (by decide) (by omega) hh hl dL_law_757 dL_law_758 dL_law_759 dL_law_760 dL_law_761 ?_
  refine lwGi (As := [.int (xs (i + 1))]) C0 hK hh (c_X5_best l D z c g (xs (i + 1)) hR.T20 hR.B60 (rl_W hR)) (cwV 1 hts gL_X5_best rfl rfl rfl (by decide +kernel) ⟨Nat.le_of_ble_eq_true rfl, Nat.le_of_ble_eq_true rfl⟩) rfl hl.1 rfl (Nat.le_of_ble_eq_true rfl) dL_law_762 (fun H locs hh => ?_)
  exact lv_icmp_eq (tgt := 942) hx hb dL_law_765 (by decide) (fun _ => kk _ _ _ _ (st_best hR (xs (i + 1))).2 hh) (fun h9 => absurd (st_best hR (xs (i + 1))).1 h9)
set_option maxHeartbeats 4000000 in
set_option maxRecDepth 100000 in
theorem lw_k18 {p : Program} {l : Launch} {e : Env} {s : State} {m : MethodId} {b : Nat} {below : List Frame} {meth : Method} {c0 : Code} {H : Heap} {locs : List Loc} {L : Nat} {xs : Nat → Int32} {D : va_G} {c : CT} {q z : Nat → Nat} {xc : CS} {g : GS} {ls : Array Slot} {i : Nat} (hL : L ≤ 3072) (C0 : lw_At p s m meth c0 b L xs) (hK : KK D c s) (hi : i + 6 ≤ L) (hR : Rel xc g) (hh : LwH s D c q z xc g H locs) (hl : lv_has ls 4 (LwL b i q z))
    (kk : ∀ (xd : CS) (g1 : GS) (H1 : Heap) (locs1 : List Loc), Rel xd g1 → LwH s D c q z xd g1 H1 locs1 → LW p l e s m b below meth c0 H1 locs1 (F0 m 942 ls [])) : LW p l e s m b below meth c0 H locs (F0 m 770 ls []) := by
  obtain ⟨ms, ts, hs, ps, ss⟩ := xc
  obtain ⟨hx, hb, hr, hml, hown, hts, hX, hbl, hlk, hgv⟩ := id C0
  have hown : s.vm.findClass RL = some m.cls := hown
  refine lv_aload_n hx hb dL_law_770 rfl (lv_at hl 1 rfl) ?_
  refine lw_arg C0 hL 1 (by decide) (by omega) hh hl dL_law_771 dL_law_772 dL_law_773 dL_law_774 dL_law_775 ?_
  refine lwXi (As := [.int (xs (i + 1))]) (rest := []) C0 hK hh (c_X4_run l D q c ms ts hs ps ss (xs (i + 1)) (rl_T hR) (rl_B hR) (rl_N hR) (rl_rowc hR) (rl_th hR)) (cwV 1 hts gL_X4_run rfl rfl rfl (by decide +kernel) ⟨Nat.le_of_ble_eq_true rfl, Nat.le_of_ble_eq_true rfl⟩) rfl hl.1 rfl (Nat.le_of_ble_eq_true rfl) dL_law_776 (fun H locs hh => ?_)
  refine lv_aload_n hx hb dL_law_779 rfl (lv_at hl 2 rfl) ?_
  refine lw_arg C0 hL 1 (by decide) (by omega) hh hl dL_law_780 dL_law_781 dL_law_782 dL_law_783 dL_law_784 ?_
  refine lwGi (As := [.int (xs (i + 1))]) C0 hK hh (c_X5_run l D z c g (xs (i + 1)) (pN ps) hR.T20 hR.B60 (rl_W hR) (rl_N hR) (rl_pm hR) (rl_row hR) (rl_b0 hR)) (cwV 1 hts gL_X5_run rfl rfl rfl (by decide +kernel) ⟨Nat.le_of_ble_eq_true rfl, Nat.le_of_ble_eq_true rfl⟩) rfl hl.1 rfl (Nat.le_of_ble_eq_true rfl) dL_law_785 (fun H locs hh => ?_)
  exact lv_icmp_eq (tgt := 942) hx hb dL_law_788 (by decide) (fun _ => kk _ _ _ _ (st_run hR (xs (i + 1))).2 hh) (fun h9 => absurd (st_run hR (xs (i + 1))).1 h9)
set_option maxHeartbeats 4000000 in
set_option maxRecDepth 100000 in
theorem lw_k19 {p : Program} {l : Launch} {e : Env} {s : State} {m : MethodId} {b : Nat} {below : List Frame} {meth : Method} {c0 : Code} {H : Heap} {locs : List Loc} {L : Nat} {xs : Nat → Int32} {D : va_G} {c : CT} {q z : Nat → Nat} {xc : CS} {g : GS} {ls : Array Slot} {i : Nat} (hL : L ≤ 3072) (C0 : lw_At p s m meth c0 b L xs) (hK : KK D c s) (hi : i + 6 ≤ L) (hR : Rel xc g) (hh : LwH s D c q z xc g H locs) (hl : lv_has ls 4 (LwL b i q z))
    (kk : ∀ (xd : CS) (g1 : GS) (H1 : Heap) (locs1 : List Loc), Rel xd g1 → LwH s D c q z xd g1 H1 locs1 → LW p l e s m b below meth c0 H1 locs1 (F0 m 942 ls [])) : LW p l e s m b below meth c0 H locs (F0 m 793 ls []) := by
  obtain ⟨ms, ts, hs, ps, ss⟩ := xc
  obtain ⟨hx, hb, hr, hml, hown, hts, hX, hbl, hlk, hgv⟩ := id C0
  have hown : s.vm.findClass RL = some m.cls := hown
  refine lv_aload_n hx hb dL_law_793 rfl (lv_at hl 1 rfl) ?_
  refine lwXi (As := []) (rest := []) C0 hK hh (c_X4_suspects l D q c ms ts hs ps ss  (rl_T hR) (rl_B hR)) (cwV 0 hts gL_X4_suspects rfl rfl rfl (by decide +kernel) ⟨Nat.le_of_ble_eq_true rfl, Nat.le_of_ble_eq_true rfl⟩) rfl hl.1 rfl (Nat.le_of_ble_eq_true rfl) dL_law_794 (fun H locs hh => ?_)
  refine lv_aload_n hx hb dL_law_797 rfl (lv_at hl 2 rfl) ?_
  refine lwGi (As := []) C0 hK hh (c_X5_suspects l D z c g  hR.T20 hR.B60) (cwV 0 hts gL_X5_suspects rfl rfl rfl (by decide +kernel) ⟨Nat.le_of_ble_eq_true rfl, Nat.le_of_ble_eq_true rfl⟩) rfl hl.1 rfl (Nat.le_of_ble_eq_true rfl) dL_law_798 (fun H locs hh => ?_)
  exact lv_icmp_eq (tgt := 942) hx hb dL_law_801 (by decide) (fun _ => kk _ _ _ _ (st_suspects hR ).2 hh) (fun h9 => absurd (st_suspects hR ).1 h9)
set_option maxHeartbeats 4000000 in
set_option maxRecDepth 100000 in
theorem lw_k20 {p : Program} {l : Launch} {e : Env} {s : State} {m : MethodId} {b : Nat} {below : List Frame} {meth : Method} {c0 : Code} {H : Heap} {locs : List Loc} {L : Nat} {xs : Nat → Int32} {D : va_G} {c : CT} {q z : Nat → Nat} {xc : CS} {g : GS} {ls : Array Slot} {i : Nat} (hL : L ≤ 3072) (C0 : lw_At p s m meth c0 b L xs) (hK : KK D c s) (hi : i + 6 ≤ L) (hR : Rel xc g) (hh : LwH s D c q z xc g H locs) (hl : lv_has ls 4 (LwL b i q z))
    (kk : ∀ (xd : CS) (g1 : GS) (H1 : Heap) (locs1 : List Loc), Rel xd g1 → LwH s D c q z xd g1 H1 locs1 → LW p l e s m b below meth c0 H1 locs1 (F0 m 942 ls [])) : LW p l e s m b below meth c0 H locs (F0 m 806 ls []) := by
  obtain ⟨ms, ts, hs, ps, ss⟩ := xc
  obtain ⟨hx, hb, hr, hml, hown, hts, hX, hbl, hlk, hgv⟩ := id C0
  have hown : s.vm.findClass RL = some m.cls := hown
  refine lv_aload_n hx hb dL_law_806 rfl (lv_at hl 1 rfl) ?_
  refine lwXr (As := []) (rest := []) C0 hK hh (c_X4_badWork l D q c ms ts hs ps ss  (rl_T hR) (rl_B hR)) (cwV 0 hts gL_X4_badWork rfl rfl rfl (by decide +kernel) ⟨Nat.le_of_ble_eq_true rfl, Nat.le_of_ble_eq_true rfl⟩) rfl hl.1 rfl (Nat.le_of_ble_eq_true rfl) dL_law_807 ?_
  refine lv_aload_n hx hb dL_law_810 rfl (lv_at hl 2 rfl) ?_
  refine lwGr (As := []) C0 hK hh (c_X5_badWork l D z c g  hR.T20 hR.B60) (cwV 0 hts gL_X5_badWork rfl rfl rfl (by decide +kernel) ⟨Nat.le_of_ble_eq_true rfl, Nat.le_of_ble_eq_true rfl⟩) rfl hl.1 rfl (Nat.le_of_ble_eq_true rfl) dL_law_811 ?_
  exact lv_icmp_eq (tgt := 942) hx hb dL_law_814 (by decide) (fun _ => kk _ _ _ _ hR hh) (fun h9 => absurd (st_badWork hR ) h9)
