/-! the law's calls, case by case -/
set_option maxHeartbeats 4000000 in
set_option maxRecDepth 100000 in
theorem lw_k21 {p : Program} {l : Launch} {e : Env} {s : State} {m : MethodId} {b : Nat} {below : List Frame} {meth : Method} {c0 : Code} {H : Heap} {locs : List Loc} {L : Nat} {xs : Nat → Int32} {D : va_G} {c : CT} {q z : Nat → Nat} {xc : CS} {g : GS} {ls : Array Slot} {i : Nat} (hL : L ≤ 3072) (C0 : lw_At p s m meth c0 b L xs) (hK : KK D c s) (hi : i + 6 ≤ L) (hR : Rel xc g) (hh : LwH s D c q z xc g H locs) (hl : lv_has ls 4 (LwL b i q z))
    (kk : ∀ (xd : CS) (g1 : GS) (H1 : Heap) (locs1 : List Loc), Rel xd g1 → LwH s D c q z xd g1 H1 locs1 → LW p l e s m b below meth c0 H1 locs1 (F0 m 942 ls [])) : LW p l e s m b below meth c0 H locs (F0 m 819 ls []) := by
  obtain ⟨ms, ts, hs, ps, ss⟩ := xc
  obtain ⟨hx, hb, hr, hml, hown, hts, hX, hbl, hlk, hgv⟩ := id C0
  have hown : s.vm.findClass RL = some m.cls := hown
  refine lv_aload_n hx hb dL_law_819 rfl (lv_at hl 1 rfl) ?_
  refine lwXi (As := []) (rest := []) C0 hK hh (c_X4_fewest l D q c ms ts hs ps ss  (rl_T hR) (rl_B hR)) (cwV 0 hts gL_X4_fewest rfl rfl rfl (by decide +kernel) ⟨Nat.le_of_ble_eq_true rfl, Nat.le_of_ble_eq_true rfl⟩) rfl hl.1 rfl (Nat.le_of_ble_eq_true rfl) dL_law_820 (fun H locs hh => ?_)
  refine lv_aload_n hx hb dL_law_823 rfl (lv_at hl 2 rfl) ?_
  refine lwGi (As := []) C0 hK hh (c_X5_fewest l D z c g  hR.T20 hR.B60 (rl_W hR)) (cwV 0 hts gL_X5_fewest rfl rfl rfl (by decide +kernel) ⟨Nat.le_of_ble_eq_true rfl, Nat.le_of_ble_eq_true rfl⟩) rfl hl.1 rfl (Nat.le_of_ble_eq_true rfl) dL_law_824 (fun H locs hh => ?_)
  exact lv_icmp_eq (tgt := 942) hx hb dL_law_827 (by decide) (fun _ => kk _ _ _ _ (st_fewest hR ).2 hh) (fun h9 => absurd (st_fewest hR ).1 h9)
set_option maxHeartbeats 4000000 in
set_option maxRecDepth 100000 in
theorem lw_k22 {p : Program} {l : Launch} {e : Env} {s : State} {m : MethodId} {b : Nat} {below : List Frame} {meth : Method} {c0 : Code} {H : Heap} {locs : List Loc} {L : Nat} {xs : Nat → Int32} {D : va_G} {c : CT} {q z : Nat → Nat} {xc : CS} {g : GS} {ls : Array Slot} {i : Nat} (hL : L ≤ 3072) (C0 : lw_At p s m meth c0 b L xs) (hK : KK D c s) (hi : i + 6 ≤ L) (hR : Rel xc g) (hh : LwH s D c q z xc g H locs) (hl : lv_has ls 4 (LwL b i q z))
    (kk : ∀ (xd : CS) (g1 : GS) (H1 : Heap) (locs1 : List Loc), Rel xd g1 → LwH s D c q z xd g1 H1 locs1 → LW p l e s m b below meth c0 H1 locs1 (F0 m 942 ls [])) : LW p l e s m b below meth c0 H locs (F0 m 832 ls []) := by
  obtain ⟨ms, ts, hs, ps, ss⟩ := xc
  obtain ⟨hx, hb, hr, hml, hown, hts, hX, hbl, hlk, hgv⟩ := id C0
  have hown : s.vm.findClass RL = some m.cls := hown
  refine lv_aload_n hx hb dL_law_832 rfl (lv_at hl 1 rfl) ?_
  refine lw_arg C0 hL 1 (by decide) (by omega) hh hl dL_law_833 dL_law_834 dL_law_835 dL_law_836 dL_law_837 ?_
  refine lwXr (As := [.int (xs (i + 1))]) (rest := []) C0 hK hh (c_X4_missed l D q c ms ts hs ps ss (xs (i + 1)) (rl_T hR) (rl_B hR)) (cwV 1 hts gL_X4_missed rfl rfl rfl (by decide +kernel) ⟨Nat.le_of_ble_eq_true rfl, Nat.le_of_ble_eq_true rfl⟩) rfl hl.1 rfl (Nat.le_of_ble_eq_true rfl) dL_law_838 ?_
  refine lv_aload_n hx hb dL_law_841 rfl (lv_at hl 2 rfl) ?_
  refine lw_arg C0 hL 1 (by decide) (by omega) hh hl dL_law_842 dL_law_843 dL_law_844 dL_law_845 dL_law_846 ?_
  refine lwGr (As := [.int (xs (i + 1))]) C0 hK hh (c_X5_missed l D z c g (xs (i + 1)) hR.T20 hR.B60) (cwV 1 hts gL_X5_missed rfl rfl rfl (by decide +kernel) ⟨Nat.le_of_ble_eq_true rfl, Nat.le_of_ble_eq_true rfl⟩) rfl hl.1 rfl (Nat.le_of_ble_eq_true rfl) dL_law_847 ?_
  exact lv_icmp_eq (tgt := 942) hx hb dL_law_850 (by decide) (fun _ => kk _ _ _ _ hR hh) (fun h9 => absurd (st_missed hR (xs (i + 1))) h9)
set_option maxHeartbeats 4000000 in
set_option maxRecDepth 100000 in
theorem lw_k23 {p : Program} {l : Launch} {e : Env} {s : State} {m : MethodId} {b : Nat} {below : List Frame} {meth : Method} {c0 : Code} {H : Heap} {locs : List Loc} {L : Nat} {xs : Nat → Int32} {D : va_G} {c : CT} {q z : Nat → Nat} {xc : CS} {g : GS} {ls : Array Slot} {i : Nat} (hL : L ≤ 3072) (C0 : lw_At p s m meth c0 b L xs) (hK : KK D c s) (hi : i + 6 ≤ L) (hR : Rel xc g) (hh : LwH s D c q z xc g H locs) (hl : lv_has ls 4 (LwL b i q z))
    (kk : ∀ (xd : CS) (g1 : GS) (H1 : Heap) (locs1 : List Loc), Rel xd g1 → LwH s D c q z xd g1 H1 locs1 → LW p l e s m b below meth c0 H1 locs1 (F0 m 942 ls [])) : LW p l e s m b below meth c0 H locs (F0 m 855 ls []) := by
  obtain ⟨ms, ts, hs, ps, ss⟩ := xc
  obtain ⟨hx, hb, hr, hml, hown, hts, hX, hbl, hlk, hgv⟩ := id C0
  have hown : s.vm.findClass RL = some m.cls := hown
  refine lv_aload_n hx hb dL_law_855 rfl (lv_at hl 1 rfl) ?_
  refine lwXl (As := []) (rest := []) C0 hK hh (c_X4_asked l D q c ms ts hs ps ss  ) (cwV 0 hts gL_X4_asked rfl rfl rfl (by decide +kernel) ⟨Nat.le_of_ble_eq_true rfl, Nat.le_of_ble_eq_true rfl⟩) rfl hl.1 rfl (Nat.le_of_ble_eq_true rfl) dL_law_856 ?_
  refine lv_aload_n hx hb dL_law_859 rfl (lv_at hl 2 rfl) ?_
  refine lwGl (As := []) C0 hK hh (c_X5_asked l D z c g  ) (cwV 0 hts gL_X5_asked rfl rfl rfl (by decide +kernel) ⟨Nat.le_of_ble_eq_true rfl, Nat.le_of_ble_eq_true rfl⟩) rfl hl.1 rfl (Nat.le_of_ble_eq_true rfl) dL_law_860 ?_
  refine W.lcmp hx hb dL_law_863 ?_
  exact lv_if_eq (tgt := 942) hx hb dL_law_864 (by decide) (fun _ => kk _ _ _ _ hR hh) (fun h9 => absurd ((lg_cmp_eq _ _).mpr (st_asked hR )) h9)
set_option maxHeartbeats 4000000 in
set_option maxRecDepth 100000 in
theorem lw_k24 {p : Program} {l : Launch} {e : Env} {s : State} {m : MethodId} {b : Nat} {below : List Frame} {meth : Method} {c0 : Code} {H : Heap} {locs : List Loc} {L : Nat} {xs : Nat → Int32} {D : va_G} {c : CT} {q z : Nat → Nat} {xc : CS} {g : GS} {ls : Array Slot} {i : Nat} (hL : L ≤ 3072) (C0 : lw_At p s m meth c0 b L xs) (hK : KK D c s) (hi : i + 6 ≤ L) (hR : Rel xc g) (hh : LwH s D c q z xc g H locs) (hl : lv_has ls 4 (LwL b i q z))
    (kk : ∀ (xd : CS) (g1 : GS) (H1 : Heap) (locs1 : List Loc), Rel xd g1 → LwH s D c q z xd g1 H1 locs1 → LW p l e s m b below meth c0 H1 locs1 (F0 m 942 ls [])) : LW p l e s m b below meth c0 H locs (F0 m 869 ls []) := by
  obtain ⟨ms, ts, hs, ps, ss⟩ := xc
  obtain ⟨hx, hb, hr, hml, hown, hts, hX, hbl, hlk, hgv⟩ := id C0
  have hown : s.vm.findClass RL = some m.cls := hown
  refine lv_aload_n hx hb dL_law_869 rfl (lv_at hl 1 rfl) ?_
  refine lw_arg C0 hL 1 (by decide) (by omega) hh hl dL_law_870 dL_law_871 dL_law_872 dL_law_873 dL_law_874 ?_
  refine lwXr (As := [.int (xs (i + 1))]) (rest := []) C0 hK hh (c_X4_count l D q c ms ts hs ps ss (xs (i + 1)) ) (cwV 1 hts gL_X4_count rfl rfl rfl (by decide +kernel) ⟨Nat.le_of_ble_eq_true rfl, Nat.le_of_ble_eq_true rfl⟩) rfl hl.1 rfl (Nat.le_of_ble_eq_true rfl) dL_law_875 ?_
  refine lv_aload_n hx hb dL_law_878 rfl (lv_at hl 2 rfl) ?_
  refine lw_arg C0 hL 1 (by decide) (by omega) hh hl dL_law_879 dL_law_880 dL_law_881 dL_law_882 dL_law_883 ?_
  refine lwGr (As := [.int (xs (i + 1))]) C0 hK hh (c_X5_count l D z c g (xs (i + 1)) hR.B60) (cwV 1 hts gL_X5_count rfl rfl rfl (by decide +kernel) ⟨Nat.le_of_ble_eq_true rfl, Nat.le_of_ble_eq_true rfl⟩) rfl hl.1 rfl (Nat.le_of_ble_eq_true rfl) dL_law_884 ?_
  exact lv_icmp_eq (tgt := 942) hx hb dL_law_887 (by decide) (fun _ => kk _ _ _ _ hR hh) (fun h9 => absurd (st_count hR (xs (i + 1))) h9)
set_option maxHeartbeats 4000000 in
set_option maxRecDepth 100000 in
theorem lw_k25 {p : Program} {l : Launch} {e : Env} {s : State} {m : MethodId} {b : Nat} {below : List Frame} {meth : Method} {c0 : Code} {H : Heap} {locs : List Loc} {L : Nat} {xs : Nat → Int32} {D : va_G} {c : CT} {q z : Nat → Nat} {xc : CS} {g : GS} {ls : Array Slot} {i : Nat} (hL : L ≤ 3072) (C0 : lw_At p s m meth c0 b L xs) (hK : KK D c s) (hi : i + 6 ≤ L) (hR : Rel xc g) (hh : LwH s D c q z xc g H locs) (hl : lv_has ls 4 (LwL b i q z))
    (kk : ∀ (xd : CS) (g1 : GS) (H1 : Heap) (locs1 : List Loc), Rel xd g1 → LwH s D c q z xd g1 H1 locs1 → LW p l e s m b below meth c0 H1 locs1 (F0 m 942 ls [])) : LW p l e s m b below meth c0 H locs (F0 m 892 ls []) := by
  obtain ⟨ms, ts, hs, ps, ss⟩ := xc
  obtain ⟨hx, hb, hr, hml, hown, hts, hX, hbl, hlk, hgv⟩ := id C0
  have hown : s.vm.findClass RL = some m.cls := hown
  refine lv_aload_n hx hb dL_law_892 rfl (lv_at hl 1 rfl) ?_
  refine lwXr (As := []) (rest := []) C0 hK hh (c_X4_finding l D q c ms ts hs ps ss  ) (cwV 0 hts gL_X4_finding rfl rfl rfl (by decide +kernel) ⟨Nat.le_of_ble_eq_true rfl, Nat.le_of_ble_eq_true rfl⟩) rfl hl.1 rfl (Nat.le_of_ble_eq_true rfl) dL_law_893 ?_
  refine lv_aload_n hx hb dL_law_896 rfl (lv_at hl 2 rfl) ?_
  refine lwGr (As := []) C0 hK hh (c_X5_finding l D z c g  ) (cwV 0 hts gL_X5_finding rfl rfl rfl (by decide +kernel) ⟨Nat.le_of_ble_eq_true rfl, Nat.le_of_ble_eq_true rfl⟩) rfl hl.1 rfl (Nat.le_of_ble_eq_true rfl) dL_law_897 ?_
  exact lv_icmp_eq (tgt := 942) hx hb dL_law_900 (by decide) (fun _ => kk _ _ _ _ hR hh) (fun h9 => absurd (st_finding hR ) h9)
set_option maxHeartbeats 4000000 in
set_option maxRecDepth 100000 in
theorem lw_k26 {p : Program} {l : Launch} {e : Env} {s : State} {m : MethodId} {b : Nat} {below : List Frame} {meth : Method} {c0 : Code} {H : Heap} {locs : List Loc} {L : Nat} {xs : Nat → Int32} {D : va_G} {c : CT} {q z : Nat → Nat} {xc : CS} {g : GS} {ls : Array Slot} {i : Nat} (hL : L ≤ 3072) (C0 : lw_At p s m meth c0 b L xs) (hK : KK D c s) (hi : i + 6 ≤ L) (hR : Rel xc g) (hh : LwH s D c q z xc g H locs) (hl : lv_has ls 4 (LwL b i q z))
    (kk : ∀ (xd : CS) (g1 : GS) (H1 : Heap) (locs1 : List Loc), Rel xd g1 → LwH s D c q z xd g1 H1 locs1 → LW p l e s m b below meth c0 H1 locs1 (F0 m 942 ls [])) : LW p l e s m b below meth c0 H locs (F0 m 905 ls []) := by
  obtain ⟨ms, ts, hs, ps, ss⟩ := xc
  obtain ⟨hx, hb, hr, hml, hown, hts, hX, hbl, hlk, hgv⟩ := id C0
  have hown : s.vm.findClass RL = some m.cls := hown
  refine lv_aload_n hx hb dL_law_905 rfl (lv_at hl 1 rfl) ?_
  refine lw_arg C0 hL 1 (by decide) (by omega) hh hl dL_law_906 dL_law_907 dL_law_908 dL_law_909 dL_law_910 ?_
  refine lwXr (As := [.int (xs (i + 1))]) (rest := []) C0 hK hh (c_X4_findings l D q c ms ts hs ps ss (xs (i + 1)) ) (cwV 1 hts gL_X4_findings rfl rfl rfl (by decide +kernel) ⟨Nat.le_of_ble_eq_true rfl, Nat.le_of_ble_eq_true rfl⟩) rfl hl.1 rfl (Nat.le_of_ble_eq_true rfl) dL_law_911 ?_
  refine lv_aload_n hx hb dL_law_914 rfl (lv_at hl 2 rfl) ?_
  refine lw_arg C0 hL 1 (by decide) (by omega) hh hl dL_law_915 dL_law_916 dL_law_917 dL_law_918 dL_law_919 ?_
  refine lwGr (As := [.int (xs (i + 1))]) C0 hK hh (c_X5_findings l D z c g (xs (i + 1)) ) (cwV 1 hts gL_X5_findings rfl rfl rfl (by decide +kernel) ⟨Nat.le_of_ble_eq_true rfl, Nat.le_of_ble_eq_true rfl⟩) rfl hl.1 rfl (Nat.le_of_ble_eq_true rfl) dL_law_920 ?_
  exact lv_icmp_eq (tgt := 942) hx hb dL_law_923 (by decide) (fun _ => kk _ _ _ _ hR hh) (fun h9 => absurd (st_findings hR (xs (i + 1))) h9)
set_option maxHeartbeats 4000000 in
set_option maxRecDepth 100000 in
theorem lw_k27 {p : Program} {l : Launch} {e : Env} {s : State} {m : MethodId} {b : Nat} {below : List Frame} {meth : Method} {c0 : Code} {H : Heap} {locs : List Loc} {L : Nat} {xs : Nat → Int32} {D : va_G} {c : CT} {q z : Nat → Nat} {xc : CS} {g : GS} {ls : Array Slot} {i : Nat} (hL : L ≤ 3072) (C0 : lw_At p s m meth c0 b L xs) (hK : KK D c s) (hi : i + 6 ≤ L) (hR : Rel xc g) (hh : LwH s D c q z xc g H locs) (hl : lv_has ls 4 (LwL b i q z))
    (kk : ∀ (xd : CS) (g1 : GS) (H1 : Heap) (locs1 : List Loc), Rel xd g1 → LwH s D c q z xd g1 H1 locs1 → LW p l e s m b below meth c0 H1 locs1 (F0 m 942 ls [])) : LW p l e s m b below meth c0 H locs (F0 m 928 ls []) := by
  obtain ⟨ms, ts, hs, ps, ss⟩ := xc
  obtain ⟨hx, hb, hr, hml, hown, hts, hX, hbl, hlk, hgv⟩ := id C0
  have hown : s.vm.findClass RL = some m.cls := hown
  refine lv_aload_n hx hb dL_law_928 rfl (lv_at hl 1 rfl) ?_
  refine lwXl (As := []) (rest := []) C0 hK hh (c_X4_digest l D q c ms ts hs ps ss  (rl_T hR) (rl_B hR)) (cwV 0 hts gL_X4_digest rfl rfl rfl (by decide +kernel) ⟨Nat.le_of_ble_eq_true rfl, Nat.le_of_ble_eq_true rfl⟩) rfl hl.1 rfl (Nat.le_of_ble_eq_true rfl) dL_law_929 ?_
  refine lv_aload_n hx hb dL_law_932 rfl (lv_at hl 2 rfl) ?_
  refine lwGl (As := []) C0 hK hh (c_X5_digest l D z c g  hR.T20 hR.B60 (rl_W hR)) (cwV 0 hts gL_X5_digest rfl rfl rfl (by decide +kernel) ⟨Nat.le_of_ble_eq_true rfl, Nat.le_of_ble_eq_true rfl⟩) rfl hl.1 rfl (Nat.le_of_ble_eq_true rfl) dL_law_933 ?_
  refine W.lcmp hx hb dL_law_936 ?_
  exact lv_if_eq (tgt := 942) hx hb dL_law_937 (by decide) (fun _ => kk _ _ _ _ hR hh) (fun h9 => absurd ((lg_cmp_eq _ _).mpr (st_digest hR )) h9)
