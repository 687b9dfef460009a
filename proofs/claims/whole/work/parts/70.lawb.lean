/-! the law's walk: its words -/
abbrev LW (p : Program) (l : Launch) (e : Env) (s : State) (m : MethodId) (b : Nat) (below : List Frame) (meth : Method) (c0 : Code) (H : Heap) (locs : List Loc) (fr : JFrame) : Prop := W p l e room_1 s m #[Value.ref b] below meth c0 H locs 36 1891 (lw_Z below #[Value.ref b] s) fr
def LwH (s : State) (D : va_G) (c : CT) (q z : Nat → Nat) (xc : CS) (g : GS) (H : Heap) (locs : List Loc) : Prop := va_P D vwCl (wC q c xc ++ wG z c g) H ∧ va_D (fun a : Nat => s.heap.size ≤ a) (wC q c xc ++ wG z c g) ∧ va_S (fun a : Nat => s.heap.size ≤ a) s.heap H locs
abbrev LwL (b i : Nat) (q z : Nat → Nat) : List (Nat × Value) := [(0, .ref b), (1, .ref (q 0)), (2, .ref (z 0)), (3, .int (nI i))]
def lwE (a b : Int32) : Int64 := (a.toInt64 <<< ((32 : Int32).toInt64 &&& 63)) ||| (b.toInt64 &&& 4294967295)
section LAWB
variable {p : Program} {l : Launch} {e : Env} {s : State} {m : MethodId} {b : Nat} {below : List Frame} {meth : Method} {c0 : Code} {H : Heap} {locs : List Loc} {L : Nat} {xs : Nat → Int32} {D : va_G} {c : CT} {q z : Nat → Nat} {xc xd : CS} {g g1 : GS} {ls : Array Slot} {rest st0 : List Value} {pc i : Nat}
variable {y : MethodName} {bytes : ByteArray} {maxL n index : Nat} {rt : Option FieldType} {ws : List Cond} {rm : Room} {As : List Value}
theorem lw_arg (C0 : lw_At p s m meth c0 b L xs) (hL : L ≤ 3072) {k : Int} (kn : Nat) (hk : Int32.ofInt k = nI kn) (hi : i + kn < L) (hh : LwH s D c q z xc g H locs) (hl : lv_has ls 4 (LwL b i q z))
    (d0 : decode cL_law pc = .ok (.aload_n 0, 1)) (d1 : decode cL_law (pc + 1) = .ok (.iload_n 3, 1)) (d2 : decode cL_law (pc + 2) = .ok (.iconst k, 1)) (d3 : decode cL_law (pc + 3) = .ok (.iadd, 1)) (d4 : decode cL_law (pc + 4) = .ok (.iaload, 1))
    (kk : LW p l e s m b below meth c0 H locs (F0 m (pc + 5) ls (.int (xs (i + kn)) :: rest))) : LW p l e s m b below meth c0 H locs (F0 m pc ls rest) := by
  obtain ⟨hx, hb, hr, hml, hown, hts, hX, hbl, hlk, hgv⟩ := C0
  have hbA : ¬ (fun a : Nat => s.heap.size ≤ a) b := Nat.not_le.mpr hbl
  refine lv_aload_n hx hb d0 rfl (lv_at hl 0 rfl) ?_
  refine lv_iload_n hx hb d1 rfl (lv_at hl 3 rfl) ?_
  refine lv_iconst (v := nI kn) hx hb d2 hk ?_
  refine lv_iadd hx hb d3 ?_
  refine tp_i (nI_add i kn) ?_
  refine va_sld hx hb hX hbl hbA hh.2.2 (in_nI hi (by omega)) d4 ?_
  rw [cl_nI hi (by omega)]
  exact kk
set_option maxRecDepth 100000 in
theorem lwXi {post : Int32} (C0 : lw_At p s m meth c0 b L xs) (hK : KK D c s) (hh : LwH s D c q z xc g H locs) (hM : MUi l y ws rm (.ref (q 0) :: As) D c (wC q c xc) (wC q c xd) post) (cw : CallW room_1 s #[Value.ref b] RL RX4 index y bytes maxL rt ws rm 0 0 n) (hn : As.length = n) (hsize : ls.size = 4) (hstack : st0 = As.reverse ++ .ref (q 0) :: rest) (hW : (rest.map fun v => v.category).sum ≤ 8) (hdg : decode cL_law pc = .ok (.invokevirtual index, 3))
    (kk : ∀ (H1 : Heap) (locs1 : List Loc), LwH s D c q z xd g H1 locs1 → LW p l e s m b below meth c0 H1 locs1 (F0 m (pc + 3) ls (.int post :: rest))) : LW p l e s m b below meth c0 H locs (F0 m pc ls st0) := by
  obtain ⟨hx, hb, hr, hml, hown, hts, hX, hbl, hlk, hgv⟩ := C0
  obtain ⟨hP, hD, hS⟩ := hh
  have hown : s.vm.findClass RL = some m.cls := hown
  exact mu_Vi (w := wC q c xc ++ wG z c g) (wr := wG z c g) (wk := wC q c xd ++ wG z c g) [0, 1, 2, 3, 4, 5, 6, 7, 8, 9, 10, 11, 12, 13, 14, 15, 16, 17, 18, 19, 20, 21, 22, 23] [24, 25, 26, 27, 28, 29, 30, 31, 32, 33, 34, 35] [12, 13, 14, 15, 16, 17, 18, 19, 20, 21, 22, 23, 24, 25, 26, 27, 28, 29, 30, 31, 32, 33, 34, 35, 0, 1, 2, 3, 4, 5, 6, 7, 8, 9, 10, 11] ⟨hx, hb, hml, hown, hts⟩ hM cw hP hK hD hS (fun _ h => h) (va_recv hK.1 hP (ci := 4) (q0 := 0) rfl rfl) rfl rfl (by decide) (by decide) (by decide) (by decide) rfl hn hsize hstack hW hdg ⟨Nat.le_of_ble_eq_true rfl, Nat.le_of_ble_eq_true rfl⟩ (fun H1 locs1 hP1 hD1 hS1 => kk H1 locs1 ⟨hP1, hD1, hS1⟩)
set_option maxRecDepth 100000 in
theorem lwXr {post : Int32} (C0 : lw_At p s m meth c0 b L xs) (hK : KK D c s) (hh : LwH s D c q z xc g H locs) (hM : ROi l y ws rm (.ref (q 0) :: As) D c (wC q c xc) post) (cw : CallW room_1 s #[Value.ref b] RL RX4 index y bytes maxL rt ws rm 0 0 n) (hn : As.length = n) (hsize : ls.size = 4) (hstack : st0 = As.reverse ++ .ref (q 0) :: rest) (hW : (rest.map fun v => v.category).sum ≤ 8) (hdg : decode cL_law pc = .ok (.invokevirtual index, 3))
    (kk : LW p l e s m b below meth c0 H locs (F0 m (pc + 3) ls (.int post :: rest))) : LW p l e s m b below meth c0 H locs (F0 m pc ls st0) := by
  obtain ⟨hx, hb, hr, hml, hown, hts, hX, hbl, hlk, hgv⟩ := C0
  obtain ⟨hP, hD, hS⟩ := hh
  have hown : s.vm.findClass RL = some m.cls := hown
  exact ro_Vi ⟨hx, hb, hml, hown, hts⟩ hM cw (hP.sub (ws' := (wC q c xc)) [0, 1, 2, 3, 4, 5, 6, 7, 8, 9, 10, 11, 12, 13, 14, 15, 16, 17, 18, 19, 20, 21, 22, 23] rfl) hK (va_recv hK.1 hP (ci := 4) (q0 := 0) rfl rfl) hn hsize hstack hW hdg ⟨Nat.le_of_ble_eq_true rfl, Nat.le_of_ble_eq_true rfl⟩ kk
set_option maxRecDepth 100000 in
theorem lwXl {post : Int64} (C0 : lw_At p s m meth c0 b L xs) (hK : KK D c s) (hh : LwH s D c q z xc g H locs) (hM : ROl l y ws rm (.ref (q 0) :: As) D c (wC q c xc) post) (cw : CallW room_1 s #[Value.ref b] RL RX4 index y bytes maxL rt ws rm 0 0 n) (hn : As.length = n) (hsize : ls.size = 4) (hstack : st0 = As.reverse ++ .ref (q 0) :: rest) (hW : (rest.map fun v => v.category).sum ≤ 8) (hdg : decode cL_law pc = .ok (.invokevirtual index, 3))
    (kk : LW p l e s m b below meth c0 H locs (F0 m (pc + 3) ls (.long post :: rest))) : LW p l e s m b below meth c0 H locs (F0 m pc ls st0) := by
  obtain ⟨hx, hb, hr, hml, hown, hts, hX, hbl, hlk, hgv⟩ := C0
  obtain ⟨hP, hD, hS⟩ := hh
  have hown : s.vm.findClass RL = some m.cls := hown
  exact ro_Vl ⟨hx, hb, hml, hown, hts⟩ hM cw (hP.sub (ws' := (wC q c xc)) [0, 1, 2, 3, 4, 5, 6, 7, 8, 9, 10, 11, 12, 13, 14, 15, 16, 17, 18, 19, 20, 21, 22, 23] rfl) hK (va_recv hK.1 hP (ci := 4) (q0 := 0) rfl rfl) hn hsize hstack hW hdg ⟨Nat.le_of_ble_eq_true rfl, Nat.le_of_ble_eq_true rfl⟩ kk
set_option maxRecDepth 100000 in
theorem lwGi {post : Int32} (C0 : lw_At p s m meth c0 b L xs) (hK : KK D c s) (hh : LwH s D c q z xc g H locs) (hM : MUi l y ws rm (.ref (z 0) :: As) D c (wG z c g) (wG z c g1) post) (cw : CallW room_1 s #[Value.ref b] RL RX5 index y bytes maxL rt ws rm 0 0 n) (hn : As.length = n) (hsize : ls.size = 4) (hstack : st0 = As.reverse ++ .ref (z 0) :: rest) (hW : (rest.map fun v => v.category).sum ≤ 8) (hdg : decode cL_law pc = .ok (.invokevirtual index, 3))
    (kk : ∀ (H1 : Heap) (locs1 : List Loc), LwH s D c q z xc g1 H1 locs1 → LW p l e s m b below meth c0 H1 locs1 (F0 m (pc + 3) ls (.int post :: rest))) : LW p l e s m b below meth c0 H locs (F0 m pc ls st0) := by
  obtain ⟨hx, hb, hr, hml, hown, hts, hX, hbl, hlk, hgv⟩ := C0
  obtain ⟨hP, hD, hS⟩ := hh
  have hown : s.vm.findClass RL = some m.cls := hown
  exact mu_Vi (w := wC q c xc ++ wG z c g) (wr := wC q c xc) (wk := wC q c xc ++ wG z c g1) [24, 25, 26, 27, 28, 29, 30, 31, 32, 33, 34, 35] [0, 1, 2, 3, 4, 5, 6, 7, 8, 9, 10, 11, 12, 13, 14, 15, 16, 17, 18, 19, 20, 21, 22, 23] [0, 1, 2, 3, 4, 5, 6, 7, 8, 9, 10, 11, 12, 13, 14, 15, 16, 17, 18, 19, 20, 21, 22, 23, 24, 25, 26, 27, 28, 29, 30, 31, 32, 33, 34, 35] ⟨hx, hb, hml, hown, hts⟩ hM cw hP hK hD hS (fun _ h => h) (va_recv hK.1 hP (ci := 5) (q0 := 24) rfl rfl) rfl rfl (by decide) (by decide) (by decide) (by decide) rfl hn hsize hstack hW hdg ⟨Nat.le_of_ble_eq_true rfl, Nat.le_of_ble_eq_true rfl⟩ (fun H1 locs1 hP1 hD1 hS1 => kk H1 locs1 ⟨hP1, hD1, hS1⟩)
set_option maxRecDepth 100000 in
theorem lwGr {post : Int32} (C0 : lw_At p s m meth c0 b L xs) (hK : KK D c s) (hh : LwH s D c q z xc g H locs) (hM : ROi l y ws rm (.ref (z 0) :: As) D c (wG z c g) post) (cw : CallW room_1 s #[Value.ref b] RL RX5 index y bytes maxL rt ws rm 0 0 n) (hn : As.length = n) (hsize : ls.size = 4) (hstack : st0 = As.reverse ++ .ref (z 0) :: rest) (hW : (rest.map fun v => v.category).sum ≤ 8) (hdg : decode cL_law pc = .ok (.invokevirtual index, 3))
    (kk : LW p l e s m b below meth c0 H locs (F0 m (pc + 3) ls (.int post :: rest))) : LW p l e s m b below meth c0 H locs (F0 m pc ls st0) := by
  obtain ⟨hx, hb, hr, hml, hown, hts, hX, hbl, hlk, hgv⟩ := C0
  obtain ⟨hP, hD, hS⟩ := hh
  have hown : s.vm.findClass RL = some m.cls := hown
  exact ro_Vi ⟨hx, hb, hml, hown, hts⟩ hM cw (hP.sub (ws' := (wG z c g)) [24, 25, 26, 27, 28, 29, 30, 31, 32, 33, 34, 35] rfl) hK (va_recv hK.1 hP (ci := 5) (q0 := 24) rfl rfl) hn hsize hstack hW hdg ⟨Nat.le_of_ble_eq_true rfl, Nat.le_of_ble_eq_true rfl⟩ kk
set_option maxRecDepth 100000 in
theorem lwGl {post : Int64} (C0 : lw_At p s m meth c0 b L xs) (hK : KK D c s) (hh : LwH s D c q z xc g H locs) (hM : ROl l y ws rm (.ref (z 0) :: As) D c (wG z c g) post) (cw : CallW room_1 s #[Value.ref b] RL RX5 index y bytes maxL rt ws rm 0 0 n) (hn : As.length = n) (hsize : ls.size = 4) (hstack : st0 = As.reverse ++ .ref (z 0) :: rest) (hW : (rest.map fun v => v.category).sum ≤ 8) (hdg : decode cL_law pc = .ok (.invokevirtual index, 3))
    (kk : LW p l e s m b below meth c0 H locs (F0 m (pc + 3) ls (.long post :: rest))) : LW p l e s m b below meth c0 H locs (F0 m pc ls st0) := by
  obtain ⟨hx, hb, hr, hml, hown, hts, hX, hbl, hlk, hgv⟩ := C0
  obtain ⟨hP, hD, hS⟩ := hh
  have hown : s.vm.findClass RL = some m.cls := hown
  exact ro_Vl ⟨hx, hb, hml, hown, hts⟩ hM cw (hP.sub (ws' := (wG z c g)) [24, 25, 26, 27, 28, 29, 30, 31, 32, 33, 34, 35] rfl) hK (va_recv hK.1 hP (ci := 5) (q0 := 24) rfl rfl) hn hsize hstack hW hdg ⟨Nat.le_of_ble_eq_true rfl, Nat.le_of_ble_eq_true rfl⟩ kk
theorem m20 {n : Nat} (h : n ≤ 20) : nI n - 1 < 20 := by
  have e9 : (nI n - nI 1).toInt = (n : Int) - (1 : Nat) := pk_sub_toInt (by omega) (by omega)
  rw [Int32.lt_iff_toInt_lt]
  show (nI n - nI 1).toInt < 20
  omega
theorem rl_T (h : Rel xc g) : tT xc.2.1 ≤ 20 := Nat.le_trans (Nat.le_of_eq h.T) h.T20
theorem rl_B (h : Rel xc g) : hB xc.2.2.1 ≤ 60 := Nat.le_trans (Nat.le_of_eq h.B) h.B60
theorem rl_W (h : Rel xc g) : WN (gNd g) (gT g) := h.2.1.2.2.2.2.1
theorem rl_N (h : Rel xc g) : pN xc.2.2.2.1 ≤ 20 := h.2.2.2.2.1.1
theorem rl_m (h : Rel xc g) : gPm g - 1 < 20 := by
  by_cases c3 : pTh xc.2.2.2.1 = 0
  · rw [(h.2.2.2.2.1.2.1 c3).1]; decide
  · rw [(h.2.2.2.2.1.2.2 c3).1]; exact m20 (rl_N h)
theorem rl_pm (h : Rel xc g) : 0 ≤ gPm g → gPm g = nI (pN xc.2.2.2.1) := fun h0 => by
  by_cases c3 : pTh xc.2.2.2.1 = 0
  · rw [(h.2.2.2.2.1.2.1 c3).1] at h0; exact absurd h0 (by decide)
  · exact (h.2.2.2.2.1.2.2 c3).1
theorem rl_row (h : Rel xc g) : ∀ i, i < pN xc.2.2.2.1 → ∃ u, u < gT g ∧ gPk g i = nI u := fun i hi => by
  by_cases c3 : pTh xc.2.2.2.1 = 0
  · rw [(h.2.2.2.2.1.2.1 c3).2] at hi; exact absurd hi (Nat.not_lt_zero _)
  · obtain ⟨e1, u, hu, e2⟩ := (h.2.2.2.2.1.2.2 c3).2.1 i hi
    exact ⟨u, hu, e1.symm.trans e2⟩
theorem rl_rowc (h : Rel xc g) : ∀ i, i < pN xc.2.2.2.1 → ∃ u, u < 20 ∧ pRow xc.2.2.2.1 i = nI u := fun i hi => by
  by_cases c3 : pTh xc.2.2.2.1 = 0
  · rw [(h.2.2.2.2.1.2.1 c3).2] at hi; exact absurd hi (Nat.not_lt_zero _)
  · obtain ⟨e1, u, hu, e2⟩ := (h.2.2.2.2.1.2.2 c3).2.1 i hi
    exact ⟨u, Nat.lt_of_lt_of_le hu h.T20, e2⟩
theorem rl_b0 (h : Rel xc g) : 0 ≤ gPm g → 0 < gB g := fun h0 => by
  by_cases c3 : pTh xc.2.2.2.1 = 0
  · rw [(h.2.2.2.2.1.2.1 c3).1] at h0; exact absurd h0 (by decide)
  · exact (h.2.2.2.2.1.2.2 c3).2.2.2.2.2
theorem rl_th (h : Rel xc g) : ¬ pTh xc.2.2.2.1 = 0 → 0 < hB xc.2.2.1 := fun c3 => by
  rw [h.B]; exact (h.2.2.2.2.1.2.2 c3).2.2.2.2.2
end LAWB
