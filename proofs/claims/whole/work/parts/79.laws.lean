/-! the law from its entry -/
theorem rel0 {f : Nat → Int32} (hf : ∀ i, i < 1200 → f i = -9) : Rel cs0 (gs0 f) := by
  refine ⟨⟨fun _ _ => rfl, rfl, rfl⟩, ⟨rfl, Nat.zero_le _, fun _ _ => ⟨rfl, rfl, rfl⟩, fun t ht => absurd ht (Nat.not_lt_zero t), fun t ht => absurd ht (Nat.not_lt_zero t), fun t ht => absurd ht (Nat.not_lt_zero t)⟩, ⟨fun t _ => ⟨rfl, ?_⟩, fun _ _ => ⟨0, by omega, nI_0.symm⟩⟩, ⟨rfl, Nat.zero_le _, fun _ _ => rfl, fun b i _ _ => ?_, fun t b ht hb => ?_, fun t b _ h => ?_, fun t b _ _ => ⟨?_, ?_⟩⟩, ⟨Nat.zero_le _, fun _ => ⟨rfl, rfl⟩, fun h => absurd rfl h⟩, ⟨rfl, rfl, rfl, rfl⟩⟩
  · show (0 : Int64) = raM zI zI t
    unfold raM
    rw [if_pos rfl]
    show (0 : Int64) = rbS zI 0 5
    decide +kernel
  · exact BitVec.getLsbD_zero
  · show vIn zJ zJ t b = f (20 * b + t)
    rw [hf _ (by omega)]
    unfold vIn
    rw [show bl (zJ t) b = false from BitVec.getLsbD_zero]
    rfl
  · rw [show bl (hFe hs0 t) b = false from BitVec.getLsbD_zero] at h
    exact absurd h (by decide)
  · exact BitVec.getLsbD_zero
  · exact BitVec.getLsbD_zero
theorem lw_arr {args : Array Value} {s : State} {ty : FieldType} (h : (Cond.arrayClass ty).before args s = true) : ∃ cA : ClassId, ArrOfT s cA ty ∧ s.vm.findClass ("[" ++ ty.toString) = some cA := by
  obtain ⟨cA, kA, comp, h1, h2, h3⟩ := Cond.arrayClass_spec h
  exact ⟨cA, fun n z => ⟨fun k h => (by cases h), kA, h2, comp, h3⟩, h1⟩
set_option maxRecDepth 100000 in
theorem lw_inX0 : ∀ w ∈ u_ws RX0 TX0 4, w ∈ lw_tbl := fun w h => (goodIn_r (big := lw_tbl) (u_ws RX0 TX0 4) [97, 99, 101, 103] (by decide +kernel) (by decide +kernel) w h).1
set_option maxRecDepth 100000 in
theorem lw_inX1 : ∀ w ∈ u_ws RX1 TX1 7, w ∈ lw_tbl := fun w h => (goodIn_r (big := lw_tbl) (u_ws RX1 TX1 7) [126, 128, 130, 132, 134, 136, 138] (by decide +kernel) (by decide +kernel) w h).1
set_option maxRecDepth 100000 in
theorem lw_inX2 : ∀ w ∈ u_ws RX2 TX2 12, w ∈ lw_tbl := fun w h => (goodIn_r (big := lw_tbl) (u_ws RX2 TX2 12) [161, 163, 165, 167, 169, 171, 173, 175, 177, 179, 181, 183] (by decide +kernel) (by decide +kernel) w h).1
set_option maxRecDepth 100000 in
theorem lw_inX3 : ∀ w ∈ u_ws RX3 TX3 7, w ∈ lw_tbl := fun w h => (goodIn_r (big := lw_tbl) (u_ws RX3 TX3 7) [65, 67, 69, 71, 73, 75, 77] (by decide +kernel) (by decide +kernel) w h).1
set_option maxRecDepth 100000 in
theorem lw_inX4 : ∀ w ∈ u_ws RX4 TX4 7, w ∈ lw_tbl := fun w h => (goodIn_r (big := lw_tbl) (u_ws RX4 TX4 7) [193, 195, 197, 199, 201, 203, 205] (by decide +kernel) (by decide +kernel) w h).1
set_option maxRecDepth 100000 in
theorem lw_inX5 : ∀ w ∈ u_ws RX5 TX5 19, w ∈ lw_tbl := fun w h => (goodIn_r (big := lw_tbl) (u_ws RX5 TX5 19) [550, 552, 554, 556, 558, 560, 562, 564, 566, 568, 570, 572, 574, 576, 578, 580, 582, 584, 586] (by decide +kernel) (by decide +kernel) w h).1
set_option maxHeartbeats 4000000 in
set_option maxRecDepth 100000 in
theorem whole_start {p : Program} {e : Env} {s : State} {m : MethodId} {below : List Frame} {meth : Method} {c : Code} (l : Launch) {b L : Nat} {xs : Nat → Int32} (hL : L ≤ 3072) (C0 : lw_At p s m meth c b L xs) : W p l e room_1 s m #[Value.ref b] below meth c s.heap [] 0 0 (lw_Z below #[Value.ref b] s) (entryFrame m ([Value.ref b] : List Value).toArray 4) := by
  obtain ⟨hx, hb, hr, hml, hown, hts, hX, hbl, hlk, hgv⟩ := id C0
  have hown : s.vm.findClass RL = some m.cls := hown
  obtain ⟨k0, iS0, hKn0⟩ := u_known (C := RX0) (T := TX0) (N := 4) (n := 4) hts lw_inX0 (hts (.instantiable RX0 4) (by decide +kernel))
  obtain ⟨k1, iS1, hKn1⟩ := u_known (C := RX1) (T := TX1) (N := 7) (n := 7) hts lw_inX1 (hts (.instantiable RX1 7) (by decide +kernel))
  obtain ⟨k2, iS2, hKn2⟩ := u_known (C := RX2) (T := TX2) (N := 12) (n := 12) hts lw_inX2 (hts (.instantiable RX2 12) (by decide +kernel))
  obtain ⟨k3, iS3, hKn3⟩ := u_known (C := RX3) (T := TX3) (N := 7) (n := 7) hts lw_inX3 (hts (.instantiable RX3 7) (by decide +kernel))
  obtain ⟨k4, iS4, hKn4⟩ := u_known (C := RX4) (T := TX4) (N := 7) (n := 7) hts lw_inX4 (hts (.instantiable RX4 7) (by decide +kernel))
  obtain ⟨k5, iS5, hKn5⟩ := u_known (C := RX5) (T := TX5) (N := 19) (n := 19) hts lw_inX5 (hts (.instantiable RX5 19) (by decide +kernel))
  obtain ⟨D, hKc⟩ : ∃ D : va_G, ∀ (k : Nat) (r : vw_C), vwCl[k]? = some r → u_Kn s r.1 r.2.1 r.2.2 (D.1 k) (D.2 k) := by
    refine ⟨(fun k => if k = 0 then k0 else if k = 1 then k1 else if k = 2 then k2 else if k = 3 then k3 else if k = 4 then k4 else k5, fun k => if k = 0 then iS0 else if k = 1 then iS1 else if k = 2 then iS2 else if k = 3 then iS3 else if k = 4 then iS4 else iS5), ?_⟩
    intro k r hr9
    match k, hr9 with
    | 0, h9 => cases h9; exact hKn0
    | 1, h9 => cases h9; exact hKn1
    | 2, h9 => cases h9; exact hKn2
    | 3, h9 => cases h9; exact hKn3
    | 4, h9 => cases h9; exact hKn4
    | 5, h9 => cases h9; exact hKn5
    | k + 6, h9 => simp at h9
  obtain ⟨ci, hc1, hc2⟩ := lw_arr (hts (.arrayClass .int) (by decide +kernel))
  obtain ⟨cj, hc3, hc4⟩ := lw_arr (hts (.arrayClass .long) (by decide +kernel))
  obtain ⟨cz, hc5, hc6⟩ := lw_arr (hts (.arrayClass .boolean) (by decide +kernel))
  obtain ⟨ct, ect⟩ : ∃ ct : CT, ct = (ci, cj, cz) := ⟨_, rfl⟩
  have hK : KK D ct s := by
    subst ect
    refine ⟨⟨hKc, fun k r hr9 => ?_⟩, va_Nw.of rfl (hts (.methodLinkNest RX3 40 yX4_isIn RX4) (by decide +kernel))⟩
    match k, hr9 with
    | 0, h9 => cases h9; exact ⟨hc1, hc2⟩
    | 1, h9 => cases h9; exact ⟨hc3, hc4⟩
    | 2, h9 => cases h9; exact ⟨hc5, hc6⟩
    | k + 3, h9 => simp [tysC] at h9
  have hN : NN s := ⟨va_Nw.of rfl (hts (.methodLinkNest RX4 9 yX3_init RX4) (by decide +kernel)), va_Nw.of rfl (hts (.methodLinkNest RX4 18 yX0_init RX4) (by decide +kernel)), va_Nw.of rfl (hts (.methodLinkNest RX4 25 yX1_init RX4) (by decide +kernel)), va_Nw.of rfl (hts (.methodLinkNest RX4 32 yX2_init RX4) (by decide +kernel))⟩
  have hA : ∀ a : Nat, s.heap.size ≤ a → (fun a : Nat => s.heap.size ≤ a) a := fun _ h => h
  have hS : va_S (fun a : Nat => s.heap.size ≤ a) s.heap s.heap [] := va_S.rf
  have hP : va_P D vwCl [] s.heap := va_P0
  have hD : va_D (fun a : Nat => s.heap.size ≤ a) [] := ⟨fun i j p q h => by simp at h, fun k q h => by simp at h⟩
  have hl := lv_entry ([.ref b]) (n := 4) (Nat.le_of_ble_eq_true rfl)
  rw [lg_entry_eq]
  generalize (lg_sl ([.ref b]) ++ List.replicate (4 - (lg_sl ([.ref b])).length) Slot.unset).toArray = ls at hl ⊢
  have hl : lv_has ls 4 [(0, .ref b)] := hl
  refine va_new (ci := 4) (fs := [.null, .null, .null, .null, .null, .int 0, .long 0]) (C := RX4) (T := TX4) (N := 7) hx hb hts lw_inX4 tyX4 tyX4_ok hown (hts (.classLink RL 7 RX4) (by decide +kernel)) (hts (.instantiable RX4 7) (by decide +kernel)) (hts (.initialized RX4) (by decide +kernel)) hK.1 hP hD hS hA rfl (fun j hj => by rcases (show j = 0 ∨ j = 1 ∨ j = 2 ∨ j = 3 ∨ j = 4 ∨ j = 5 ∨ j = 6 by omega) with rfl | rfl | rfl | rfl | rfl | rfl | rfl <;> rfl) (Nat.le_of_ble_eq_true rfl) (Nat.le_of_ble_eq_true rfl) dL_law_0 (fun h4 H hP hD hS => ?_)
  refine W.widen (k := 1) (n := 7) (Nat.le_of_ble_eq_true rfl) (Nat.le_of_ble_eq_true rfl) ?_
  have hP : va_P D vwCl ([(h4, .inr (4, [.null, .null, .null, .null, .null, .int 0, .long 0]))]) H := hP
  have hD : va_D (fun a : Nat => s.heap.size ≤ a) ([(h4, .inr (4, [.null, .null, .null, .null, .null, .int 0, .long 0]))]) := hD
  refine lv_dup hx hb dL_law_3 rfl ?_
  refine cn_I (α := Nat → Nat) (Kp := KN D ct) (wc := [(h4, .inr (4, [.null, .null, .null, .null, .null, .int 0, .long 0]))]) (wr := ([] : va_W)) (w1 := fun u => wC u ct cs0) (wk := fun u => wC u ct cs0) [0] [] [0, 1, 2, 3, 4, 5, 6, 7, 8, 9, 10, 11, 12, 13, 14, 15, 16, 17, 18, 19, 20, 21, 22, 23] ⟨hx, hb, hml, hown, hts⟩ (c_X4_init l D ct h4) (cwI 0 hts ggL_X4_init rfl rfl rfl (hts (.initialized RX4) (by decide +kernel)) (hts (.methodLink RL 9 yX4_init) (by decide +kernel)) (hts (.instanceMethod yX4_init) (by decide +kernel)) rfl (by decide +kernel) ⟨Nat.le_of_ble_eq_true rfl, Nat.le_of_ble_eq_true rfl⟩) ⟨hK, hN⟩ (fun U hW => ⟨hK.moved hW, hN.moved hW⟩) (fun U g mk a h => ⟨h.1.calling, h.2.calling⟩) hP hD hS hA rfl rfl (by decide) (by decide) (by decide) (by decide) (fun _ => rfl) hl.1 (Nat.le_of_ble_eq_true rfl) dL_law_4 ⟨Nat.le_of_ble_eq_true rfl, Nat.le_of_ble_eq_true rfl⟩ (fun q H locs _ eq hP9 hD9 hS9 => ?_)
  subst eq
  have hP := hP9
  have hD := hD9
  have hS := hS9
  refine W.widen (k := 24) (n := 382) (Nat.le_of_ble_eq_true rfl) (Nat.le_of_ble_eq_true rfl) ?_
  have hP : va_P D vwCl (wC q ct cs0) H := hP
  have hD : va_D (fun a : Nat => s.heap.size ≤ a) (wC q ct cs0) := hD
  refine lv_astore_n (lv' := [(1, .ref (q 0)), (0, .ref b)]) hx hb dL_law_7 rfl hl (by decide) rfl (fun ls hl => ?_)
  refine va_new (ci := 5) (fs := [.int 0, .null, .int 0, .null, .null, .null, .null, .null, .int 0, .null, .null, .long 0, .null, .int 0, .null, .int 0, .int 0, .int 0, .null]) (C := RX5) (T := TX5) (N := 19) hx hb hts lw_inX5 tyX5 tyX5_ok hown (hts (.classLink RL 10 RX5) (by decide +kernel)) (hts (.instantiable RX5 19) (by decide +kernel)) (hts (.initialized RX5) (by decide +kernel)) hK.1 hP hD hS hA rfl (fun j hj => by rcases (show j = 0 ∨ j = 1 ∨ j = 2 ∨ j = 3 ∨ j = 4 ∨ j = 5 ∨ j = 6 ∨ j = 7 ∨ j = 8 ∨ j = 9 ∨ j = 10 ∨ j = 11 ∨ j = 12 ∨ j = 13 ∨ j = 14 ∨ j = 15 ∨ j = 16 ∨ j = 17 ∨ j = 18 by omega) with rfl | rfl | rfl | rfl | rfl | rfl | rfl | rfl | rfl | rfl | rfl | rfl | rfl | rfl | rfl | rfl | rfl | rfl | rfl <;> rfl) (Nat.le_of_ble_eq_true rfl) (Nat.le_of_ble_eq_true rfl) dL_law_8 (fun h5 H hP hD hS => ?_)
  refine W.widen (k := 25) (n := 401) (Nat.le_of_ble_eq_true rfl) (Nat.le_of_ble_eq_true rfl) ?_
  have hP : va_P D vwCl (wC q ct cs0 ++ [(h5, .inr (5, [.int 0, .null, .int 0, .null, .null, .null, .null, .null, .int 0, .null, .null, .long 0, .null, .int 0, .null, .int 0, .int 0, .int 0, .null]))]) H := hP
  have hD : va_D (fun a : Nat => s.heap.size ≤ a) (wC q ct cs0 ++ [(h5, .inr (5, [.int 0, .null, .int 0, .null, .null, .null, .null, .null, .int 0, .null, .null, .long 0, .null, .int 0, .null, .int 0, .int 0, .int 0, .null]))]) := hD
  refine lv_dup hx hb dL_law_11 rfl ?_
  refine cn_I (α := (Nat → Nat) × (Nat → Int32)) (Kp := KK D ct) (wc := [(h5, .inr (5, [.int 0, .null, .int 0, .null, .null, .null, .null, .null, .int 0, .null, .null, .long 0, .null, .int 0, .null, .int 0, .int 0, .int 0, .null]))]) (wr := wC q ct cs0) (w1 := fun u => wG u.1 ct (gs0 u.2)) (wk := fun u => wC q ct cs0 ++ wG u.1 ct (gs0 u.2)) [24] [0, 1, 2, 3, 4, 5, 6, 7, 8, 9, 10, 11, 12, 13, 14, 15, 16, 17, 18, 19, 20, 21, 22, 23] [0, 1, 2, 3, 4, 5, 6, 7, 8, 9, 10, 11, 12, 13, 14, 15, 16, 17, 18, 19, 20, 21, 22, 23, 24, 25, 26, 27, 28, 29, 30, 31, 32, 33, 34, 35] ⟨hx, hb, hml, hown, hts⟩ (c_X5_init l D ct h5) (cwI 0 hts ggL_X5_init rfl rfl rfl (hts (.initialized RX5) (by decide +kernel)) (hts (.methodLink RL 12 yX5_init) (by decide +kernel)) (hts (.instanceMethod yX5_init) (by decide +kernel)) rfl (by decide +kernel) ⟨Nat.le_of_ble_eq_true rfl, Nat.le_of_ble_eq_true rfl⟩) hK (fun U hW => hK.moved hW) (fun U g mk a h => h.calling) hP hD hS hA rfl rfl (by decide) (by decide) (by decide) (by decide) (fun _ => rfl) hl.1 (Nat.le_of_ble_eq_true rfl) dL_law_12 ⟨Nat.le_of_ble_eq_true rfl, Nat.le_of_ble_eq_true rfl⟩ (fun u H locs hf eu hP9 hD9 hS9 => ?_)
  obtain ⟨z, f⟩ := u
  dsimp only at hf eu hP9 hD9
  subst eu
  have hP := hP9
  have hD := hD9
  have hS := hS9
  refine W.widen (k := 36) (n := 1891) (Nat.le_of_ble_eq_true rfl) (Nat.le_of_ble_eq_true rfl) ?_
  refine lv_astore_n (lv' := [(2, .ref (z 0)), (1, .ref (q 0)), (0, .ref b)]) hx hb dL_law_15 rfl hl (by decide) rfl (fun ls hl => ?_)
  refine lv_iconst (v := nI 0) hx hb dL_law_16 (by decide) ?_
  refine lv_istore_n (lv' := [(3, .int (nI 0)), (2, .ref (z 0)), (1, .ref (q 0)), (0, .ref b)]) hx hb dL_law_17 rfl hl (by decide) rfl (fun ls hl => ?_)
  exact law_loop hL C0 hK (L + 1) 0 cs0 (gs0 f) H locs ls (Nat.zero_le L) (by omega) (rel0 hf) ⟨hP, hD, hS⟩ (lv_sub hl [3, 2, 1, 0] rfl)
