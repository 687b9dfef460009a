set_option maxHeartbeats 4000000 in
set_option maxRecDepth 100000 in
theorem c_X4_isKind (l : Launch) (D : va_G) (c : CT) (x : Int32)  : ROi l yX4_isKind wsX4_isKind ({ frames := 0, cells := 0, slots := 0, locals := 0 } : Room) [.int x] D c ([]) (bI (rg x 0 3)) := by
  refine ro_starti (cc := cX4_isKind) (maxL := 1) (ret := some .boolean) (by decide) rfl (Nat.le_of_ble_eq_true rfl) ?_
  intro p e s m args below meth c0 ls hx hb hr hml hown hts hlk hP hK hl
  have hown : s.vm.findClass RX4 = some m.cls := hown
  have hl : lv_has ls 1 [(0, .int x)] := hl
  refine lv_iload_n hx hb dX4_isKind_0 rfl (lv_at hl 0 rfl) ?_
  refine lv_if_lt (tgt := 13) hx hb dX4_isKind_1 (by decide) (fun c1 => ?_) (fun c1 => ?_)
  · -- 1 True
    refine lv_iconst (v := 0) hx hb dX4_isKind_13 (by decide) ?_
    exact ro_retz hx hb hr hlk (by decide) (by simp [rg, bI, c1]) dX4_isKind_14
  · -- 1 False
    refine lv_iload_n hx hb dX4_isKind_4 rfl (lv_at hl 0 rfl) ?_
    refine lv_iconst (v := 3) hx hb dX4_isKind_5 (by decide) ?_
    refine lv_icmp_gt (tgt := 13) hx hb dX4_isKind_6 (by decide) (fun c6 => ?_) (fun c6 => ?_)
    · -- 6 True
      refine lv_iconst (v := 0) hx hb dX4_isKind_13 (by decide) ?_
      exact ro_retz hx hb hr hlk (by decide) (by simp [rg, bI, c1, c6]) dX4_isKind_14
    · -- 6 False
      refine lv_iconst (v := 1) hx hb dX4_isKind_9 (by decide) ?_
      refine lv_goto (tgt := 14) hx hb dX4_isKind_10 (by decide) ?_
      exact ro_retz hx hb hr hlk (by decide) (by simp [rg, bI, c1, c6]) dX4_isKind_14

set_option maxHeartbeats 4000000 in
set_option maxRecDepth 100000 in
theorem c_X4_isPlace (l : Launch) (D : va_G) (c : CT) (x : Int32)  : ROi l yX4_isPlace wsX4_isPlace ({ frames := 0, cells := 0, slots := 0, locals := 0 } : Room) [.int x] D c ([]) (bI (inN x 5)) := by
  refine ro_starti (cc := cX4_isPlace) (maxL := 1) (ret := some .boolean) (by decide) rfl (Nat.le_of_ble_eq_true rfl) ?_
  intro p e s m args below meth c0 ls hx hb hr hml hown hts hlk hP hK hl
  have hown : s.vm.findClass RX4 = some m.cls := hown
  have hl : lv_has ls 1 [(0, .int x)] := hl
  refine lv_iload_n hx hb dX4_isPlace_0 rfl (lv_at hl 0 rfl) ?_
  refine lv_if_lt (tgt := 13) hx hb dX4_isPlace_1 (by decide) (fun c1 => ?_) (fun c1 => ?_)
  · -- 1 True
    refine lv_iconst (v := 0) hx hb dX4_isPlace_13 (by decide) ?_
    exact ro_retz hx hb hr hlk (by decide) (by simp [inN, bI, show nI 5 = 5 from rfl, c1]) dX4_isPlace_14
  · -- 1 False
    refine lv_iload_n hx hb dX4_isPlace_4 rfl (lv_at hl 0 rfl) ?_
    refine lv_iconst (v := 5) hx hb dX4_isPlace_5 (by decide) ?_
    refine lv_icmp_ge (tgt := 13) hx hb dX4_isPlace_6 (by decide) (fun c6 => ?_) (fun c6 => ?_)
    · -- 6 True
      refine lv_iconst (v := 0) hx hb dX4_isPlace_13 (by decide) ?_
      exact ro_retz hx hb hr hlk (by decide) (by simp [inN, bI, show nI 5 = 5 from rfl, c1, c6]) dX4_isPlace_14
    · -- 6 False
      refine lv_iconst (v := 1) hx hb dX4_isPlace_9 (by decide) ?_
      refine lv_goto (tgt := 14) hx hb dX4_isPlace_10 (by decide) ?_
      exact ro_retz hx hb hr hlk (by decide) (by simp [inN, bI, show nI 5 = 5 from rfl, c1, c6]) dX4_isPlace_14

set_option maxHeartbeats 4000000 in
set_option maxRecDepth 100000 in
theorem c_X4_isStretch (l : Launch) (D : va_G) (c : CT) (x y : Int32)  : ROi l yX4_isStretch wsX4_isStretch ({ frames := 0, cells := 0, slots := 0, locals := 0 } : Room) [.int x, .int y] D c ([]) (bI (stB x y)) := by
  refine ro_starti (cc := cX4_isStretch) (maxL := 2) (ret := some .boolean) (by decide) rfl (Nat.le_of_ble_eq_true rfl) ?_
  intro p e s m args below meth c0 ls hx hb hr hml hown hts hlk hP hK hl
  have hown : s.vm.findClass RX4 = some m.cls := hown
  have hl : lv_has ls 2 [(0, .int x), (1, .int y)] := hl
  refine lv_iload_n hx hb dX4_isStretch_0 rfl (lv_at hl 0 rfl) ?_
  refine lv_if_lt (tgt := 20) hx hb dX4_isStretch_1 (by decide) (fun c1 => ?_) (fun c1 => ?_)
  · -- 1 True
    refine lv_iconst (v := 0) hx hb dX4_isStretch_20 (by decide) ?_
    exact ro_retz hx hb hr hlk (by decide) (by simp [stB, bI, c1]) dX4_isStretch_21
  · -- 1 False
    refine lv_iload_n hx hb dX4_isStretch_4 rfl (lv_at hl 0 rfl) ?_
    refine lv_iconst (v := 5) hx hb dX4_isStretch_5 (by decide) ?_
    refine lv_icmp_gt (tgt := 20) hx hb dX4_isStretch_6 (by decide) (fun c6 => ?_) (fun c6 => ?_)
    · -- 6 True
      refine lv_iconst (v := 0) hx hb dX4_isStretch_20 (by decide) ?_
      exact ro_retz hx hb hr hlk (by decide) (by simp [stB, bI, c1, c6]) dX4_isStretch_21
    · -- 6 False
      refine lv_iload_n hx hb dX4_isStretch_9 rfl (lv_at hl 1 rfl) ?_
      refine lv_iconst (v := 5) hx hb dX4_isStretch_10 (by decide) ?_
      refine lv_iload_n hx hb dX4_isStretch_11 rfl (lv_at hl 0 rfl) ?_
      refine lv_isub hx hb dX4_isStretch_12 ?_
      refine lv_icmp_gt (tgt := 20) hx hb dX4_isStretch_13 (by decide) (fun c13 => ?_) (fun c13 => ?_)
      · -- 13 True
        refine lv_iconst (v := 0) hx hb dX4_isStretch_20 (by decide) ?_
        exact ro_retz hx hb hr hlk (by decide) (by simp [stB, bI, c1, c6, c13]) dX4_isStretch_21
      · -- 13 False
        refine lv_iconst (v := 1) hx hb dX4_isStretch_16 (by decide) ?_
        refine lv_goto (tgt := 21) hx hb dX4_isStretch_17 (by decide) ?_
        exact ro_retz hx hb hr hlk (by decide) (by simp [stB, bI, c1, c6, c13]) dX4_isStretch_21

set_option maxHeartbeats 4000000 in
set_option maxRecDepth 100000 in
theorem c_X4_isSpan (l : Launch) (D : va_G) (c : CT) (x : Int32)  : ROi l yX4_isSpan wsX4_isSpan ({ frames := 0, cells := 0, slots := 0, locals := 0 } : Room) [.int x] D c ([]) (bI (rg x 0 30000)) := by
  refine ro_starti (cc := cX4_isSpan) (maxL := 1) (ret := some .boolean) (by decide) rfl (Nat.le_of_ble_eq_true rfl) ?_
  intro p e s m args below meth c0 ls hx hb hr hml hown hts hlk hP hK hl
  have hown : s.vm.findClass RX4 = some m.cls := hown
  have hl : lv_has ls 1 [(0, .int x)] := hl
  refine lv_iload_n hx hb dX4_isSpan_0 rfl (lv_at hl 0 rfl) ?_
  refine lv_if_lt (tgt := 15) hx hb dX4_isSpan_1 (by decide) (fun c1 => ?_) (fun c1 => ?_)
  · -- 1 True
    refine lv_iconst (v := 0) hx hb dX4_isSpan_15 (by decide) ?_
    exact ro_retz hx hb hr hlk (by decide) (by simp [rg, bI, c1]) dX4_isSpan_16
  · -- 1 False
    refine lv_iload_n hx hb dX4_isSpan_4 rfl (lv_at hl 0 rfl) ?_
    refine lv_sipush (v := 30000) hx hb dX4_isSpan_5 (by decide) ?_
    refine lv_icmp_gt (tgt := 15) hx hb dX4_isSpan_8 (by decide) (fun c8 => ?_) (fun c8 => ?_)
    · -- 8 True
      refine lv_iconst (v := 0) hx hb dX4_isSpan_15 (by decide) ?_
      exact ro_retz hx hb hr hlk (by decide) (by simp [rg, bI, c1, c8]) dX4_isSpan_16
    · -- 8 False
      refine lv_iconst (v := 1) hx hb dX4_isSpan_11 (by decide) ?_
      refine lv_goto (tgt := 16) hx hb dX4_isSpan_12 (by decide) ?_
      exact ro_retz hx hb hr hlk (by decide) (by simp [rg, bI, c1, c8]) dX4_isSpan_16

set_option maxHeartbeats 4000000 in
set_option maxRecDepth 100000 in
theorem c_X4_isIn (l : Launch) (D : va_G) (c : CT) (t : Nat) (x : Int32) (ht : t < 32) : ROi l yX4_isIn wsX4_isIn ({ frames := 0, cells := 0, slots := 0, locals := 0 } : Room) [.int (nI t), .int x] D c ([]) (bI (bt x t)) := by
  refine ro_starti (cc := cX4_isIn) (maxL := 2) (ret := some .boolean) (by decide) rfl (Nat.le_of_ble_eq_true rfl) ?_
  intro p e s m args below meth c0 ls hx hb hr hml hown hts hlk hP hK hl
  have hown : s.vm.findClass RX4 = some m.cls := hown
  have hl : lv_has ls 2 [(0, .int (nI t)), (1, .int x)] := hl
  refine lv_iload_n hx hb dX4_isIn_0 rfl (lv_at hl 1 rfl) ?_
  refine lv_iload_n hx hb dX4_isIn_1 rfl (lv_at hl 0 rfl) ?_
  refine lv_iushr (v := (x.toUInt32 >>> ((nI t).toUInt32 &&& Int32.toUInt32 31)).toInt32) hx hb dX4_isIn_2 rfl ?_
  refine lv_iconst (v := 1) hx hb dX4_isIn_3 (by decide) ?_
  refine lv_iand hx hb dX4_isIn_4 ?_
  refine tp_i (z := bI (bt x t)) (in_u ht x) ?_
  refine lv_iconst (v := 1) hx hb dX4_isIn_5 (by decide) ?_
  refine lv_icmp_ne (tgt := 13) hx hb dX4_isIn_6 (by decide) (fun c6 => ?_) (fun c6 => ?_)
  · -- 6 True
    refine lv_iconst (v := 0) hx hb dX4_isIn_13 (by decide) ?_
    exact ro_retz hx hb hr hlk (by decide) ((bI_f (bI_n1.mp c6)).symm) dX4_isIn_14
  · -- 6 False
    refine lv_iconst (v := 1) hx hb dX4_isIn_9 (by decide) ?_
    refine lv_goto (tgt := 14) hx hb dX4_isIn_10 (by decide) ?_
    exact ro_retz hx hb hr hlk (by decide) ((bI_t (bI_1.mp c6)).symm) dX4_isIn_14

set_option maxHeartbeats 4000000 in
set_option maxRecDepth 100000 in
theorem c_X5_in (l : Launch) (D : va_G) (c : CT) (x a b : Int32)  : ROi l yX5_in wsX5_in ({ frames := 0, cells := 0, slots := 0, locals := 0 } : Room) [.int x, .int a, .int b] D c ([]) (bI (rg x a b)) := by
  refine ro_starti (cc := cX5_in) (maxL := 3) (ret := some .boolean) (by decide) rfl (Nat.le_of_ble_eq_true rfl) ?_
  intro p e s m args below meth c0 ls hx hb hr hml hown hts hlk hP hK hl
  have hown : s.vm.findClass RX5 = some m.cls := hown
  have hl : lv_has ls 3 [(0, .int x), (1, .int a), (2, .int b)] := hl
  refine lv_iload_n hx hb dX5_in_0 rfl (lv_at hl 0 rfl) ?_
  refine lv_iload_n hx hb dX5_in_1 rfl (lv_at hl 1 rfl) ?_
  refine lv_icmp_lt (tgt := 14) hx hb dX5_in_2 (by decide) (fun c2 => ?_) (fun c2 => ?_)
  · -- 2 True
    refine lv_iconst (v := 0) hx hb dX5_in_14 (by decide) ?_
    exact ro_retz hx hb hr hlk (by decide) (by simp [rg, bI, c2]) dX5_in_15
  · -- 2 False
    refine lv_iload_n hx hb dX5_in_5 rfl (lv_at hl 0 rfl) ?_
    refine lv_iload_n hx hb dX5_in_6 rfl (lv_at hl 2 rfl) ?_
    refine lv_icmp_gt (tgt := 14) hx hb dX5_in_7 (by decide) (fun c7 => ?_) (fun c7 => ?_)
    · -- 7 True
      refine lv_iconst (v := 0) hx hb dX5_in_14 (by decide) ?_
      exact ro_retz hx hb hr hlk (by decide) (by simp [rg, bI, c2, c7]) dX5_in_15
    · -- 7 False
      refine lv_iconst (v := 1) hx hb dX5_in_10 (by decide) ?_
      refine lv_goto (tgt := 15) hx hb dX5_in_11 (by decide) ?_
      exact ro_retz hx hb hr hlk (by decide) (by simp [rg, bI, c2, c7]) dX5_in_15

set_option maxHeartbeats 4000000 in
set_option maxRecDepth 100000 in
theorem c_X5_has (l : Launch) (D : va_G) (c : CT) (x : Int32) (t : Nat) (ht : t < 32) : ROi l yX5_has wsX5_has ({ frames := 0, cells := 0, slots := 0, locals := 0 } : Room) [.int x, .int (nI t)] D c ([]) (bI (bt x t)) := by
  refine ro_starti (cc := cX5_has) (maxL := 2) (ret := some .boolean) (by decide) rfl (Nat.le_of_ble_eq_true rfl) ?_
  intro p e s m args below meth c0 ls hx hb hr hml hown hts hlk hP hK hl
  have hown : s.vm.findClass RX5 = some m.cls := hown
  have hl : lv_has ls 2 [(0, .int x), (1, .int (nI t))] := hl
  refine lv_iload_n hx hb dX5_has_0 rfl (lv_at hl 0 rfl) ?_
  refine lv_iload_n hx hb dX5_has_1 rfl (lv_at hl 1 rfl) ?_
  refine lv_ishr hx hb dX5_has_2 ?_
  refine lv_iconst (v := 1) hx hb dX5_has_3 (by decide) ?_
  refine lv_iand hx hb dX5_has_4 ?_
  refine tp_i (z := bI (bt x t)) (in_s ht x) ?_
  refine lv_iconst (v := 1) hx hb dX5_has_5 (by decide) ?_
  refine lv_icmp_ne (tgt := 13) hx hb dX5_has_6 (by decide) (fun c6 => ?_) (fun c6 => ?_)
  · -- 6 True
    refine lv_iconst (v := 0) hx hb dX5_has_13 (by decide) ?_
    exact ro_retz hx hb hr hlk (by decide) ((bI_f (bI_n1.mp c6)).symm) dX5_has_14
  · -- 6 False
    refine lv_iconst (v := 1) hx hb dX5_has_9 (by decide) ?_
    refine lv_goto (tgt := 14) hx hb dX5_has_10 (by decide) ?_
    exact ro_retz hx hb hr hlk (by decide) ((bI_t (bI_1.mp c6)).symm) dX5_has_14

set_option maxHeartbeats 4000000 in
set_option maxRecDepth 100000 in
theorem c_X5_bits (l : Launch) (D : va_G) (c : CT) (x : Int64)  : ROi l yX5_bits wsX5_bits ({ frames := 0, cells := 0, slots := 0, locals := 0 } : Room) [.long x] D c ([]) (bitsN x 40) := by
  refine ro_starti (cc := cX5_bits) (maxL := 4) (ret := some .int) (by decide) rfl (Nat.le_of_ble_eq_true rfl) ?_
  intro p e s m args below meth c0 ls hx hb hr hml hown hts hlk hP hK hl
  have hown : s.vm.findClass RX5 = some m.cls := hown
  have hl : lv_has ls 4 [(0, .long x)] := hl
  refine lv_iconst (v := 0) hx hb dX5_bits_0 (by decide) ?_
  refine lv_istore_n (lv' := [(2, .int 0), (0, .long x)]) hx hb dX5_bits_1 rfl hl (by decide) rfl (fun ls hl => ?_)
  refine lv_iconst (v := 0) hx hb dX5_bits_2 (by decide) ?_
  refine lv_istore_n (lv' := [(3, .int 0), (2, .int 0), (0, .long x)]) hx hb dX5_bits_3 rfl hl (by decide) rfl (fun ls hl => ?_)
  have L4 : ∀ (n : Nat) (k : Nat) (a : Int32), (k ≤ 40) → (40 < k + n) → (a = bitsN x k) → ∀ ls : Array Slot, lv_has ls 4 [(3, .int (nI k)), (2, .int a), (0, .long x)] → W p l e ({ frames := 0, cells := 0, slots := 0, locals := 0 } : Room) s m args below meth c0 s.heap [] 0 0 (QRi below args s (bitsN x 40)) (F0 m 4 ls []) := by
    intro n
    induction n with
    | zero => intro k a hk hn ha ls hl; exact absurd hn (by omega)
    | succ n ih4 =>
      intro k a hk hn ha ls hl
      refine lv_iload_n hx hb dX5_bits_4 rfl (lv_at hl 0 rfl) ?_
      refine lv_bipush (v := 40) hx hb dX5_bits_5 (by decide) ?_
      refine lv_icmp_ge (tgt := 25) hx hb dX5_bits_7 (by decide) (fun c7 => ?_) (fun c7 => ?_)
      · -- 7 True
        have c7 : 40 ≤ k := (nI_leI (a := 40) (b := k) (by omega) (by omega)).mp c7
        refine lv_iload_n hx hb dX5_bits_25 rfl (lv_at hl 1 rfl) ?_
        exact ro_reti hx hb hr hlk (by rw [ha, show k = 40 by omega]) dX5_bits_26
      · -- 7 False
        have c7 : k < 40 := (Nat.not_le.mp (fun z => c7 ((nI_leI (a := 40) (b := k) (by omega) (by omega)).mpr z)))
        refine lv_iload_n hx hb dX5_bits_10 rfl (lv_at hl 1 rfl) ?_
        refine lv_lload_n hx hb dX5_bits_11 rfl (lv_at hl 2 rfl) ?_
        refine lv_iload_n hx hb dX5_bits_12 rfl (lv_at hl 0 rfl) ?_
        refine lv_lshr (v := (x >>> ((nI k).toInt64 &&& 63))) hx hb dX5_bits_13 rfl ?_
        refine lv_lconst (v := 1) hx hb dX5_bits_14 (by decide) ?_
        refine lv_land hx hb dX5_bits_15 ?_
        refine tp_l (z := bL (bl x k)) (in_sL (by omega) x) ?_
        refine lv_l2i (v := (bL (bl x k)).toInt32) hx hb dX5_bits_16 rfl ?_
        refine tp_i (z := bI (bl x k)) (bL_i _) ?_
        refine lv_iadd hx hb dX5_bits_17 ?_
        refine lv_istore_n (lv' := [(2, .int (a + bI (bl x k))), (3, .int (nI k)), (0, .long x)]) hx hb dX5_bits_18 rfl hl (by decide) rfl (fun ls hl => ?_)
        refine lv_iinc (v := nI (k + 1)) (lv' := [(3, .int (nI (k + 1))), (2, .int (a + bI (bl x k))), (0, .long x)]) hx hb dX5_bits_19 hl (k := 1) rfl (nI_inc _) (by decide) rfl (fun ls hl => ?_)
        refine lv_goto (tgt := 4) hx hb dX5_bits_22 (by decide) ?_
        exact ih4 (k + 1) (a + bI (bl x k)) (by omega) (by omega) (by rw [ha]; rfl) ls (lv_sub hl [0, 1, 2] rfl)
  exact L4 (41) 0 0 (by omega) (by omega) (rfl) ls (lv_sub hl [0, 1, 2] rfl)

set_option maxHeartbeats 4000000 in
set_option maxRecDepth 100000 in
theorem c_X3_has (l : Launch) (D : va_G) (q : Nat → Nat) (c : CT) (ts : TS) (x : Int32)  : ROi l yX3_has wsX3_has ({ frames := 0, cells := 0, slots := 0, locals := 0 } : Room) [.ref (q 2), .int x] D c (wT q c ts) (bI (inN x (tT ts))) := by
  refine ro_starti (cc := cX3_has) (maxL := 2) (ret := some .boolean) (by decide) rfl (Nat.le_of_ble_eq_true rfl) ?_
  intro p e s m args below meth c0 ls hx hb hr hml hown hts hlk hP hK hl
  have hown : s.vm.findClass RX3 = some m.cls := hown
  have hl : lv_has ls 2 [(0, .ref (q 2)), (1, .int x)] := hl
  have hin3 : ∀ w ∈ wsX30, w ∈ wsX3_has := by decide +kernel
  refine lv_iload_n hx hb dX3_has_0 rfl (lv_at hl 1 rfl) ?_
  refine lv_if_lt (tgt := 16) hx hb dX3_has_1 (by decide) (fun c1 => ?_) (fun c1 => ?_)
  · -- 1 True
    refine lv_iconst (v := 0) hx hb dX3_has_16 (by decide) ?_
    exact ro_retz hx hb hr hlk (by decide) (by simp [inN, bI, c1]) dX3_has_17
  · -- 1 False
    refine lv_iload_n hx hb dX3_has_4 rfl (lv_at hl 1 rfl) ?_
    refine lv_aload_n hx hb dX3_has_5 rfl (lv_at hl 0 rfl) ?_
    refine va_get (D := D) (ci := 3) (v := .int (nI (tT ts))) (C := RX3) (T := TX3) (N := 7) hx hb hts hin3 hown hK.1 hP 0 rfl rfl 6 (by decide) (hts (.fieldLink RX3 32 "TestPicker$Tests" "size" "I") (by decide +kernel)) (fun _ h9 => h9) rfl dX3_has_6 ?_
    refine lv_icmp_ge (tgt := 16) hx hb dX3_has_9 (by decide) (fun c9 => ?_) (fun c9 => ?_)
    · -- 9 True
      refine lv_iconst (v := 0) hx hb dX3_has_16 (by decide) ?_
      exact ro_retz hx hb hr hlk (by decide) (by simp [inN, bI, c1, c9]) dX3_has_17
    · -- 9 False
      refine lv_iconst (v := 1) hx hb dX3_has_12 (by decide) ?_
      refine lv_goto (tgt := 17) hx hb dX3_has_13 (by decide) ?_
      exact ro_retz hx hb hr hlk (by decide) (by simp [inN, bI, c1, c9]) dX3_has_17

set_option maxHeartbeats 4000000 in
set_option maxRecDepth 100000 in
theorem c_X3_hasAll (l : Launch) (D : va_G) (q : Nat → Nat) (c : CT) (ts : TS) (x : Int32)  : ROi l yX3_hasAll wsX3_hasAll ({ frames := 0, cells := 0, slots := 0, locals := 0 } : Room) [.ref (q 2), .int x] D c (wT q c ts) (bI (hAll x (tT ts))) := by
  refine ro_starti (cc := cX3_hasAll) (maxL := 2) (ret := some .boolean) (by decide) rfl (Nat.le_of_ble_eq_true rfl) ?_
  intro p e s m args below meth c0 ls hx hb hr hml hown hts hlk hP hK hl
  have hown : s.vm.findClass RX3 = some m.cls := hown
  have hl : lv_has ls 2 [(0, .ref (q 2)), (1, .int x)] := hl
  have hin3 : ∀ w ∈ wsX30, w ∈ wsX3_hasAll := by decide +kernel
  refine lv_iload_n hx hb dX3_hasAll_0 rfl (lv_at hl 1 rfl) ?_
  refine lv_aload_n hx hb dX3_hasAll_1 rfl (lv_at hl 0 rfl) ?_
  refine va_get (D := D) (ci := 3) (v := .int (nI (tT ts))) (C := RX3) (T := TX3) (N := 7) hx hb hts hin3 hown hK.1 hP 0 rfl rfl 6 (by decide) (hts (.fieldLink RX3 32 "TestPicker$Tests" "size" "I") (by decide +kernel)) (fun _ h9 => h9) rfl dX3_hasAll_2 ?_
  refine lv_iushr (v := (x.toUInt32 >>> ((nI (tT ts)).toUInt32 &&& Int32.toUInt32 31)).toInt32) hx hb dX3_hasAll_5 rfl ?_
  refine lv_if_ne (tgt := 13) hx hb dX3_hasAll_6 (by decide) (fun c6 => ?_) (fun c6 => ?_)
  · -- 6 True
    refine lv_iconst (v := 0) hx hb dX3_hasAll_13 (by decide) ?_
    exact ro_retz hx hb hr hlk (by decide) (by simp [hAll, bI, c6]) dX3_hasAll_14
  · -- 6 False
    refine lv_iconst (v := 1) hx hb dX3_hasAll_9 (by decide) ?_
    refine lv_goto (tgt := 14) hx hb dX3_hasAll_10 (by decide) ?_
    exact ro_retz hx hb hr hlk (by decide) (by simp [hAll, bI, c6]) dX3_hasAll_14

set_option maxHeartbeats 4000000 in
set_option maxRecDepth 100000 in
theorem c_X3_countedTime (l : Launch) (D : va_G) (q : Nat → Nat) (c : CT) (ts : TS) (t : Nat) (ht : t < 20) : ROi l yX3_countedTime wsX3_countedTime ({ frames := 0, cells := 0, slots := 0, locals := 0 } : Room) [.ref (q 2), .int (nI t)] D c (wT q c ts) (cTm (tKd ts) (tOt ts) t) := by
  refine ro_starti (cc := cX3_countedTime) (maxL := 2) (ret := some .int) (by decide) rfl (Nat.le_of_ble_eq_true rfl) ?_
  intro p e s m args below meth c0 ls hx hb hr hml hown hts hlk hP hK hl
  have hown : s.vm.findClass RX3 = some m.cls := hown
  have hl : lv_has ls 2 [(0, .ref (q 2)), (1, .int (nI t))] := hl
  have hin3 : ∀ w ∈ wsX30, w ∈ wsX3_countedTime := by decide +kernel
  refine lv_aload_n hx hb dX3_countedTime_0 rfl (lv_at hl 0 rfl) ?_
  refine va_get (D := D) (ci := 3) (v := .ref (q 3)) (C := RX3) (T := TX3) (N := 7) hx hb hts hin3 hown hK.1 hP 0 rfl rfl 0 (by decide) (hts (.fieldLink RX3 9 "TestPicker$Tests" "kinds" "[I") (by decide +kernel)) (fun _ h9 => h9) rfl dX3_countedTime_1 ?_
  refine lv_iload_n hx hb dX3_countedTime_4 rfl (lv_at hl 1 rfl) ?_
  refine ld_i hx hb hK hP 1 (f := tKd ts) rfl (i := t) (by omega) (by decide) dX3_countedTime_5 ?_
  refine lv_iconst (v := 1) hx hb dX3_countedTime_6 (by decide) ?_
  refine lv_icmp_ne (tgt := 21) hx hb dX3_countedTime_7 (by decide) (fun c7 => ?_) (fun c7 => ?_)
  · -- 7 True
    refine lv_aload_n hx hb dX3_countedTime_21 rfl (lv_at hl 0 rfl) ?_
    refine va_get (D := D) (ci := 3) (v := .ref (q 4)) (C := RX3) (T := TX3) (N := 7) hx hb hts hin3 hown hK.1 hP 0 rfl rfl 1 (by decide) (hts (.fieldLink RX3 15 "TestPicker$Tests" "ownTimes" "[I") (by decide +kernel)) (fun _ h9 => h9) rfl dX3_countedTime_22 ?_
    refine lv_iload_n hx hb dX3_countedTime_25 rfl (lv_at hl 1 rfl) ?_
    refine ld_i hx hb hK hP 2 (f := tOt ts) rfl (i := t) (by omega) (by decide) dX3_countedTime_26 ?_
    exact ro_reti hx hb hr hlk (by simp [cTm, c7]) dX3_countedTime_27
  · -- 7 False
    refine lv_iconst (v := 3) hx hb dX3_countedTime_10 (by decide) ?_
    refine lv_aload_n hx hb dX3_countedTime_11 rfl (lv_at hl 0 rfl) ?_
    refine va_get (D := D) (ci := 3) (v := .ref (q 4)) (C := RX3) (T := TX3) (N := 7) hx hb hts hin3 hown hK.1 hP 0 rfl rfl 1 (by decide) (hts (.fieldLink RX3 15 "TestPicker$Tests" "ownTimes" "[I") (by decide +kernel)) (fun _ h9 => h9) rfl dX3_countedTime_12 ?_
    refine lv_iload_n hx hb dX3_countedTime_15 rfl (lv_at hl 1 rfl) ?_
    refine ld_i hx hb hK hP 2 (f := tOt ts) rfl (i := t) (by omega) (by decide) dX3_countedTime_16 ?_
    refine lv_imul hx hb dX3_countedTime_17 ?_
    refine lv_goto (tgt := 27) hx hb dX3_countedTime_18 (by decide) ?_
    exact ro_reti hx hb hr hlk (by simp [cTm, c7]) dX3_countedTime_27

set_option maxHeartbeats 4000000 in
set_option maxRecDepth 100000 in
theorem c_X3_reachByte (l : Launch) (D : va_G) (q : Nat → Nat) (c : CT) (ts : TS) (t i : Nat) (ht : t < 20) : ROi l yX3_reachByte wsX3_reachByte ({ frames := 0, cells := 0, slots := 0, locals := 0 } : Room) [.ref (q 2), .int (nI t), .int (nI i)] D c (wT q c ts) (byB (tPa ts t) i) := by
  refine ro_starti (cc := cX3_reachByte) (maxL := 3) (ret := some .int) (by decide) rfl (Nat.le_of_ble_eq_true rfl) ?_
  intro p e s m args below meth c0 ls hx hb hr hml hown hts hlk hP hK hl
  have hown : s.vm.findClass RX3 = some m.cls := hown
  have hl : lv_has ls 3 [(0, .ref (q 2)), (1, .int (nI t)), (2, .int (nI i))] := hl
  have hin3 : ∀ w ∈ wsX30, w ∈ wsX3_reachByte := by decide +kernel
  refine lv_aload_n hx hb dX3_reachByte_0 rfl (lv_at hl 0 rfl) ?_
  refine va_get (D := D) (ci := 3) (v := .ref (q 7)) (C := RX3) (T := TX3) (N := 7) hx hb hts hin3 hown hK.1 hP 0 rfl rfl 4 (by decide) (hts (.fieldLink RX3 24 "TestPicker$Tests" "parts" "[J") (by decide +kernel)) (fun _ h9 => h9) rfl dX3_reachByte_1 ?_
  refine lv_iload_n hx hb dX3_reachByte_4 rfl (lv_at hl 1 rfl) ?_
  refine ld_l hx hb hK hP 5 (f := tPa ts) rfl (i := t) (by omega) (by decide) dX3_reachByte_5 ?_
  refine lv_bipush (v := 8) hx hb dX3_reachByte_6 (by decide) ?_
  refine lv_iload_n hx hb dX3_reachByte_8 rfl (lv_at hl 2 rfl) ?_
  refine lv_imul hx hb dX3_reachByte_9 ?_
  refine tp_i (z := nI (8 * i)) (mul8 i) ?_
  refine lv_lushr (v := ((tPa ts t).toUInt64 >>> ((nI (8 * i)).toInt64.toUInt64 &&& Int64.toUInt64 63)).toInt64) hx hb dX3_reachByte_10 rfl ?_
  refine lv_ldc2 (own := RX3) (v := (255)) hx hb hown (hts (.constantLong RX3 36 (255)) (by decide +kernel)) dX3_reachByte_11 ?_
  refine lv_land hx hb dX3_reachByte_14 ?_
  refine lv_l2i (v := (((tPa ts t).toUInt64 >>> ((nI (8 * i)).toInt64.toUInt64 &&& Int64.toUInt64 63)).toInt64 &&& (255)).toInt32) hx hb dX3_reachByte_15 rfl ?_
  exact ro_reti hx hb hr hlk (rfl) dX3_reachByte_16

set_option maxHeartbeats 4000000 in
set_option maxRecDepth 100000 in
theorem c_X3_timeOf (l : Launch) (D : va_G) (q : Nat → Nat) (c : CT) (ts : TS) (x : Int32) (hT : tT ts ≤ 20) : ROi l yX3_timeOf wsX3_timeOf ({ frames := 1, cells := 0, slots := 0, locals := 21 } : Room) [.ref (q 2), .int x] D c (wT q c ts) (tmS (tKd ts) (tOt ts) x (tT ts)) := by
  refine ro_starti (cc := cX3_timeOf) (maxL := 4) (ret := some .int) (by decide) rfl (Nat.le_of_ble_eq_true rfl) ?_
  intro p e s m args below meth c0 ls hx hb hr hml hown hts hlk hP hK hl
  have hown : s.vm.findClass RX3 = some m.cls := hown
  have hl : lv_has ls 4 [(0, .ref (q 2)), (1, .int x)] := hl
  have hin3 : ∀ w ∈ wsX30, w ∈ wsX3_timeOf := by decide +kernel
  refine lv_iconst (v := 0) hx hb dX3_timeOf_0 (by decide) ?_
  refine lv_istore_n (lv' := [(2, .int 0), (0, .ref (q 2)), (1, .int x)]) hx hb dX3_timeOf_1 rfl hl (by decide) rfl (fun ls hl => ?_)
  refine lv_iconst (v := 0) hx hb dX3_timeOf_2 (by decide) ?_
  refine lv_istore_n (lv' := [(3, .int 0), (2, .int 0), (0, .ref (q 2)), (1, .int x)]) hx hb dX3_timeOf_3 rfl hl (by decide) rfl (fun ls hl => ?_)
  have L4 : ∀ (n : Nat) (i : Nat) (a : Int32), (i ≤ tT ts) → (tT ts < i + n) → (a = tmS (tKd ts) (tOt ts) x i) → ∀ ls : Array Slot, lv_has ls 4 [(3, .int (nI i)), (2, .int a), (0, .ref (q 2)), (1, .int x)] → W p l e ({ frames := 1, cells := 0, slots := 0, locals := 21 } : Room) s m args below meth c0 s.heap [] 0 0 (QRi below args s (tmS (tKd ts) (tOt ts) x (tT ts))) (F0 m 4 ls []) := by
    intro n
    induction n with
    | zero => intro i a hi hn ha ls hl; exact absurd hn (by omega)
    | succ n ih4 =>
      intro i a hi hn ha ls hl
      refine lv_iload_n hx hb dX3_timeOf_4 rfl (lv_at hl 0 rfl) ?_
      refine lv_aload_n hx hb dX3_timeOf_5 rfl (lv_at hl 2 rfl) ?_
      refine va_get (D := D) (ci := 3) (v := .int (nI (tT ts))) (C := RX3) (T := TX3) (N := 7) hx hb hts hin3 hown hK.1 hP 0 rfl rfl 6 (by decide) (hts (.fieldLink RX3 32 "TestPicker$Tests" "size" "I") (by decide +kernel)) (fun _ h9 => h9) rfl dX3_timeOf_6 ?_
      refine lv_icmp_ge (tgt := 38) hx hb dX3_timeOf_9 (by decide) (fun c9 => ?_) (fun c9 => ?_)
      · -- 9 True
        have c9 : (tT ts) ≤ i := (nI_leI (a := (tT ts)) (b := i) (by omega) (by omega)).mp c9
        refine lv_iload_n hx hb dX3_timeOf_38 rfl (lv_at hl 1 rfl) ?_
        exact ro_reti hx hb hr hlk (by rw [ha, show i = tT ts by omega]) dX3_timeOf_39
      · -- 9 False
        have c9 : i < (tT ts) := (Nat.not_le.mp (fun z => c9 ((nI_leI (a := (tT ts)) (b := i) (by omega) (by omega)).mpr z)))
        refine lv_iload_n hx hb dX3_timeOf_12 rfl (lv_at hl 1 rfl) ?_
        refine lv_iload_n hx hb dX3_timeOf_13 rfl (lv_at hl 0 rfl) ?_
        refine lv_iload_n hx hb dX3_timeOf_14 rfl (lv_at hl 3 rfl) ?_
        refine ro_SNi (As := [.int (nI i), .int x]) (rest := [.int a]) ⟨hx, hb, hml, hown, hts⟩ (c_X4_isIn l D c i x (by omega)) ⟨va_cnB 2 hts gX3_timeOf_X4_isIn_n40 rfl rfl rfl hK.2 (hts (.initialized RX4) (by decide +kernel)) (by decide +kernel) ⟨Nat.le_of_ble_eq_true rfl, Nat.le_of_ble_eq_true rfl⟩, hts (.static yX4_isIn) (by decide +kernel), trivial⟩ va_P0 hK rfl hl.1 rfl (Nat.le_of_ble_eq_true rfl) dX3_timeOf_15 ⟨Nat.le_of_ble_eq_true rfl, Nat.le_of_ble_eq_true rfl⟩ ?_
        refine lv_if_eq (tgt := 29) hx hb dX3_timeOf_18 (by decide) (fun c18 => ?_) (fun c18 => ?_)
        · -- 18 True
          have c18 := bI_z.mp c18
          refine lv_iconst (v := 0) hx hb dX3_timeOf_29 (by decide) ?_
          refine lv_iadd hx hb dX3_timeOf_30 ?_
          refine lv_istore_n (lv' := [(2, .int (a + 0)), (3, .int (nI i)), (0, .ref (q 2)), (1, .int x)]) hx hb dX3_timeOf_31 rfl hl (by decide) rfl (fun ls hl => ?_)
          refine lv_iinc (v := nI (i + 1)) (lv' := [(3, .int (nI (i + 1))), (2, .int (a + 0)), (0, .ref (q 2)), (1, .int x)]) hx hb dX3_timeOf_32 hl (k := 1) rfl (nI_inc _) (by decide) rfl (fun ls hl => ?_)
          refine lv_goto (tgt := 4) hx hb dX3_timeOf_35 (by decide) ?_
          exact ih4 (i + 1) (a + 0) (by omega) (by omega) (by rw [ha]; simp [tmS, c18]) ls (lv_sub hl [0, 1, 2, 3] rfl)
        · -- 18 False
          have c18 := bI_nz.mp c18
          refine lv_aload_n hx hb dX3_timeOf_21 rfl (lv_at hl 2 rfl) ?_
          refine lv_iload_n hx hb dX3_timeOf_22 rfl (lv_at hl 0 rfl) ?_
          refine ro_Vi (post := (cTm (tKd ts) (tOt ts) i)) (As := [.int (nI i)]) (rest := [.int a]) ⟨hx, hb, hml, hown, hts⟩ (c_X3_countedTime l D q c ts i (by omega)) (cwV 1 hts gX3_timeOf_X3_countedTime rfl rfl rfl (by decide +kernel) ⟨Nat.le_of_ble_eq_true rfl, Nat.le_of_ble_eq_true rfl⟩) hP hK (va_recv hK.1 hP (ci := 3) (q0 := 0) rfl rfl) rfl hl.1 rfl (Nat.le_of_ble_eq_true rfl) dX3_timeOf_23 ⟨Nat.le_of_ble_eq_true rfl, Nat.le_of_ble_eq_true rfl⟩ ?_
          refine lv_goto (tgt := 30) hx hb dX3_timeOf_26 (by decide) ?_
          refine lv_iadd hx hb dX3_timeOf_30 ?_
          refine lv_istore_n (lv' := [(2, .int (a + (cTm (tKd ts) (tOt ts) i))), (3, .int (nI i)), (0, .ref (q 2)), (1, .int x)]) hx hb dX3_timeOf_31 rfl hl (by decide) rfl (fun ls hl => ?_)
          refine lv_iinc (v := nI (i + 1)) (lv' := [(3, .int (nI (i + 1))), (2, .int (a + (cTm (tKd ts) (tOt ts) i))), (0, .ref (q 2)), (1, .int x)]) hx hb dX3_timeOf_32 hl (k := 1) rfl (nI_inc _) (by decide) rfl (fun ls hl => ?_)
          refine lv_goto (tgt := 4) hx hb dX3_timeOf_35 (by decide) ?_
          exact ih4 (i + 1) (a + (cTm (tKd ts) (tOt ts) i)) (by omega) (by omega) (by rw [ha]; simp [tmS, c18]) ls (lv_sub hl [0, 1, 2, 3] rfl)
  exact L4 (tT ts + 1) 0 0 (by omega) (by omega) (rfl) ls (lv_sub hl [0, 1, 2, 3] rfl)

set_option maxHeartbeats 4000000 in
set_option maxRecDepth 100000 in
theorem c_X3_partsOf (l : Launch) (D : va_G) (q : Nat → Nat) (c : CT) (ts : TS) (x : Int32) (hT : tT ts ≤ 20) : ROl l yX3_partsOf wsX3_partsOf ({ frames := 1, cells := 0, slots := 0, locals := 21 } : Room) [.ref (q 2), .int x] D c (wT q c ts) (paS (tPa ts) x (tT ts)) := by
  refine ro_startl (cc := cX3_partsOf) (maxL := 5) (ret := some .long) (by decide) rfl (Nat.le_of_ble_eq_true rfl) ?_
  intro p e s m args below meth c0 ls hx hb hr hml hown hts hlk hP hK hl
  have hown : s.vm.findClass RX3 = some m.cls := hown
  have hl : lv_has ls 5 [(0, .ref (q 2)), (1, .int x)] := hl
  have hin3 : ∀ w ∈ wsX30, w ∈ wsX3_partsOf := by decide +kernel
  refine lv_lconst (v := 0) hx hb dX3_partsOf_0 (by decide) ?_
  refine lv_lstore_n (lv' := [(2, .long 0), (0, .ref (q 2)), (1, .int x)]) hx hb dX3_partsOf_1 rfl hl (by decide) rfl (fun ls hl => ?_)
  refine lv_iconst (v := 0) hx hb dX3_partsOf_2 (by decide) ?_
  refine lv_istore (lv' := [(4, .int 0), (2, .long 0), (0, .ref (q 2)), (1, .int x)]) hx hb dX3_partsOf_3 hl (by decide) rfl (fun ls hl => ?_)
  have L5 : ∀ (n : Nat) (i : Nat) (a : Int64), (i ≤ tT ts) → (tT ts < i + n) → (a = paS (tPa ts) x i) → ∀ ls : Array Slot, lv_has ls 5 [(4, .int (nI i)), (2, .long a), (0, .ref (q 2)), (1, .int x)] → W p l e ({ frames := 1, cells := 0, slots := 0, locals := 21 } : Room) s m args below meth c0 s.heap [] 0 0 (QRl below args s (paS (tPa ts) x (tT ts))) (F0 m 5 ls []) := by
    intro n
    induction n with
    | zero => intro i a hi hn ha ls hl; exact absurd hn (by omega)
    | succ n ih5 =>
      intro i a hi hn ha ls hl
      refine lv_iload hx hb dX3_partsOf_5 (lv_at hl 0 rfl) ?_
      refine lv_aload_n hx hb dX3_partsOf_7 rfl (lv_at hl 2 rfl) ?_
      refine va_get (D := D) (ci := 3) (v := .int (nI (tT ts))) (C := RX3) (T := TX3) (N := 7) hx hb hts hin3 hown hK.1 hP 0 rfl rfl 6 (by decide) (hts (.fieldLink RX3 32 "TestPicker$Tests" "size" "I") (by decide +kernel)) (fun _ h9 => h9) rfl dX3_partsOf_8 ?_
      refine lv_icmp_ge (tgt := 43) hx hb dX3_partsOf_11 (by decide) (fun c11 => ?_) (fun c11 => ?_)
      · -- 11 True
        have c11 : (tT ts) ≤ i := (nI_leI (a := (tT ts)) (b := i) (by omega) (by omega)).mp c11
        refine lv_lload_n hx hb dX3_partsOf_43 rfl (lv_at hl 1 rfl) ?_
        exact ro_retl hx hb hr hlk (by rw [ha, show i = tT ts by omega]) dX3_partsOf_44
      · -- 11 False
        have c11 : i < (tT ts) := (Nat.not_le.mp (fun z => c11 ((nI_leI (a := (tT ts)) (b := i) (by omega) (by omega)).mpr z)))
        refine lv_lload_n hx hb dX3_partsOf_14 rfl (lv_at hl 1 rfl) ?_
        refine lv_iload hx hb dX3_partsOf_15 (lv_at hl 0 rfl) ?_
        refine lv_iload_n hx hb dX3_partsOf_17 rfl (lv_at hl 3 rfl) ?_
        refine ro_SNi (As := [.int (nI i), .int x]) (rest := [.long a]) ⟨hx, hb, hml, hown, hts⟩ (c_X4_isIn l D c i x (by omega)) ⟨va_cnB 2 hts gX3_partsOf_X4_isIn_n40 rfl rfl rfl hK.2 (hts (.initialized RX4) (by decide +kernel)) (by decide +kernel) ⟨Nat.le_of_ble_eq_true rfl, Nat.le_of_ble_eq_true rfl⟩, hts (.static yX4_isIn) (by decide +kernel), trivial⟩ va_P0 hK rfl hl.1 rfl (Nat.le_of_ble_eq_true rfl) dX3_partsOf_18 ⟨Nat.le_of_ble_eq_true rfl, Nat.le_of_ble_eq_true rfl⟩ ?_
        refine lv_if_eq (tgt := 34) hx hb dX3_partsOf_21 (by decide) (fun c21 => ?_) (fun c21 => ?_)
        · -- 21 True
          have c21 := bI_z.mp c21
          refine lv_lconst (v := 0) hx hb dX3_partsOf_34 (by decide) ?_
          refine lv_lor hx hb dX3_partsOf_35 ?_
          refine lv_lstore_n (lv' := [(2, .long (a ||| 0)), (4, .int (nI i)), (0, .ref (q 2)), (1, .int x)]) hx hb dX3_partsOf_36 rfl hl (by decide) rfl (fun ls hl => ?_)
          refine lv_iinc (v := nI (i + 1)) (lv' := [(4, .int (nI (i + 1))), (2, .long (a ||| 0)), (0, .ref (q 2)), (1, .int x)]) hx hb dX3_partsOf_37 hl (k := 1) rfl (nI_inc _) (by decide) rfl (fun ls hl => ?_)
          refine lv_goto (tgt := 5) hx hb dX3_partsOf_40 (by decide) ?_
          exact ih5 (i + 1) (a ||| 0) (by omega) (by omega) (by rw [ha]; simp [paS, *]) ls (lv_sub hl [0, 1, 2, 3] rfl)
        · -- 21 False
          have c21 := bI_nz.mp c21
          refine lv_aload_n hx hb dX3_partsOf_24 rfl (lv_at hl 2 rfl) ?_
          refine va_get (D := D) (ci := 3) (v := .ref (q 7)) (C := RX3) (T := TX3) (N := 7) hx hb hts hin3 hown hK.1 hP 0 rfl rfl 4 (by decide) (hts (.fieldLink RX3 24 "TestPicker$Tests" "parts" "[J") (by decide +kernel)) (fun _ h9 => h9) rfl dX3_partsOf_25 ?_
          refine lv_iload hx hb dX3_partsOf_28 (lv_at hl 0 rfl) ?_
          refine ld_l hx hb hK hP 5 (f := tPa ts) rfl (i := i) (by omega) (by decide) dX3_partsOf_30 ?_
          refine lv_goto (tgt := 35) hx hb dX3_partsOf_31 (by decide) ?_
          refine lv_lor hx hb dX3_partsOf_35 ?_
          refine lv_lstore_n (lv' := [(2, .long (a ||| (tPa ts i))), (4, .int (nI i)), (0, .ref (q 2)), (1, .int x)]) hx hb dX3_partsOf_36 rfl hl (by decide) rfl (fun ls hl => ?_)
          refine lv_iinc (v := nI (i + 1)) (lv' := [(4, .int (nI (i + 1))), (2, .long (a ||| (tPa ts i))), (0, .ref (q 2)), (1, .int x)]) hx hb dX3_partsOf_37 hl (k := 1) rfl (nI_inc _) (by decide) rfl (fun ls hl => ?_)
          refine lv_goto (tgt := 5) hx hb dX3_partsOf_40 (by decide) ?_
          exact ih5 (i + 1) (a ||| (tPa ts i)) (by omega) (by omega) (by rw [ha]; simp [paS, *]) ls (lv_sub hl [0, 1, 2, 3] rfl)
  exact L5 (tT ts + 1) 0 0 (by omega) (by omega) (rfl) ls (lv_sub hl [0, 1, 2, 3] rfl)

set_option maxHeartbeats 4000000 in
set_option maxRecDepth 100000 in
theorem c_X0_has (l : Launch) (D : va_G) (q : Nat → Nat) (c : CT) (hs : HS) (x : Int32)  : ROi l yX0_has wsX0_has ({ frames := 0, cells := 0, slots := 0, locals := 0 } : Room) [.ref (q 9), .int x] D c (wH q c hs) (bI (inN x (hB hs))) := by
  refine ro_starti (cc := cX0_has) (maxL := 2) (ret := some .boolean) (by decide) rfl (Nat.le_of_ble_eq_true rfl) ?_
  intro p e s m args below meth c0 ls hx hb hr hml hown hts hlk hP hK hl
  have hown : s.vm.findClass RX0 = some m.cls := hown
  have hl : lv_has ls 2 [(0, .ref (q 9)), (1, .int x)] := hl
  have hin0 : ∀ w ∈ wsX00, w ∈ wsX0_has := by decide +kernel
  refine lv_iload_n hx hb dX0_has_0 rfl (lv_at hl 1 rfl) ?_
  refine lv_if_lt (tgt := 16) hx hb dX0_has_1 (by decide) (fun c1 => ?_) (fun c1 => ?_)
  · -- 1 True
    refine lv_iconst (v := 0) hx hb dX0_has_16 (by decide) ?_
    exact ro_retz hx hb hr hlk (by decide) (by simp [inN, bI, c1]) dX0_has_17
  · -- 1 False
    refine lv_iload_n hx hb dX0_has_4 rfl (lv_at hl 1 rfl) ?_
    refine lv_aload_n hx hb dX0_has_5 rfl (lv_at hl 0 rfl) ?_
    refine va_get (D := D) (ci := 0) (v := .int (nI (hB hs))) (C := RX0) (T := TX0) (N := 4) hx hb hts hin0 hown hK.1 hP 0 rfl rfl 3 (by decide) (hts (.fieldLink RX0 21 "TestPicker$History" "size" "I") (by decide +kernel)) (fun _ h9 => h9) rfl dX0_has_6 ?_
    refine lv_icmp_ge (tgt := 16) hx hb dX0_has_9 (by decide) (fun c9 => ?_) (fun c9 => ?_)
    · -- 9 True
      refine lv_iconst (v := 0) hx hb dX0_has_16 (by decide) ?_
      exact ro_retz hx hb hr hlk (by decide) (by simp [inN, bI, c1, c9]) dX0_has_17
    · -- 9 False
      refine lv_iconst (v := 1) hx hb dX0_has_12 (by decide) ?_
      refine lv_goto (tgt := 17) hx hb dX0_has_13 (by decide) ?_
      exact ro_retz hx hb hr hlk (by decide) (by simp [inN, bI, c1, c9]) dX0_has_17

set_option maxHeartbeats 4000000 in
set_option maxRecDepth 100000 in
theorem c_X0_presentChange (l : Launch) (D : va_G) (q : Nat → Nat) (c : CT) (hs : HS) (hb60 : hB hs ≤ 60) : ROl l yX0_presentChange wsX0_presentChange ({ frames := 0, cells := 0, slots := 0, locals := 0 } : Room) [.ref (q 9)] D c (wH q c hs) (pcg (hCg hs) (hB hs)) := by
  refine ro_startl (cc := cX0_presentChange) (maxL := 1) (ret := some .long) (by decide) rfl (Nat.le_of_ble_eq_true rfl) ?_
  intro p e s m args below meth c0 ls hx hb hr hml hown hts hlk hP hK hl
  have hown : s.vm.findClass RX0 = some m.cls := hown
  have hl : lv_has ls 1 [(0, .ref (q 9))] := hl
  have hin0 : ∀ w ∈ wsX00, w ∈ wsX0_presentChange := by decide +kernel
  refine lv_aload_n hx hb dX0_presentChange_0 rfl (lv_at hl 0 rfl) ?_
  refine va_get (D := D) (ci := 0) (v := .int (nI (hB hs))) (C := RX0) (T := TX0) (N := 4) hx hb hts hin0 hown hK.1 hP 0 rfl rfl 3 (by decide) (hts (.fieldLink RX0 21 "TestPicker$History" "size" "I") (by decide +kernel)) (fun _ h9 => h9) rfl dX0_presentChange_1 ?_
  refine lv_if_le (tgt := 21) hx hb dX0_presentChange_4 (by decide) (fun c4 => ?_) (fun c4 => ?_)
  · -- 4 True
    have c4 : (hB hs) ≤ 0 := (nI_leI (a := (hB hs)) (b := 0) (by omega) (by omega)).mp c4
    refine lv_lconst (v := 0) hx hb dX0_presentChange_21 (by decide) ?_
    exact ro_retl hx hb hr hlk (by rw [pcg, if_pos (by omega)]) dX0_presentChange_22
  · -- 4 False
    have c4 : 0 < (hB hs) := Nat.not_le.mp (fun z => c4 ((nI_leI (b := 0) (by omega) (by omega)).mpr z))
    refine lv_aload_n hx hb dX0_presentChange_7 rfl (lv_at hl 0 rfl) ?_
    refine va_get (D := D) (ci := 0) (v := .ref (q 10)) (C := RX0) (T := TX0) (N := 4) hx hb hts hin0 hown hK.1 hP 0 rfl rfl 0 (by decide) (hts (.fieldLink RX0 9 "TestPicker$History" "changes" "[J") (by decide +kernel)) (fun _ h9 => h9) rfl dX0_presentChange_8 ?_
    refine lv_aload_n hx hb dX0_presentChange_11 rfl (lv_at hl 0 rfl) ?_
    refine va_get (D := D) (ci := 0) (v := .int (nI (hB hs))) (C := RX0) (T := TX0) (N := 4) hx hb hts hin0 hown hK.1 hP 0 rfl rfl 3 (by decide) (hts (.fieldLink RX0 21 "TestPicker$History" "size" "I") (by decide +kernel)) (fun _ h9 => h9) rfl dX0_presentChange_12 ?_
    refine lv_iconst (v := 1) hx hb dX0_presentChange_15 (by decide) ?_
    refine lv_isub hx hb dX0_presentChange_16 ?_
    refine tp_i (z := nI (hB hs - 1)) (pred1 (by omega)) ?_
    refine ld_l hx hb hK hP 1 (f := hCg hs) rfl (i := (hB hs - 1)) (by omega) (by decide) dX0_presentChange_17 ?_
    refine lv_goto (tgt := 22) hx hb dX0_presentChange_18 (by decide) ?_
    exact ro_retl hx hb hr hlk (by rw [pcg, if_neg (by omega)]) dX0_presentChange_22

set_option maxHeartbeats 4000000 in
set_option maxRecDepth 100000 in
theorem c_X0_verdictIn (l : Launch) (D : va_G) (q : Nat → Nat) (c : CT) (hs : HS) (t b : Nat) (ht : t < 20) (hb60 : b < 64) : ROi l yX0_verdictIn wsX0_verdictIn ({ frames := 0, cells := 0, slots := 0, locals := 0 } : Room) [.ref (q 9), .int (nI t), .int (nI b)] D c (wH q c hs) (vIn (hFe hs) (hPs hs) t b) := by
  refine ro_starti (cc := cX0_verdictIn) (maxL := 3) (ret := some .int) (by decide) rfl (Nat.le_of_ble_eq_true rfl) ?_
  intro p e s m args below meth c0 ls hx hb hr hml hown hts hlk hP hK hl
  have hown : s.vm.findClass RX0 = some m.cls := hown
  have hl : lv_has ls 3 [(0, .ref (q 9)), (1, .int (nI t)), (2, .int (nI b))] := hl
  have hin0 : ∀ w ∈ wsX00, w ∈ wsX0_verdictIn := by decide +kernel
  refine lv_aload_n hx hb dX0_verdictIn_0 rfl (lv_at hl 0 rfl) ?_
  refine va_get (D := D) (ci := 0) (v := .ref (q 11)) (C := RX0) (T := TX0) (N := 4) hx hb hts hin0 hown hK.1 hP 0 rfl rfl 1 (by decide) (hts (.fieldLink RX0 15 "TestPicker$History" "fellIn" "[J") (by decide +kernel)) (fun _ h9 => h9) rfl dX0_verdictIn_1 ?_
  refine lv_iload_n hx hb dX0_verdictIn_4 rfl (lv_at hl 1 rfl) ?_
  refine ld_l hx hb hK hP 2 (f := hFe hs) rfl (i := t) (by omega) (by decide) dX0_verdictIn_5 ?_
  refine lv_iload_n hx hb dX0_verdictIn_6 rfl (lv_at hl 2 rfl) ?_
  refine lv_lushr (v := ((hFe hs t).toUInt64 >>> ((nI b).toInt64.toUInt64 &&& Int64.toUInt64 63)).toInt64) hx hb dX0_verdictIn_7 rfl ?_
  refine lv_lconst (v := 1) hx hb dX0_verdictIn_8 (by decide) ?_
  refine lv_land hx hb dX0_verdictIn_9 ?_
  refine tp_l (z := bL (bl (hFe hs t) b)) (in_uL hb60 _) ?_
  refine lv_lconst (v := 1) hx hb dX0_verdictIn_10 (by decide) ?_
  refine W.lcmp hx hb dX0_verdictIn_11 ?_
  refine lv_if_ne (tgt := 17) hx hb dX0_verdictIn_12 (by decide) (fun c12 => ?_) (fun c12 => ?_)
  · -- 12 True
    have c12 := lg_ne.mp c12
    refine lv_aload_n hx hb dX0_verdictIn_17 rfl (lv_at hl 0 rfl) ?_
    refine va_get (D := D) (ci := 0) (v := .ref (q 12)) (C := RX0) (T := TX0) (N := 4) hx hb hts hin0 hown hK.1 hP 0 rfl rfl 2 (by decide) (hts (.fieldLink RX0 18 "TestPicker$History" "passedIn" "[J") (by decide +kernel)) (fun _ h9 => h9) rfl dX0_verdictIn_18 ?_
    refine lv_iload_n hx hb dX0_verdictIn_21 rfl (lv_at hl 1 rfl) ?_
    refine ld_l hx hb hK hP 3 (f := hPs hs) rfl (i := t) (by omega) (by decide) dX0_verdictIn_22 ?_
    refine lv_iload_n hx hb dX0_verdictIn_23 rfl (lv_at hl 2 rfl) ?_
    refine lv_lushr (v := ((hPs hs t).toUInt64 >>> ((nI b).toInt64.toUInt64 &&& Int64.toUInt64 63)).toInt64) hx hb dX0_verdictIn_24 rfl ?_
    refine lv_lconst (v := 1) hx hb dX0_verdictIn_25 (by decide) ?_
    refine lv_land hx hb dX0_verdictIn_26 ?_
    refine tp_l (z := bL (bl (hPs hs t) b)) (in_uL hb60 _) ?_
    refine lv_lconst (v := 1) hx hb dX0_verdictIn_27 (by decide) ?_
    refine W.lcmp hx hb dX0_verdictIn_28 ?_
    refine lv_if_ne (tgt := 36) hx hb dX0_verdictIn_29 (by decide) (fun c29 => ?_) (fun c29 => ?_)
    · -- 29 True
      have c29 := lg_ne.mp c29
      refine lv_bipush (v := (-9)) hx hb dX0_verdictIn_36 (by decide) ?_
      exact ro_reti hx hb hr hlk (by simp [vIn, bL_n1.mp c12, bL_n1.mp c29]) dX0_verdictIn_38
    · -- 29 False
      have c29 := (lg_cmp_eq _ _).mp c29
      refine lv_iconst (v := 0) hx hb dX0_verdictIn_32 (by decide) ?_
      refine lv_goto (tgt := 38) hx hb dX0_verdictIn_33 (by decide) ?_
      exact ro_reti hx hb hr hlk (by simp [vIn, bL_n1.mp c12, bL_1.mp c29]) dX0_verdictIn_38
  · -- 12 False
    have c12 := (lg_cmp_eq _ _).mp c12
    refine lv_iconst (v := 1) hx hb dX0_verdictIn_15 (by decide) ?_
    exact ro_reti hx hb hr hlk (by simp [vIn, bL_1.mp c12]) dX0_verdictIn_16

set_option maxHeartbeats 4000000 in
set_option maxRecDepth 100000 in
theorem c_X0_fellLast (l : Launch) (D : va_G) (q : Nat → Nat) (c : CT) (hs : HS) (t : Nat) (ht : t < 20) : ROi l yX0_fellLast wsX0_fellLast ({ frames := 0, cells := 0, slots := 0, locals := 0 } : Room) [.ref (q 9), .int (nI t)] D c (wH q c hs) (bI (decide (hPs hs t < hFe hs t))) := by
  refine ro_starti (cc := cX0_fellLast) (maxL := 2) (ret := some .boolean) (by decide) rfl (Nat.le_of_ble_eq_true rfl) ?_
  intro p e s m args below meth c0 ls hx hb hr hml hown hts hlk hP hK hl
  have hown : s.vm.findClass RX0 = some m.cls := hown
  have hl : lv_has ls 2 [(0, .ref (q 9)), (1, .int (nI t))] := hl
  have hin0 : ∀ w ∈ wsX00, w ∈ wsX0_fellLast := by decide +kernel
  refine lv_aload_n hx hb dX0_fellLast_0 rfl (lv_at hl 0 rfl) ?_
  refine va_get (D := D) (ci := 0) (v := .ref (q 11)) (C := RX0) (T := TX0) (N := 4) hx hb hts hin0 hown hK.1 hP 0 rfl rfl 1 (by decide) (hts (.fieldLink RX0 15 "TestPicker$History" "fellIn" "[J") (by decide +kernel)) (fun _ h9 => h9) rfl dX0_fellLast_1 ?_
  refine lv_iload_n hx hb dX0_fellLast_4 rfl (lv_at hl 1 rfl) ?_
  refine ld_l hx hb hK hP 2 (f := hFe hs) rfl (i := t) (by omega) (by decide) dX0_fellLast_5 ?_
  refine lv_aload_n hx hb dX0_fellLast_6 rfl (lv_at hl 0 rfl) ?_
  refine va_get (D := D) (ci := 0) (v := .ref (q 12)) (C := RX0) (T := TX0) (N := 4) hx hb hts hin0 hown hK.1 hP 0 rfl rfl 2 (by decide) (hts (.fieldLink RX0 18 "TestPicker$History" "passedIn" "[J") (by decide +kernel)) (fun _ h9 => h9) rfl dX0_fellLast_7 ?_
  refine lv_iload_n hx hb dX0_fellLast_10 rfl (lv_at hl 1 rfl) ?_
  refine ld_l hx hb hK hP 3 (f := hPs hs) rfl (i := t) (by omega) (by decide) dX0_fellLast_11 ?_
  refine W.lcmp hx hb dX0_fellLast_12 ?_
  refine lv_if_le (tgt := 20) hx hb dX0_fellLast_13 (by decide) (fun c13 => ?_) (fun c13 => ?_)
  · -- 13 True
    have c13 := (lg_cmp_le _ _).mp c13
    refine lv_iconst (v := 0) hx hb dX0_fellLast_20 (by decide) ?_
    exact ro_retz hx hb hr hlk (by decide) (by simp [bI, Int64.not_lt.mpr c13]) dX0_fellLast_21
  · -- 13 False
    have c13 := lg_nle.mp c13
    refine lv_iconst (v := 1) hx hb dX0_fellLast_16 (by decide) ?_
    refine lv_goto (tgt := 21) hx hb dX0_fellLast_17 (by decide) ?_
    exact ro_retz hx hb hr hlk (by decide) (by simp [bI, c13]) dX0_fellLast_21
