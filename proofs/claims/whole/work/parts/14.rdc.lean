section WV
variable {cg : Nat → Int64} {fe ps : Nat → Int64} {t b B : Nat} {r chg : Int64} {la : Int32}
theorem wv_none (hf : flS cg (fun b => vIn fe ps t b) r b = (la, !decide (chg &&& r = 0), false)) (h : vIn fe ps t b = -9) : flS cg (fun b => vIn fe ps t b) r (b + 1) = (la, !decide ((chg ||| cg b) &&& r = 0), false) := by
  have h2 : vIn fe ps t b < 0 := (vIn_neg fe ps t b).mpr h
  rw [flS, if_pos h2, hf, touch]
theorem wv_seen (hf : flS cg (fun b => vIn fe ps t b) r b = (la, !decide (chg &&& r = 0), false)) (h : ¬ vIn fe ps t b = -9) (h3 : la < 0 ∨ la = vIn fe ps t b ∨ ¬ (chg ||| cg b) &&& r = 0) : flS cg (fun b => vIn fe ps t b) r (b + 1) = (vIn fe ps t b, !decide ((0 : Int64) &&& r = 0), false) := by
  have h2 : ¬ vIn fe ps t b < 0 := fun z => h ((vIn_neg fe ps t b).mp z)
  rw [flS, if_neg h2, hf]
  have ht := touch chg (cg b) r
  simp only [Prod.mk.injEq, true_and]
  refine ⟨by simp [lAnd0], ?_⟩
  rw [← ht]
  rcases h3 with h3 | h3 | h3 <;> simp [h3]
theorem wv_true (hf : flS cg (fun b => vIn fe ps t b) r b = (la, !decide (chg &&& r = 0), false)) (hb : b < B) (h : ¬ vIn fe ps t b = -9) (h1 : ¬ la < 0) (h3 : ¬ la = vIn fe ps t b) (h4 : (chg ||| cg b) &&& r = 0) : flk cg (fun b => vIn fe ps t b) r B = true := by
  have h2 : ¬ vIn fe ps t b < 0 := fun z => h ((vIn_neg fe ps t b).mp z)
  have e : (flS cg (fun b => vIn fe ps t b) r (b + 1)).2.2 = true := by
    rw [flS, if_neg h2, hf]
    show (false || (!decide (la < 0) && !decide (la = vIn fe ps t b) && !((!decide (chg &&& r = 0)) || !decide (cg b &&& r = 0)))) = true
    rw [← touch, h4]
    simp [h1, h3]
  have := flS_mono e (B - (b + 1))
  rw [show b + 1 + (B - (b + 1)) = B by omega] at this
  exact this
end WV
set_option maxHeartbeats 4000000 in
set_option maxRecDepth 100000 in
theorem c_J13_bitCount_95d88 (l : Launch) (D : va_G) (c : CT) (x : Int64)  : ROi l yJ13_bitCount_95d88 wsJ13_bitCount_95d88 ({ frames := 0, cells := 0, slots := 0, locals := 0 } : Room) [.long x] D c ([]) (popL x) := by
  refine ro_starti (cc := cJ13_bitCount_95d88) (maxL := 2) (ret := some .int) (by decide) rfl (Nat.le_of_ble_eq_true rfl) ?_
  intro p e s m args below meth c0 ls hx hb hr hml hown hts hlk hP hK hl
  have hown : s.vm.findClass RJ13 = some m.cls := hown
  have hl : lv_has ls 2 [(0, .long x)] := hl
  refine lv_lload_n hx hb dJ13_bitCount_95d88_0 rfl (lv_at hl 0 rfl) ?_
  refine lv_lload_n hx hb dJ13_bitCount_95d88_1 rfl (lv_at hl 0 rfl) ?_
  refine lv_iconst (v := 1) hx hb dJ13_bitCount_95d88_2 (by decide) ?_
  refine lv_lushr (v := (x.toUInt64 >>> ((1 : Int32).toInt64.toUInt64 &&& Int64.toUInt64 63)).toInt64) hx hb dJ13_bitCount_95d88_3 rfl ?_
  refine lv_ldc2 (own := RJ13) (v := (6148914691236517205)) hx hb hown (hts (.constantLong RJ13 314 (6148914691236517205)) (by decide +kernel)) dJ13_bitCount_95d88_4 ?_
  refine lv_land hx hb dJ13_bitCount_95d88_7 ?_
  refine lv_lsub hx hb dJ13_bitCount_95d88_8 ?_
  refine lv_topl (fun va eva => ?_)
  refine lv_lstore_n (lv' := [(0, .long va)]) hx hb dJ13_bitCount_95d88_9 rfl hl (by decide) rfl (fun ls hl => ?_)
  refine lv_lload_n hx hb dJ13_bitCount_95d88_10 rfl (lv_at hl 0 rfl) ?_
  refine lv_ldc2 (own := RJ13) (v := (3689348814741910323)) hx hb hown (hts (.constantLong RJ13 316 (3689348814741910323)) (by decide +kernel)) dJ13_bitCount_95d88_11 ?_
  refine lv_land hx hb dJ13_bitCount_95d88_14 ?_
  refine lv_lload_n hx hb dJ13_bitCount_95d88_15 rfl (lv_at hl 0 rfl) ?_
  refine lv_iconst (v := 2) hx hb dJ13_bitCount_95d88_16 (by decide) ?_
  refine lv_lushr (v := (va.toUInt64 >>> ((2 : Int32).toInt64.toUInt64 &&& Int64.toUInt64 63)).toInt64) hx hb dJ13_bitCount_95d88_17 rfl ?_
  refine lv_ldc2 (own := RJ13) (v := (3689348814741910323)) hx hb hown (hts (.constantLong RJ13 316 (3689348814741910323)) (by decide +kernel)) dJ13_bitCount_95d88_18 ?_
  refine lv_land hx hb dJ13_bitCount_95d88_21 ?_
  refine lv_ladd hx hb dJ13_bitCount_95d88_22 ?_
  refine lv_topl (fun vb evb => ?_)
  refine lv_lstore_n (lv' := [(0, .long vb)]) hx hb dJ13_bitCount_95d88_23 rfl hl (by decide) rfl (fun ls hl => ?_)
  refine lv_lload_n hx hb dJ13_bitCount_95d88_24 rfl (lv_at hl 0 rfl) ?_
  refine lv_lload_n hx hb dJ13_bitCount_95d88_25 rfl (lv_at hl 0 rfl) ?_
  refine lv_iconst (v := 4) hx hb dJ13_bitCount_95d88_26 (by decide) ?_
  refine lv_lushr (v := (vb.toUInt64 >>> ((4 : Int32).toInt64.toUInt64 &&& Int64.toUInt64 63)).toInt64) hx hb dJ13_bitCount_95d88_27 rfl ?_
  refine lv_ladd hx hb dJ13_bitCount_95d88_28 ?_
  refine lv_ldc2 (own := RJ13) (v := (1085102592571150095)) hx hb hown (hts (.constantLong RJ13 318 (1085102592571150095)) (by decide +kernel)) dJ13_bitCount_95d88_29 ?_
  refine lv_land hx hb dJ13_bitCount_95d88_32 ?_
  refine lv_topl (fun vc evc => ?_)
  refine lv_lstore_n (lv' := [(0, .long vc)]) hx hb dJ13_bitCount_95d88_33 rfl hl (by decide) rfl (fun ls hl => ?_)
  refine lv_lload_n hx hb dJ13_bitCount_95d88_34 rfl (lv_at hl 0 rfl) ?_
  refine lv_lload_n hx hb dJ13_bitCount_95d88_35 rfl (lv_at hl 0 rfl) ?_
  refine lv_bipush (v := 8) hx hb dJ13_bitCount_95d88_36 (by decide) ?_
  refine lv_lushr (v := (vc.toUInt64 >>> ((8 : Int32).toInt64.toUInt64 &&& Int64.toUInt64 63)).toInt64) hx hb dJ13_bitCount_95d88_38 rfl ?_
  refine lv_ladd hx hb dJ13_bitCount_95d88_39 ?_
  refine lv_topl (fun vd evd => ?_)
  refine lv_lstore_n (lv' := [(0, .long vd)]) hx hb dJ13_bitCount_95d88_40 rfl hl (by decide) rfl (fun ls hl => ?_)
  refine lv_lload_n hx hb dJ13_bitCount_95d88_41 rfl (lv_at hl 0 rfl) ?_
  refine lv_lload_n hx hb dJ13_bitCount_95d88_42 rfl (lv_at hl 0 rfl) ?_
  refine lv_bipush (v := 16) hx hb dJ13_bitCount_95d88_43 (by decide) ?_
  refine lv_lushr (v := (vd.toUInt64 >>> ((16 : Int32).toInt64.toUInt64 &&& Int64.toUInt64 63)).toInt64) hx hb dJ13_bitCount_95d88_45 rfl ?_
  refine lv_ladd hx hb dJ13_bitCount_95d88_46 ?_
  refine lv_topl (fun ve eve => ?_)
  refine lv_lstore_n (lv' := [(0, .long ve)]) hx hb dJ13_bitCount_95d88_47 rfl hl (by decide) rfl (fun ls hl => ?_)
  refine lv_lload_n hx hb dJ13_bitCount_95d88_48 rfl (lv_at hl 0 rfl) ?_
  refine lv_lload_n hx hb dJ13_bitCount_95d88_49 rfl (lv_at hl 0 rfl) ?_
  refine lv_bipush (v := 32) hx hb dJ13_bitCount_95d88_50 (by decide) ?_
  refine lv_lushr (v := (ve.toUInt64 >>> ((32 : Int32).toInt64.toUInt64 &&& Int64.toUInt64 63)).toInt64) hx hb dJ13_bitCount_95d88_52 rfl ?_
  refine lv_ladd hx hb dJ13_bitCount_95d88_53 ?_
  refine lv_topl (fun vf evf => ?_)
  refine lv_lstore_n (lv' := [(0, .long vf)]) hx hb dJ13_bitCount_95d88_54 rfl hl (by decide) rfl (fun ls hl => ?_)
  refine lv_lload_n hx hb dJ13_bitCount_95d88_55 rfl (lv_at hl 0 rfl) ?_
  refine lv_l2i (v := vf.toInt32) hx hb dJ13_bitCount_95d88_56 rfl ?_
  refine lv_bipush (v := 127) hx hb dJ13_bitCount_95d88_57 (by decide) ?_
  refine lv_iand hx hb dJ13_bitCount_95d88_59 ?_
  exact ro_reti hx hb hr hlk (by rw [← swL_pop, evf, eve, evd, evc, evb, eva]; rfl) dJ13_bitCount_95d88_60

set_option maxHeartbeats 4000000 in
set_option maxRecDepth 100000 in
theorem c_J6_bitCount_0f7a4 (l : Launch) (D : va_G) (c : CT) (x : Int32)  : ROi l yJ6_bitCount_0f7a4 wsJ6_bitCount_0f7a4 ({ frames := 0, cells := 0, slots := 0, locals := 0 } : Room) [.int x] D c ([]) (popI x) := by
  refine ro_starti (cc := cJ6_bitCount_0f7a4) (maxL := 1) (ret := some .int) (by decide) rfl (Nat.le_of_ble_eq_true rfl) ?_
  intro p e s m args below meth c0 ls hx hb hr hml hown hts hlk hP hK hl
  have hown : s.vm.findClass RJ6 = some m.cls := hown
  have hl : lv_has ls 1 [(0, .int x)] := hl
  refine lv_iload_n hx hb dJ6_bitCount_0f7a4_0 rfl (lv_at hl 0 rfl) ?_
  refine lv_iload_n hx hb dJ6_bitCount_0f7a4_1 rfl (lv_at hl 0 rfl) ?_
  refine lv_iconst (v := 1) hx hb dJ6_bitCount_0f7a4_2 (by decide) ?_
  refine lv_iushr (v := (x.toUInt32 >>> ((1 : Int32).toUInt32 &&& Int32.toUInt32 31)).toInt32) hx hb dJ6_bitCount_0f7a4_3 rfl ?_
  refine lv_ldcw (own := RJ6) (v := (1431655765)) hx hb hown (hts (.constant RJ6 265 (1431655765)) (by decide +kernel)) dJ6_bitCount_0f7a4_4 ?_
  refine lv_iand hx hb dJ6_bitCount_0f7a4_7 ?_
  refine lv_isub hx hb dJ6_bitCount_0f7a4_8 ?_
  refine lv_topi (fun va eva => ?_)
  refine lv_istore_n (lv' := [(0, .int va)]) hx hb dJ6_bitCount_0f7a4_9 rfl hl (by decide) rfl (fun ls hl => ?_)
  refine lv_iload_n hx hb dJ6_bitCount_0f7a4_10 rfl (lv_at hl 0 rfl) ?_
  refine lv_ldcw (own := RJ6) (v := (858993459)) hx hb hown (hts (.constant RJ6 266 (858993459)) (by decide +kernel)) dJ6_bitCount_0f7a4_11 ?_
  refine lv_iand hx hb dJ6_bitCount_0f7a4_14 ?_
  refine lv_iload_n hx hb dJ6_bitCount_0f7a4_15 rfl (lv_at hl 0 rfl) ?_
  refine lv_iconst (v := 2) hx hb dJ6_bitCount_0f7a4_16 (by decide) ?_
  refine lv_iushr (v := (va.toUInt32 >>> ((2 : Int32).toUInt32 &&& Int32.toUInt32 31)).toInt32) hx hb dJ6_bitCount_0f7a4_17 rfl ?_
  refine lv_ldcw (own := RJ6) (v := (858993459)) hx hb hown (hts (.constant RJ6 266 (858993459)) (by decide +kernel)) dJ6_bitCount_0f7a4_18 ?_
  refine lv_iand hx hb dJ6_bitCount_0f7a4_21 ?_
  refine lv_iadd hx hb dJ6_bitCount_0f7a4_22 ?_
  refine lv_topi (fun vb evb => ?_)
  refine lv_istore_n (lv' := [(0, .int vb)]) hx hb dJ6_bitCount_0f7a4_23 rfl hl (by decide) rfl (fun ls hl => ?_)
  refine lv_iload_n hx hb dJ6_bitCount_0f7a4_24 rfl (lv_at hl 0 rfl) ?_
  refine lv_iload_n hx hb dJ6_bitCount_0f7a4_25 rfl (lv_at hl 0 rfl) ?_
  refine lv_iconst (v := 4) hx hb dJ6_bitCount_0f7a4_26 (by decide) ?_
  refine lv_iushr (v := (vb.toUInt32 >>> ((4 : Int32).toUInt32 &&& Int32.toUInt32 31)).toInt32) hx hb dJ6_bitCount_0f7a4_27 rfl ?_
  refine lv_iadd hx hb dJ6_bitCount_0f7a4_28 ?_
  refine lv_ldcw (own := RJ6) (v := (252645135)) hx hb hown (hts (.constant RJ6 267 (252645135)) (by decide +kernel)) dJ6_bitCount_0f7a4_29 ?_
  refine lv_iand hx hb dJ6_bitCount_0f7a4_32 ?_
  refine lv_topi (fun vc evc => ?_)
  refine lv_istore_n (lv' := [(0, .int vc)]) hx hb dJ6_bitCount_0f7a4_33 rfl hl (by decide) rfl (fun ls hl => ?_)
  refine lv_iload_n hx hb dJ6_bitCount_0f7a4_34 rfl (lv_at hl 0 rfl) ?_
  refine lv_iload_n hx hb dJ6_bitCount_0f7a4_35 rfl (lv_at hl 0 rfl) ?_
  refine lv_bipush (v := 8) hx hb dJ6_bitCount_0f7a4_36 (by decide) ?_
  refine lv_iushr (v := (vc.toUInt32 >>> ((8 : Int32).toUInt32 &&& Int32.toUInt32 31)).toInt32) hx hb dJ6_bitCount_0f7a4_38 rfl ?_
  refine lv_iadd hx hb dJ6_bitCount_0f7a4_39 ?_
  refine lv_topi (fun vd evd => ?_)
  refine lv_istore_n (lv' := [(0, .int vd)]) hx hb dJ6_bitCount_0f7a4_40 rfl hl (by decide) rfl (fun ls hl => ?_)
  refine lv_iload_n hx hb dJ6_bitCount_0f7a4_41 rfl (lv_at hl 0 rfl) ?_
  refine lv_iload_n hx hb dJ6_bitCount_0f7a4_42 rfl (lv_at hl 0 rfl) ?_
  refine lv_bipush (v := 16) hx hb dJ6_bitCount_0f7a4_43 (by decide) ?_
  refine lv_iushr (v := (vd.toUInt32 >>> ((16 : Int32).toUInt32 &&& Int32.toUInt32 31)).toInt32) hx hb dJ6_bitCount_0f7a4_45 rfl ?_
  refine lv_iadd hx hb dJ6_bitCount_0f7a4_46 ?_
  refine lv_topi (fun ve eve => ?_)
  refine lv_istore_n (lv' := [(0, .int ve)]) hx hb dJ6_bitCount_0f7a4_47 rfl hl (by decide) rfl (fun ls hl => ?_)
  refine lv_iload_n hx hb dJ6_bitCount_0f7a4_48 rfl (lv_at hl 0 rfl) ?_
  refine lv_bipush (v := 63) hx hb dJ6_bitCount_0f7a4_49 (by decide) ?_
  refine lv_iand hx hb dJ6_bitCount_0f7a4_51 ?_
  exact ro_reti hx hb hr hlk (by rw [← swI_pop, eve, evd, evc, evb, eva]; rfl) dJ6_bitCount_0f7a4_52

set_option maxHeartbeats 4000000 in
set_option maxRecDepth 100000 in
theorem c_J6_numberOfTrailingZeros_0f7a4 (l : Launch) (D : va_G) (c : CT) (x : Int32)  : ROi l yJ6_numberOfTrailingZeros_0f7a4 wsJ6_numberOfTrailingZeros_0f7a4 ({ frames := 0, cells := 0, slots := 0, locals := 0 } : Room) [.int x] D c ([]) (tzI x) := by
  refine ro_starti (cc := cJ6_numberOfTrailingZeros_0f7a4) (maxL := 2) (ret := some .int) (by decide) rfl (Nat.le_of_ble_eq_true rfl) ?_
  intro p e s m args below meth c0 ls hx hb hr hml hown hts hlk hP hK hl
  have hown : s.vm.findClass RJ6 = some m.cls := hown
  have hl : lv_has ls 2 [(0, .int x)] := hl
  refine lv_iload_n hx hb dJ6_numberOfTrailingZeros_0f7a4_0 rfl (lv_at hl 0 rfl) ?_
  refine lv_iconst (v := (-1)) hx hb dJ6_numberOfTrailingZeros_0f7a4_1 (by decide) ?_
  refine lv_ixor hx hb dJ6_numberOfTrailingZeros_0f7a4_2 ?_
  refine lv_iload_n hx hb dJ6_numberOfTrailingZeros_0f7a4_3 rfl (lv_at hl 0 rfl) ?_
  refine lv_iconst (v := 1) hx hb dJ6_numberOfTrailingZeros_0f7a4_4 (by decide) ?_
  refine lv_isub hx hb dJ6_numberOfTrailingZeros_0f7a4_5 ?_
  refine lv_iand hx hb dJ6_numberOfTrailingZeros_0f7a4_6 ?_
  refine lv_topi (fun vm evm => ?_)
  refine lv_istore_n (lv' := [(0, .int vm)]) hx hb dJ6_numberOfTrailingZeros_0f7a4_7 rfl hl (by decide) rfl (fun ls hl => ?_)
  refine lv_iload_n hx hb dJ6_numberOfTrailingZeros_0f7a4_8 rfl (lv_at hl 0 rfl) ?_
  refine lv_if_gt (tgt := 17) hx hb dJ6_numberOfTrailingZeros_0f7a4_9 (by decide) (fun c9 => ?_) (fun c9 => ?_)
  · -- 9 True
    refine lv_iconst (v := 1) hx hb dJ6_numberOfTrailingZeros_0f7a4_17 (by decide) ?_
    refine lv_istore_n (lv' := [(1, .int 1), (0, .int vm)]) hx hb dJ6_numberOfTrailingZeros_0f7a4_18 rfl hl (by decide) rfl (fun ls hl => ?_)
    refine lv_iload_n hx hb dJ6_numberOfTrailingZeros_0f7a4_19 rfl (lv_at hl 1 rfl) ?_
    refine lv_ldcw (own := RJ6) (v := (65536)) hx hb hown (hts (.constant RJ6 264 (65536)) (by decide +kernel)) dJ6_numberOfTrailingZeros_0f7a4_20 ?_
    refine lv_icmp_le (tgt := 34) hx hb dJ6_numberOfTrailingZeros_0f7a4_23 (by decide) (fun c23 => ?_) (fun c23 => ?_)
    · -- 23 True
      refine lv_iload_n hx hb dJ6_numberOfTrailingZeros_0f7a4_34 rfl (lv_at hl 1 rfl) ?_
      refine lv_sipush (v := 256) hx hb dJ6_numberOfTrailingZeros_0f7a4_35 (by decide) ?_
      refine lv_icmp_le (tgt := 49) hx hb dJ6_numberOfTrailingZeros_0f7a4_38 (by decide) (fun c38 => ?_) (fun c38 => ?_)
      · -- 38 True
        refine lv_iload_n hx hb dJ6_numberOfTrailingZeros_0f7a4_49 rfl (lv_at hl 1 rfl) ?_
        refine lv_bipush (v := 16) hx hb dJ6_numberOfTrailingZeros_0f7a4_50 (by decide) ?_
        refine lv_icmp_le (tgt := 62) hx hb dJ6_numberOfTrailingZeros_0f7a4_52 (by decide) (fun c52 => ?_) (fun c52 => ?_)
        · -- 52 True
          refine lv_iload_n hx hb dJ6_numberOfTrailingZeros_0f7a4_62 rfl (lv_at hl 1 rfl) ?_
          refine lv_iconst (v := 4) hx hb dJ6_numberOfTrailingZeros_0f7a4_63 (by decide) ?_
          refine lv_icmp_le (tgt := 74) hx hb dJ6_numberOfTrailingZeros_0f7a4_64 (by decide) (fun c64 => ?_) (fun c64 => ?_)
          · -- 64 True
            refine lv_iload_n hx hb dJ6_numberOfTrailingZeros_0f7a4_74 rfl (lv_at hl 0 rfl) ?_
            refine lv_iload_n hx hb dJ6_numberOfTrailingZeros_0f7a4_75 rfl (lv_at hl 1 rfl) ?_
            refine lv_iconst (v := 1) hx hb dJ6_numberOfTrailingZeros_0f7a4_76 (by decide) ?_
            refine lv_iushr (v := (vm.toUInt32 >>> ((1 : Int32).toUInt32 &&& Int32.toUInt32 31)).toInt32) hx hb dJ6_numberOfTrailingZeros_0f7a4_77 rfl ?_
            refine lv_iadd hx hb dJ6_numberOfTrailingZeros_0f7a4_78 ?_
            exact ro_reti hx hb hr hlk (by rw [tzI, ← evm, if_pos c9]; have t0 : tz1 vm 65536 16 = vm := if_pos c23; have t1 : tz1 vm 256 8 = vm := if_pos c38; have t2 : tz1 vm 16 4 = vm := if_pos c52; have t3 : tz1 vm 4 2 = vm := if_pos c64; simp only [t0, t1, t2, t3, c23, c38, c52, c64, if_true, if_false, Int32.add_zero]) dJ6_numberOfTrailingZeros_0f7a4_79
          · -- 64 False
            refine lv_iinc (v := (1 + 2)) (lv' := [(1, .int (1 + 2)), (0, .int vm)]) hx hb dJ6_numberOfTrailingZeros_0f7a4_67 hl (k := 0) rfl (rfl) (by decide) rfl (fun ls hl => ?_)
            refine lv_iload_n hx hb dJ6_numberOfTrailingZeros_0f7a4_70 rfl (lv_at hl 1 rfl) ?_
            refine lv_iconst (v := 2) hx hb dJ6_numberOfTrailingZeros_0f7a4_71 (by decide) ?_
            refine lv_iushr (v := (vm.toUInt32 >>> ((2 : Int32).toUInt32 &&& Int32.toUInt32 31)).toInt32) hx hb dJ6_numberOfTrailingZeros_0f7a4_72 rfl ?_
            refine lv_topi (fun w3 ew3 => ?_)
            refine lv_istore_n (lv' := [(0, .int w3), (1, .int (1 + 2))]) hx hb dJ6_numberOfTrailingZeros_0f7a4_73 rfl hl (by decide) rfl (fun ls hl => ?_)
            refine lv_iload_n hx hb dJ6_numberOfTrailingZeros_0f7a4_74 rfl (lv_at hl 1 rfl) ?_
            refine lv_iload_n hx hb dJ6_numberOfTrailingZeros_0f7a4_75 rfl (lv_at hl 0 rfl) ?_
            refine lv_iconst (v := 1) hx hb dJ6_numberOfTrailingZeros_0f7a4_76 (by decide) ?_
            refine lv_iushr (v := (w3.toUInt32 >>> ((1 : Int32).toUInt32 &&& Int32.toUInt32 31)).toInt32) hx hb dJ6_numberOfTrailingZeros_0f7a4_77 rfl ?_
            refine lv_iadd hx hb dJ6_numberOfTrailingZeros_0f7a4_78 ?_
            exact ro_reti hx hb hr hlk (by rw [tzI, ← evm, if_pos c9]; have t0 : tz1 vm 65536 16 = vm := if_pos c23; have t1 : tz1 vm 256 8 = vm := if_pos c38; have t2 : tz1 vm 16 4 = vm := if_pos c52; have t3 : tz1 vm 4 2 = w3 := (if_neg c64).trans ew3.symm; simp only [t0, t1, t2, t3, c23, c38, c52, c64, if_true, if_false, Int32.add_zero]) dJ6_numberOfTrailingZeros_0f7a4_79
        · -- 52 False
          refine lv_iinc (v := (1 + 4)) (lv' := [(1, .int (1 + 4)), (0, .int vm)]) hx hb dJ6_numberOfTrailingZeros_0f7a4_55 hl (k := 0) rfl (rfl) (by decide) rfl (fun ls hl => ?_)
          refine lv_iload_n hx hb dJ6_numberOfTrailingZeros_0f7a4_58 rfl (lv_at hl 1 rfl) ?_
          refine lv_iconst (v := 4) hx hb dJ6_numberOfTrailingZeros_0f7a4_59 (by decide) ?_
          refine lv_iushr (v := (vm.toUInt32 >>> ((4 : Int32).toUInt32 &&& Int32.toUInt32 31)).toInt32) hx hb dJ6_numberOfTrailingZeros_0f7a4_60 rfl ?_
          refine lv_topi (fun w2 ew2 => ?_)
          refine lv_istore_n (lv' := [(0, .int w2), (1, .int (1 + 4))]) hx hb dJ6_numberOfTrailingZeros_0f7a4_61 rfl hl (by decide) rfl (fun ls hl => ?_)
          refine lv_iload_n hx hb dJ6_numberOfTrailingZeros_0f7a4_62 rfl (lv_at hl 0 rfl) ?_
          refine lv_iconst (v := 4) hx hb dJ6_numberOfTrailingZeros_0f7a4_63 (by decide) ?_
          refine lv_icmp_le (tgt := 74) hx hb dJ6_numberOfTrailingZeros_0f7a4_64 (by decide) (fun c64 => ?_) (fun c64 => ?_)
          · -- 64 True
            refine lv_iload_n hx hb dJ6_numberOfTrailingZeros_0f7a4_74 rfl (lv_at hl 1 rfl) ?_
            refine lv_iload_n hx hb dJ6_numberOfTrailingZeros_0f7a4_75 rfl (lv_at hl 0 rfl) ?_
            refine lv_iconst (v := 1) hx hb dJ6_numberOfTrailingZeros_0f7a4_76 (by decide) ?_
            refine lv_iushr (v := (w2.toUInt32 >>> ((1 : Int32).toUInt32 &&& Int32.toUInt32 31)).toInt32) hx hb dJ6_numberOfTrailingZeros_0f7a4_77 rfl ?_
            refine lv_iadd hx hb dJ6_numberOfTrailingZeros_0f7a4_78 ?_
            exact ro_reti hx hb hr hlk (by rw [tzI, ← evm, if_pos c9]; have t0 : tz1 vm 65536 16 = vm := if_pos c23; have t1 : tz1 vm 256 8 = vm := if_pos c38; have t2 : tz1 vm 16 4 = w2 := (if_neg c52).trans ew2.symm; have t3 : tz1 w2 4 2 = w2 := if_pos c64; simp only [t0, t1, t2, t3, c23, c38, c52, c64, if_true, if_false, Int32.add_zero]) dJ6_numberOfTrailingZeros_0f7a4_79
          · -- 64 False
            refine lv_iinc (v := ((1 + 4) + 2)) (lv' := [(1, .int ((1 + 4) + 2)), (0, .int w2)]) hx hb dJ6_numberOfTrailingZeros_0f7a4_67 hl (k := 1) rfl (rfl) (by decide) rfl (fun ls hl => ?_)
            refine lv_iload_n hx hb dJ6_numberOfTrailingZeros_0f7a4_70 rfl (lv_at hl 1 rfl) ?_
            refine lv_iconst (v := 2) hx hb dJ6_numberOfTrailingZeros_0f7a4_71 (by decide) ?_
            refine lv_iushr (v := (w2.toUInt32 >>> ((2 : Int32).toUInt32 &&& Int32.toUInt32 31)).toInt32) hx hb dJ6_numberOfTrailingZeros_0f7a4_72 rfl ?_
            refine lv_topi (fun w3 ew3 => ?_)
            refine lv_istore_n (lv' := [(0, .int w3), (1, .int ((1 + 4) + 2))]) hx hb dJ6_numberOfTrailingZeros_0f7a4_73 rfl hl (by decide) rfl (fun ls hl => ?_)
            refine lv_iload_n hx hb dJ6_numberOfTrailingZeros_0f7a4_74 rfl (lv_at hl 1 rfl) ?_
            refine lv_iload_n hx hb dJ6_numberOfTrailingZeros_0f7a4_75 rfl (lv_at hl 0 rfl) ?_
            refine lv_iconst (v := 1) hx hb dJ6_numberOfTrailingZeros_0f7a4_76 (by decide) ?_
            refine lv_iushr (v := (w3.toUInt32 >>> ((1 : Int32).toUInt32 &&& Int32.toUInt32 31)).toInt32) hx hb dJ6_numberOfTrailingZeros_0f7a4_77 rfl ?_
            refine lv_iadd hx hb dJ6_numberOfTrailingZeros_0f7a4_78 ?_
            exact ro_reti hx hb hr hlk (by rw [tzI, ← evm, if_pos c9]; have t0 : tz1 vm 65536 16 = vm := if_pos c23; have t1 : tz1 vm 256 8 = vm := if_pos c38; have t2 : tz1 vm 16 4 = w2 := (if_neg c52).trans ew2.symm; have t3 : tz1 w2 4 2 = w3 := (if_neg c64).trans ew3.symm; simp only [t0, t1, t2, t3, c23, c38, c52, c64, if_true, if_false, Int32.add_zero]) dJ6_numberOfTrailingZeros_0f7a4_79
      · -- 38 False
        refine lv_iinc (v := (1 + 8)) (lv' := [(1, .int (1 + 8)), (0, .int vm)]) hx hb dJ6_numberOfTrailingZeros_0f7a4_41 hl (k := 0) rfl (rfl) (by decide) rfl (fun ls hl => ?_)
        refine lv_iload_n hx hb dJ6_numberOfTrailingZeros_0f7a4_44 rfl (lv_at hl 1 rfl) ?_
        refine lv_bipush (v := 8) hx hb dJ6_numberOfTrailingZeros_0f7a4_45 (by decide) ?_
        refine lv_iushr (v := (vm.toUInt32 >>> ((8 : Int32).toUInt32 &&& Int32.toUInt32 31)).toInt32) hx hb dJ6_numberOfTrailingZeros_0f7a4_47 rfl ?_
        refine lv_topi (fun w1 ew1 => ?_)
        refine lv_istore_n (lv' := [(0, .int w1), (1, .int (1 + 8))]) hx hb dJ6_numberOfTrailingZeros_0f7a4_48 rfl hl (by decide) rfl (fun ls hl => ?_)
        refine lv_iload_n hx hb dJ6_numberOfTrailingZeros_0f7a4_49 rfl (lv_at hl 0 rfl) ?_
        refine lv_bipush (v := 16) hx hb dJ6_numberOfTrailingZeros_0f7a4_50 (by decide) ?_
        refine lv_icmp_le (tgt := 62) hx hb dJ6_numberOfTrailingZeros_0f7a4_52 (by decide) (fun c52 => ?_) (fun c52 => ?_)
        · -- 52 True
          refine lv_iload_n hx hb dJ6_numberOfTrailingZeros_0f7a4_62 rfl (lv_at hl 0 rfl) ?_
          refine lv_iconst (v := 4) hx hb dJ6_numberOfTrailingZeros_0f7a4_63 (by decide) ?_
          refine lv_icmp_le (tgt := 74) hx hb dJ6_numberOfTrailingZeros_0f7a4_64 (by decide) (fun c64 => ?_) (fun c64 => ?_)
          · -- 64 True
            refine lv_iload_n hx hb dJ6_numberOfTrailingZeros_0f7a4_74 rfl (lv_at hl 1 rfl) ?_
            refine lv_iload_n hx hb dJ6_numberOfTrailingZeros_0f7a4_75 rfl (lv_at hl 0 rfl) ?_
            refine lv_iconst (v := 1) hx hb dJ6_numberOfTrailingZeros_0f7a4_76 (by decide) ?_
            refine lv_iushr (v := (w1.toUInt32 >>> ((1 : Int32).toUInt32 &&& Int32.toUInt32 31)).toInt32) hx hb dJ6_numberOfTrailingZeros_0f7a4_77 rfl ?_
            refine lv_iadd hx hb dJ6_numberOfTrailingZeros_0f7a4_78 ?_
            exact ro_reti hx hb hr hlk (by rw [tzI, ← evm, if_pos c9]; have t0 : tz1 vm 65536 16 = vm := if_pos c23; have t1 : tz1 vm 256 8 = w1 := (if_neg c38).trans ew1.symm; have t2 : tz1 w1 16 4 = w1 := if_pos c52; have t3 : tz1 w1 4 2 = w1 := if_pos c64; simp only [t0, t1, t2, t3, c23, c38, c52, c64, if_true, if_false, Int32.add_zero]) dJ6_numberOfTrailingZeros_0f7a4_79
          · -- 64 False
            refine lv_iinc (v := ((1 + 8) + 2)) (lv' := [(1, .int ((1 + 8) + 2)), (0, .int w1)]) hx hb dJ6_numberOfTrailingZeros_0f7a4_67 hl (k := 1) rfl (rfl) (by decide) rfl (fun ls hl => ?_)
            refine lv_iload_n hx hb dJ6_numberOfTrailingZeros_0f7a4_70 rfl (lv_at hl 1 rfl) ?_
            refine lv_iconst (v := 2) hx hb dJ6_numberOfTrailingZeros_0f7a4_71 (by decide) ?_
            refine lv_iushr (v := (w1.toUInt32 >>> ((2 : Int32).toUInt32 &&& Int32.toUInt32 31)).toInt32) hx hb dJ6_numberOfTrailingZeros_0f7a4_72 rfl ?_
            refine lv_topi (fun w3 ew3 => ?_)
            refine lv_istore_n (lv' := [(0, .int w3), (1, .int ((1 + 8) + 2))]) hx hb dJ6_numberOfTrailingZeros_0f7a4_73 rfl hl (by decide) rfl (fun ls hl => ?_)
            refine lv_iload_n hx hb dJ6_numberOfTrailingZeros_0f7a4_74 rfl (lv_at hl 1 rfl) ?_
            refine lv_iload_n hx hb dJ6_numberOfTrailingZeros_0f7a4_75 rfl (lv_at hl 0 rfl) ?_
            refine lv_iconst (v := 1) hx hb dJ6_numberOfTrailingZeros_0f7a4_76 (by decide) ?_
            refine lv_iushr (v := (w3.toUInt32 >>> ((1 : Int32).toUInt32 &&& Int32.toUInt32 31)).toInt32) hx hb dJ6_numberOfTrailingZeros_0f7a4_77 rfl ?_
            refine lv_iadd hx hb dJ6_numberOfTrailingZeros_0f7a4_78 ?_
            exact ro_reti hx hb hr hlk (by rw [tzI, ← evm, if_pos c9]; have t0 : tz1 vm 65536 16 = vm := if_pos c23; have t1 : tz1 vm 256 8 = w1 := (if_neg c38).trans ew1.symm; have t2 : tz1 w1 16 4 = w1 := if_pos c52; have t3 : tz1 w1 4 2 = w3 := (if_neg c64).trans ew3.symm; simp only [t0, t1, t2, t3, c23, c38, c52, c64, if_true, if_false, Int32.add_zero]) dJ6_numberOfTrailingZeros_0f7a4_79
        · -- 52 False
          refine lv_iinc (v := ((1 + 8) + 4)) (lv' := [(1, .int ((1 + 8) + 4)), (0, .int w1)]) hx hb dJ6_numberOfTrailingZeros_0f7a4_55 hl (k := 1) rfl (rfl) (by decide) rfl (fun ls hl => ?_)
          refine lv_iload_n hx hb dJ6_numberOfTrailingZeros_0f7a4_58 rfl (lv_at hl 1 rfl) ?_
          refine lv_iconst (v := 4) hx hb dJ6_numberOfTrailingZeros_0f7a4_59 (by decide) ?_
          refine lv_iushr (v := (w1.toUInt32 >>> ((4 : Int32).toUInt32 &&& Int32.toUInt32 31)).toInt32) hx hb dJ6_numberOfTrailingZeros_0f7a4_60 rfl ?_
          refine lv_topi (fun w2 ew2 => ?_)
          refine lv_istore_n (lv' := [(0, .int w2), (1, .int ((1 + 8) + 4))]) hx hb dJ6_numberOfTrailingZeros_0f7a4_61 rfl hl (by decide) rfl (fun ls hl => ?_)
          refine lv_iload_n hx hb dJ6_numberOfTrailingZeros_0f7a4_62 rfl (lv_at hl 0 rfl) ?_
          refine lv_iconst (v := 4) hx hb dJ6_numberOfTrailingZeros_0f7a4_63 (by decide) ?_
          refine lv_icmp_le (tgt := 74) hx hb dJ6_numberOfTrailingZeros_0f7a4_64 (by decide) (fun c64 => ?_) (fun c64 => ?_)
          · -- 64 True
            refine lv_iload_n hx hb dJ6_numberOfTrailingZeros_0f7a4_74 rfl (lv_at hl 1 rfl) ?_
            refine lv_iload_n hx hb dJ6_numberOfTrailingZeros_0f7a4_75 rfl (lv_at hl 0 rfl) ?_
            refine lv_iconst (v := 1) hx hb dJ6_numberOfTrailingZeros_0f7a4_76 (by decide) ?_
            refine lv_iushr (v := (w2.toUInt32 >>> ((1 : Int32).toUInt32 &&& Int32.toUInt32 31)).toInt32) hx hb dJ6_numberOfTrailingZeros_0f7a4_77 rfl ?_
            refine lv_iadd hx hb dJ6_numberOfTrailingZeros_0f7a4_78 ?_
            exact ro_reti hx hb hr hlk (by rw [tzI, ← evm, if_pos c9]; have t0 : tz1 vm 65536 16 = vm := if_pos c23; have t1 : tz1 vm 256 8 = w1 := (if_neg c38).trans ew1.symm; have t2 : tz1 w1 16 4 = w2 := (if_neg c52).trans ew2.symm; have t3 : tz1 w2 4 2 = w2 := if_pos c64; simp only [t0, t1, t2, t3, c23, c38, c52, c64, if_true, if_false, Int32.add_zero]) dJ6_numberOfTrailingZeros_0f7a4_79
          · -- 64 False
            refine lv_iinc (v := (((1 + 8) + 4) + 2)) (lv' := [(1, .int (((1 + 8) + 4) + 2)), (0, .int w2)]) hx hb dJ6_numberOfTrailingZeros_0f7a4_67 hl (k := 1) rfl (rfl) (by decide) rfl (fun ls hl => ?_)
            refine lv_iload_n hx hb dJ6_numberOfTrailingZeros_0f7a4_70 rfl (lv_at hl 1 rfl) ?_
            refine lv_iconst (v := 2) hx hb dJ6_numberOfTrailingZeros_0f7a4_71 (by decide) ?_
            refine lv_iushr (v := (w2.toUInt32 >>> ((2 : Int32).toUInt32 &&& Int32.toUInt32 31)).toInt32) hx hb dJ6_numberOfTrailingZeros_0f7a4_72 rfl ?_
            refine lv_topi (fun w3 ew3 => ?_)
            refine lv_istore_n (lv' := [(0, .int w3), (1, .int (((1 + 8) + 4) + 2))]) hx hb dJ6_numberOfTrailingZeros_0f7a4_73 rfl hl (by decide) rfl (fun ls hl => ?_)
            refine lv_iload_n hx hb dJ6_numberOfTrailingZeros_0f7a4_74 rfl (lv_at hl 1 rfl) ?_
            refine lv_iload_n hx hb dJ6_numberOfTrailingZeros_0f7a4_75 rfl (lv_at hl 0 rfl) ?_
            refine lv_iconst (v := 1) hx hb dJ6_numberOfTrailingZeros_0f7a4_76 (by decide) ?_
            refine lv_iushr (v := (w3.toUInt32 >>> ((1 : Int32).toUInt32 &&& Int32.toUInt32 31)).toInt32) hx hb dJ6_numberOfTrailingZeros_0f7a4_77 rfl ?_
            refine lv_iadd hx hb dJ6_numberOfTrailingZeros_0f7a4_78 ?_
            exact ro_reti hx hb hr hlk (by rw [tzI, ← evm, if_pos c9]; have t0 : tz1 vm 65536 16 = vm := if_pos c23; have t1 : tz1 vm 256 8 = w1 := (if_neg c38).trans ew1.symm; have t2 : tz1 w1 16 4 = w2 := (if_neg c52).trans ew2.symm; have t3 : tz1 w2 4 2 = w3 := (if_neg c64).trans ew3.symm; simp only [t0, t1, t2, t3, c23, c38, c52, c64, if_true, if_false, Int32.add_zero]) dJ6_numberOfTrailingZeros_0f7a4_79
    · -- 23 False
      refine lv_iinc (v := (1 + 16)) (lv' := [(1, .int (1 + 16)), (0, .int vm)]) hx hb dJ6_numberOfTrailingZeros_0f7a4_26 hl (k := 0) rfl (rfl) (by decide) rfl (fun ls hl => ?_)
      refine lv_iload_n hx hb dJ6_numberOfTrailingZeros_0f7a4_29 rfl (lv_at hl 1 rfl) ?_
      refine lv_bipush (v := 16) hx hb dJ6_numberOfTrailingZeros_0f7a4_30 (by decide) ?_
      refine lv_iushr (v := (vm.toUInt32 >>> ((16 : Int32).toUInt32 &&& Int32.toUInt32 31)).toInt32) hx hb dJ6_numberOfTrailingZeros_0f7a4_32 rfl ?_
      refine lv_topi (fun w0 ew0 => ?_)
      refine lv_istore_n (lv' := [(0, .int w0), (1, .int (1 + 16))]) hx hb dJ6_numberOfTrailingZeros_0f7a4_33 rfl hl (by decide) rfl (fun ls hl => ?_)
      refine lv_iload_n hx hb dJ6_numberOfTrailingZeros_0f7a4_34 rfl (lv_at hl 0 rfl) ?_
      refine lv_sipush (v := 256) hx hb dJ6_numberOfTrailingZeros_0f7a4_35 (by decide) ?_
      refine lv_icmp_le (tgt := 49) hx hb dJ6_numberOfTrailingZeros_0f7a4_38 (by decide) (fun c38 => ?_) (fun c38 => ?_)
      · -- 38 True
        refine lv_iload_n hx hb dJ6_numberOfTrailingZeros_0f7a4_49 rfl (lv_at hl 0 rfl) ?_
        refine lv_bipush (v := 16) hx hb dJ6_numberOfTrailingZeros_0f7a4_50 (by decide) ?_
        refine lv_icmp_le (tgt := 62) hx hb dJ6_numberOfTrailingZeros_0f7a4_52 (by decide) (fun c52 => ?_) (fun c52 => ?_)
        · -- 52 True
          refine lv_iload_n hx hb dJ6_numberOfTrailingZeros_0f7a4_62 rfl (lv_at hl 0 rfl) ?_
          refine lv_iconst (v := 4) hx hb dJ6_numberOfTrailingZeros_0f7a4_63 (by decide) ?_
          refine lv_icmp_le (tgt := 74) hx hb dJ6_numberOfTrailingZeros_0f7a4_64 (by decide) (fun c64 => ?_) (fun c64 => ?_)
          · -- 64 True
            refine lv_iload_n hx hb dJ6_numberOfTrailingZeros_0f7a4_74 rfl (lv_at hl 1 rfl) ?_
            refine lv_iload_n hx hb dJ6_numberOfTrailingZeros_0f7a4_75 rfl (lv_at hl 0 rfl) ?_
            refine lv_iconst (v := 1) hx hb dJ6_numberOfTrailingZeros_0f7a4_76 (by decide) ?_
            refine lv_iushr (v := (w0.toUInt32 >>> ((1 : Int32).toUInt32 &&& Int32.toUInt32 31)).toInt32) hx hb dJ6_numberOfTrailingZeros_0f7a4_77 rfl ?_
            refine lv_iadd hx hb dJ6_numberOfTrailingZeros_0f7a4_78 ?_
            exact ro_reti hx hb hr hlk (by rw [tzI, ← evm, if_pos c9]; have t0 : tz1 vm 65536 16 = w0 := (if_neg c23).trans ew0.symm; have t1 : tz1 w0 256 8 = w0 := if_pos c38; have t2 : tz1 w0 16 4 = w0 := if_pos c52; have t3 : tz1 w0 4 2 = w0 := if_pos c64; simp only [t0, t1, t2, t3, c23, c38, c52, c64, if_true, if_false, Int32.add_zero]) dJ6_numberOfTrailingZeros_0f7a4_79
          · -- 64 False
            refine lv_iinc (v := ((1 + 16) + 2)) (lv' := [(1, .int ((1 + 16) + 2)), (0, .int w0)]) hx hb dJ6_numberOfTrailingZeros_0f7a4_67 hl (k := 1) rfl (rfl) (by decide) rfl (fun ls hl => ?_)
            refine lv_iload_n hx hb dJ6_numberOfTrailingZeros_0f7a4_70 rfl (lv_at hl 1 rfl) ?_
            refine lv_iconst (v := 2) hx hb dJ6_numberOfTrailingZeros_0f7a4_71 (by decide) ?_
            refine lv_iushr (v := (w0.toUInt32 >>> ((2 : Int32).toUInt32 &&& Int32.toUInt32 31)).toInt32) hx hb dJ6_numberOfTrailingZeros_0f7a4_72 rfl ?_
            refine lv_topi (fun w3 ew3 => ?_)
            refine lv_istore_n (lv' := [(0, .int w3), (1, .int ((1 + 16) + 2))]) hx hb dJ6_numberOfTrailingZeros_0f7a4_73 rfl hl (by decide) rfl (fun ls hl => ?_)
            refine lv_iload_n hx hb dJ6_numberOfTrailingZeros_0f7a4_74 rfl (lv_at hl 1 rfl) ?_
            refine lv_iload_n hx hb dJ6_numberOfTrailingZeros_0f7a4_75 rfl (lv_at hl 0 rfl) ?_
            refine lv_iconst (v := 1) hx hb dJ6_numberOfTrailingZeros_0f7a4_76 (by decide) ?_
            refine lv_iushr (v := (w3.toUInt32 >>> ((1 : Int32).toUInt32 &&& Int32.toUInt32 31)).toInt32) hx hb dJ6_numberOfTrailingZeros_0f7a4_77 rfl ?_
            refine lv_iadd hx hb dJ6_numberOfTrailingZeros_0f7a4_78 ?_
            exact ro_reti hx hb hr hlk (by rw [tzI, ← evm, if_pos c9]; have t0 : tz1 vm 65536 16 = w0 := (if_neg c23).trans ew0.symm; have t1 : tz1 w0 256 8 = w0 := if_pos c38; have t2 : tz1 w0 16 4 = w0 := if_pos c52; have t3 : tz1 w0 4 2 = w3 := (if_neg c64).trans ew3.symm; simp only [t0, t1, t2, t3, c23, c38, c52, c64, if_true, if_false, Int32.add_zero]) dJ6_numberOfTrailingZeros_0f7a4_79
        · -- 52 False
          refine lv_iinc (v := ((1 + 16) + 4)) (lv' := [(1, .int ((1 + 16) + 4)), (0, .int w0)]) hx hb dJ6_numberOfTrailingZeros_0f7a4_55 hl (k := 1) rfl (rfl) (by decide) rfl (fun ls hl => ?_)
          refine lv_iload_n hx hb dJ6_numberOfTrailingZeros_0f7a4_58 rfl (lv_at hl 1 rfl) ?_
          refine lv_iconst (v := 4) hx hb dJ6_numberOfTrailingZeros_0f7a4_59 (by decide) ?_
          refine lv_iushr (v := (w0.toUInt32 >>> ((4 : Int32).toUInt32 &&& Int32.toUInt32 31)).toInt32) hx hb dJ6_numberOfTrailingZeros_0f7a4_60 rfl ?_
          refine lv_topi (fun w2 ew2 => ?_)
          refine lv_istore_n (lv' := [(0, .int w2), (1, .int ((1 + 16) + 4))]) hx hb dJ6_numberOfTrailingZeros_0f7a4_61 rfl hl (by decide) rfl (fun ls hl => ?_)
          refine lv_iload_n hx hb dJ6_numberOfTrailingZeros_0f7a4_62 rfl (lv_at hl 0 rfl) ?_
          refine lv_iconst (v := 4) hx hb dJ6_numberOfTrailingZeros_0f7a4_63 (by decide) ?_
          refine lv_icmp_le (tgt := 74) hx hb dJ6_numberOfTrailingZeros_0f7a4_64 (by decide) (fun c64 => ?_) (fun c64 => ?_)
          · -- 64 True
            refine lv_iload_n hx hb dJ6_numberOfTrailingZeros_0f7a4_74 rfl (lv_at hl 1 rfl) ?_
            refine lv_iload_n hx hb dJ6_numberOfTrailingZeros_0f7a4_75 rfl (lv_at hl 0 rfl) ?_
            refine lv_iconst (v := 1) hx hb dJ6_numberOfTrailingZeros_0f7a4_76 (by decide) ?_
            refine lv_iushr (v := (w2.toUInt32 >>> ((1 : Int32).toUInt32 &&& Int32.toUInt32 31)).toInt32) hx hb dJ6_numberOfTrailingZeros_0f7a4_77 rfl ?_
            refine lv_iadd hx hb dJ6_numberOfTrailingZeros_0f7a4_78 ?_
            exact ro_reti hx hb hr hlk (by rw [tzI, ← evm, if_pos c9]; have t0 : tz1 vm 65536 16 = w0 := (if_neg c23).trans ew0.symm; have t1 : tz1 w0 256 8 = w0 := if_pos c38; have t2 : tz1 w0 16 4 = w2 := (if_neg c52).trans ew2.symm; have t3 : tz1 w2 4 2 = w2 := if_pos c64; simp only [t0, t1, t2, t3, c23, c38, c52, c64, if_true, if_false, Int32.add_zero]) dJ6_numberOfTrailingZeros_0f7a4_79
          · -- 64 False
            refine lv_iinc (v := (((1 + 16) + 4) + 2)) (lv' := [(1, .int (((1 + 16) + 4) + 2)), (0, .int w2)]) hx hb dJ6_numberOfTrailingZeros_0f7a4_67 hl (k := 1) rfl (rfl) (by decide) rfl (fun ls hl => ?_)
            refine lv_iload_n hx hb dJ6_numberOfTrailingZeros_0f7a4_70 rfl (lv_at hl 1 rfl) ?_
            refine lv_iconst (v := 2) hx hb dJ6_numberOfTrailingZeros_0f7a4_71 (by decide) ?_
            refine lv_iushr (v := (w2.toUInt32 >>> ((2 : Int32).toUInt32 &&& Int32.toUInt32 31)).toInt32) hx hb dJ6_numberOfTrailingZeros_0f7a4_72 rfl ?_
            refine lv_topi (fun w3 ew3 => ?_)
            refine lv_istore_n (lv' := [(0, .int w3), (1, .int (((1 + 16) + 4) + 2))]) hx hb dJ6_numberOfTrailingZeros_0f7a4_73 rfl hl (by decide) rfl (fun ls hl => ?_)
            refine lv_iload_n hx hb dJ6_numberOfTrailingZeros_0f7a4_74 rfl (lv_at hl 1 rfl) ?_
            refine lv_iload_n hx hb dJ6_numberOfTrailingZeros_0f7a4_75 rfl (lv_at hl 0 rfl) ?_
            refine lv_iconst (v := 1) hx hb dJ6_numberOfTrailingZeros_0f7a4_76 (by decide) ?_
            refine lv_iushr (v := (w3.toUInt32 >>> ((1 : Int32).toUInt32 &&& Int32.toUInt32 31)).toInt32) hx hb dJ6_numberOfTrailingZeros_0f7a4_77 rfl ?_
            refine lv_iadd hx hb dJ6_numberOfTrailingZeros_0f7a4_78 ?_
            exact ro_reti hx hb hr hlk (by rw [tzI, ← evm, if_pos c9]; have t0 : tz1 vm 65536 16 = w0 := (if_neg c23).trans ew0.symm; have t1 : tz1 w0 256 8 = w0 := if_pos c38; have t2 : tz1 w0 16 4 = w2 := (if_neg c52).trans ew2.symm; have t3 : tz1 w2 4 2 = w3 := (if_neg c64).trans ew3.symm; simp only [t0, t1, t2, t3, c23, c38, c52, c64, if_true, if_false, Int32.add_zero]) dJ6_numberOfTrailingZeros_0f7a4_79
      · -- 38 False
        refine lv_iinc (v := ((1 + 16) + 8)) (lv' := [(1, .int ((1 + 16) + 8)), (0, .int w0)]) hx hb dJ6_numberOfTrailingZeros_0f7a4_41 hl (k := 1) rfl (rfl) (by decide) rfl (fun ls hl => ?_)
        refine lv_iload_n hx hb dJ6_numberOfTrailingZeros_0f7a4_44 rfl (lv_at hl 1 rfl) ?_
        refine lv_bipush (v := 8) hx hb dJ6_numberOfTrailingZeros_0f7a4_45 (by decide) ?_
        refine lv_iushr (v := (w0.toUInt32 >>> ((8 : Int32).toUInt32 &&& Int32.toUInt32 31)).toInt32) hx hb dJ6_numberOfTrailingZeros_0f7a4_47 rfl ?_
        refine lv_topi (fun w1 ew1 => ?_)
        refine lv_istore_n (lv' := [(0, .int w1), (1, .int ((1 + 16) + 8))]) hx hb dJ6_numberOfTrailingZeros_0f7a4_48 rfl hl (by decide) rfl (fun ls hl => ?_)
        refine lv_iload_n hx hb dJ6_numberOfTrailingZeros_0f7a4_49 rfl (lv_at hl 0 rfl) ?_
        refine lv_bipush (v := 16) hx hb dJ6_numberOfTrailingZeros_0f7a4_50 (by decide) ?_
        refine lv_icmp_le (tgt := 62) hx hb dJ6_numberOfTrailingZeros_0f7a4_52 (by decide) (fun c52 => ?_) (fun c52 => ?_)
        · -- 52 True
          refine lv_iload_n hx hb dJ6_numberOfTrailingZeros_0f7a4_62 rfl (lv_at hl 0 rfl) ?_
          refine lv_iconst (v := 4) hx hb dJ6_numberOfTrailingZeros_0f7a4_63 (by decide) ?_
          refine lv_icmp_le (tgt := 74) hx hb dJ6_numberOfTrailingZeros_0f7a4_64 (by decide) (fun c64 => ?_) (fun c64 => ?_)
          · -- 64 True
            refine lv_iload_n hx hb dJ6_numberOfTrailingZeros_0f7a4_74 rfl (lv_at hl 1 rfl) ?_
            refine lv_iload_n hx hb dJ6_numberOfTrailingZeros_0f7a4_75 rfl (lv_at hl 0 rfl) ?_
            refine lv_iconst (v := 1) hx hb dJ6_numberOfTrailingZeros_0f7a4_76 (by decide) ?_
            refine lv_iushr (v := (w1.toUInt32 >>> ((1 : Int32).toUInt32 &&& Int32.toUInt32 31)).toInt32) hx hb dJ6_numberOfTrailingZeros_0f7a4_77 rfl ?_
            refine lv_iadd hx hb dJ6_numberOfTrailingZeros_0f7a4_78 ?_
            exact ro_reti hx hb hr hlk (by rw [tzI, ← evm, if_pos c9]; have t0 : tz1 vm 65536 16 = w0 := (if_neg c23).trans ew0.symm; have t1 : tz1 w0 256 8 = w1 := (if_neg c38).trans ew1.symm; have t2 : tz1 w1 16 4 = w1 := if_pos c52; have t3 : tz1 w1 4 2 = w1 := if_pos c64; simp only [t0, t1, t2, t3, c23, c38, c52, c64, if_true, if_false, Int32.add_zero]) dJ6_numberOfTrailingZeros_0f7a4_79
          · -- 64 False
            refine lv_iinc (v := (((1 + 16) + 8) + 2)) (lv' := [(1, .int (((1 + 16) + 8) + 2)), (0, .int w1)]) hx hb dJ6_numberOfTrailingZeros_0f7a4_67 hl (k := 1) rfl (rfl) (by decide) rfl (fun ls hl => ?_)
            refine lv_iload_n hx hb dJ6_numberOfTrailingZeros_0f7a4_70 rfl (lv_at hl 1 rfl) ?_
            refine lv_iconst (v := 2) hx hb dJ6_numberOfTrailingZeros_0f7a4_71 (by decide) ?_
            refine lv_iushr (v := (w1.toUInt32 >>> ((2 : Int32).toUInt32 &&& Int32.toUInt32 31)).toInt32) hx hb dJ6_numberOfTrailingZeros_0f7a4_72 rfl ?_
            refine lv_topi (fun w3 ew3 => ?_)
            refine lv_istore_n (lv' := [(0, .int w3), (1, .int (((1 + 16) + 8) + 2))]) hx hb dJ6_numberOfTrailingZeros_0f7a4_73 rfl hl (by decide) rfl (fun ls hl => ?_)
            refine lv_iload_n hx hb dJ6_numberOfTrailingZeros_0f7a4_74 rfl (lv_at hl 1 rfl) ?_
            refine lv_iload_n hx hb dJ6_numberOfTrailingZeros_0f7a4_75 rfl (lv_at hl 0 rfl) ?_
            refine lv_iconst (v := 1) hx hb dJ6_numberOfTrailingZeros_0f7a4_76 (by decide) ?_
            refine lv_iushr (v := (w3.toUInt32 >>> ((1 : Int32).toUInt32 &&& Int32.toUInt32 31)).toInt32) hx hb dJ6_numberOfTrailingZeros_0f7a4_77 rfl ?_
            refine lv_iadd hx hb dJ6_numberOfTrailingZeros_0f7a4_78 ?_
            exact ro_reti hx hb hr hlk (by rw [tzI, ← evm, if_pos c9]; have t0 : tz1 vm 65536 16 = w0 := (if_neg c23).trans ew0.symm; have t1 : tz1 w0 256 8 = w1 := (if_neg c38).trans ew1.symm; have t2 : tz1 w1 16 4 = w1 := if_pos c52; have t3 : tz1 w1 4 2 = w3 := (if_neg c64).trans ew3.symm; simp only [t0, t1, t2, t3, c23, c38, c52, c64, if_true, if_false, Int32.add_zero]) dJ6_numberOfTrailingZeros_0f7a4_79
        · -- 52 False
          refine lv_iinc (v := (((1 + 16) + 8) + 4)) (lv' := [(1, .int (((1 + 16) + 8) + 4)), (0, .int w1)]) hx hb dJ6_numberOfTrailingZeros_0f7a4_55 hl (k := 1) rfl (rfl) (by decide) rfl (fun ls hl => ?_)
          refine lv_iload_n hx hb dJ6_numberOfTrailingZeros_0f7a4_58 rfl (lv_at hl 1 rfl) ?_
          refine lv_iconst (v := 4) hx hb dJ6_numberOfTrailingZeros_0f7a4_59 (by decide) ?_
          refine lv_iushr (v := (w1.toUInt32 >>> ((4 : Int32).toUInt32 &&& Int32.toUInt32 31)).toInt32) hx hb dJ6_numberOfTrailingZeros_0f7a4_60 rfl ?_
          refine lv_topi (fun w2 ew2 => ?_)
          refine lv_istore_n (lv' := [(0, .int w2), (1, .int (((1 + 16) + 8) + 4))]) hx hb dJ6_numberOfTrailingZeros_0f7a4_61 rfl hl (by decide) rfl (fun ls hl => ?_)
          refine lv_iload_n hx hb dJ6_numberOfTrailingZeros_0f7a4_62 rfl (lv_at hl 0 rfl) ?_
          refine lv_iconst (v := 4) hx hb dJ6_numberOfTrailingZeros_0f7a4_63 (by decide) ?_
          refine lv_icmp_le (tgt := 74) hx hb dJ6_numberOfTrailingZeros_0f7a4_64 (by decide) (fun c64 => ?_) (fun c64 => ?_)
          · -- 64 True
            refine lv_iload_n hx hb dJ6_numberOfTrailingZeros_0f7a4_74 rfl (lv_at hl 1 rfl) ?_
            refine lv_iload_n hx hb dJ6_numberOfTrailingZeros_0f7a4_75 rfl (lv_at hl 0 rfl) ?_
            refine lv_iconst (v := 1) hx hb dJ6_numberOfTrailingZeros_0f7a4_76 (by decide) ?_
            refine lv_iushr (v := (w2.toUInt32 >>> ((1 : Int32).toUInt32 &&& Int32.toUInt32 31)).toInt32) hx hb dJ6_numberOfTrailingZeros_0f7a4_77 rfl ?_
            refine lv_iadd hx hb dJ6_numberOfTrailingZeros_0f7a4_78 ?_
            exact ro_reti hx hb hr hlk (by rw [tzI, ← evm, if_pos c9]; have t0 : tz1 vm 65536 16 = w0 := (if_neg c23).trans ew0.symm; have t1 : tz1 w0 256 8 = w1 := (if_neg c38).trans ew1.symm; have t2 : tz1 w1 16 4 = w2 := (if_neg c52).trans ew2.symm; have t3 : tz1 w2 4 2 = w2 := if_pos c64; simp only [t0, t1, t2, t3, c23, c38, c52, c64, if_true, if_false, Int32.add_zero]) dJ6_numberOfTrailingZeros_0f7a4_79
          · -- 64 False
            refine lv_iinc (v := ((((1 + 16) + 8) + 4) + 2)) (lv' := [(1, .int ((((1 + 16) + 8) + 4) + 2)), (0, .int w2)]) hx hb dJ6_numberOfTrailingZeros_0f7a4_67 hl (k := 1) rfl (rfl) (by decide) rfl (fun ls hl => ?_)
            refine lv_iload_n hx hb dJ6_numberOfTrailingZeros_0f7a4_70 rfl (lv_at hl 1 rfl) ?_
            refine lv_iconst (v := 2) hx hb dJ6_numberOfTrailingZeros_0f7a4_71 (by decide) ?_
            refine lv_iushr (v := (w2.toUInt32 >>> ((2 : Int32).toUInt32 &&& Int32.toUInt32 31)).toInt32) hx hb dJ6_numberOfTrailingZeros_0f7a4_72 rfl ?_
            refine lv_topi (fun w3 ew3 => ?_)
            refine lv_istore_n (lv' := [(0, .int w3), (1, .int ((((1 + 16) + 8) + 4) + 2))]) hx hb dJ6_numberOfTrailingZeros_0f7a4_73 rfl hl (by decide) rfl (fun ls hl => ?_)
            refine lv_iload_n hx hb dJ6_numberOfTrailingZeros_0f7a4_74 rfl (lv_at hl 1 rfl) ?_
            refine lv_iload_n hx hb dJ6_numberOfTrailingZeros_0f7a4_75 rfl (lv_at hl 0 rfl) ?_
            refine lv_iconst (v := 1) hx hb dJ6_numberOfTrailingZeros_0f7a4_76 (by decide) ?_
            refine lv_iushr (v := (w3.toUInt32 >>> ((1 : Int32).toUInt32 &&& Int32.toUInt32 31)).toInt32) hx hb dJ6_numberOfTrailingZeros_0f7a4_77 rfl ?_
            refine lv_iadd hx hb dJ6_numberOfTrailingZeros_0f7a4_78 ?_
            exact ro_reti hx hb hr hlk (by rw [tzI, ← evm, if_pos c9]; have t0 : tz1 vm 65536 16 = w0 := (if_neg c23).trans ew0.symm; have t1 : tz1 w0 256 8 = w1 := (if_neg c38).trans ew1.symm; have t2 : tz1 w1 16 4 = w2 := (if_neg c52).trans ew2.symm; have t3 : tz1 w2 4 2 = w3 := (if_neg c64).trans ew3.symm; simp only [t0, t1, t2, t3, c23, c38, c52, c64, if_true, if_false, Int32.add_zero]) dJ6_numberOfTrailingZeros_0f7a4_79
  · -- 9 False
    refine lv_iload_n hx hb dJ6_numberOfTrailingZeros_0f7a4_12 rfl (lv_at hl 0 rfl) ?_
    refine lv_bipush (v := 32) hx hb dJ6_numberOfTrailingZeros_0f7a4_13 (by decide) ?_
    refine lv_iand hx hb dJ6_numberOfTrailingZeros_0f7a4_15 ?_
    exact ro_reti hx hb hr hlk (by rw [tzI, ← evm, if_neg c9]) dJ6_numberOfTrailingZeros_0f7a4_16

set_option maxHeartbeats 4000000 in
set_option maxRecDepth 100000 in
theorem c_J13_numberOfTrailingZeros_95d88 (l : Launch) (D : va_G) (c : CT) (x : Int64)  : ROi l yJ13_numberOfTrailingZeros_95d88 wsJ13_numberOfTrailingZeros_95d88 ({ frames := 1, cells := 0, slots := 0, locals := 21 } : Room) [.long x] D c ([]) (tzL x) := by
  refine ro_starti (cc := cJ13_numberOfTrailingZeros_95d88) (maxL := 3) (ret := some .int) (by decide) rfl (Nat.le_of_ble_eq_true rfl) ?_
  intro p e s m args below meth c0 ls hx hb hr hml hown hts hlk hP hK hl
  have hown : s.vm.findClass RJ13 = some m.cls := hown
  have hl : lv_has ls 3 [(0, .long x)] := hl
  refine lv_lload_n hx hb dJ13_numberOfTrailingZeros_95d88_0 rfl (lv_at hl 0 rfl) ?_
  refine lv_l2i (v := x.toInt32) hx hb dJ13_numberOfTrailingZeros_95d88_1 rfl ?_
  refine lv_istore_n (lv' := [(2, .int x.toInt32), (0, .long x)]) hx hb dJ13_numberOfTrailingZeros_95d88_2 rfl hl (by decide) rfl (fun ls hl => ?_)
  refine lv_iload_n hx hb dJ13_numberOfTrailingZeros_95d88_3 rfl (lv_at hl 0 rfl) ?_
  refine lv_if_ne (tgt := 21) hx hb dJ13_numberOfTrailingZeros_95d88_4 (by decide) (fun c4 => ?_) (fun c4 => ?_)
  · -- 4 True
    refine lv_iload_n hx hb dJ13_numberOfTrailingZeros_95d88_21 rfl (lv_at hl 0 rfl) ?_
    refine ro_Si (As := [.int x.toInt32]) (rest := []) ⟨hx, hb, hml, hown, hts⟩ (c_J6_numberOfTrailingZeros_0f7a4 l D c x.toInt32) (va_cwS 1 hts gJ13_numberOfTrailingZeros_95d88_J6_numberOfTrailingZeros_0f7a4 rfl rfl rfl (by decide +kernel) ⟨Nat.le_of_ble_eq_true rfl, Nat.le_of_ble_eq_true rfl⟩) va_P0 hK rfl hl.1 rfl (Nat.le_of_ble_eq_true rfl) dJ13_numberOfTrailingZeros_95d88_22 ⟨Nat.le_of_ble_eq_true rfl, Nat.le_of_ble_eq_true rfl⟩ ?_
    exact ro_reti hx hb hr hlk (by simp [tzL, c4]) dJ13_numberOfTrailingZeros_95d88_25
  · -- 4 False
    refine lv_bipush (v := 32) hx hb dJ13_numberOfTrailingZeros_95d88_7 (by decide) ?_
    refine lv_lload_n hx hb dJ13_numberOfTrailingZeros_95d88_9 rfl (lv_at hl 1 rfl) ?_
    refine lv_bipush (v := 32) hx hb dJ13_numberOfTrailingZeros_95d88_10 (by decide) ?_
    refine lv_lushr (v := (x.toUInt64 >>> ((32 : Int32).toInt64.toUInt64 &&& Int64.toUInt64 63)).toInt64) hx hb dJ13_numberOfTrailingZeros_95d88_12 rfl ?_
    refine lv_l2i (v := ((x.toUInt64 >>> ((32 : Int32).toInt64.toUInt64 &&& Int64.toUInt64 63)).toInt64).toInt32) hx hb dJ13_numberOfTrailingZeros_95d88_13 rfl ?_
    refine ro_Si (As := [.int (((x.toUInt64 >>> ((32 : Int32).toInt64.toUInt64 &&& Int64.toUInt64 63)).toInt64).toInt32)]) (rest := [.int 32]) ⟨hx, hb, hml, hown, hts⟩ (c_J6_numberOfTrailingZeros_0f7a4 l D c (((x.toUInt64 >>> ((32 : Int32).toInt64.toUInt64 &&& Int64.toUInt64 63)).toInt64).toInt32)) (va_cwS 1 hts gJ13_numberOfTrailingZeros_95d88_J6_numberOfTrailingZeros_0f7a4 rfl rfl rfl (by decide +kernel) ⟨Nat.le_of_ble_eq_true rfl, Nat.le_of_ble_eq_true rfl⟩) va_P0 hK rfl hl.1 rfl (Nat.le_of_ble_eq_true rfl) dJ13_numberOfTrailingZeros_95d88_14 ⟨Nat.le_of_ble_eq_true rfl, Nat.le_of_ble_eq_true rfl⟩ ?_
    refine lv_iadd hx hb dJ13_numberOfTrailingZeros_95d88_17 ?_
    refine lv_goto (tgt := 25) hx hb dJ13_numberOfTrailingZeros_95d88_18 (by decide) ?_
    exact ro_reti hx hb hr hlk (by simp [tzL, c4]) dJ13_numberOfTrailingZeros_95d88_25

set_option maxHeartbeats 4000000 in
set_option maxRecDepth 100000 in
theorem c_X3_pickable (l : Launch) (D : va_G) (q : Nat → Nat) (c : CT) (ts : TS) (hT : tT ts ≤ 20) : ROi l yX3_pickable wsX3_pickable ({ frames := 0, cells := 0, slots := 0, locals := 0 } : Room) [.ref (q 2)] D c (wT q c ts) (cPk ts) := by
  refine ro_starti (cc := cX3_pickable) (maxL := 4) (ret := some .int) (by decide) rfl (Nat.le_of_ble_eq_true rfl) ?_
  intro p e s m args below meth c0 ls hx hb hr hml hown hts hlk hP hK hl
  have hown : s.vm.findClass RX3 = some m.cls := hown
  have hl : lv_has ls 4 [(0, .ref (q 2))] := hl
  have hin3 : ∀ w ∈ wsX30, w ∈ wsX3_pickable := by decide +kernel
  refine lv_iconst (v := 0) hx hb dX3_pickable_0 (by decide) ?_
  refine lv_istore_n (lv' := [(1, .int 0), (0, .ref (q 2))]) hx hb dX3_pickable_1 rfl hl (by decide) rfl (fun ls hl => ?_)
  refine lv_iconst (v := 0) hx hb dX3_pickable_2 (by decide) ?_
  refine lv_istore_n (lv' := [(2, .int 0), (1, .int 0), (0, .ref (q 2))]) hx hb dX3_pickable_3 rfl hl (by decide) rfl (fun ls hl => ?_)
  have L4 : ∀ (n : Nat) (i : Nat) (a : Int32), (i ≤ tT ts) → (tT ts < i + n) → (a = orI (fun t => decide (tKd ts t = 3) || !decide (tTn ts t = 0)) i) → ∀ ls : Array Slot, lv_has ls 4 [(2, .int (nI i)), (1, .int a), (0, .ref (q 2))] → W p l e ({ frames := 0, cells := 0, slots := 0, locals := 0 } : Room) s m args below meth c0 s.heap [] 0 0 (QRi below args s (cPk ts)) (F0 m 4 ls []) := by
    intro n
    induction n with
    | zero => intro i a hi hn ha ls hl; exact absurd hn (by omega)
    | succ n ih4 =>
      intro i a hi hn ha ls hl
      refine lv_iload_n hx hb dX3_pickable_4 rfl (lv_at hl 0 rfl) ?_
      refine lv_aload_n hx hb dX3_pickable_5 rfl (lv_at hl 2 rfl) ?_
      refine va_get (D := D) (ci := 3) (v := .int (nI (tT ts))) (C := RX3) (T := TX3) (N := 7) hx hb hts hin3 hown hK.1 hP 0 rfl rfl 6 (by decide) (hts (.fieldLink RX3 32 "TestPicker$Tests" "size" "I") (by decide +kernel)) (fun _ h9 => h9) rfl dX3_pickable_6 ?_
      refine lv_icmp_ge (tgt := 47) hx hb dX3_pickable_9 (by decide) (fun c9 => ?_) (fun c9 => ?_)
      · -- 9 True
        have c9 : (tT ts) ≤ i := (nI_leI (a := (tT ts)) (b := i) (by omega) (by omega)).mp c9
        have hbar : a = cBar ts := by rw [ha, show i = tT ts by omega]
        subst hbar
        refine lv_iconst (v := 0) hx hb dX3_pickable_47 (by decide) ?_
        refine lv_istore_n (lv' := [(2, .int 0), (1, .int (cBar ts)), (0, .ref (q 2))]) hx hb dX3_pickable_48 rfl hl (by decide) rfl (fun ls hl => ?_)
        refine lv_iconst (v := 0) hx hb dX3_pickable_49 (by decide) ?_
        refine lv_istore_n (lv' := [(3, .int 0), (2, .int 0), (1, .int (cBar ts)), (0, .ref (q 2))]) hx hb dX3_pickable_50 rfl hl (by decide) rfl (fun ls hl => ?_)
        have L51 : ∀ (n : Nat) (j : Nat) (a2 : Int32), (j ≤ tT ts) → (tT ts < j + n) → (a2 = orI (fun t => decide (tCh ts t &&& cBar ts = 0)) j) → ∀ ls : Array Slot, lv_has ls 4 [(3, .int (nI j)), (2, .int a2), (1, .int (cBar ts)), (0, .ref (q 2))] → W p l e ({ frames := 0, cells := 0, slots := 0, locals := 0 } : Room) s m args below meth c0 s.heap [] 0 0 (QRi below args s (cPk ts)) (F0 m 51 ls []) := by
          intro n
          induction n with
          | zero => intro j a2 hj hn2 ha2 ls hl; exact absurd hn2 (by omega)
          | succ n ih51 =>
            intro j a2 hj hn2 ha2 ls hl
            refine lv_iload_n hx hb dX3_pickable_51 rfl (lv_at hl 0 rfl) ?_
            refine lv_aload_n hx hb dX3_pickable_52 rfl (lv_at hl 3 rfl) ?_
            refine va_get (D := D) (ci := 3) (v := .int (nI (tT ts))) (C := RX3) (T := TX3) (N := 7) hx hb hts hin3 hown hK.1 hP 0 rfl rfl 6 (by decide) (hts (.fieldLink RX3 32 "TestPicker$Tests" "size" "I") (by decide +kernel)) (fun _ h9 => h9) rfl dX3_pickable_53 ?_
            refine lv_icmp_ge (tgt := 86) hx hb dX3_pickable_56 (by decide) (fun c56 => ?_) (fun c56 => ?_)
            · -- 56 True
              have c56 : (tT ts) ≤ j := (nI_leI (a := (tT ts)) (b := j) (by omega) (by omega)).mp c56
              refine lv_iload_n hx hb dX3_pickable_86 rfl (lv_at hl 1 rfl) ?_
              exact ro_reti hx hb hr hlk (by rw [ha2, show j = tT ts by omega]) dX3_pickable_87
            · -- 56 False
              have c56 : j < (tT ts) := (Nat.not_le.mp (fun z => c56 ((nI_leI (a := (tT ts)) (b := j) (by omega) (by omega)).mpr z)))
              refine lv_iload_n hx hb dX3_pickable_59 rfl (lv_at hl 1 rfl) ?_
              refine lv_aload_n hx hb dX3_pickable_60 rfl (lv_at hl 3 rfl) ?_
              refine va_get (D := D) (ci := 3) (v := .ref (q 6)) (C := RX3) (T := TX3) (N := 7) hx hb hts hin3 hown hK.1 hP 0 rfl rfl 3 (by decide) (hts (.fieldLink RX3 21 "TestPicker$Tests" "chains" "[I") (by decide +kernel)) (fun _ h9 => h9) rfl dX3_pickable_61 ?_
              refine lv_iload_n hx hb dX3_pickable_64 rfl (lv_at hl 0 rfl) ?_
              refine ld_i hx hb hK hP 4 (f := tCh ts) rfl (i := j) (by omega) (by decide) dX3_pickable_65 ?_
              refine lv_iload_n hx hb dX3_pickable_66 rfl (lv_at hl 2 rfl) ?_
              refine lv_iand hx hb dX3_pickable_67 ?_
              refine lv_if_ne (tgt := 77) hx hb dX3_pickable_68 (by decide) (fun c68 => ?_) (fun c68 => ?_)
              · -- 68 True
                refine lv_iconst (v := 0) hx hb dX3_pickable_77 (by decide) ?_
                refine lv_ior hx hb dX3_pickable_78 ?_
                refine lv_istore_n (lv' := [(2, .int (a2 ||| 0)), (3, .int (nI j)), (1, .int (cBar ts)), (0, .ref (q 2))]) hx hb dX3_pickable_79 rfl hl (by decide) rfl (fun ls hl => ?_)
                refine lv_iinc (v := nI (j + 1)) (lv' := [(3, .int (nI (j + 1))), (2, .int (a2 ||| 0)), (1, .int (cBar ts)), (0, .ref (q 2))]) hx hb dX3_pickable_80 hl (k := 1) rfl (nI_inc _) (by decide) rfl (fun ls hl => ?_)
                refine lv_goto (tgt := 51) hx hb dX3_pickable_83 (by decide) ?_
                exact ih51 (j + 1) (a2 ||| 0) (by omega) (by omega) (by rw [ha2]; simp [orI, oneE, c68]) ls (lv_sub hl [0, 1, 2, 3] rfl)
              · -- 68 False
                refine lv_iconst (v := 1) hx hb dX3_pickable_71 (by decide) ?_
                refine lv_iload_n hx hb dX3_pickable_72 rfl (lv_at hl 0 rfl) ?_
                refine lv_ishl hx hb dX3_pickable_73 ?_
                refine lv_goto (tgt := 78) hx hb dX3_pickable_74 (by decide) ?_
                refine lv_ior hx hb dX3_pickable_78 ?_
                refine lv_istore_n (lv' := [(2, .int (a2 ||| ((1 : Int32) <<< (nI j &&& 31)))), (3, .int (nI j)), (1, .int (cBar ts)), (0, .ref (q 2))]) hx hb dX3_pickable_79 rfl hl (by decide) rfl (fun ls hl => ?_)
                refine lv_iinc (v := nI (j + 1)) (lv' := [(3, .int (nI (j + 1))), (2, .int (a2 ||| ((1 : Int32) <<< (nI j &&& 31)))), (1, .int (cBar ts)), (0, .ref (q 2))]) hx hb dX3_pickable_80 hl (k := 1) rfl (nI_inc _) (by decide) rfl (fun ls hl => ?_)
                refine lv_goto (tgt := 51) hx hb dX3_pickable_83 (by decide) ?_
                exact ih51 (j + 1) (a2 ||| ((1 : Int32) <<< (nI j &&& 31))) (by omega) (by omega) (by rw [ha2]; simp [orI, oneE, c68]) ls (lv_sub hl [0, 1, 2, 3] rfl)
        exact L51 (tT ts + 1) 0 0 (by omega) (by omega) (rfl) ls (lv_sub hl [0, 1, 2, 3] rfl)
      · -- 9 False
        have c9 : i < (tT ts) := (Nat.not_le.mp (fun z => c9 ((nI_leI (a := (tT ts)) (b := i) (by omega) (by omega)).mpr z)))
        refine lv_iload_n hx hb dX3_pickable_12 rfl (lv_at hl 1 rfl) ?_
        refine lv_aload_n hx hb dX3_pickable_13 rfl (lv_at hl 2 rfl) ?_
        refine va_get (D := D) (ci := 3) (v := .ref (q 3)) (C := RX3) (T := TX3) (N := 7) hx hb hts hin3 hown hK.1 hP 0 rfl rfl 0 (by decide) (hts (.fieldLink RX3 9 "TestPicker$Tests" "kinds" "[I") (by decide +kernel)) (fun _ h9 => h9) rfl dX3_pickable_14 ?_
        refine lv_iload_n hx hb dX3_pickable_17 rfl (lv_at hl 0 rfl) ?_
        refine ld_i hx hb hK hP 1 (f := tKd ts) rfl (i := i) (by omega) (by decide) dX3_pickable_18 ?_
        refine lv_iconst (v := 3) hx hb dX3_pickable_19 (by decide) ?_
        refine lv_icmp_eq (tgt := 32) hx hb dX3_pickable_20 (by decide) (fun c20 => ?_) (fun c20 => ?_)
        · -- 20 True
          refine lv_iconst (v := 1) hx hb dX3_pickable_32 (by decide) ?_
          refine lv_iload_n hx hb dX3_pickable_33 rfl (lv_at hl 0 rfl) ?_
          refine lv_ishl hx hb dX3_pickable_34 ?_
          refine lv_goto (tgt := 39) hx hb dX3_pickable_35 (by decide) ?_
          refine lv_ior hx hb dX3_pickable_39 ?_
          refine lv_istore_n (lv' := [(1, .int (a ||| ((1 : Int32) <<< (nI i &&& 31)))), (2, .int (nI i)), (0, .ref (q 2))]) hx hb dX3_pickable_40 rfl hl (by decide) rfl (fun ls hl => ?_)
          refine lv_iinc (v := nI (i + 1)) (lv' := [(2, .int (nI (i + 1))), (1, .int (a ||| ((1 : Int32) <<< (nI i &&& 31)))), (0, .ref (q 2))]) hx hb dX3_pickable_41 hl (k := 1) rfl (nI_inc _) (by decide) rfl (fun ls hl => ?_)
          refine lv_goto (tgt := 4) hx hb dX3_pickable_44 (by decide) ?_
          exact ih4 (i + 1) (a ||| ((1 : Int32) <<< (nI i &&& 31))) (by omega) (by omega) (by rw [ha]; simp [orI, oneE, c20]) ls (lv_sub hl [0, 1, 2] rfl)
        · -- 20 False
          refine lv_aload_n hx hb dX3_pickable_23 rfl (lv_at hl 2 rfl) ?_
          refine va_get (D := D) (ci := 3) (v := .ref (q 8)) (C := RX3) (T := TX3) (N := 7) hx hb hts hin3 hown hK.1 hP 0 rfl rfl 5 (by decide) (hts (.fieldLink RX3 28 "TestPicker$Tests" "torn" "[Z") (by decide +kernel)) (fun _ h9 => h9) rfl dX3_pickable_24 ?_
          refine lv_iload_n hx hb dX3_pickable_27 rfl (lv_at hl 0 rfl) ?_
          refine ld_z hx hb hK hP 6 (f := tTn ts) rfl (i := i) (by omega) (by decide) dX3_pickable_28 ?_
          refine lv_if_eq (tgt := 38) hx hb dX3_pickable_29 (by decide) (fun c29 => ?_) (fun c29 => ?_)
          · -- 29 True
            refine lv_iconst (v := 0) hx hb dX3_pickable_38 (by decide) ?_
            refine lv_ior hx hb dX3_pickable_39 ?_
            refine lv_istore_n (lv' := [(1, .int (a ||| 0)), (2, .int (nI i)), (0, .ref (q 2))]) hx hb dX3_pickable_40 rfl hl (by decide) rfl (fun ls hl => ?_)
            refine lv_iinc (v := nI (i + 1)) (lv' := [(2, .int (nI (i + 1))), (1, .int (a ||| 0)), (0, .ref (q 2))]) hx hb dX3_pickable_41 hl (k := 1) rfl (nI_inc _) (by decide) rfl (fun ls hl => ?_)
            refine lv_goto (tgt := 4) hx hb dX3_pickable_44 (by decide) ?_
            exact ih4 (i + 1) (a ||| 0) (by omega) (by omega) (by rw [ha]; simp [orI, oneE, c20, c29]) ls (lv_sub hl [0, 1, 2] rfl)
          · -- 29 False
            refine lv_iconst (v := 1) hx hb dX3_pickable_32 (by decide) ?_
            refine lv_iload_n hx hb dX3_pickable_33 rfl (lv_at hl 0 rfl) ?_
            refine lv_ishl hx hb dX3_pickable_34 ?_
            refine lv_goto (tgt := 39) hx hb dX3_pickable_35 (by decide) ?_
            refine lv_ior hx hb dX3_pickable_39 ?_
            refine lv_istore_n (lv' := [(1, .int (a ||| ((1 : Int32) <<< (nI i &&& 31)))), (2, .int (nI i)), (0, .ref (q 2))]) hx hb dX3_pickable_40 rfl hl (by decide) rfl (fun ls hl => ?_)
            refine lv_iinc (v := nI (i + 1)) (lv' := [(2, .int (nI (i + 1))), (1, .int (a ||| ((1 : Int32) <<< (nI i &&& 31)))), (0, .ref (q 2))]) hx hb dX3_pickable_41 hl (k := 1) rfl (nI_inc _) (by decide) rfl (fun ls hl => ?_)
            refine lv_goto (tgt := 4) hx hb dX3_pickable_44 (by decide) ?_
            exact ih4 (i + 1) (a ||| ((1 : Int32) <<< (nI i &&& 31))) (by omega) (by omega) (by rw [ha]; simp [orI, oneE, c20, c29]) ls (lv_sub hl [0, 1, 2] rfl)
  exact L4 (tT ts + 1) 0 0 (by omega) (by omega) (rfl) ls (lv_sub hl [0, 1, 2] rfl)

set_option maxHeartbeats 4000000 in
set_option maxRecDepth 100000 in
theorem c_X0_heat (l : Launch) (D : va_G) (q : Nat → Nat) (c : CT) (hs : HS) (t : Nat) (ht : t < 20) (hb60 : hB hs ≤ 60) : ROi l yX0_heat wsX0_heat ({ frames := 0, cells := 0, slots := 0, locals := 0 } : Room) [.ref (q 9), .int (nI t)] D c (wH q c hs) (htC (hFe hs t) (hB hs)) := by
  refine ro_starti (cc := cX0_heat) (maxL := 5) (ret := some .int) (by decide) rfl (Nat.le_of_ble_eq_true rfl) ?_
  intro p e s m args below meth c0 ls hx hb hr hml hown hts hlk hP hK hl
  have hown : s.vm.findClass RX0 = some m.cls := hown
  have hl : lv_has ls 5 [(0, .ref (q 9)), (1, .int (nI t))] := hl
  have hin0 : ∀ w ∈ wsX00, w ∈ wsX0_heat := by decide +kernel
  refine lv_aload_n hx hb dX0_heat_0 rfl (lv_at hl 0 rfl) ?_
  refine va_get (D := D) (ci := 0) (v := .int (nI (hB hs))) (C := RX0) (T := TX0) (N := 4) hx hb hts hin0 hown hK.1 hP 0 rfl rfl 3 (by decide) (hts (.fieldLink RX0 21 "TestPicker$History" "size" "I") (by decide +kernel)) (fun _ h9 => h9) rfl dX0_heat_1 ?_
  refine lv_iconst (v := 1) hx hb dX0_heat_4 (by decide) ?_
  refine lv_isub hx hb dX0_heat_5 ?_
  refine lv_istore_n (lv' := [(2, .int (nI (hB hs) - 1)), (0, .ref (q 9)), (1, .int (nI t))]) hx hb dX0_heat_6 rfl hl (by decide) rfl (fun ls hl => ?_)
  refine lv_iload_n hx hb dX0_heat_7 rfl (lv_at hl 0 rfl) ?_
  refine lv_iconst (v := 1) hx hb dX0_heat_8 (by decide) ?_
  refine lv_icmp_ge (tgt := 14) hx hb dX0_heat_9 (by decide) (fun c9 => ?_) (fun c9 => ?_)
  · -- 9 True
    have c9 : 2 ≤ hB hs := (pr_ge _ (by omega)).mp c9
    rw [pred1 (by omega)] at hl
    refine lv_iload_n hx hb dX0_heat_14 rfl (lv_at hl 0 rfl) ?_
    refine lv_bipush (v := 8) hx hb dX0_heat_15 (by decide) ?_
    refine lv_icmp_lt (tgt := 34) hx hb dX0_heat_17 (by decide) (fun c17 => ?_) (fun c17 => ?_)
    · -- 17 True
      have c17 : (hB hs - 1) < 8 := (nI_ltI (a := (hB hs - 1)) (b := 8) (by omega) (by omega)).mp c17
      refine lv_aload_n hx hb dX0_heat_34 rfl (lv_at hl 1 rfl) ?_
      refine va_get (D := D) (ci := 0) (v := .ref (q 11)) (C := RX0) (T := TX0) (N := 4) hx hb hts hin0 hown hK.1 hP 0 rfl rfl 1 (by decide) (hts (.fieldLink RX0 15 "TestPicker$History" "fellIn" "[J") (by decide +kernel)) (fun _ h9 => h9) rfl dX0_heat_35 ?_
      refine lv_iload_n hx hb dX0_heat_38 rfl (lv_at hl 2 rfl) ?_
      refine ld_l hx hb hK hP 2 (f := hFe hs) rfl (i := t) (by omega) (by decide) dX0_heat_39 ?_
      refine lv_bipush (v := 8) hx hb dX0_heat_40 (by decide) ?_
      refine lv_iload_n hx hb dX0_heat_42 rfl (lv_at hl 0 rfl) ?_
      refine lv_isub hx hb dX0_heat_43 ?_
      refine tp_i (z := nI (8 - (hB hs - 1))) (pk_sub (a := 8) (by omega)) ?_
      refine lv_lshl (v := ((hFe hs t) <<< ((nI (8 - (hB hs - 1))).toInt64 &&& 63))) hx hb dX0_heat_44 rfl ?_
      refine lv_lstore_n (lv' := [(3, .long ((hFe hs t) <<< ((nI (8 - (hB hs - 1))).toInt64 &&& 63))), (2, .int (nI (hB hs - 1))), (0, .ref (q 9)), (1, .int (nI t))]) hx hb dX0_heat_45 rfl hl (by decide) rfl (fun ls hl => ?_)
      refine lv_lload_n hx hb dX0_heat_46 rfl (lv_at hl 0 rfl) ?_
      refine lv_ldc2 (own := RX0) (v := (255)) hx hb hown (hts (.constantLong RX0 27 (255)) (by decide +kernel)) dX0_heat_47 ?_
      refine lv_land hx hb dX0_heat_50 ?_
      refine lv_l2i (v := (((hFe hs t) <<< ((nI (8 - (hB hs - 1))).toInt64 &&& 63)) &&& (255)).toInt32) hx hb dX0_heat_51 rfl ?_
      exact ro_reti hx hb hr hlk (by rw [htC, if_neg (by omega), if_pos (by omega)]) dX0_heat_52
    · -- 17 False
      have c17 : 8 ≤ (hB hs - 1) := (Nat.not_lt.mp (fun z => c17 ((nI_ltI (a := (hB hs - 1)) (b := 8) (by omega) (by omega)).mpr z)))
      refine lv_aload_n hx hb dX0_heat_20 rfl (lv_at hl 1 rfl) ?_
      refine va_get (D := D) (ci := 0) (v := .ref (q 11)) (C := RX0) (T := TX0) (N := 4) hx hb hts hin0 hown hK.1 hP 0 rfl rfl 1 (by decide) (hts (.fieldLink RX0 15 "TestPicker$History" "fellIn" "[J") (by decide +kernel)) (fun _ h9 => h9) rfl dX0_heat_21 ?_
      refine lv_iload_n hx hb dX0_heat_24 rfl (lv_at hl 2 rfl) ?_
      refine ld_l hx hb hK hP 2 (f := hFe hs) rfl (i := t) (by omega) (by decide) dX0_heat_25 ?_
      refine lv_iload_n hx hb dX0_heat_26 rfl (lv_at hl 0 rfl) ?_
      refine lv_bipush (v := 8) hx hb dX0_heat_27 (by decide) ?_
      refine lv_isub hx hb dX0_heat_29 ?_
      refine tp_i (z := nI (hB hs - 1 - 8)) (pk_sub (b := 8) (by omega)) ?_
      refine lv_lushr (v := ((hFe hs t).toUInt64 >>> ((nI (hB hs - 1 - 8)).toInt64.toUInt64 &&& Int64.toUInt64 63)).toInt64) hx hb dX0_heat_30 rfl ?_
      refine lv_goto (tgt := 45) hx hb dX0_heat_31 (by decide) ?_
      refine lv_lstore_n (lv' := [(3, .long (((hFe hs t).toUInt64 >>> ((nI (hB hs - 1 - 8)).toInt64.toUInt64 &&& Int64.toUInt64 63)).toInt64)), (2, .int (nI (hB hs - 1))), (0, .ref (q 9)), (1, .int (nI t))]) hx hb dX0_heat_45 rfl hl (by decide) rfl (fun ls hl => ?_)
      refine lv_lload_n hx hb dX0_heat_46 rfl (lv_at hl 0 rfl) ?_
      refine lv_ldc2 (own := RX0) (v := (255)) hx hb hown (hts (.constantLong RX0 27 (255)) (by decide +kernel)) dX0_heat_47 ?_
      refine lv_land hx hb dX0_heat_50 ?_
      refine lv_l2i (v := (((hFe hs t).toUInt64 >>> ((nI (hB hs - 1 - 8)).toInt64.toUInt64 &&& Int64.toUInt64 63)).toInt64 &&& (255)).toInt32) hx hb dX0_heat_51 rfl ?_
      exact ro_reti hx hb hr hlk (by rw [htC, if_neg (by omega), if_neg (by omega)]) dX0_heat_52
  · -- 9 False
    have c9 : ¬ 2 ≤ hB hs := fun z => c9 ((pr_ge _ (by omega)).mpr z)
    refine lv_iconst (v := 0) hx hb dX0_heat_12 (by decide) ?_
    exact ro_reti hx hb hr hlk (by rw [htC, if_pos (by omega)]) dX0_heat_13

set_option maxHeartbeats 4000000 in
set_option maxRecDepth 100000 in
theorem c_X0_wavers (l : Launch) (D : va_G) (q : Nat → Nat) (c : CT) (hs : HS) (t : Nat) (r : Int64) (ht : t < 20) (hb60 : hB hs ≤ 60) : ROi l yX0_wavers wsX0_wavers ({ frames := 1, cells := 0, slots := 0, locals := 22 } : Room) [.ref (q 9), .int (nI t), .long r] D c (wH q c hs) (bI (flk (hCg hs) (cV hs t) r (hB hs))) := by
  refine ro_starti (cc := cX0_wavers) (maxL := 9) (ret := some .boolean) (by decide) rfl (Nat.le_of_ble_eq_true rfl) ?_
  intro p e s m args below meth c0 ls hx hb hr hml hown hts hlk hP hK hl
  have hown : s.vm.findClass RX0 = some m.cls := hown
  have hl : lv_has ls 9 [(0, .ref (q 9)), (1, .int (nI t)), (2, .long r)] := hl
  have hin0 : ∀ w ∈ wsX00, w ∈ wsX0_wavers := by decide +kernel
  refine lv_bipush (v := (-9)) hx hb dX0_wavers_0 (by decide) ?_
  refine lv_istore (lv' := [(4, .int (-9)), (0, .ref (q 9)), (1, .int (nI t)), (2, .long r)]) hx hb dX0_wavers_2 hl (by decide) rfl (fun ls hl => ?_)
  refine lv_lconst (v := 0) hx hb dX0_wavers_4 (by decide) ?_
  refine lv_lstore (lv' := [(5, .long 0), (4, .int (-9)), (0, .ref (q 9)), (1, .int (nI t)), (2, .long r)]) hx hb dX0_wavers_5 hl (by decide) rfl (fun ls hl => ?_)
  refine lv_iconst (v := 0) hx hb dX0_wavers_7 (by decide) ?_
  refine lv_istore (lv' := [(7, .int 0), (5, .long 0), (4, .int (-9)), (0, .ref (q 9)), (1, .int (nI t)), (2, .long r)]) hx hb dX0_wavers_8 hl (by decide) rfl (fun ls hl => ?_)
  have L10 : ∀ (n : Nat) (b : Nat) (la : Int32) (cg : Int64), (b ≤ hB hs) → (hB hs < b + n) → (la < 0 ↔ la = -9) → (flS (hCg hs) (cV hs t) r b = (la, !decide (cg &&& r = 0), false)) → ∀ ls : Array Slot, lv_has ls 9 [(7, .int (nI b)), (5, .long cg), (4, .int la), (0, .ref (q 9)), (1, .int (nI t)), (2, .long r)] → W p l e ({ frames := 1, cells := 0, slots := 0, locals := 22 } : Room) s m args below meth c0 s.heap [] 0 0 (QRi below args s (bI (flk (hCg hs) (cV hs t) r (hB hs)))) (F0 m 10 ls []) := by
    intro n
    induction n with
    | zero => intro b la cg hbB hn h9 hf ls hl; exact absurd hn (by omega)
    | succ n ih10 =>
      intro b la cg hbB hn h9 hf ls hl
      refine lv_iload hx hb dX0_wavers_10 (lv_at hl 0 rfl) ?_
      refine lv_aload_n hx hb dX0_wavers_12 rfl (lv_at hl 3 rfl) ?_
      refine va_get (D := D) (ci := 0) (v := .int (nI (hB hs))) (C := RX0) (T := TX0) (N := 4) hx hb hts hin0 hown hK.1 hP 0 rfl rfl 3 (by decide) (hts (.fieldLink RX0 21 "TestPicker$History" "size" "I") (by decide +kernel)) (fun _ h9 => h9) rfl dX0_wavers_13 ?_
      refine lv_icmp_ge (tgt := 85) hx hb dX0_wavers_16 (by decide) (fun c16 => ?_) (fun c16 => ?_)
      · -- 16 True
        have c16 : (hB hs) ≤ b := (nI_leI (a := (hB hs)) (b := b) (by omega) (by omega)).mp c16
        refine lv_iconst (v := 0) hx hb dX0_wavers_85 (by decide) ?_
        exact ro_retz hx hb hr hlk (by decide) ((bI_f (by rw [flk, show hB hs = b by omega, hf])).symm) dX0_wavers_86
      · -- 16 False
        have c16 : b < (hB hs) := (Nat.not_le.mp (fun z => c16 ((nI_leI (a := (hB hs)) (b := b) (by omega) (by omega)).mpr z)))
        refine lv_lload hx hb dX0_wavers_19 (lv_at hl 1 rfl) ?_
        refine lv_aload_n hx hb dX0_wavers_21 rfl (lv_at hl 3 rfl) ?_
        refine va_get (D := D) (ci := 0) (v := .ref (q 10)) (C := RX0) (T := TX0) (N := 4) hx hb hts hin0 hown hK.1 hP 0 rfl rfl 0 (by decide) (hts (.fieldLink RX0 9 "TestPicker$History" "changes" "[J") (by decide +kernel)) (fun _ h9 => h9) rfl dX0_wavers_22 ?_
        refine lv_iload hx hb dX0_wavers_25 (lv_at hl 0 rfl) ?_
        refine ld_l hx hb hK hP 1 (f := hCg hs) rfl (i := b) (by omega) (by decide) dX0_wavers_27 ?_
        refine lv_lor hx hb dX0_wavers_28 ?_
        refine lv_lstore (lv' := [(5, .long (cg ||| (hCg hs b))), (7, .int (nI b)), (4, .int la), (0, .ref (q 9)), (1, .int (nI t)), (2, .long r)]) hx hb dX0_wavers_29 hl (by decide) rfl (fun ls hl => ?_)
        refine lv_aload_n hx hb dX0_wavers_31 rfl (lv_at hl 3 rfl) ?_
        refine lv_iload_n hx hb dX0_wavers_32 rfl (lv_at hl 4 rfl) ?_
        refine lv_iload hx hb dX0_wavers_33 (lv_at hl 1 rfl) ?_
        refine ro_Vi (post := (vIn (hFe hs) (hPs hs) t b)) (As := [.int (nI t), .int (nI b)]) (rest := []) ⟨hx, hb, hml, hown, hts⟩ (c_X0_verdictIn l D q c hs t b (by omega) (by omega)) (cwV 2 hts gX0_wavers_X0_verdictIn rfl rfl rfl (by decide +kernel) ⟨Nat.le_of_ble_eq_true rfl, Nat.le_of_ble_eq_true rfl⟩) hP hK (va_recv hK.1 hP (ci := 0) (q0 := 0) rfl rfl) rfl hl.1 rfl (Nat.le_of_ble_eq_true rfl) dX0_wavers_35 ⟨Nat.le_of_ble_eq_true rfl, Nat.le_of_ble_eq_true rfl⟩ ?_
        refine lv_istore (lv' := [(8, .int (vIn (hFe hs) (hPs hs) t b)), (5, .long (cg ||| (hCg hs b))), (7, .int (nI b)), (4, .int la), (0, .ref (q 9)), (1, .int (nI t)), (2, .long r)]) hx hb dX0_wavers_38 hl (by decide) rfl (fun ls hl => ?_)
        refine lv_iload hx hb dX0_wavers_40 (lv_at hl 0 rfl) ?_
        refine lv_bipush (v := (-9)) hx hb dX0_wavers_42 (by decide) ?_
        refine lv_icmp_eq (tgt := 79) hx hb dX0_wavers_44 (by decide) (fun c44 => ?_) (fun c44 => ?_)
        · -- 44 True
          refine lv_iinc (v := nI (b + 1)) (lv' := [(7, .int (nI (b + 1))), (8, .int (vIn (hFe hs) (hPs hs) t b)), (5, .long (cg ||| (hCg hs b))), (4, .int la), (0, .ref (q 9)), (1, .int (nI t)), (2, .long r)]) hx hb dX0_wavers_79 hl (k := 2) rfl (nI_inc _) (by decide) rfl (fun ls hl => ?_)
          refine lv_goto (tgt := 10) hx hb dX0_wavers_82 (by decide) ?_
          exact ih10 (b + 1) la (cg ||| (hCg hs b)) (by omega) (by omega) (h9) (wv_none hf c44) ls (lv_sub hl [0, 2, 3, 4, 5, 6] rfl)
        · -- 44 False
          refine lv_iload hx hb dX0_wavers_47 (lv_at hl 3 rfl) ?_
          refine lv_bipush (v := (-9)) hx hb dX0_wavers_49 (by decide) ?_
          refine lv_icmp_eq (tgt := 72) hx hb dX0_wavers_51 (by decide) (fun c51 => ?_) (fun c51 => ?_)
          · -- 51 True
            refine lv_iload hx hb dX0_wavers_72 (lv_at hl 0 rfl) ?_
            refine lv_istore (lv' := [(4, .int (vIn (hFe hs) (hPs hs) t b)), (8, .int (vIn (hFe hs) (hPs hs) t b)), (5, .long (cg ||| (hCg hs b))), (7, .int (nI b)), (0, .ref (q 9)), (1, .int (nI t)), (2, .long r)]) hx hb dX0_wavers_74 hl (by decide) rfl (fun ls hl => ?_)
            refine lv_lconst (v := 0) hx hb dX0_wavers_76 (by decide) ?_
            refine lv_lstore (lv' := [(5, .long 0), (4, .int (vIn (hFe hs) (hPs hs) t b)), (8, .int (vIn (hFe hs) (hPs hs) t b)), (7, .int (nI b)), (0, .ref (q 9)), (1, .int (nI t)), (2, .long r)]) hx hb dX0_wavers_77 hl (by decide) rfl (fun ls hl => ?_)
            refine lv_iinc (v := nI (b + 1)) (lv' := [(7, .int (nI (b + 1))), (5, .long 0), (4, .int (vIn (hFe hs) (hPs hs) t b)), (8, .int (vIn (hFe hs) (hPs hs) t b)), (0, .ref (q 9)), (1, .int (nI t)), (2, .long r)]) hx hb dX0_wavers_79 hl (k := 3) rfl (nI_inc _) (by decide) rfl (fun ls hl => ?_)
            refine lv_goto (tgt := 10) hx hb dX0_wavers_82 (by decide) ?_
            exact ih10 (b + 1) (vIn (hFe hs) (hPs hs) t b) 0 (by omega) (by omega) (vIn_neg _ _ _ _) (wv_seen hf c44 (Or.inl (h9.mpr c51))) ls (lv_sub hl [0, 1, 2, 4, 5, 6] rfl)
          · -- 51 False
            refine lv_iload hx hb dX0_wavers_54 (lv_at hl 3 rfl) ?_
            refine lv_iload hx hb dX0_wavers_56 (lv_at hl 0 rfl) ?_
            refine lv_icmp_eq (tgt := 72) hx hb dX0_wavers_58 (by decide) (fun c58 => ?_) (fun c58 => ?_)
            · -- 58 True
              refine lv_iload hx hb dX0_wavers_72 (lv_at hl 0 rfl) ?_
              refine lv_istore (lv' := [(4, .int (vIn (hFe hs) (hPs hs) t b)), (8, .int (vIn (hFe hs) (hPs hs) t b)), (5, .long (cg ||| (hCg hs b))), (7, .int (nI b)), (0, .ref (q 9)), (1, .int (nI t)), (2, .long r)]) hx hb dX0_wavers_74 hl (by decide) rfl (fun ls hl => ?_)
              refine lv_lconst (v := 0) hx hb dX0_wavers_76 (by decide) ?_
              refine lv_lstore (lv' := [(5, .long 0), (4, .int (vIn (hFe hs) (hPs hs) t b)), (8, .int (vIn (hFe hs) (hPs hs) t b)), (7, .int (nI b)), (0, .ref (q 9)), (1, .int (nI t)), (2, .long r)]) hx hb dX0_wavers_77 hl (by decide) rfl (fun ls hl => ?_)
              refine lv_iinc (v := nI (b + 1)) (lv' := [(7, .int (nI (b + 1))), (5, .long 0), (4, .int (vIn (hFe hs) (hPs hs) t b)), (8, .int (vIn (hFe hs) (hPs hs) t b)), (0, .ref (q 9)), (1, .int (nI t)), (2, .long r)]) hx hb dX0_wavers_79 hl (k := 3) rfl (nI_inc _) (by decide) rfl (fun ls hl => ?_)
              refine lv_goto (tgt := 10) hx hb dX0_wavers_82 (by decide) ?_
              exact ih10 (b + 1) (vIn (hFe hs) (hPs hs) t b) 0 (by omega) (by omega) (vIn_neg _ _ _ _) (wv_seen hf c44 (Or.inr (Or.inl c58))) ls (lv_sub hl [0, 1, 2, 4, 5, 6] rfl)
            · -- 58 False
              refine lv_lload hx hb dX0_wavers_61 (lv_at hl 1 rfl) ?_
              refine lv_lload_n hx hb dX0_wavers_63 rfl (lv_at hl 6 rfl) ?_
              refine lv_land hx hb dX0_wavers_64 ?_
              refine lv_lconst (v := 0) hx hb dX0_wavers_65 (by decide) ?_
              refine W.lcmp hx hb dX0_wavers_66 ?_
              refine lv_if_ne (tgt := 72) hx hb dX0_wavers_67 (by decide) (fun c67 => ?_) (fun c67 => ?_)
              · -- 67 True
                have c67 := lg_ne.mp c67
                refine lv_iload hx hb dX0_wavers_72 (lv_at hl 0 rfl) ?_
                refine lv_istore (lv' := [(4, .int (vIn (hFe hs) (hPs hs) t b)), (8, .int (vIn (hFe hs) (hPs hs) t b)), (5, .long (cg ||| (hCg hs b))), (7, .int (nI b)), (0, .ref (q 9)), (1, .int (nI t)), (2, .long r)]) hx hb dX0_wavers_74 hl (by decide) rfl (fun ls hl => ?_)
                refine lv_lconst (v := 0) hx hb dX0_wavers_76 (by decide) ?_
                refine lv_lstore (lv' := [(5, .long 0), (4, .int (vIn (hFe hs) (hPs hs) t b)), (8, .int (vIn (hFe hs) (hPs hs) t b)), (7, .int (nI b)), (0, .ref (q 9)), (1, .int (nI t)), (2, .long r)]) hx hb dX0_wavers_77 hl (by decide) rfl (fun ls hl => ?_)
                refine lv_iinc (v := nI (b + 1)) (lv' := [(7, .int (nI (b + 1))), (5, .long 0), (4, .int (vIn (hFe hs) (hPs hs) t b)), (8, .int (vIn (hFe hs) (hPs hs) t b)), (0, .ref (q 9)), (1, .int (nI t)), (2, .long r)]) hx hb dX0_wavers_79 hl (k := 3) rfl (nI_inc _) (by decide) rfl (fun ls hl => ?_)
                refine lv_goto (tgt := 10) hx hb dX0_wavers_82 (by decide) ?_
                exact ih10 (b + 1) (vIn (hFe hs) (hPs hs) t b) 0 (by omega) (by omega) (vIn_neg _ _ _ _) (wv_seen hf c44 (Or.inr (Or.inr c67))) ls (lv_sub hl [0, 1, 2, 4, 5, 6] rfl)
              · -- 67 False
                have c67 := (lg_cmp_eq _ _).mp c67
                refine lv_iconst (v := 1) hx hb dX0_wavers_70 (by decide) ?_
                exact ro_retz hx hb hr hlk (by decide) ((bI_t (wv_true hf (by omega) c44 (fun z => c51 (h9.mp z)) c58 c67)).symm) dX0_wavers_71
  exact L10 (hB hs + 1) 0 (-9) 0 (by omega) (by omega) (by decide) (by simp [flS, lAnd0]) ls (lv_sub hl [0, 1, 2, 3, 4, 5] rfl)

set_option maxHeartbeats 4000000 in
set_option maxRecDepth 100000 in
theorem c_X0_verdictsInAll (l : Launch) (D : va_G) (q : Nat → Nat) (c : CT) (hs : HS)  : ROi l yX0_verdictsInAll wsX0_verdictsInAll ({ frames := 1, cells := 0, slots := 0, locals := 21 } : Room) [.ref (q 9)] D c (wH q c hs) (vAll hs 20) := by
  refine ro_starti (cc := cX0_verdictsInAll) (maxL := 3) (ret := some .int) (by decide) rfl (Nat.le_of_ble_eq_true rfl) ?_
  intro p e s m args below meth c0 ls hx hb hr hml hown hts hlk hP hK hl
  have hown : s.vm.findClass RX0 = some m.cls := hown
  have hl : lv_has ls 3 [(0, .ref (q 9))] := hl
  have hin0 : ∀ w ∈ wsX00, w ∈ wsX0_verdictsInAll := by decide +kernel
  refine lv_iconst (v := 0) hx hb dX0_verdictsInAll_0 (by decide) ?_
  refine lv_istore_n (lv' := [(1, .int 0), (0, .ref (q 9))]) hx hb dX0_verdictsInAll_1 rfl hl (by decide) rfl (fun ls hl => ?_)
  refine lv_iconst (v := 0) hx hb dX0_verdictsInAll_2 (by decide) ?_
  refine lv_istore_n (lv' := [(2, .int 0), (1, .int 0), (0, .ref (q 9))]) hx hb dX0_verdictsInAll_3 rfl hl (by decide) rfl (fun ls hl => ?_)
  have L4 : ∀ (n : Nat) (i : Nat) (a : Int32), (i ≤ 20) → (20 < i + n) → (a = vAll hs i) → ∀ ls : Array Slot, lv_has ls 3 [(2, .int (nI i)), (1, .int a), (0, .ref (q 9))] → W p l e ({ frames := 1, cells := 0, slots := 0, locals := 21 } : Room) s m args below meth c0 s.heap [] 0 0 (QRi below args s (vAll hs 20)) (F0 m 4 ls []) := by
    intro n
    induction n with
    | zero => intro i a hi hn ha ls hl; exact absurd hn (by omega)
    | succ n ih4 =>
      intro i a hi hn ha ls hl
      refine lv_iload_n hx hb dX0_verdictsInAll_4 rfl (lv_at hl 0 rfl) ?_
      refine lv_bipush (v := 20) hx hb dX0_verdictsInAll_5 (by decide) ?_
      refine lv_icmp_ge (tgt := 38) hx hb dX0_verdictsInAll_7 (by decide) (fun c7 => ?_) (fun c7 => ?_)
      · -- 7 True
        have c7 : 20 ≤ i := (nI_leI (a := 20) (b := i) (by omega) (by omega)).mp c7
        refine lv_iload_n hx hb dX0_verdictsInAll_38 rfl (lv_at hl 1 rfl) ?_
        exact ro_reti hx hb hr hlk (by rw [ha, show i = 20 by omega]) dX0_verdictsInAll_39
      · -- 7 False
        have c7 : i < 20 := (Nat.not_le.mp (fun z => c7 ((nI_leI (a := 20) (b := i) (by omega) (by omega)).mpr z)))
        refine lv_iload_n hx hb dX0_verdictsInAll_10 rfl (lv_at hl 1 rfl) ?_
        refine lv_aload_n hx hb dX0_verdictsInAll_11 rfl (lv_at hl 2 rfl) ?_
        refine va_get (D := D) (ci := 0) (v := .ref (q 11)) (C := RX0) (T := TX0) (N := 4) hx hb hts hin0 hown hK.1 hP 0 rfl rfl 1 (by decide) (hts (.fieldLink RX0 15 "TestPicker$History" "fellIn" "[J") (by decide +kernel)) (fun _ h9 => h9) rfl dX0_verdictsInAll_12 ?_
        refine lv_iload_n hx hb dX0_verdictsInAll_15 rfl (lv_at hl 0 rfl) ?_
        refine ld_l hx hb hK hP 2 (f := hFe hs) rfl (i := i) (by omega) (by decide) dX0_verdictsInAll_16 ?_
        refine ro_Si (As := [.long (hFe hs i)]) (rest := [.int a]) ⟨hx, hb, hml, hown, hts⟩ (c_J13_bitCount_95d88 l D c (hFe hs i)) (va_cwS 1 hts gX0_verdictsInAll_J13_bitCount_95d88 rfl rfl rfl (by decide +kernel) ⟨Nat.le_of_ble_eq_true rfl, Nat.le_of_ble_eq_true rfl⟩) va_P0 hK rfl hl.1 rfl (Nat.le_of_ble_eq_true rfl) dX0_verdictsInAll_17 ⟨Nat.le_of_ble_eq_true rfl, Nat.le_of_ble_eq_true rfl⟩ ?_
        refine lv_aload_n hx hb dX0_verdictsInAll_20 rfl (lv_at hl 2 rfl) ?_
        refine va_get (D := D) (ci := 0) (v := .ref (q 12)) (C := RX0) (T := TX0) (N := 4) hx hb hts hin0 hown hK.1 hP 0 rfl rfl 2 (by decide) (hts (.fieldLink RX0 18 "TestPicker$History" "passedIn" "[J") (by decide +kernel)) (fun _ h9 => h9) rfl dX0_verdictsInAll_21 ?_
        refine lv_iload_n hx hb dX0_verdictsInAll_24 rfl (lv_at hl 0 rfl) ?_
        refine ld_l hx hb hK hP 3 (f := hPs hs) rfl (i := i) (by omega) (by decide) dX0_verdictsInAll_25 ?_
        refine ro_Si (As := [.long (hPs hs i)]) (rest := [.int (popL (hFe hs i)), .int a]) ⟨hx, hb, hml, hown, hts⟩ (c_J13_bitCount_95d88 l D c (hPs hs i)) (va_cwS 1 hts gX0_verdictsInAll_J13_bitCount_95d88 rfl rfl rfl (by decide +kernel) ⟨Nat.le_of_ble_eq_true rfl, Nat.le_of_ble_eq_true rfl⟩) va_P0 hK rfl hl.1 rfl (Nat.le_of_ble_eq_true rfl) dX0_verdictsInAll_26 ⟨Nat.le_of_ble_eq_true rfl, Nat.le_of_ble_eq_true rfl⟩ ?_
        refine lv_iadd hx hb dX0_verdictsInAll_29 ?_
        refine lv_iadd hx hb dX0_verdictsInAll_30 ?_
        refine lv_istore_n (lv' := [(1, .int (a + (popL (hFe hs i) + popL (hPs hs i)))), (2, .int (nI i)), (0, .ref (q 9))]) hx hb dX0_verdictsInAll_31 rfl hl (by decide) rfl (fun ls hl => ?_)
        refine lv_iinc (v := nI (i + 1)) (lv' := [(2, .int (nI (i + 1))), (1, .int (a + (popL (hFe hs i) + popL (hPs hs i)))), (0, .ref (q 9))]) hx hb dX0_verdictsInAll_32 hl (k := 1) rfl (nI_inc _) (by decide) rfl (fun ls hl => ?_)
        refine lv_goto (tgt := 4) hx hb dX0_verdictsInAll_35 (by decide) ?_
        exact ih4 (i + 1) (a + (popL (hFe hs i) + popL (hPs hs i))) (by omega) (by omega) (by rw [ha]; rfl) ls (lv_sub hl [0, 1, 2] rfl)
  exact L4 (21) 0 0 (by omega) (by omega) (rfl) ls (lv_sub hl [0, 1, 2] rfl)

set_option maxHeartbeats 4000000 in
set_option maxRecDepth 100000 in
theorem c_X1_partsSeen (l : Launch) (D : va_G) (q : Nat → Nat) (c : CT) (ps : PS)  : ROi l yX1_partsSeen wsX1_partsSeen ({ frames := 1, cells := 0, slots := 0, locals := 21 } : Room) [.ref (q 13)] D c (wP q c ps) (popL (pSeen ps &&& pChg ps)) := by
  refine ro_starti (cc := cX1_partsSeen) (maxL := 1) (ret := some .int) (by decide) rfl (Nat.le_of_ble_eq_true rfl) ?_
  intro p e s m args below meth c0 ls hx hb hr hml hown hts hlk hP hK hl
  have hown : s.vm.findClass RX1 = some m.cls := hown
  have hl : lv_has ls 1 [(0, .ref (q 13))] := hl
  have hin1 : ∀ w ∈ wsX10, w ∈ wsX1_partsSeen := by decide +kernel
  refine lv_aload_n hx hb dX1_partsSeen_0 rfl (lv_at hl 0 rfl) ?_
  refine va_get (D := D) (ci := 1) (v := .long (pSeen ps)) (C := RX1) (T := TX1) (N := 7) hx hb hts hin1 hown hK.1 hP 0 rfl rfl 4 (by decide) (hts (.fieldLink RX1 25 "TestPicker$Plan" "seen" "J") (by decide +kernel)) (fun _ h9 => h9) rfl dX1_partsSeen_1 ?_
  refine lv_aload_n hx hb dX1_partsSeen_4 rfl (lv_at hl 0 rfl) ?_
  refine va_get (D := D) (ci := 1) (v := .long (pChg ps)) (C := RX1) (T := TX1) (N := 7) hx hb hts hin1 hown hK.1 hP 0 rfl rfl 5 (by decide) (hts (.fieldLink RX1 29 "TestPicker$Plan" "change" "J") (by decide +kernel)) (fun _ h9 => h9) rfl dX1_partsSeen_5 ?_
  refine lv_land hx hb dX1_partsSeen_8 ?_
  refine ro_Si (As := [.long (pSeen ps &&& pChg ps)]) (rest := []) ⟨hx, hb, hml, hown, hts⟩ (c_J13_bitCount_95d88 l D c (pSeen ps &&& pChg ps)) (va_cwS 1 hts gX1_partsSeen_J13_bitCount_95d88 rfl rfl rfl (by decide +kernel) ⟨Nat.le_of_ble_eq_true rfl, Nat.le_of_ble_eq_true rfl⟩) va_P0 hK rfl hl.1 rfl (Nat.le_of_ble_eq_true rfl) dX1_partsSeen_9 ⟨Nat.le_of_ble_eq_true rfl, Nat.le_of_ble_eq_true rfl⟩ ?_
  exact ro_reti hx hb hr hlk (rfl) dX1_partsSeen_12

set_option maxHeartbeats 4000000 in
set_option maxRecDepth 100000 in
theorem c_X2_isWider (l : Launch) (D : va_G) (q : Nat → Nat) (c : CT) (ss : SS) (k : Nat) (hp : k < 13) : ROi l yX2_isWider wsX2_isWider ({ frames := 1, cells := 0, slots := 0, locals := 21 } : Room) [.ref (q 15), .int (nI k)] D c (wS q c ss) (bI (wdr ss k)) := by
  refine ro_starti (cc := cX2_isWider) (maxL := 3) (ret := some .boolean) (by decide) rfl (Nat.le_of_ble_eq_true rfl) ?_
  intro p e s m args below meth c0 ls hx hb hr hml hown hts hlk hP hK hl
  have hown : s.vm.findClass RX2 = some m.cls := hown
  have hl : lv_has ls 3 [(0, .ref (q 15)), (1, .int (nI k))] := hl
  have hin2 : ∀ w ∈ wsX20, w ∈ wsX2_isWider := by decide +kernel
  refine lv_aload_n hx hb dX2_isWider_0 rfl (lv_at hl 0 rfl) ?_
  refine va_get (D := D) (ci := 2) (v := .ref (q 23)) (C := RX2) (T := TX2) (N := 12) hx hb hts hin2 hown hK.1 hP 0 rfl rfl 8 (by decide) (hts (.fieldLink RX2 38 "TestPicker$Sets" "coverFrom" "[J") (by decide +kernel)) (fun _ h9 => h9) rfl dX2_isWider_1 ?_
  refine lv_iload_n hx hb dX2_isWider_4 rfl (lv_at hl 1 rfl) ?_
  refine ld_l hx hb hK hP 8 (f := sVf ss) rfl (i := k) (by omega) (by decide) dX2_isWider_5 ?_
  refine ro_Si (As := [.long (sVf ss k)]) (rest := []) ⟨hx, hb, hml, hown, hts⟩ (c_J13_bitCount_95d88 l D c (sVf ss k)) (va_cwS 1 hts gX2_isWider_J13_bitCount_95d88 rfl rfl rfl (by decide +kernel) ⟨Nat.le_of_ble_eq_true rfl, Nat.le_of_ble_eq_true rfl⟩) va_P0 hK rfl hl.1 rfl (Nat.le_of_ble_eq_true rfl) dX2_isWider_6 ⟨Nat.le_of_ble_eq_true rfl, Nat.le_of_ble_eq_true rfl⟩ ?_
  refine lv_aload_n hx hb dX2_isWider_9 rfl (lv_at hl 0 rfl) ?_
  refine va_get (D := D) (ci := 2) (v := .long (sFc ss)) (C := RX2) (T := TX2) (N := 12) hx hb hts hin2 hown hK.1 hP 0 rfl rfl 11 (by decide) (hts (.fieldLink RX2 47 "TestPicker$Sets" "foundCover" "J") (by decide +kernel)) (fun _ h9 => h9) rfl dX2_isWider_10 ?_
  refine ro_Si (As := [.long (sFc ss)]) (rest := [.int (popL (sVf ss k))]) ⟨hx, hb, hml, hown, hts⟩ (c_J13_bitCount_95d88 l D c (sFc ss)) (va_cwS 1 hts gX2_isWider_J13_bitCount_95d88 rfl rfl rfl (by decide +kernel) ⟨Nat.le_of_ble_eq_true rfl, Nat.le_of_ble_eq_true rfl⟩) va_P0 hK rfl hl.1 rfl (Nat.le_of_ble_eq_true rfl) dX2_isWider_13 ⟨Nat.le_of_ble_eq_true rfl, Nat.le_of_ble_eq_true rfl⟩ ?_
  refine lv_isub hx hb dX2_isWider_16 ?_
  refine lv_istore_n (lv' := [(2, .int (popL (sVf ss k) - popL (sFc ss))), (0, .ref (q 15)), (1, .int (nI k))]) hx hb dX2_isWider_17 rfl hl (by decide) rfl (fun ls hl => ?_)
  refine lv_iload_n hx hb dX2_isWider_18 rfl (lv_at hl 0 rfl) ?_
  refine lv_if_gt (tgt := 39) hx hb dX2_isWider_19 (by decide) (fun c19 => ?_) (fun c19 => ?_)
  · -- 19 True
    refine lv_iconst (v := 1) hx hb dX2_isWider_39 (by decide) ?_
    refine lv_goto (tgt := 44) hx hb dX2_isWider_40 (by decide) ?_
    exact ro_retz hx hb hr hlk (by decide) (by simp [wdr, bI, c19]) dX2_isWider_44
  · -- 19 False
    refine lv_iload_n hx hb dX2_isWider_22 rfl (lv_at hl 0 rfl) ?_
    refine lv_if_ne (tgt := 43) hx hb dX2_isWider_23 (by decide) (fun c23 => ?_) (fun c23 => ?_)
    · -- 23 True
      refine lv_iconst (v := 0) hx hb dX2_isWider_43 (by decide) ?_
      exact ro_retz hx hb hr hlk (by decide) (by simp [wdr, bI, c19, c23]) dX2_isWider_44
    · -- 23 False
      refine lv_aload_n hx hb dX2_isWider_26 rfl (lv_at hl 1 rfl) ?_
      refine va_get (D := D) (ci := 2) (v := .ref (q 22)) (C := RX2) (T := TX2) (N := 12) hx hb hts hin2 hown hK.1 hP 0 rfl rfl 7 (by decide) (hts (.fieldLink RX2 35 "TestPicker$Sets" "timeFrom" "[I") (by decide +kernel)) (fun _ h9 => h9) rfl dX2_isWider_27 ?_
      refine lv_iload_n hx hb dX2_isWider_30 rfl (lv_at hl 2 rfl) ?_
      refine ld_i hx hb hK hP 7 (f := sTf ss) rfl (i := k) (by omega) (by decide) dX2_isWider_31 ?_
      refine lv_aload_n hx hb dX2_isWider_32 rfl (lv_at hl 1 rfl) ?_
      refine va_get (D := D) (ci := 2) (v := .int (sFt ss)) (C := RX2) (T := TX2) (N := 12) hx hb hts hin2 hown hK.1 hP 0 rfl rfl 10 (by decide) (hts (.fieldLink RX2 44 "TestPicker$Sets" "foundTime" "I") (by decide +kernel)) (fun _ h9 => h9) rfl dX2_isWider_33 ?_
      refine lv_icmp_ge (tgt := 43) hx hb dX2_isWider_36 (by decide) (fun c36 => ?_) (fun c36 => ?_)
      · -- 36 True
        refine lv_iconst (v := 0) hx hb dX2_isWider_43 (by decide) ?_
        exact ro_retz hx hb hr hlk (by decide) (by simp [wdr, bI, c19, c23, c36]) dX2_isWider_44
      · -- 36 False
        refine lv_iconst (v := 1) hx hb dX2_isWider_39 (by decide) ?_
        refine lv_goto (tgt := 44) hx hb dX2_isWider_40 (by decide) ?_
        exact ro_retz hx hb hr hlk (by decide) (by simp [wdr, bI, c19, c23, c36]) dX2_isWider_44

set_option maxHeartbeats 4000000 in
set_option maxRecDepth 100000 in
theorem c_X4_isFlaky (l : Launch) (D : va_G) (q : Nat → Nat) (c : CT) (ms : MS) (ts : TS) (hs : HS) (ps : PS) (ss : SS) (t : Nat) (ht : t < 20) (hb60 : hB hs ≤ 60) : ROi l yX4_isFlaky wsX4_isFlaky ({ frames := 2, cells := 0, slots := 0, locals := 50 } : Room) [.ref (q 0), .int (nI t)] D c (wC q c (ms, ts, hs, ps, ss)) (bI (cFk ts hs t)) := by
  refine ro_starti (cc := cX4_isFlaky) (maxL := 2) (ret := some .boolean) (by decide) rfl (Nat.le_of_ble_eq_true rfl) ?_
  intro p e s m args below meth c0 ls hx hb hr hml hown hts hlk hP hK hl
  have hown : s.vm.findClass RX4 = some m.cls := hown
  have hl : lv_has ls 2 [(0, .ref (q 0)), (1, .int (nI t))] := hl
  have hin3 : ∀ w ∈ wsX30, w ∈ wsX4_isFlaky := by decide +kernel
  have hin4 : ∀ w ∈ wsX40, w ∈ wsX4_isFlaky := by decide +kernel
  refine lv_aload_n hx hb dX4_isFlaky_0 rfl (lv_at hl 0 rfl) ?_
  refine va_get (D := D) (ci := 4) (v := .ref (q 9)) (C := RX4) (T := TX4) (N := 7) hx hb hts hin4 hown hK.1 hP 0 rfl rfl 1 (by decide) (hts (.fieldLink RX4 19 "TestPicker" "history" "LTestPicker$History;") (by decide +kernel)) (fun _ h9 => h9) rfl dX4_isFlaky_1 ?_
  refine lv_iload_n hx hb dX4_isFlaky_4 rfl (lv_at hl 1 rfl) ?_
  refine lv_aload_n hx hb dX4_isFlaky_5 rfl (lv_at hl 0 rfl) ?_
  refine va_get (D := D) (ci := 4) (v := .ref (q 2)) (C := RX4) (T := TX4) (N := 7) hx hb hts hin4 hown hK.1 hP 0 rfl rfl 0 (by decide) (hts (.fieldLink RX4 10 "TestPicker" "tests" "LTestPicker$Tests;") (by decide +kernel)) (fun _ h9 => h9) rfl dX4_isFlaky_6 ?_
  refine va_get (D := D) (ci := 3) (v := .ref (q 7)) (C := RX3) (T := TX3) (N := 7) hx hb hts hin3 hown hK.1 hP 2 rfl rfl 4 (by decide) (hts (.fieldLink RX4 85 "TestPicker$Tests" "parts" "[J") (by decide +kernel)) (fun _ h9 => h9) rfl dX4_isFlaky_9 ?_
  refine lv_iload_n hx hb dX4_isFlaky_12 rfl (lv_at hl 1 rfl) ?_
  refine ld_l hx hb hK hP 7 (f := tPa ts) rfl (i := t) (by omega) (by decide) dX4_isFlaky_13 ?_
  refine ro_Vi (post := bI (flk (hCg hs) (cV hs t) (tPa ts t) (hB hs))) (As := [.int (nI t), .long (tPa ts t)]) (rest := []) ⟨hx, hb, hml, hown, hts⟩ (c_X0_wavers l D q c hs t (tPa ts t) (by omega) (by omega)) (cwV 2 hts gX4_isFlaky_X0_wavers rfl rfl rfl (by decide +kernel) ⟨Nat.le_of_ble_eq_true rfl, Nat.le_of_ble_eq_true rfl⟩) (hP.sub (ws' := wH q c hs) [9, 10, 11, 12] rfl) hK (va_recv hK.1 hP (ci := 0) (q0 := 9) rfl rfl) rfl hl.1 rfl (Nat.le_of_ble_eq_true rfl) dX4_isFlaky_14 ⟨Nat.le_of_ble_eq_true rfl, Nat.le_of_ble_eq_true rfl⟩ ?_
  exact ro_retz hx hb hr hlk (bI_or _) (rfl) dX4_isFlaky_17

set_option maxHeartbeats 4000000 in
set_option maxRecDepth 100000 in
theorem c_X4_factOf (l : Launch) (D : va_G) (q : Nat → Nat) (c : CT) (ms : MS) (ts : TS) (hs : HS) (ps : PS) (ss : SS) (t : Nat) (x : Int32) (ht : t < 20) (hb60 : hB hs ≤ 60) : ROi l yX4_factOf wsX4_factOf ({ frames := 3, cells := 0, slots := 0, locals := 71 } : Room) [.ref (q 0), .int (nI t), .int x] D c (wC q c (ms, ts, hs, ps, ss)) (cTl ts hs t x) := by
  refine ro_starti (cc := cX4_factOf) (maxL := 3) (ret := some .int) (by decide) rfl (Nat.le_of_ble_eq_true rfl) ?_
  intro p e s m args below meth c0 ls hx hb hr hml hown hts hlk hP hK hl
  have hown : s.vm.findClass RX4 = some m.cls := hown
  have hl : lv_has ls 3 [(0, .ref (q 0)), (1, .int (nI t)), (2, .int x)] := hl
  have hin3 : ∀ w ∈ wsX30, w ∈ wsX4_factOf := by decide +kernel
  have hin4 : ∀ w ∈ wsX40, w ∈ wsX4_factOf := by decide +kernel
  refine lv_iload_n hx hb dX4_factOf_0 rfl (lv_at hl 2 rfl) ?_
  by_cases c1_0 : x = 0
  · -- case 0
    refine lv_tableIn (tgt := 40) (off := 39) hx hb dX4_factOf_1 (by rw [c1_0]; decide) (by rw [c1_0]; decide) (by rw [c1_0]; decide) (by decide) ?_
    refine lv_aload_n hx hb dX4_factOf_40 rfl (lv_at hl 0 rfl) ?_
    refine va_get (D := D) (ci := 4) (v := .ref (q 2)) (C := RX4) (T := TX4) (N := 7) hx hb hts hin4 hown hK.1 hP 0 rfl rfl 0 (by decide) (hts (.fieldLink RX4 10 "TestPicker" "tests" "LTestPicker$Tests;") (by decide +kernel)) (fun _ h9 => h9) rfl dX4_factOf_41 ?_
    refine va_get (D := D) (ci := 3) (v := .ref (q 3)) (C := RX3) (T := TX3) (N := 7) hx hb hts hin3 hown hK.1 hP 2 rfl rfl 0 (by decide) (hts (.fieldLink RX4 63 "TestPicker$Tests" "kinds" "[I") (by decide +kernel)) (fun _ h9 => h9) rfl dX4_factOf_44 ?_
    refine lv_iload_n hx hb dX4_factOf_47 rfl (lv_at hl 1 rfl) ?_
    refine ld_i hx hb hK hP 3 (f := tKd ts) rfl (i := t) (by omega) (by decide) dX4_factOf_48 ?_
    exact ro_reti hx hb hr hlk (by simp [cTl, c1_0]) dX4_factOf_49
  by_cases c1_1 : x = 1
  · -- case 1
    refine lv_tableIn (tgt := 50) (off := 49) hx hb dX4_factOf_1 (by rw [c1_1]; decide) (by rw [c1_1]; decide) (by rw [c1_1]; decide) (by decide) ?_
    refine lv_aload_n hx hb dX4_factOf_50 rfl (lv_at hl 0 rfl) ?_
    refine va_get (D := D) (ci := 4) (v := .ref (q 2)) (C := RX4) (T := TX4) (N := 7) hx hb hts hin4 hown hK.1 hP 0 rfl rfl 0 (by decide) (hts (.fieldLink RX4 10 "TestPicker" "tests" "LTestPicker$Tests;") (by decide +kernel)) (fun _ h9 => h9) rfl dX4_factOf_51 ?_
    refine lv_iload_n hx hb dX4_factOf_54 rfl (lv_at hl 1 rfl) ?_
    refine ro_Vi (post := (cTm (tKd ts) (tOt ts) t)) (As := [.int (nI t)]) (rest := []) ⟨hx, hb, hml, hown, hts⟩ (c_X3_countedTime l D q c ts t (by omega)) (cwV 1 hts gX4_factOf_X3_countedTime rfl rfl rfl (by decide +kernel) ⟨Nat.le_of_ble_eq_true rfl, Nat.le_of_ble_eq_true rfl⟩) (hP.sub (ws' := wT q c ts) [2, 3, 4, 5, 6, 7, 8] rfl) hK (va_recv hK.1 hP (ci := 3) (q0 := 2) rfl rfl) rfl hl.1 rfl (Nat.le_of_ble_eq_true rfl) dX4_factOf_55 ⟨Nat.le_of_ble_eq_true rfl, Nat.le_of_ble_eq_true rfl⟩ ?_
    exact ro_reti hx hb hr hlk (by simp [cTl, c1_1]) dX4_factOf_58
  by_cases c1_2 : x = 2
  · -- case 2
    refine lv_tableIn (tgt := 59) (off := 58) hx hb dX4_factOf_1 (by rw [c1_2]; decide) (by rw [c1_2]; decide) (by rw [c1_2]; decide) (by decide) ?_
    refine lv_aload_n hx hb dX4_factOf_59 rfl (lv_at hl 0 rfl) ?_
    refine va_get (D := D) (ci := 4) (v := .ref (q 2)) (C := RX4) (T := TX4) (N := 7) hx hb hts hin4 hown hK.1 hP 0 rfl rfl 0 (by decide) (hts (.fieldLink RX4 10 "TestPicker" "tests" "LTestPicker$Tests;") (by decide +kernel)) (fun _ h9 => h9) rfl dX4_factOf_60 ?_
    refine va_get (D := D) (ci := 3) (v := .ref (q 5)) (C := RX3) (T := TX3) (N := 7) hx hb hts hin3 hown hK.1 hP 2 rfl rfl 2 (by decide) (hts (.fieldLink RX4 234 "TestPicker$Tests" "needs" "[I") (by decide +kernel)) (fun _ h9 => h9) rfl dX4_factOf_63 ?_
    refine lv_iload_n hx hb dX4_factOf_66 rfl (lv_at hl 1 rfl) ?_
    refine ld_i hx hb hK hP 5 (f := tNd ts) rfl (i := t) (by omega) (by decide) dX4_factOf_67 ?_
    exact ro_reti hx hb hr hlk (by simp [cTl, c1_2]) dX4_factOf_68
  by_cases c1_3 : x = 3
  · -- case 3
    refine lv_tableIn (tgt := 69) (off := 68) hx hb dX4_factOf_1 (by rw [c1_3]; decide) (by rw [c1_3]; decide) (by rw [c1_3]; decide) (by decide) ?_
    refine lv_aload_n hx hb dX4_factOf_69 rfl (lv_at hl 0 rfl) ?_
    refine va_get (D := D) (ci := 4) (v := .ref (q 9)) (C := RX4) (T := TX4) (N := 7) hx hb hts hin4 hown hK.1 hP 0 rfl rfl 1 (by decide) (hts (.fieldLink RX4 19 "TestPicker" "history" "LTestPicker$History;") (by decide +kernel)) (fun _ h9 => h9) rfl dX4_factOf_70 ?_
    refine lv_iload_n hx hb dX4_factOf_73 rfl (lv_at hl 1 rfl) ?_
    refine ro_Vi (post := (htC (hFe hs t) (hB hs))) (As := [.int (nI t)]) (rest := []) ⟨hx, hb, hml, hown, hts⟩ (c_X0_heat l D q c hs t (by omega) (by omega)) (cwV 1 hts gX4_factOf_X0_heat rfl rfl rfl (by decide +kernel) ⟨Nat.le_of_ble_eq_true rfl, Nat.le_of_ble_eq_true rfl⟩) (hP.sub (ws' := wH q c hs) [9, 10, 11, 12] rfl) hK (va_recv hK.1 hP (ci := 0) (q0 := 9) rfl rfl) rfl hl.1 rfl (Nat.le_of_ble_eq_true rfl) dX4_factOf_74 ⟨Nat.le_of_ble_eq_true rfl, Nat.le_of_ble_eq_true rfl⟩ ?_
    exact ro_reti hx hb hr hlk (by simp [cTl, c1_3]) dX4_factOf_77
  by_cases c1_4 : x = 4
  · -- case 4
    refine lv_tableIn (tgt := 78) (off := 77) hx hb dX4_factOf_1 (by rw [c1_4]; decide) (by rw [c1_4]; decide) (by rw [c1_4]; decide) (by decide) ?_
    refine lv_aload_n hx hb dX4_factOf_78 rfl (lv_at hl 0 rfl) ?_
    refine lv_iload_n hx hb dX4_factOf_79 rfl (lv_at hl 1 rfl) ?_
    refine ro_Vi (post := bI (cFk ts hs t)) (As := [.int (nI t)]) (rest := []) ⟨hx, hb, hml, hown, hts⟩ (c_X4_isFlaky l D q c ms ts hs ps ss t (by omega) (by omega)) (cwV 1 hts gX4_factOf_X4_isFlaky rfl rfl rfl (by decide +kernel) ⟨Nat.le_of_ble_eq_true rfl, Nat.le_of_ble_eq_true rfl⟩) hP hK (va_recv hK.1 hP (ci := 4) (q0 := 0) rfl rfl) rfl hl.1 rfl (Nat.le_of_ble_eq_true rfl) dX4_factOf_80 ⟨Nat.le_of_ble_eq_true rfl, Nat.le_of_ble_eq_true rfl⟩ ?_
    refine lv_if_eq (tgt := 90) hx hb dX4_factOf_83 (by decide) (fun c83 => ?_) (fun c83 => ?_)
    · -- 83 True
      have c83 := bI_z.mp c83
      refine lv_iconst (v := 0) hx hb dX4_factOf_90 (by decide) ?_
      exact ro_reti hx hb hr hlk (by simp [cTl, c1_4, c83, bI]) dX4_factOf_91
    · -- 83 False
      have c83 := bI_nz.mp c83
      refine lv_iconst (v := 1) hx hb dX4_factOf_86 (by decide) ?_
      refine lv_goto (tgt := 91) hx hb dX4_factOf_87 (by decide) ?_
      exact ro_reti hx hb hr hlk (by simp [cTl, c1_4, c83, bI]) dX4_factOf_91
  by_cases c1_5 : x = 5
  · -- case 5
    refine lv_tableIn (tgt := 92) (off := 91) hx hb dX4_factOf_1 (by rw [c1_5]; decide) (by rw [c1_5]; decide) (by rw [c1_5]; decide) (by decide) ?_
    refine lv_aload_n hx hb dX4_factOf_92 rfl (lv_at hl 0 rfl) ?_
    refine va_get (D := D) (ci := 4) (v := .ref (q 9)) (C := RX4) (T := TX4) (N := 7) hx hb hts hin4 hown hK.1 hP 0 rfl rfl 1 (by decide) (hts (.fieldLink RX4 19 "TestPicker" "history" "LTestPicker$History;") (by decide +kernel)) (fun _ h9 => h9) rfl dX4_factOf_93 ?_
    refine lv_iload_n hx hb dX4_factOf_96 rfl (lv_at hl 1 rfl) ?_
    refine ro_Vi (post := bI (decide (hPs hs t < hFe hs t))) (As := [.int (nI t)]) (rest := []) ⟨hx, hb, hml, hown, hts⟩ (c_X0_fellLast l D q c hs t (by omega)) (cwV 1 hts gX4_factOf_X0_fellLast rfl rfl rfl (by decide +kernel) ⟨Nat.le_of_ble_eq_true rfl, Nat.le_of_ble_eq_true rfl⟩) (hP.sub (ws' := wH q c hs) [9, 10, 11, 12] rfl) hK (va_recv hK.1 hP (ci := 0) (q0 := 9) rfl rfl) rfl hl.1 rfl (Nat.le_of_ble_eq_true rfl) dX4_factOf_97 ⟨Nat.le_of_ble_eq_true rfl, Nat.le_of_ble_eq_true rfl⟩ ?_
    refine lv_if_eq (tgt := 115) hx hb dX4_factOf_100 (by decide) (fun c100 => ?_) (fun c100 => ?_)
    · -- 100 True
      have c100 := bI_z.mp c100
      refine lv_iconst (v := 0) hx hb dX4_factOf_115 (by decide) ?_
      exact ro_reti hx hb hr hlk (by simp [cTl, c1_5, c100, bI]) dX4_factOf_116
    · -- 100 False
      have c100 := bI_nz.mp c100
      refine lv_aload_n hx hb dX4_factOf_103 rfl (lv_at hl 0 rfl) ?_
      refine lv_iload_n hx hb dX4_factOf_104 rfl (lv_at hl 1 rfl) ?_
      refine ro_Vi (post := bI (cFk ts hs t)) (As := [.int (nI t)]) (rest := []) ⟨hx, hb, hml, hown, hts⟩ (c_X4_isFlaky l D q c ms ts hs ps ss t (by omega) (by omega)) (cwV 1 hts gX4_factOf_X4_isFlaky rfl rfl rfl (by decide +kernel) ⟨Nat.le_of_ble_eq_true rfl, Nat.le_of_ble_eq_true rfl⟩) hP hK (va_recv hK.1 hP (ci := 4) (q0 := 0) rfl rfl) rfl hl.1 rfl (Nat.le_of_ble_eq_true rfl) dX4_factOf_105 ⟨Nat.le_of_ble_eq_true rfl, Nat.le_of_ble_eq_true rfl⟩ ?_
      refine lv_if_ne (tgt := 115) hx hb dX4_factOf_108 (by decide) (fun c108 => ?_) (fun c108 => ?_)
      · -- 108 True
        have c108 := bI_nz.mp c108
        refine lv_iconst (v := 0) hx hb dX4_factOf_115 (by decide) ?_
        exact ro_reti hx hb hr hlk (by simp [cTl, c1_5, c100, c108, bI]) dX4_factOf_116
      · -- 108 False
        have c108 := bI_z.mp c108
        refine lv_iconst (v := 1) hx hb dX4_factOf_111 (by decide) ?_
        refine lv_goto (tgt := 116) hx hb dX4_factOf_112 (by decide) ?_
        exact ro_reti hx hb hr hlk (by simp [cTl, c1_5, c100, c108, bI]) dX4_factOf_116
  refine lv_tableOut (tgt := 117) hx hb dX4_factOf_1 (sw6 c1_0 c1_1 c1_2 c1_3 c1_4 c1_5) (by decide) ?_
  refine lv_aload_n hx hb dX4_factOf_117 rfl (lv_at hl 0 rfl) ?_
  refine va_get (D := D) (ci := 4) (v := .ref (q 2)) (C := RX4) (T := TX4) (N := 7) hx hb hts hin4 hown hK.1 hP 0 rfl rfl 0 (by decide) (hts (.fieldLink RX4 10 "TestPicker" "tests" "LTestPicker$Tests;") (by decide +kernel)) (fun _ h9 => h9) rfl dX4_factOf_118 ?_
  refine va_get (D := D) (ci := 3) (v := .ref (q 6)) (C := RX3) (T := TX3) (N := 7) hx hb hts hin3 hown hK.1 hP 2 rfl rfl 3 (by decide) (hts (.fieldLink RX4 180 "TestPicker$Tests" "chains" "[I") (by decide +kernel)) (fun _ h9 => h9) rfl dX4_factOf_121 ?_
  refine lv_iload_n hx hb dX4_factOf_124 rfl (lv_at hl 1 rfl) ?_
  refine ld_i hx hb hK hP 6 (f := tCh ts) rfl (i := t) (by omega) (by decide) dX4_factOf_125 ?_
  refine ro_Si (As := [.int (tCh ts t)]) (rest := []) ⟨hx, hb, hml, hown, hts⟩ (c_J6_bitCount_0f7a4 l D c (tCh ts t)) (va_cwS 1 hts gX4_factOf_J6_bitCount_0f7a4 rfl rfl rfl (by decide +kernel) ⟨Nat.le_of_ble_eq_true rfl, Nat.le_of_ble_eq_true rfl⟩) va_P0 hK rfl hl.1 rfl (Nat.le_of_ble_eq_true rfl) dX4_factOf_126 ⟨Nat.le_of_ble_eq_true rfl, Nat.le_of_ble_eq_true rfl⟩ ?_
  exact ro_reti hx hb hr hlk (by simp [cTl, c1_0, c1_1, c1_2, c1_3, c1_4, c1_5]) dX4_factOf_129

set_option maxHeartbeats 4000000 in
set_option maxRecDepth 100000 in
theorem c_X4_digestOfTest (l : Launch) (D : va_G) (q : Nat → Nat) (c : CT) (ms : MS) (ts : TS) (hs : HS) (ps : PS) (ss : SS) (h : Int64) (t : Nat) (ht : t < 20) (hb60 : hB hs ≤ 60) : ROl l yX4_digestOfTest wsX4_digestOfTest ({ frames := 4, cells := 0, slots := 0, locals := 93 } : Room) [.ref (q 0), .long h, .int (nI t)] D c (wC q c (ms, ts, hs, ps, ss)) (dgT ts hs h t) := by
  refine ro_startl (cc := cX4_digestOfTest) (maxL := 7) (ret := some .long) (by decide) rfl (Nat.le_of_ble_eq_true rfl) ?_
  intro p e s m args below meth c0 ls hx hb hr hml hown hts hlk hP hK hl
  have hown : s.vm.findClass RX4 = some m.cls := hown
  have hl : lv_has ls 7 [(0, .ref (q 0)), (1, .long h), (3, .int (nI t))] := hl
  have hin3 : ∀ w ∈ wsX30, w ∈ wsX4_digestOfTest := by decide +kernel
  have hin4 : ∀ w ∈ wsX40, w ∈ wsX4_digestOfTest := by decide +kernel
  refine lv_lload_n hx hb dX4_digestOfTest_0 rfl (lv_at hl 1 rfl) ?_
  refine lv_lstore (lv' := [(4, .long h), (0, .ref (q 0)), (1, .long h), (3, .int (nI t))]) hx hb dX4_digestOfTest_1 hl (by decide) rfl (fun ls hl => ?_)
  refine lv_iconst (v := 0) hx hb dX4_digestOfTest_3 (by decide) ?_
  refine lv_istore (lv' := [(6, .int 0), (4, .long h), (0, .ref (q 0)), (1, .long h), (3, .int (nI t))]) hx hb dX4_digestOfTest_4 hl (by decide) rfl (fun ls hl => ?_)
  have L6 : ∀ (n : Nat) (i : Nat) (a : Int64), (i ≤ 7) → (7 < i + n) → (a = dgF (fun w => cTl ts hs t (nI w)) h i) → ∀ ls : Array Slot, lv_has ls 7 [(6, .int (nI i)), (4, .long a), (0, .ref (q 0)), (1, .long h), (3, .int (nI t))] → W p l e ({ frames := 4, cells := 0, slots := 0, locals := 93 } : Room) s m args below meth c0 s.heap [] 0 0 (QRl below args s (dgT ts hs h t)) (F0 m 6 ls []) := by
    intro n
    induction n with
    | zero => intro i a hi hn ha ls hl; exact absurd hn (by omega)
    | succ n ih6 =>
      intro i a hi hn ha ls hl
      refine lv_iload hx hb dX4_digestOfTest_6 (lv_at hl 0 rfl) ?_
      refine lv_bipush (v := 6) hx hb dX4_digestOfTest_8 (by decide) ?_
      refine lv_icmp_gt (tgt := 36) hx hb dX4_digestOfTest_10 (by decide) (fun c10 => ?_) (fun c10 => ?_)
      · -- 10 True
        have c10 : 6 < i := (nI_ltI (a := 6) (b := i) (by omega) (by omega)).mp c10
        have hi7 : i = 7 := by omega
        subst hi7
        refine lv_aload_n hx hb dX4_digestOfTest_36 rfl (lv_at hl 2 rfl) ?_
        refine va_get (D := D) (ci := 4) (v := .ref (q 2)) (C := RX4) (T := TX4) (N := 7) hx hb hts hin4 hown hK.1 hP 0 rfl rfl 0 (by decide) (hts (.fieldLink RX4 10 "TestPicker" "tests" "LTestPicker$Tests;") (by decide +kernel)) (fun _ h9 => h9) rfl dX4_digestOfTest_37 ?_
        refine va_get (D := D) (ci := 3) (v := .ref (q 8)) (C := RX3) (T := TX3) (N := 7) hx hb hts hin3 hown hK.1 hP 2 rfl rfl 5 (by decide) (hts (.fieldLink RX4 70 "TestPicker$Tests" "torn" "[Z") (by decide +kernel)) (fun _ h9 => h9) rfl dX4_digestOfTest_40 ?_
        refine lv_iload_n hx hb dX4_digestOfTest_43 rfl (lv_at hl 4 rfl) ?_
        refine ld_z hx hb hK hP 8 (f := tTn ts) rfl (i := t) (by omega) (by decide) dX4_digestOfTest_44 ?_
        refine lv_if_eq (tgt := 57) hx hb dX4_digestOfTest_45 (by decide) (fun c45 => ?_) (fun c45 => ?_)
        · -- 45 True
          refine lv_iconst (v := 0) hx hb dX4_digestOfTest_57 (by decide) ?_
          refine lv_istore (lv' := [(6, .int 0), (4, .long a), (0, .ref (q 0)), (1, .long h), (3, .int (nI t))]) hx hb dX4_digestOfTest_58 hl (by decide) rfl (fun ls hl => ?_)
          have L60 : ∀ (n : Nat) (j : Nat) (a2 : Int64), (j ≤ 5) → (5 < j + n) → (a2 = dgF (fun i => byB (tPa ts t) i) a j) → ∀ ls : Array Slot, lv_has ls 7 [(6, .int (nI j)), (4, .long a2), (0, .ref (q 0)), (1, .long h), (3, .int (nI t))] → W p l e ({ frames := 4, cells := 0, slots := 0, locals := 93 } : Room) s m args below meth c0 s.heap [] 0 0 (QRl below args s (dgT ts hs h t)) (F0 m 60 ls []) := by
            intro n
            induction n with
            | zero => intro j a2 hj hn2 ha2 ls hl; exact absurd hn2 (by omega)
            | succ n ih60 =>
              intro j a2 hj hn2 ha2 ls hl
              refine lv_iload hx hb dX4_digestOfTest_60 (lv_at hl 0 rfl) ?_
              refine lv_iconst (v := 5) hx hb dX4_digestOfTest_62 (by decide) ?_
              refine lv_icmp_ge (tgt := 92) hx hb dX4_digestOfTest_63 (by decide) (fun c63 => ?_) (fun c63 => ?_)
              · -- 63 True
                have c63 : 5 ≤ j := (nI_leI (a := 5) (b := j) (by omega) (by omega)).mp c63
                refine lv_lload hx hb dX4_digestOfTest_92 (lv_at hl 1 rfl) ?_
                exact ro_retl hx hb hr hlk (by rw [dgT, if_pos c45, ha2, show j = 5 by omega, ha]) dX4_digestOfTest_94
              · -- 63 False
                have c63 : j < 5 := (Nat.not_le.mp (fun z => c63 ((nI_leI (a := 5) (b := j) (by omega) (by omega)).mpr z)))
                refine lv_ldc2 (own := RX4) (v := (31)) hx hb hown (hts (.constantLong RX4 228 (31)) (by decide +kernel)) dX4_digestOfTest_66 ?_
                refine lv_lload hx hb dX4_digestOfTest_69 (lv_at hl 1 rfl) ?_
                refine lv_lmul hx hb dX4_digestOfTest_71 ?_
                refine lv_aload_n hx hb dX4_digestOfTest_72 rfl (lv_at hl 2 rfl) ?_
                refine va_get (D := D) (ci := 4) (v := .ref (q 2)) (C := RX4) (T := TX4) (N := 7) hx hb hts hin4 hown hK.1 hP 0 rfl rfl 0 (by decide) (hts (.fieldLink RX4 10 "TestPicker" "tests" "LTestPicker$Tests;") (by decide +kernel)) (fun _ h9 => h9) rfl dX4_digestOfTest_73 ?_
                refine lv_iload_n hx hb dX4_digestOfTest_76 rfl (lv_at hl 4 rfl) ?_
                refine lv_iload hx hb dX4_digestOfTest_77 (lv_at hl 0 rfl) ?_
                refine ro_Vi (post := (byB (tPa ts t) j)) (As := [.int (nI t), .int (nI j)]) (rest := [.long ((31) * a2)]) ⟨hx, hb, hml, hown, hts⟩ (c_X3_reachByte l D q c ts t j (by omega)) (cwV 2 hts gX4_digestOfTest_X3_reachByte rfl rfl rfl (by decide +kernel) ⟨Nat.le_of_ble_eq_true rfl, Nat.le_of_ble_eq_true rfl⟩) (hP.sub (ws' := wT q c ts) [2, 3, 4, 5, 6, 7, 8] rfl) hK (va_recv hK.1 hP (ci := 3) (q0 := 2) rfl rfl) rfl hl.1 rfl (Nat.le_of_ble_eq_true rfl) dX4_digestOfTest_79 ⟨Nat.le_of_ble_eq_true rfl, Nat.le_of_ble_eq_true rfl⟩ ?_
                refine lv_i2l (v := (byB (tPa ts t) j).toInt64) hx hb dX4_digestOfTest_82 rfl ?_
                refine lv_ladd hx hb dX4_digestOfTest_83 ?_
                refine lv_lstore (lv' := [(4, .long (((31) * a2) + (byB (tPa ts t) j).toInt64)), (6, .int (nI j)), (0, .ref (q 0)), (1, .long h), (3, .int (nI t))]) hx hb dX4_digestOfTest_84 hl (by decide) rfl (fun ls hl => ?_)
                refine lv_iinc (v := nI (j + 1)) (lv' := [(6, .int (nI (j + 1))), (4, .long (((31) * a2) + (byB (tPa ts t) j).toInt64)), (0, .ref (q 0)), (1, .long h), (3, .int (nI t))]) hx hb dX4_digestOfTest_86 hl (k := 1) rfl (nI_inc _) (by decide) rfl (fun ls hl => ?_)
                refine lv_goto (tgt := 60) hx hb dX4_digestOfTest_89 (by decide) ?_
                exact ih60 (j + 1) (((31) * a2) + (byB (tPa ts t) j).toInt64) (by omega) (by omega) (by rw [ha2]; rfl) ls (lv_sub hl [0, 1, 2, 3, 4] rfl)
          exact L60 (6) 0 a (by omega) (by omega) (rfl) ls (lv_sub hl [0, 1, 2, 3, 4] rfl)
        · -- 45 False
          refine lv_ldc2 (own := RX4) (v := (31)) hx hb hown (hts (.constantLong RX4 228 (31)) (by decide +kernel)) dX4_digestOfTest_48 ?_
          refine lv_lload hx hb dX4_digestOfTest_51 (lv_at hl 1 rfl) ?_
          refine lv_lmul hx hb dX4_digestOfTest_53 ?_
          refine lv_lconst (v := 1) hx hb dX4_digestOfTest_54 (by decide) ?_
          refine lv_lsub hx hb dX4_digestOfTest_55 ?_
          exact ro_retl hx hb hr hlk (by rw [dgT, if_neg c45, ha]) dX4_digestOfTest_56
      · -- 10 False
        have c10 : i ≤ 6 := (Nat.not_lt.mp (fun z => c10 ((nI_ltI (a := 6) (b := i) (by omega) (by omega)).mpr z)))
        refine lv_ldc2 (own := RX4) (v := (31)) hx hb hown (hts (.constantLong RX4 228 (31)) (by decide +kernel)) dX4_digestOfTest_13 ?_
        refine lv_lload hx hb dX4_digestOfTest_16 (lv_at hl 1 rfl) ?_
        refine lv_lmul hx hb dX4_digestOfTest_18 ?_
        refine lv_aload_n hx hb dX4_digestOfTest_19 rfl (lv_at hl 2 rfl) ?_
        refine lv_iload_n hx hb dX4_digestOfTest_20 rfl (lv_at hl 4 rfl) ?_
        refine lv_iload hx hb dX4_digestOfTest_21 (lv_at hl 0 rfl) ?_
        refine ro_Vi (post := (cTl ts hs t (nI i))) (As := [.int (nI t), .int (nI i)]) (rest := [.long ((31) * a)]) ⟨hx, hb, hml, hown, hts⟩ (c_X4_factOf l D q c ms ts hs ps ss t (nI i) (by omega) (by omega)) (cwV 2 hts gX4_digestOfTest_X4_factOf rfl rfl rfl (by decide +kernel) ⟨Nat.le_of_ble_eq_true rfl, Nat.le_of_ble_eq_true rfl⟩) hP hK (va_recv hK.1 hP (ci := 4) (q0 := 0) rfl rfl) rfl hl.1 rfl (Nat.le_of_ble_eq_true rfl) dX4_digestOfTest_23 ⟨Nat.le_of_ble_eq_true rfl, Nat.le_of_ble_eq_true rfl⟩ ?_
        refine lv_i2l (v := (cTl ts hs t (nI i)).toInt64) hx hb dX4_digestOfTest_26 rfl ?_
        refine lv_ladd hx hb dX4_digestOfTest_27 ?_
        refine lv_lstore (lv' := [(4, .long (((31) * a) + (cTl ts hs t (nI i)).toInt64)), (6, .int (nI i)), (0, .ref (q 0)), (1, .long h), (3, .int (nI t))]) hx hb dX4_digestOfTest_28 hl (by decide) rfl (fun ls hl => ?_)
        refine lv_iinc (v := nI (i + 1)) (lv' := [(6, .int (nI (i + 1))), (4, .long (((31) * a) + (cTl ts hs t (nI i)).toInt64)), (0, .ref (q 0)), (1, .long h), (3, .int (nI t))]) hx hb dX4_digestOfTest_30 hl (k := 1) rfl (nI_inc _) (by decide) rfl (fun ls hl => ?_)
        refine lv_goto (tgt := 6) hx hb dX4_digestOfTest_33 (by decide) ?_
        exact ih6 (i + 1) (((31) * a) + (cTl ts hs t (nI i)).toInt64) (by omega) (by omega) (by rw [ha]; rfl) ls (lv_sub hl [0, 1, 2, 3, 4] rfl)
  exact L6 (8) 0 h (by omega) (by omega) (rfl) ls (lv_sub hl [0, 1, 2, 3, 4] rfl)

set_option maxHeartbeats 4000000 in
set_option maxRecDepth 100000 in
theorem c_X4_worthiest (l : Launch) (D : va_G) (q : Nat → Nat) (c : CT) (ms : MS) (ts : TS) (hs : HS) (ps : PS) (ss : SS) (x lf : Int32) (hT : tT ts ≤ 20) (hb60 : hB hs ≤ 60) : ROi l yX4_worthiest wsX4_worthiest ({ frames := 2, cells := 0, slots := 0, locals := 45 } : Room) [.ref (q 0), .int x, .int lf] D c (wC q c (ms, ts, hs, ps, ss)) ((wrS ts hs ps x lf (tT ts)).1) := by
  refine ro_starti (cc := cX4_worthiest) (maxL := 16) (ret := some .int) (by decide) rfl (Nat.le_of_ble_eq_true rfl) ?_
  intro p e s m args below meth c0 ls hx hb hr hml hown hts hlk hP hK hl
  have hown : s.vm.findClass RX4 = some m.cls := hown
  have hl : lv_has ls 16 [(0, .ref (q 0)), (1, .int x), (2, .int lf)] := hl
  have hin1 : ∀ w ∈ wsX10, w ∈ wsX4_worthiest := by decide +kernel
  have hin3 : ∀ w ∈ wsX30, w ∈ wsX4_worthiest := by decide +kernel
  have hin4 : ∀ w ∈ wsX40, w ∈ wsX4_worthiest := by decide +kernel
  refine lv_bipush (v := (-9)) hx hb dX4_worthiest_0 (by decide) ?_
  refine lv_istore_n (lv' := [(3, .int (-9)), (0, .ref (q 0)), (1, .int x), (2, .int lf)]) hx hb dX4_worthiest_2 rfl hl (by decide) rfl (fun ls hl => ?_)
  refine lv_lconst (v := 0) hx hb dX4_worthiest_3 (by decide) ?_
  refine lv_lstore (lv' := [(4, .long 0), (3, .int (-9)), (0, .ref (q 0)), (1, .int x), (2, .int lf)]) hx hb dX4_worthiest_4 hl (by decide) rfl (fun ls hl => ?_)
  refine lv_lconst (v := 1) hx hb dX4_worthiest_6 (by decide) ?_
  refine lv_lstore (lv' := [(6, .long 1), (4, .long 0), (3, .int (-9)), (0, .ref (q 0)), (1, .int x), (2, .int lf)]) hx hb dX4_worthiest_7 hl (by decide) rfl (fun ls hl => ?_)
  refine lv_iconst (v := 0) hx hb dX4_worthiest_9 (by decide) ?_
  refine lv_istore (lv' := [(8, .int 0), (6, .long 1), (4, .long 0), (3, .int (-9)), (0, .ref (q 0)), (1, .int x), (2, .int lf)]) hx hb dX4_worthiest_10 hl (by decide) rfl (fun ls hl => ?_)
  have L12 : ∀ (n : Nat) (i : Nat) (ch : Int32) (gn : Int64) (co : Int64), (i ≤ tT ts) → (tT ts < i + n) → (wrS ts hs ps x lf i = (ch, gn, co)) → ∀ ls : Array Slot, lv_has ls 16 [(8, .int (nI i)), (6, .long co), (4, .long gn), (3, .int ch), (0, .ref (q 0)), (1, .int x), (2, .int lf)] → W p l e ({ frames := 2, cells := 0, slots := 0, locals := 45 } : Room) s m args below meth c0 s.heap [] 0 0 (QRi below args s ((wrS ts hs ps x lf (tT ts)).1)) (F0 m 12 ls []) := by
    intro n
    induction n with
    | zero => intro i ch gn co hi hn hf ls hl; exact absurd hn (by omega)
    | succ n ih12 =>
      intro i ch gn co hi hn hf ls hl
      refine lv_iload hx hb dX4_worthiest_12 (lv_at hl 0 rfl) ?_
      refine lv_aload_n hx hb dX4_worthiest_14 rfl (lv_at hl 4 rfl) ?_
      refine va_get (D := D) (ci := 4) (v := .ref (q 2)) (C := RX4) (T := TX4) (N := 7) hx hb hts hin4 hown hK.1 hP 0 rfl rfl 0 (by decide) (hts (.fieldLink RX4 10 "TestPicker" "tests" "LTestPicker$Tests;") (by decide +kernel)) (fun _ h9 => h9) rfl dX4_worthiest_15 ?_
      refine va_get (D := D) (ci := 3) (v := .int (nI (tT ts))) (C := RX3) (T := TX3) (N := 7) hx hb hts hin3 hown hK.1 hP 2 rfl rfl 6 (by decide) (hts (.fieldLink RX4 56 "TestPicker$Tests" "size" "I") (by decide +kernel)) (fun _ h9 => h9) rfl dX4_worthiest_18 ?_
      refine lv_icmp_ge (tgt := 159) hx hb dX4_worthiest_21 (by decide) (fun c21 => ?_) (fun c21 => ?_)
      · -- 21 True
        have c21 : (tT ts) ≤ i := (nI_leI (a := (tT ts)) (b := i) (by omega) (by omega)).mp c21
        refine lv_iload_n hx hb dX4_worthiest_159 rfl (lv_at hl 3 rfl) ?_
        exact ro_reti hx hb hr hlk (by rw [show tT ts = i by omega, hf]) dX4_worthiest_160
      · -- 21 False
        have c21 : i < (tT ts) := (Nat.not_le.mp (fun z => c21 ((nI_leI (a := (tT ts)) (b := i) (by omega) (by omega)).mpr z)))
        refine lv_iload hx hb dX4_worthiest_24 (lv_at hl 0 rfl) ?_
        refine lv_iload_n hx hb dX4_worthiest_26 rfl (lv_at hl 5 rfl) ?_
        refine ro_Si (As := [.int (nI i), .int x]) (rest := []) ⟨hx, hb, hml, hown, hts⟩ (c_X4_isIn l D c i x (by omega)) (va_cwS 2 hts gX4_worthiest_X4_isIn rfl rfl rfl (by decide +kernel) ⟨Nat.le_of_ble_eq_true rfl, Nat.le_of_ble_eq_true rfl⟩) va_P0 hK rfl hl.1 rfl (Nat.le_of_ble_eq_true rfl) dX4_worthiest_27 ⟨Nat.le_of_ble_eq_true rfl, Nat.le_of_ble_eq_true rfl⟩ ?_
        refine lv_if_eq (tgt := 153) hx hb dX4_worthiest_30 (by decide) (fun c30 => ?_) (fun c30 => ?_)
        · -- 30 True
          have c30 := bI_z.mp c30
          refine lv_iinc (v := nI (i + 1)) (lv' := [(8, .int (nI (i + 1))), (6, .long co), (4, .long gn), (3, .int ch), (0, .ref (q 0)), (1, .int x), (2, .int lf)]) hx hb dX4_worthiest_153 hl (k := 0) rfl (nI_inc _) (by decide) rfl (fun ls hl => ?_)
          refine lv_goto (tgt := 12) hx hb dX4_worthiest_156 (by decide) ?_
          exact ih12 (i + 1) ch gn co (by omega) (by omega) (by rw [wrS, if_neg (by simp [c30])]; exact hf) ls (lv_sub hl [0, 1, 2, 3, 4, 5, 6] rfl)
        · -- 30 False
          have c30 := bI_nz.mp c30
          refine lv_aload_n hx hb dX4_worthiest_33 rfl (lv_at hl 4 rfl) ?_
          refine va_get (D := D) (ci := 4) (v := .ref (q 2)) (C := RX4) (T := TX4) (N := 7) hx hb hts hin4 hown hK.1 hP 0 rfl rfl 0 (by decide) (hts (.fieldLink RX4 10 "TestPicker" "tests" "LTestPicker$Tests;") (by decide +kernel)) (fun _ h9 => h9) rfl dX4_worthiest_34 ?_
          refine va_get (D := D) (ci := 3) (v := .ref (q 6)) (C := RX3) (T := TX3) (N := 7) hx hb hts hin3 hown hK.1 hP 2 rfl rfl 3 (by decide) (hts (.fieldLink RX4 180 "TestPicker$Tests" "chains" "[I") (by decide +kernel)) (fun _ h9 => h9) rfl dX4_worthiest_37 ?_
          refine lv_iload hx hb dX4_worthiest_40 (lv_at hl 0 rfl) ?_
          refine ld_i hx hb hK hP 6 (f := tCh ts) rfl (i := i) (by omega) (by decide) dX4_worthiest_42 ?_
          refine lv_aload_n hx hb dX4_worthiest_43 rfl (lv_at hl 4 rfl) ?_
          refine va_get (D := D) (ci := 4) (v := .ref (q 13)) (C := RX4) (T := TX4) (N := 7) hx hb hts hin4 hown hK.1 hP 0 rfl rfl 2 (by decide) (hts (.fieldLink RX4 26 "TestPicker" "plan" "LTestPicker$Plan;") (by decide +kernel)) (fun _ h9 => h9) rfl dX4_worthiest_44 ?_
          refine va_get (D := D) (ci := 1) (v := .int (pBits ps)) (C := RX1) (T := TX1) (N := 7) hx hb hts hin1 hown hK.1 hP 13 rfl rfl 2 (by decide) (hts (.fieldLink RX4 147 "TestPicker$Plan" "bits" "I") (by decide +kernel)) (fun _ h9 => h9) rfl dX4_worthiest_47 ?_
          refine lv_iconst (v := (-1)) hx hb dX4_worthiest_50 (by decide) ?_
          refine lv_ixor hx hb dX4_worthiest_51 ?_
          refine lv_iand hx hb dX4_worthiest_52 ?_
          refine lv_istore (lv' := [(9, .int ((tCh ts i) &&& (pBits ps ^^^ (-1)))), (8, .int (nI i)), (6, .long co), (4, .long gn), (3, .int ch), (0, .ref (q 0)), (1, .int x), (2, .int lf)]) hx hb dX4_worthiest_53 hl (by decide) rfl (fun ls hl => ?_)
          refine lv_aload_n hx hb dX4_worthiest_55 rfl (lv_at hl 5 rfl) ?_
          refine va_get (D := D) (ci := 4) (v := .ref (q 2)) (C := RX4) (T := TX4) (N := 7) hx hb hts hin4 hown hK.1 hP 0 rfl rfl 0 (by decide) (hts (.fieldLink RX4 10 "TestPicker" "tests" "LTestPicker$Tests;") (by decide +kernel)) (fun _ h9 => h9) rfl dX4_worthiest_56 ?_
          refine lv_iload hx hb dX4_worthiest_59 (lv_at hl 0 rfl) ?_
          refine ro_Vi (post := (tmS (tKd ts) (tOt ts) ((tCh ts i) &&& (pBits ps ^^^ (-1))) (tT ts))) (As := [.int ((tCh ts i) &&& (pBits ps ^^^ (-1)))]) (rest := []) ⟨hx, hb, hml, hown, hts⟩ (c_X3_timeOf l D q c ts ((tCh ts i) &&& (pBits ps ^^^ (-1))) (by omega)) (cwV 1 hts gX4_worthiest_X3_timeOf rfl rfl rfl (by decide +kernel) ⟨Nat.le_of_ble_eq_true rfl, Nat.le_of_ble_eq_true rfl⟩) (hP.sub (ws' := wT q c ts) [2, 3, 4, 5, 6, 7, 8] rfl) hK (va_recv hK.1 hP (ci := 3) (q0 := 2) rfl rfl) rfl hl.1 rfl (Nat.le_of_ble_eq_true rfl) dX4_worthiest_61 ⟨Nat.le_of_ble_eq_true rfl, Nat.le_of_ble_eq_true rfl⟩ ?_
          refine lv_i2l (v := (tmS (tKd ts) (tOt ts) ((tCh ts i) &&& (pBits ps ^^^ (-1))) (tT ts)).toInt64) hx hb dX4_worthiest_64 rfl ?_
          refine lv_lstore (lv' := [(10, .long ((tmS (tKd ts) (tOt ts) ((tCh ts i) &&& (pBits ps ^^^ (-1))) (tT ts)).toInt64)), (9, .int ((tCh ts i) &&& (pBits ps ^^^ (-1)))), (8, .int (nI i)), (6, .long co), (4, .long gn), (3, .int ch), (0, .ref (q 0)), (1, .int x), (2, .int lf)]) hx hb dX4_worthiest_65 hl (by decide) rfl (fun ls hl => ?_)
          refine lv_aload_n hx hb dX4_worthiest_67 rfl (lv_at hl 6 rfl) ?_
          refine va_get (D := D) (ci := 4) (v := .ref (q 2)) (C := RX4) (T := TX4) (N := 7) hx hb hts hin4 hown hK.1 hP 0 rfl rfl 0 (by decide) (hts (.fieldLink RX4 10 "TestPicker" "tests" "LTestPicker$Tests;") (by decide +kernel)) (fun _ h9 => h9) rfl dX4_worthiest_68 ?_
          refine lv_iload hx hb dX4_worthiest_71 (lv_at hl 1 rfl) ?_
          refine ro_Vl (post := (paS (tPa ts) ((tCh ts i) &&& (pBits ps ^^^ (-1))) (tT ts))) (As := [.int ((tCh ts i) &&& (pBits ps ^^^ (-1)))]) (rest := []) ⟨hx, hb, hml, hown, hts⟩ (c_X3_partsOf l D q c ts ((tCh ts i) &&& (pBits ps ^^^ (-1))) (by omega)) (cwV 1 hts gX4_worthiest_X3_partsOf rfl rfl rfl (by decide +kernel) ⟨Nat.le_of_ble_eq_true rfl, Nat.le_of_ble_eq_true rfl⟩) (hP.sub (ws' := wT q c ts) [2, 3, 4, 5, 6, 7, 8] rfl) hK (va_recv hK.1 hP (ci := 3) (q0 := 2) rfl rfl) rfl hl.1 rfl (Nat.le_of_ble_eq_true rfl) dX4_worthiest_73 ⟨Nat.le_of_ble_eq_true rfl, Nat.le_of_ble_eq_true rfl⟩ ?_
          refine lv_aload_n hx hb dX4_worthiest_76 rfl (lv_at hl 6 rfl) ?_
          refine va_get (D := D) (ci := 4) (v := .ref (q 13)) (C := RX4) (T := TX4) (N := 7) hx hb hts hin4 hown hK.1 hP 0 rfl rfl 2 (by decide) (hts (.fieldLink RX4 26 "TestPicker" "plan" "LTestPicker$Plan;") (by decide +kernel)) (fun _ h9 => h9) rfl dX4_worthiest_77 ?_
          refine va_get (D := D) (ci := 1) (v := .long (pChg ps)) (C := RX1) (T := TX1) (N := 7) hx hb hts hin1 hown hK.1 hP 13 rfl rfl 5 (by decide) (hts (.fieldLink RX4 249 "TestPicker$Plan" "change" "J") (by decide +kernel)) (fun _ h9 => h9) rfl dX4_worthiest_80 ?_
          refine lv_land hx hb dX4_worthiest_83 ?_
          refine lv_aload_n hx hb dX4_worthiest_84 rfl (lv_at hl 6 rfl) ?_
          refine va_get (D := D) (ci := 4) (v := .ref (q 13)) (C := RX4) (T := TX4) (N := 7) hx hb hts hin4 hown hK.1 hP 0 rfl rfl 2 (by decide) (hts (.fieldLink RX4 26 "TestPicker" "plan" "LTestPicker$Plan;") (by decide +kernel)) (fun _ h9 => h9) rfl dX4_worthiest_85 ?_
          refine va_get (D := D) (ci := 1) (v := .long (pSeen ps)) (C := RX1) (T := TX1) (N := 7) hx hb hts hin1 hown hK.1 hP 13 rfl rfl 4 (by decide) (hts (.fieldLink RX4 252 "TestPicker$Plan" "seen" "J") (by decide +kernel)) (fun _ h9 => h9) rfl dX4_worthiest_88 ?_
          refine lv_ldc2 (own := RX4) (v := (-1)) hx hb hown (hts (.constantLong RX4 204 (-1)) (by decide +kernel)) dX4_worthiest_91 ?_
          refine lv_lxor hx hb dX4_worthiest_94 ?_
          refine lv_land hx hb dX4_worthiest_95 ?_
          refine lv_lstore (lv' := [(12, .long (((paS (tPa ts) ((tCh ts i) &&& (pBits ps ^^^ (-1))) (tT ts)) &&& pChg ps) &&& (pSeen ps ^^^ (-1)))), (10, .long ((tmS (tKd ts) (tOt ts) ((tCh ts i) &&& (pBits ps ^^^ (-1))) (tT ts)).toInt64)), (9, .int ((tCh ts i) &&& (pBits ps ^^^ (-1)))), (8, .int (nI i)), (6, .long co), (4, .long gn), (3, .int ch), (0, .ref (q 0)), (1, .int x), (2, .int lf)]) hx hb dX4_worthiest_96 hl (by decide) rfl (fun ls hl => ?_)
          refine lv_lload hx hb dX4_worthiest_98 (lv_at hl 0 rfl) ?_
          refine ro_Si (As := [.long (((paS (tPa ts) ((tCh ts i) &&& (pBits ps ^^^ (-1))) (tT ts)) &&& pChg ps) &&& (pSeen ps ^^^ (-1)))]) (rest := []) ⟨hx, hb, hml, hown, hts⟩ (c_J13_bitCount_95d88 l D c (((paS (tPa ts) ((tCh ts i) &&& (pBits ps ^^^ (-1))) (tT ts)) &&& pChg ps) &&& (pSeen ps ^^^ (-1)))) (va_cwS 1 hts gX4_worthiest_J13_bitCount_95d88 rfl rfl rfl (by decide +kernel) ⟨Nat.le_of_ble_eq_true rfl, Nat.le_of_ble_eq_true rfl⟩) va_P0 hK rfl hl.1 rfl (Nat.le_of_ble_eq_true rfl) dX4_worthiest_100 ⟨Nat.le_of_ble_eq_true rfl, Nat.le_of_ble_eq_true rfl⟩ ?_
          refine lv_i2l (v := (popL (((paS (tPa ts) ((tCh ts i) &&& (pBits ps ^^^ (-1))) (tT ts)) &&& pChg ps) &&& (pSeen ps ^^^ (-1)))).toInt64) hx hb dX4_worthiest_103 rfl ?_
          refine lv_bipush (v := 16) hx hb dX4_worthiest_104 (by decide) ?_
          refine lv_aload_n hx hb dX4_worthiest_106 rfl (lv_at hl 7 rfl) ?_
          refine va_get (D := D) (ci := 4) (v := .ref (q 9)) (C := RX4) (T := TX4) (N := 7) hx hb hts hin4 hown hK.1 hP 0 rfl rfl 1 (by decide) (hts (.fieldLink RX4 19 "TestPicker" "history" "LTestPicker$History;") (by decide +kernel)) (fun _ h9 => h9) rfl dX4_worthiest_107 ?_
          refine lv_iload hx hb dX4_worthiest_110 (lv_at hl 3 rfl) ?_
          refine ro_Vi (post := (htC (hFe hs i) (hB hs))) (As := [.int (nI i)]) (rest := [.int 16, .long ((popL (((paS (tPa ts) ((tCh ts i) &&& (pBits ps ^^^ (-1))) (tT ts)) &&& pChg ps) &&& (pSeen ps ^^^ (-1)))).toInt64)]) ⟨hx, hb, hml, hown, hts⟩ (c_X0_heat l D q c hs i (by omega) (by omega)) (cwV 1 hts gX4_worthiest_X0_heat rfl rfl rfl (by decide +kernel) ⟨Nat.le_of_ble_eq_true rfl, Nat.le_of_ble_eq_true rfl⟩) (hP.sub (ws' := wH q c hs) [9, 10, 11, 12] rfl) hK (va_recv hK.1 hP (ci := 0) (q0 := 9) rfl rfl) rfl hl.1 rfl (Nat.le_of_ble_eq_true rfl) dX4_worthiest_112 ⟨Nat.le_of_ble_eq_true rfl, Nat.le_of_ble_eq_true rfl⟩ ?_
          refine lv_iadd hx hb dX4_worthiest_115 ?_
          refine lv_i2l (v := (16 + (htC (hFe hs i) (hB hs))).toInt64) hx hb dX4_worthiest_116 rfl ?_
          refine lv_lmul hx hb dX4_worthiest_117 ?_
          refine lv_lstore (lv' := [(14, .long ((popL (((paS (tPa ts) ((tCh ts i) &&& (pBits ps ^^^ (-1))) (tT ts)) &&& pChg ps) &&& (pSeen ps ^^^ (-1)))).toInt64 * (16 + (htC (hFe hs i) (hB hs))).toInt64)), (12, .long (((paS (tPa ts) ((tCh ts i) &&& (pBits ps ^^^ (-1))) (tT ts)) &&& pChg ps) &&& (pSeen ps ^^^ (-1)))), (10, .long ((tmS (tKd ts) (tOt ts) ((tCh ts i) &&& (pBits ps ^^^ (-1))) (tT ts)).toInt64)), (9, .int ((tCh ts i) &&& (pBits ps ^^^ (-1)))), (8, .int (nI i)), (6, .long co), (4, .long gn), (3, .int ch), (0, .ref (q 0)), (1, .int x), (2, .int lf)]) hx hb dX4_worthiest_118 hl (by decide) rfl (fun ls hl => ?_)
          refine lv_lload hx hb dX4_worthiest_120 (lv_at hl 2 rfl) ?_
          refine lv_iload_n hx hb dX4_worthiest_122 rfl (lv_at hl 10 rfl) ?_
          refine lv_i2l (v := lf.toInt64) hx hb dX4_worthiest_123 rfl ?_
          refine W.lcmp hx hb dX4_worthiest_124 ?_
          refine lv_if_gt (tgt := 153) hx hb dX4_worthiest_125 (by decide) (fun c125 => ?_) (fun c125 => ?_)
          · -- 125 True
            have c125 := (lg_cmp_gt _ _).mp c125
            refine lv_iinc (v := nI (i + 1)) (lv' := [(8, .int (nI (i + 1))), (14, .long ((popL (((paS (tPa ts) ((tCh ts i) &&& (pBits ps ^^^ (-1))) (tT ts)) &&& pChg ps) &&& (pSeen ps ^^^ (-1)))).toInt64 * (16 + (htC (hFe hs i) (hB hs))).toInt64)), (12, .long (((paS (tPa ts) ((tCh ts i) &&& (pBits ps ^^^ (-1))) (tT ts)) &&& pChg ps) &&& (pSeen ps ^^^ (-1)))), (10, .long ((tmS (tKd ts) (tOt ts) ((tCh ts i) &&& (pBits ps ^^^ (-1))) (tT ts)).toInt64)), (9, .int ((tCh ts i) &&& (pBits ps ^^^ (-1)))), (6, .long co), (4, .long gn), (3, .int ch), (0, .ref (q 0)), (1, .int x), (2, .int lf)]) hx hb dX4_worthiest_153 hl (k := 4) rfl (nI_inc _) (by decide) rfl (fun ls hl => ?_)
            refine lv_goto (tgt := 12) hx hb dX4_worthiest_156 (by decide) ?_
            exact ih12 (i + 1) ch gn co (by omega) (by omega) (by rw [wrS, if_pos c30, if_pos c125]; exact hf) ls (lv_sub hl [0, 5, 6, 7, 8, 9, 10] rfl)
          · -- 125 False
            have c125 := lg_ngt.mp c125
            refine lv_lload hx hb dX4_worthiest_128 (lv_at hl 0 rfl) ?_
            refine lv_lload hx hb dX4_worthiest_130 (lv_at hl 5 rfl) ?_
            refine lv_lmul hx hb dX4_worthiest_132 ?_
            refine lv_lload hx hb dX4_worthiest_133 (lv_at hl 6 rfl) ?_
            refine lv_lload hx hb dX4_worthiest_135 (lv_at hl 2 rfl) ?_
            refine lv_lmul hx hb dX4_worthiest_137 ?_
            refine W.lcmp hx hb dX4_worthiest_138 ?_
            refine lv_if_le (tgt := 153) hx hb dX4_worthiest_139 (by decide) (fun c139 => ?_) (fun c139 => ?_)
            · -- 139 True
              have c139 := (lg_cmp_le _ _).mp c139
              refine lv_iinc (v := nI (i + 1)) (lv' := [(8, .int (nI (i + 1))), (14, .long ((popL (((paS (tPa ts) ((tCh ts i) &&& (pBits ps ^^^ (-1))) (tT ts)) &&& pChg ps) &&& (pSeen ps ^^^ (-1)))).toInt64 * (16 + (htC (hFe hs i) (hB hs))).toInt64)), (12, .long (((paS (tPa ts) ((tCh ts i) &&& (pBits ps ^^^ (-1))) (tT ts)) &&& pChg ps) &&& (pSeen ps ^^^ (-1)))), (10, .long ((tmS (tKd ts) (tOt ts) ((tCh ts i) &&& (pBits ps ^^^ (-1))) (tT ts)).toInt64)), (9, .int ((tCh ts i) &&& (pBits ps ^^^ (-1)))), (6, .long co), (4, .long gn), (3, .int ch), (0, .ref (q 0)), (1, .int x), (2, .int lf)]) hx hb dX4_worthiest_153 hl (k := 4) rfl (nI_inc _) (by decide) rfl (fun ls hl => ?_)
              refine lv_goto (tgt := 12) hx hb dX4_worthiest_156 (by decide) ?_
              exact ih12 (i + 1) ch gn co (by omega) (by omega) (by rw [wrS, if_pos c30, if_neg (Int64.not_lt.mpr c125), hf, if_pos c139]) ls (lv_sub hl [0, 5, 6, 7, 8, 9, 10] rfl)
            · -- 139 False
              have c139 := lg_nle.mp c139
              refine lv_iload hx hb dX4_worthiest_142 (lv_at hl 4 rfl) ?_
              refine lv_istore_n (lv' := [(3, .int (nI i)), (14, .long ((popL (((paS (tPa ts) ((tCh ts i) &&& (pBits ps ^^^ (-1))) (tT ts)) &&& pChg ps) &&& (pSeen ps ^^^ (-1)))).toInt64 * (16 + (htC (hFe hs i) (hB hs))).toInt64)), (12, .long (((paS (tPa ts) ((tCh ts i) &&& (pBits ps ^^^ (-1))) (tT ts)) &&& pChg ps) &&& (pSeen ps ^^^ (-1)))), (10, .long ((tmS (tKd ts) (tOt ts) ((tCh ts i) &&& (pBits ps ^^^ (-1))) (tT ts)).toInt64)), (9, .int ((tCh ts i) &&& (pBits ps ^^^ (-1)))), (8, .int (nI i)), (6, .long co), (4, .long gn), (0, .ref (q 0)), (1, .int x), (2, .int lf)]) hx hb dX4_worthiest_144 rfl hl (by decide) rfl (fun ls hl => ?_)
              refine lv_lload hx hb dX4_worthiest_145 (lv_at hl 1 rfl) ?_
              refine lv_lstore (lv' := [(4, .long ((popL (((paS (tPa ts) ((tCh ts i) &&& (pBits ps ^^^ (-1))) (tT ts)) &&& pChg ps) &&& (pSeen ps ^^^ (-1)))).toInt64 * (16 + (htC (hFe hs i) (hB hs))).toInt64)), (3, .int (nI i)), (14, .long ((popL (((paS (tPa ts) ((tCh ts i) &&& (pBits ps ^^^ (-1))) (tT ts)) &&& pChg ps) &&& (pSeen ps ^^^ (-1)))).toInt64 * (16 + (htC (hFe hs i) (hB hs))).toInt64)), (12, .long (((paS (tPa ts) ((tCh ts i) &&& (pBits ps ^^^ (-1))) (tT ts)) &&& pChg ps) &&& (pSeen ps ^^^ (-1)))), (10, .long ((tmS (tKd ts) (tOt ts) ((tCh ts i) &&& (pBits ps ^^^ (-1))) (tT ts)).toInt64)), (9, .int ((tCh ts i) &&& (pBits ps ^^^ (-1)))), (8, .int (nI i)), (6, .long co), (0, .ref (q 0)), (1, .int x), (2, .int lf)]) hx hb dX4_worthiest_147 hl (by decide) rfl (fun ls hl => ?_)
              refine lv_lload hx hb dX4_worthiest_149 (lv_at hl 4 rfl) ?_
              refine lv_lstore (lv' := [(6, .long ((tmS (tKd ts) (tOt ts) ((tCh ts i) &&& (pBits ps ^^^ (-1))) (tT ts)).toInt64)), (4, .long ((popL (((paS (tPa ts) ((tCh ts i) &&& (pBits ps ^^^ (-1))) (tT ts)) &&& pChg ps) &&& (pSeen ps ^^^ (-1)))).toInt64 * (16 + (htC (hFe hs i) (hB hs))).toInt64)), (3, .int (nI i)), (14, .long ((popL (((paS (tPa ts) ((tCh ts i) &&& (pBits ps ^^^ (-1))) (tT ts)) &&& pChg ps) &&& (pSeen ps ^^^ (-1)))).toInt64 * (16 + (htC (hFe hs i) (hB hs))).toInt64)), (12, .long (((paS (tPa ts) ((tCh ts i) &&& (pBits ps ^^^ (-1))) (tT ts)) &&& pChg ps) &&& (pSeen ps ^^^ (-1)))), (10, .long ((tmS (tKd ts) (tOt ts) ((tCh ts i) &&& (pBits ps ^^^ (-1))) (tT ts)).toInt64)), (9, .int ((tCh ts i) &&& (pBits ps ^^^ (-1)))), (8, .int (nI i)), (0, .ref (q 0)), (1, .int x), (2, .int lf)]) hx hb dX4_worthiest_151 hl (by decide) rfl (fun ls hl => ?_)
              refine lv_iinc (v := nI (i + 1)) (lv' := [(8, .int (nI (i + 1))), (6, .long ((tmS (tKd ts) (tOt ts) ((tCh ts i) &&& (pBits ps ^^^ (-1))) (tT ts)).toInt64)), (4, .long ((popL (((paS (tPa ts) ((tCh ts i) &&& (pBits ps ^^^ (-1))) (tT ts)) &&& pChg ps) &&& (pSeen ps ^^^ (-1)))).toInt64 * (16 + (htC (hFe hs i) (hB hs))).toInt64)), (3, .int (nI i)), (14, .long ((popL (((paS (tPa ts) ((tCh ts i) &&& (pBits ps ^^^ (-1))) (tT ts)) &&& pChg ps) &&& (pSeen ps ^^^ (-1)))).toInt64 * (16 + (htC (hFe hs i) (hB hs))).toInt64)), (12, .long (((paS (tPa ts) ((tCh ts i) &&& (pBits ps ^^^ (-1))) (tT ts)) &&& pChg ps) &&& (pSeen ps ^^^ (-1)))), (10, .long ((tmS (tKd ts) (tOt ts) ((tCh ts i) &&& (pBits ps ^^^ (-1))) (tT ts)).toInt64)), (9, .int ((tCh ts i) &&& (pBits ps ^^^ (-1)))), (0, .ref (q 0)), (1, .int x), (2, .int lf)]) hx hb dX4_worthiest_153 hl (k := 7) rfl (nI_inc _) (by decide) rfl (fun ls hl => ?_)
              refine lv_goto (tgt := 12) hx hb dX4_worthiest_156 (by decide) ?_
              exact ih12 (i + 1) (nI i) ((popL (((paS (tPa ts) ((tCh ts i) &&& (pBits ps ^^^ (-1))) (tT ts)) &&& pChg ps) &&& (pSeen ps ^^^ (-1)))).toInt64 * (16 + (htC (hFe hs i) (hB hs))).toInt64) ((tmS (tKd ts) (tOt ts) ((tCh ts i) &&& (pBits ps ^^^ (-1))) (tT ts)).toInt64) (by omega) (by omega) (by rw [wrS, if_pos c30, if_neg (Int64.not_lt.mpr c125), hf, if_neg (Int64.not_le.mpr c139)]) ls (lv_sub hl [0, 1, 2, 3, 8, 9, 10] rfl)
  exact L12 (tT ts + 1) 0 (-9) 0 1 (by omega) (by omega) (rfl) ls (lv_sub hl [0, 1, 2, 3, 4, 5, 6] rfl)

set_option maxHeartbeats 4000000 in
set_option maxRecDepth 100000 in
theorem c_X4_witnesses (l : Launch) (D : va_G) (q : Nat → Nat) (c : CT) (ms : MS) (ts : TS) (hs : HS) (ps : PS) (ss : SS) (hT : tT ts ≤ 20) (hb60 : hB hs ≤ 60) : ROi l yX4_witnesses wsX4_witnesses ({ frames := 3, cells := 0, slots := 0, locals := 71 } : Room) [.ref (q 0)] D c (wC q c (ms, ts, hs, ps, ss)) (cWit ts hs) := by
  refine ro_starti (cc := cX4_witnesses) (maxL := 3) (ret := some .int) (by decide) rfl (Nat.le_of_ble_eq_true rfl) ?_
  intro p e s m args below meth c0 ls hx hb hr hml hown hts hlk hP hK hl
  have hown : s.vm.findClass RX4 = some m.cls := hown
  have hl : lv_has ls 3 [(0, .ref (q 0))] := hl
  have hin0 : ∀ w ∈ wsX00, w ∈ wsX4_witnesses := by decide +kernel
  have hin3 : ∀ w ∈ wsX30, w ∈ wsX4_witnesses := by decide +kernel
  have hin4 : ∀ w ∈ wsX40, w ∈ wsX4_witnesses := by decide +kernel
  refine lv_iconst (v := 0) hx hb dX4_witnesses_0 (by decide) ?_
  refine lv_istore_n (lv' := [(1, .int 0), (0, .ref (q 0))]) hx hb dX4_witnesses_1 rfl hl (by decide) rfl (fun ls hl => ?_)
  refine lv_iconst (v := 0) hx hb dX4_witnesses_2 (by decide) ?_
  refine lv_istore_n (lv' := [(2, .int 0), (1, .int 0), (0, .ref (q 0))]) hx hb dX4_witnesses_3 rfl hl (by decide) rfl (fun ls hl => ?_)
  have L4 : ∀ (n : Nat) (i : Nat) (a : Int32), (i ≤ tT ts) → (tT ts < i + n) → (a = orI (fun t => !decide (tKd ts t = 3) && !decide (hFe hs t = 0) && !cFk ts hs t) i) → ∀ ls : Array Slot, lv_has ls 3 [(2, .int (nI i)), (1, .int a), (0, .ref (q 0))] → W p l e ({ frames := 3, cells := 0, slots := 0, locals := 71 } : Room) s m args below meth c0 s.heap [] 0 0 (QRi below args s (cWit ts hs)) (F0 m 4 ls []) := by
    intro n
    induction n with
    | zero => intro i a hi hn ha ls hl; exact absurd hn (by omega)
    | succ n ih4 =>
      intro i a hi hn ha ls hl
      refine lv_iload_n hx hb dX4_witnesses_4 rfl (lv_at hl 0 rfl) ?_
      refine lv_aload_n hx hb dX4_witnesses_5 rfl (lv_at hl 2 rfl) ?_
      refine va_get (D := D) (ci := 4) (v := .ref (q 2)) (C := RX4) (T := TX4) (N := 7) hx hb hts hin4 hown hK.1 hP 0 rfl rfl 0 (by decide) (hts (.fieldLink RX4 10 "TestPicker" "tests" "LTestPicker$Tests;") (by decide +kernel)) (fun _ h9 => h9) rfl dX4_witnesses_6 ?_
      refine va_get (D := D) (ci := 3) (v := .int (nI (tT ts))) (C := RX3) (T := TX3) (N := 7) hx hb hts hin3 hown hK.1 hP 2 rfl rfl 6 (by decide) (hts (.fieldLink RX4 56 "TestPicker$Tests" "size" "I") (by decide +kernel)) (fun _ h9 => h9) rfl dX4_witnesses_9 ?_
      refine lv_icmp_ge (tgt := 62) hx hb dX4_witnesses_12 (by decide) (fun c12 => ?_) (fun c12 => ?_)
      · -- 12 True
        have c12 : (tT ts) ≤ i := (nI_leI (a := (tT ts)) (b := i) (by omega) (by omega)).mp c12
        refine lv_iload_n hx hb dX4_witnesses_62 rfl (lv_at hl 1 rfl) ?_
        exact ro_reti hx hb hr hlk (by rw [ha, show i = tT ts by omega]) dX4_witnesses_63
      · -- 12 False
        have c12 : i < (tT ts) := (Nat.not_le.mp (fun z => c12 ((nI_leI (a := (tT ts)) (b := i) (by omega) (by omega)).mpr z)))
        refine lv_aload_n hx hb dX4_witnesses_15 rfl (lv_at hl 2 rfl) ?_
        refine va_get (D := D) (ci := 4) (v := .ref (q 2)) (C := RX4) (T := TX4) (N := 7) hx hb hts hin4 hown hK.1 hP 0 rfl rfl 0 (by decide) (hts (.fieldLink RX4 10 "TestPicker" "tests" "LTestPicker$Tests;") (by decide +kernel)) (fun _ h9 => h9) rfl dX4_witnesses_16 ?_
        refine va_get (D := D) (ci := 3) (v := .ref (q 3)) (C := RX3) (T := TX3) (N := 7) hx hb hts hin3 hown hK.1 hP 2 rfl rfl 0 (by decide) (hts (.fieldLink RX4 63 "TestPicker$Tests" "kinds" "[I") (by decide +kernel)) (fun _ h9 => h9) rfl dX4_witnesses_19 ?_
        refine lv_iload_n hx hb dX4_witnesses_22 rfl (lv_at hl 0 rfl) ?_
        refine ld_i hx hb hK hP 3 (f := tKd ts) rfl (i := i) (by omega) (by decide) dX4_witnesses_23 ?_
        refine lv_iconst (v := 3) hx hb dX4_witnesses_24 (by decide) ?_
        refine lv_icmp_eq (tgt := 56) hx hb dX4_witnesses_25 (by decide) (fun c25 => ?_) (fun c25 => ?_)
        · -- 25 True
          refine lv_iinc (v := nI (i + 1)) (lv' := [(2, .int (nI (i + 1))), (1, .int a), (0, .ref (q 0))]) hx hb dX4_witnesses_56 hl (k := 0) rfl (nI_inc _) (by decide) rfl (fun ls hl => ?_)
          refine lv_goto (tgt := 4) hx hb dX4_witnesses_59 (by decide) ?_
          exact ih4 (i + 1) a (by omega) (by omega) (by rw [ha]; simp [orI, oneE, or0, c25]) ls (lv_sub hl [0, 1, 2] rfl)
        · -- 25 False
          refine lv_aload_n hx hb dX4_witnesses_28 rfl (lv_at hl 2 rfl) ?_
          refine va_get (D := D) (ci := 4) (v := .ref (q 9)) (C := RX4) (T := TX4) (N := 7) hx hb hts hin4 hown hK.1 hP 0 rfl rfl 1 (by decide) (hts (.fieldLink RX4 19 "TestPicker" "history" "LTestPicker$History;") (by decide +kernel)) (fun _ h9 => h9) rfl dX4_witnesses_29 ?_
          refine va_get (D := D) (ci := 0) (v := .ref (q 11)) (C := RX0) (T := TX0) (N := 4) hx hb hts hin0 hown hK.1 hP 9 rfl rfl 1 (by decide) (hts (.fieldLink RX4 121 "TestPicker$History" "fellIn" "[J") (by decide +kernel)) (fun _ h9 => h9) rfl dX4_witnesses_32 ?_
          refine lv_iload_n hx hb dX4_witnesses_35 rfl (lv_at hl 0 rfl) ?_
          refine ld_l hx hb hK hP 11 (f := hFe hs) rfl (i := i) (by omega) (by decide) dX4_witnesses_36 ?_
          refine lv_lconst (v := 0) hx hb dX4_witnesses_37 (by decide) ?_
          refine W.lcmp hx hb dX4_witnesses_38 ?_
          refine lv_if_eq (tgt := 56) hx hb dX4_witnesses_39 (by decide) (fun c39 => ?_) (fun c39 => ?_)
          · -- 39 True
            have c39 := (lg_cmp_eq _ _).mp c39
            refine lv_iinc (v := nI (i + 1)) (lv' := [(2, .int (nI (i + 1))), (1, .int a), (0, .ref (q 0))]) hx hb dX4_witnesses_56 hl (k := 0) rfl (nI_inc _) (by decide) rfl (fun ls hl => ?_)
            refine lv_goto (tgt := 4) hx hb dX4_witnesses_59 (by decide) ?_
            exact ih4 (i + 1) a (by omega) (by omega) (by rw [ha]; simp [orI, oneE, or0, c25, c39]) ls (lv_sub hl [0, 1, 2] rfl)
          · -- 39 False
            have c39 := lg_ne.mp c39
            refine lv_aload_n hx hb dX4_witnesses_42 rfl (lv_at hl 2 rfl) ?_
            refine lv_iload_n hx hb dX4_witnesses_43 rfl (lv_at hl 0 rfl) ?_
            refine ro_Vi (post := bI (cFk ts hs i)) (As := [.int (nI i)]) (rest := []) ⟨hx, hb, hml, hown, hts⟩ (c_X4_isFlaky l D q c ms ts hs ps ss i (by omega) (by omega)) (cwV 1 hts gX4_witnesses_X4_isFlaky rfl rfl rfl (by decide +kernel) ⟨Nat.le_of_ble_eq_true rfl, Nat.le_of_ble_eq_true rfl⟩) hP hK (va_recv hK.1 hP (ci := 4) (q0 := 0) rfl rfl) rfl hl.1 rfl (Nat.le_of_ble_eq_true rfl) dX4_witnesses_44 ⟨Nat.le_of_ble_eq_true rfl, Nat.le_of_ble_eq_true rfl⟩ ?_
            refine lv_if_ne (tgt := 56) hx hb dX4_witnesses_47 (by decide) (fun c47 => ?_) (fun c47 => ?_)
            · -- 47 True
              have c47 := bI_nz.mp c47
              refine lv_iinc (v := nI (i + 1)) (lv' := [(2, .int (nI (i + 1))), (1, .int a), (0, .ref (q 0))]) hx hb dX4_witnesses_56 hl (k := 0) rfl (nI_inc _) (by decide) rfl (fun ls hl => ?_)
              refine lv_goto (tgt := 4) hx hb dX4_witnesses_59 (by decide) ?_
              exact ih4 (i + 1) a (by omega) (by omega) (by rw [ha]; simp [orI, oneE, or0, c25, c39, c47]) ls (lv_sub hl [0, 1, 2] rfl)
            · -- 47 False
              have c47 := bI_z.mp c47
              refine lv_iload_n hx hb dX4_witnesses_50 rfl (lv_at hl 1 rfl) ?_
              refine lv_iconst (v := 1) hx hb dX4_witnesses_51 (by decide) ?_
              refine lv_iload_n hx hb dX4_witnesses_52 rfl (lv_at hl 0 rfl) ?_
              refine lv_ishl hx hb dX4_witnesses_53 ?_
              refine lv_ior hx hb dX4_witnesses_54 ?_
              refine lv_istore_n (lv' := [(1, .int (a ||| ((1 : Int32) <<< (nI i &&& 31)))), (2, .int (nI i)), (0, .ref (q 0))]) hx hb dX4_witnesses_55 rfl hl (by decide) rfl (fun ls hl => ?_)
              refine lv_iinc (v := nI (i + 1)) (lv' := [(2, .int (nI (i + 1))), (1, .int (a ||| ((1 : Int32) <<< (nI i &&& 31)))), (0, .ref (q 0))]) hx hb dX4_witnesses_56 hl (k := 1) rfl (nI_inc _) (by decide) rfl (fun ls hl => ?_)
              refine lv_goto (tgt := 4) hx hb dX4_witnesses_59 (by decide) ?_
              exact ih4 (i + 1) (a ||| ((1 : Int32) <<< (nI i &&& 31))) (by omega) (by omega) (by rw [ha]; simp [orI, oneE, or0, c25, c39, c47]) ls (lv_sub hl [0, 1, 2] rfl)
  exact L4 (tT ts + 1) 0 0 (by omega) (by omega) (rfl) ls (lv_sub hl [0, 1, 2] rfl)

set_option maxHeartbeats 4000000 in
set_option maxRecDepth 100000 in
theorem c_X4_buildsShown (l : Launch) (D : va_G) (q : Nat → Nat) (c : CT) (ms : MS) (ts : TS) (hs : HS) (ps : PS) (ss : SS) (x : Int32) (hT : tT ts ≤ 20) : ROl l yX4_buildsShown wsX4_buildsShown ({ frames := 1, cells := 0, slots := 0, locals := 21 } : Room) [.ref (q 0), .int x] D c (wC q c (ms, ts, hs, ps, ss)) (paS (hFe hs) x (tT ts)) := by
  refine ro_startl (cc := cX4_buildsShown) (maxL := 5) (ret := some .long) (by decide) rfl (Nat.le_of_ble_eq_true rfl) ?_
  intro p e s m args below meth c0 ls hx hb hr hml hown hts hlk hP hK hl
  have hown : s.vm.findClass RX4 = some m.cls := hown
  have hl : lv_has ls 5 [(0, .ref (q 0)), (1, .int x)] := hl
  have hin0 : ∀ w ∈ wsX00, w ∈ wsX4_buildsShown := by decide +kernel
  have hin3 : ∀ w ∈ wsX30, w ∈ wsX4_buildsShown := by decide +kernel
  have hin4 : ∀ w ∈ wsX40, w ∈ wsX4_buildsShown := by decide +kernel
  refine lv_lconst (v := 0) hx hb dX4_buildsShown_0 (by decide) ?_
  refine lv_lstore_n (lv' := [(2, .long 0), (0, .ref (q 0)), (1, .int x)]) hx hb dX4_buildsShown_1 rfl hl (by decide) rfl (fun ls hl => ?_)
  refine lv_iconst (v := 0) hx hb dX4_buildsShown_2 (by decide) ?_
  refine lv_istore (lv' := [(4, .int 0), (2, .long 0), (0, .ref (q 0)), (1, .int x)]) hx hb dX4_buildsShown_3 hl (by decide) rfl (fun ls hl => ?_)
  have L5 : ∀ (n : Nat) (i : Nat) (a : Int64), (i ≤ tT ts) → (tT ts < i + n) → (a = paS (hFe hs) x i) → ∀ ls : Array Slot, lv_has ls 5 [(4, .int (nI i)), (2, .long a), (0, .ref (q 0)), (1, .int x)] → W p l e ({ frames := 1, cells := 0, slots := 0, locals := 21 } : Room) s m args below meth c0 s.heap [] 0 0 (QRl below args s (paS (hFe hs) x (tT ts))) (F0 m 5 ls []) := by
    intro n
    induction n with
    | zero => intro i a hi hn ha ls hl; exact absurd hn (by omega)
    | succ n ih5 =>
      intro i a hi hn ha ls hl
      refine lv_iload hx hb dX4_buildsShown_5 (lv_at hl 0 rfl) ?_
      refine lv_aload_n hx hb dX4_buildsShown_7 rfl (lv_at hl 2 rfl) ?_
      refine va_get (D := D) (ci := 4) (v := .ref (q 2)) (C := RX4) (T := TX4) (N := 7) hx hb hts hin4 hown hK.1 hP 0 rfl rfl 0 (by decide) (hts (.fieldLink RX4 10 "TestPicker" "tests" "LTestPicker$Tests;") (by decide +kernel)) (fun _ h9 => h9) rfl dX4_buildsShown_8 ?_
      refine va_get (D := D) (ci := 3) (v := .int (nI (tT ts))) (C := RX3) (T := TX3) (N := 7) hx hb hts hin3 hown hK.1 hP 2 rfl rfl 6 (by decide) (hts (.fieldLink RX4 56 "TestPicker$Tests" "size" "I") (by decide +kernel)) (fun _ h9 => h9) rfl dX4_buildsShown_11 ?_
      refine lv_icmp_ge (tgt := 45) hx hb dX4_buildsShown_14 (by decide) (fun c14 => ?_) (fun c14 => ?_)
      · -- 14 True
        have c14 : (tT ts) ≤ i := (nI_leI (a := (tT ts)) (b := i) (by omega) (by omega)).mp c14
        refine lv_lload_n hx hb dX4_buildsShown_45 rfl (lv_at hl 1 rfl) ?_
        exact ro_retl hx hb hr hlk (by rw [ha, show i = tT ts by omega]) dX4_buildsShown_46
      · -- 14 False
        have c14 : i < (tT ts) := (Nat.not_le.mp (fun z => c14 ((nI_leI (a := (tT ts)) (b := i) (by omega) (by omega)).mpr z)))
        refine lv_iload hx hb dX4_buildsShown_17 (lv_at hl 0 rfl) ?_
        refine lv_iload_n hx hb dX4_buildsShown_19 rfl (lv_at hl 3 rfl) ?_
        refine ro_Si (As := [.int (nI i), .int x]) (rest := []) ⟨hx, hb, hml, hown, hts⟩ (c_X4_isIn l D c i x (by omega)) (va_cwS 2 hts gX4_buildsShown_X4_isIn rfl rfl rfl (by decide +kernel) ⟨Nat.le_of_ble_eq_true rfl, Nat.le_of_ble_eq_true rfl⟩) va_P0 hK rfl hl.1 rfl (Nat.le_of_ble_eq_true rfl) dX4_buildsShown_20 ⟨Nat.le_of_ble_eq_true rfl, Nat.le_of_ble_eq_true rfl⟩ ?_
        refine lv_if_eq (tgt := 39) hx hb dX4_buildsShown_23 (by decide) (fun c23 => ?_) (fun c23 => ?_)
        · -- 23 True
          have c23 := bI_z.mp c23
          refine lv_iinc (v := nI (i + 1)) (lv' := [(4, .int (nI (i + 1))), (2, .long a), (0, .ref (q 0)), (1, .int x)]) hx hb dX4_buildsShown_39 hl (k := 0) rfl (nI_inc _) (by decide) rfl (fun ls hl => ?_)
          refine lv_goto (tgt := 5) hx hb dX4_buildsShown_42 (by decide) ?_
          exact ih5 (i + 1) a (by omega) (by omega) (by rw [ha]; simp [paS, lOr0, c23]) ls (lv_sub hl [0, 1, 2, 3] rfl)
        · -- 23 False
          have c23 := bI_nz.mp c23
          refine lv_lload_n hx hb dX4_buildsShown_26 rfl (lv_at hl 1 rfl) ?_
          refine lv_aload_n hx hb dX4_buildsShown_27 rfl (lv_at hl 2 rfl) ?_
          refine va_get (D := D) (ci := 4) (v := .ref (q 9)) (C := RX4) (T := TX4) (N := 7) hx hb hts hin4 hown hK.1 hP 0 rfl rfl 1 (by decide) (hts (.fieldLink RX4 19 "TestPicker" "history" "LTestPicker$History;") (by decide +kernel)) (fun _ h9 => h9) rfl dX4_buildsShown_28 ?_
          refine va_get (D := D) (ci := 0) (v := .ref (q 11)) (C := RX0) (T := TX0) (N := 4) hx hb hts hin0 hown hK.1 hP 9 rfl rfl 1 (by decide) (hts (.fieldLink RX4 121 "TestPicker$History" "fellIn" "[J") (by decide +kernel)) (fun _ h9 => h9) rfl dX4_buildsShown_31 ?_
          refine lv_iload hx hb dX4_buildsShown_34 (lv_at hl 0 rfl) ?_
          refine ld_l hx hb hK hP 11 (f := hFe hs) rfl (i := i) (by omega) (by decide) dX4_buildsShown_36 ?_
          refine lv_lor hx hb dX4_buildsShown_37 ?_
          refine lv_lstore_n (lv' := [(2, .long (a ||| (hFe hs i))), (4, .int (nI i)), (0, .ref (q 0)), (1, .int x)]) hx hb dX4_buildsShown_38 rfl hl (by decide) rfl (fun ls hl => ?_)
          refine lv_iinc (v := nI (i + 1)) (lv' := [(4, .int (nI (i + 1))), (2, .long (a ||| (hFe hs i))), (0, .ref (q 0)), (1, .int x)]) hx hb dX4_buildsShown_39 hl (k := 1) rfl (nI_inc _) (by decide) rfl (fun ls hl => ?_)
          refine lv_goto (tgt := 5) hx hb dX4_buildsShown_42 (by decide) ?_
          exact ih5 (i + 1) (a ||| (hFe hs i)) (by omega) (by omega) (by rw [ha]; simp [paS, lOr0, c23]) ls (lv_sub hl [0, 1, 2, 3] rfl)
  exact L5 (tT ts + 1) 0 0 (by omega) (by omega) (rfl) ls (lv_sub hl [0, 1, 2, 3] rfl)
