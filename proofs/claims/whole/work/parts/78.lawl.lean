/-! the law's loop -/
theorem l_more {i L : Nat} (hL : L ≤ 3072) (hi : i ≤ 3078) (h : ¬ Int32.ofNat L - 6 < nI i) : i + 6 ≤ L := by
  have e1 : (nI L - nI 6).toInt = (L : Int) - (6 : Nat) := pk_sub_toInt (by omega) (by omega)
  have e2 : (nI i).toInt = (i : Int) := nI_toInt (by omega)
  have h1 : ¬ (nI L - nI 6).toInt < (nI i).toInt := fun z => h (Int32.lt_iff_toInt_lt.mpr z)
  omega
set_option maxHeartbeats 4000000 in
set_option maxRecDepth 100000 in
theorem law_loop {p : Program} {l : Launch} {e : Env} {s : State} {m : MethodId} {b : Nat} {below : List Frame} {meth : Method} {c0 : Code} {L : Nat} {xs : Nat → Int32} {D : va_G} {c : CT} {q z : Nat → Nat} (hL : L ≤ 3072) (C0 : lw_At p s m meth c0 b L xs) (hK : KK D c s) :
    ∀ (n i : Nat) (xc : CS) (g : GS) (H : Heap) (locs : List Loc) (ls : Array Slot), i ≤ L → L < i + n → Rel xc g → LwH s D c q z xc g H locs → lv_has ls 4 (LwL b i q z) → LW p l e s m b below meth c0 H locs (F0 m 18 ls []) := by
  obtain ⟨hx, hb, hr, hml, hown, hts, hX, hbl, hlk, hgv⟩ := id C0
  have hbA : ¬ (fun a : Nat => s.heap.size ≤ a) b := Nat.not_le.mpr hbl
  intro n
  induction n with
  | zero => intro i xc g H locs ls h1 h2; exact absurd h2 (by omega)
  | succ n ih =>
    intro i xc g H locs ls hi hn hR hh hl
    refine lv_iload_n hx hb dL_law_18 rfl (lv_at hl 3 rfl) ?_
    refine lv_aload_n hx hb dL_law_19 rfl (lv_at hl 0 rfl) ?_
    refine va_slen hx hb hX hbl hbA hh.2.2 dL_law_20 ?_
    refine lv_bipush (v := 6) hx hb dL_law_21 (by decide) ?_
    refine lv_isub hx hb dL_law_23 ?_
    refine lv_icmp_gt (tgt := 948) hx hb dL_law_24 (by decide) (fun _ => ?_) (fun h9 => ?_)
    · refine lv_iconst (v := 1) hx hb dL_law_948 (by decide) ?_
      refine va_forget (fun a ha => hh.2.2.2.2 a ha) ?_
      exact lw_ret hx hb hr hlk dL_law_949
    · have hm : i + 6 ≤ L := l_more hL (by omega) h9
      refine lv_aload_n hx hb dL_law_27 rfl (lv_at hl 0 rfl) ?_
      refine lv_iload_n hx hb dL_law_28 rfl (lv_at hl 3 rfl) ?_
      refine va_sld hx hb hX hbl hbA hh.2.2 (in_nI (show i < L by omega) (by omega)) dL_law_29 ?_
      refine lv_bipush (v := 31) hx hb dL_law_30 (by decide) ?_
      refine lv_iand hx hb dL_law_32 ?_
      have K : ∀ (xd : CS) (g1 : GS) (H1 : Heap) (locs1 : List Loc), Rel xd g1 → LwH s D c q z xd g1 H1 locs1 → LW p l e s m b below meth c0 H1 locs1 (F0 m 942 ls []) := by
        intro xd g1 H1 locs1 hR1 hh1
        refine lv_iinc (v := nI (i + 6)) (lv' := [(3, .int (nI (i + 6))), (0, .ref b), (1, .ref (q 0)), (2, .ref (z 0))]) hx hb dL_law_942 hl (k := 3) rfl (nI_add i 6) (by decide) rfl (fun ls hl => ?_)
        refine lv_goto (tgt := 18) hx hb dL_law_945 (by decide) ?_
        exact ih (i + 6) xd g1 H1 locs1 ls hm (by omega) hR1 hh1 (lv_sub hl [1, 2, 3, 0] rfl)
      obtain ⟨k, hk, ek⟩ := pk_andE (xs (nI i).toNatClampNeg) (m := 31) 5 (by decide)
      rw [ek]
      have hk : k < 32 := hk
      rcases (show k = 0 ∨ k = 1 ∨ k = 2 ∨ k = 3 ∨ k = 4 ∨ k = 5 ∨ k = 6 ∨ k = 7 ∨ k = 8 ∨ k = 9 ∨ k = 10 ∨ k = 11 ∨ k = 12 ∨ k = 13 ∨ k = 14 ∨ k = 15 ∨ k = 16 ∨ k = 17 ∨ k = 18 ∨ k = 19 ∨ k = 20 ∨ k = 21 ∨ k = 22 ∨ k = 23 ∨ k = 24 ∨ k = 25 ∨ k = 26 ∨ k = 27 ∨ 28 ≤ k by omega) with rfl | rfl | rfl | rfl | rfl | rfl | rfl | rfl | rfl | rfl | rfl | rfl | rfl | rfl | rfl | rfl | rfl | rfl | rfl | rfl | rfl | rfl | rfl | rfl | rfl | rfl | rfl | rfl | h28
      · exact lv_tableIn (off := 127) (tgt := 160) hx hb dL_law_33 (by decide) (by decide) (by decide) (by decide) (lw_k0 hL C0 hK hm hR hh hl K)
      · exact lv_tableIn (off := 170) (tgt := 203) hx hb dL_law_33 (by decide) (by decide) (by decide) (by decide) (lw_k1 hL C0 hK hm hR hh hl K)
      · exact lv_tableIn (off := 203) (tgt := 236) hx hb dL_law_33 (by decide) (by decide) (by decide) (by decide) (lw_k2 hL C0 hK hm hR hh hl K)
      · exact lv_tableIn (off := 246) (tgt := 279) hx hb dL_law_33 (by decide) (by decide) (by decide) (by decide) (lw_k3 hL C0 hK hm hR hh hl K)
      · exact lv_tableIn (off := 279) (tgt := 312) hx hb dL_law_33 (by decide) (by decide) (by decide) (by decide) (lw_k4 hL C0 hK hm hR hh hl K)
      · exact lv_tableIn (off := 302) (tgt := 335) hx hb dL_law_33 (by decide) (by decide) (by decide) (by decide) (lw_k5 hL C0 hK hm hR hh hl K)
      · exact lv_tableIn (off := 325) (tgt := 358) hx hb dL_law_33 (by decide) (by decide) (by decide) (by decide) (lw_k6 hL C0 hK hm hR hh hl K)
      · exact lv_tableIn (off := 388) (tgt := 421) hx hb dL_law_33 (by decide) (by decide) (by decide) (by decide) (lw_k7 hL C0 hK hm hR hh hl K)
      · exact lv_tableIn (off := 421) (tgt := 454) hx hb dL_law_33 (by decide) (by decide) (by decide) (by decide) (lw_k8 hL C0 hK hm hR hh hl K)
      · exact lv_tableIn (off := 454) (tgt := 487) hx hb dL_law_33 (by decide) (by decide) (by decide) (by decide) (lw_k9 hL C0 hK hm hR hh hl K)
      · exact lv_tableIn (off := 507) (tgt := 540) hx hb dL_law_33 (by decide) (by decide) (by decide) (by decide) (lw_k10 hL C0 hK hm hR hh hl K)
      · exact lv_tableIn (off := 556) (tgt := 589) hx hb dL_law_33 (by decide) (by decide) (by decide) (by decide) (lw_k11 hL C0 hK hm hR hh hl K)
      · exact lv_tableIn (off := 589) (tgt := 622) hx hb dL_law_33 (by decide) (by decide) (by decide) (by decide) (lw_k12 hL C0 hK hm hR hh hl K)
      · exact lv_tableIn (off := 612) (tgt := 645) hx hb dL_law_33 (by decide) (by decide) (by decide) (by decide) (lw_k13 hL C0 hK hm hR hh hl K)
      · exact lv_tableIn (off := 645) (tgt := 678) hx hb dL_law_33 (by decide) (by decide) (by decide) (by decide) (lw_k14 hL C0 hK hm hR hh hl K)
      · exact lv_tableIn (off := 668) (tgt := 701) hx hb dL_law_33 (by decide) (by decide) (by decide) (by decide) (lw_k15 hL C0 hK hm hR hh hl K)
      · exact lv_tableIn (off := 691) (tgt := 724) hx hb dL_law_33 (by decide) (by decide) (by decide) (by decide) (lw_k16 hL C0 hK hm hR hh hl K)
      · exact lv_tableIn (off := 714) (tgt := 747) hx hb dL_law_33 (by decide) (by decide) (by decide) (by decide) (lw_k17 hL C0 hK hm hR hh hl K)
      · exact lv_tableIn (off := 737) (tgt := 770) hx hb dL_law_33 (by decide) (by decide) (by decide) (by decide) (lw_k18 hL C0 hK hm hR hh hl K)
      · exact lv_tableIn (off := 760) (tgt := 793) hx hb dL_law_33 (by decide) (by decide) (by decide) (by decide) (lw_k19 hL C0 hK hm hR hh hl K)
      · exact lv_tableIn (off := 773) (tgt := 806) hx hb dL_law_33 (by decide) (by decide) (by decide) (by decide) (lw_k20 hL C0 hK hm hR hh hl K)
      · exact lv_tableIn (off := 786) (tgt := 819) hx hb dL_law_33 (by decide) (by decide) (by decide) (by decide) (lw_k21 hL C0 hK hm hR hh hl K)
      · exact lv_tableIn (off := 799) (tgt := 832) hx hb dL_law_33 (by decide) (by decide) (by decide) (by decide) (lw_k22 hL C0 hK hm hR hh hl K)
      · exact lv_tableIn (off := 822) (tgt := 855) hx hb dL_law_33 (by decide) (by decide) (by decide) (by decide) (lw_k23 hL C0 hK hm hR hh hl K)
      · exact lv_tableIn (off := 836) (tgt := 869) hx hb dL_law_33 (by decide) (by decide) (by decide) (by decide) (lw_k24 hL C0 hK hm hR hh hl K)
      · exact lv_tableIn (off := 859) (tgt := 892) hx hb dL_law_33 (by decide) (by decide) (by decide) (by decide) (lw_k25 hL C0 hK hm hR hh hl K)
      · exact lv_tableIn (off := 872) (tgt := 905) hx hb dL_law_33 (by decide) (by decide) (by decide) (by decide) (lw_k26 hL C0 hK hm hR hh hl K)
      · exact lv_tableIn (off := 895) (tgt := 928) hx hb dL_law_33 (by decide) (by decide) (by decide) (by decide) (lw_k27 hL C0 hK hm hR hh hl K)
      · have e2 : (nI k).toInt = (k : Int) := nI_toInt (by omega)
        exact lv_tableOut (tgt := 942) hx hb dL_law_33 (Or.inr (by omega)) (by decide) (K _ _ _ _ hR hh)
