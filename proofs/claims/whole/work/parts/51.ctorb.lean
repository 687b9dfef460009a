/-! the class's own constructor: four objects of its own, one row -/
def NN (U : State) : Prop := va_Nw (.methodLinkNest RX4 9 yX3_init RX4) U ∧ va_Nw (.methodLinkNest RX4 18 yX0_init RX4) U ∧ va_Nw (.methodLinkNest RX4 25 yX1_init RX4) U ∧ va_Nw (.methodLinkNest RX4 32 yX2_init RX4) U
theorem NN.moved {s U : State} (hW : s.WarmedH U.vm) (h : NN s) : NN U := ⟨va_Nw.warmM hW h.1, va_Nw.warmM hW h.2.1, va_Nw.warmM hW h.2.2.1, va_Nw.warmM hW h.2.2.2⟩
theorem NN.calling {U : State} {g : JFrame} {mk : MethodId} {a : Array Value} (h : NN U) : NN (U.calling g mk a) := ⟨va_Nw.same (u := U) (U := U.calling g mk a) rfl rfl h.1, va_Nw.same (u := U) (U := U.calling g mk a) rfl rfl h.2.1, va_Nw.same (u := U) (U := U.calling g mk a) rfl rfl h.2.2.1, va_Nw.same (u := U) (U := U.calling g mk a) rfl rfl h.2.2.2⟩
def KN (D : va_G) (c : CT) (U : State) : Prop := KK D c U ∧ NN U
abbrev KPre (Kp : State → Prop) (av : List Value) (D : va_G) (w : va_W) (sz : Nat) : Array Value → State → Prop := va_Pc av (fun U => U.heap.size = sz ∧ va_P D vwCl w U.heap ∧ Kp U ∧ va_D (fun _ => True) w)
section CNEW
variable {p : Program} {l : Launch} {e : Env} {R : Room} {s : State} {m : MethodId} {args : Array Value} {below : List Frame} {meth : Method} {c0 : Code} {H H0 : Heap} {locs : List Loc} {cells slots : Nat} {Q : State → Prop}
variable {y : MethodName} {cc bytes : ByteArray} {maxL nL index pc mc ms : Nat} {ws Ts : List Cond} {rm : Room} {own : String} {b : Nat} {rest : List Value} {ls : Array Slot} {D : va_G} {w wc wr : va_W}
theorem cn_pre {Kp : State → Prop} {A0 : Nat → Prop} (hKs : Kp s) (hmv : ∀ U : State, s.WarmedH U.vm → Kp U) (hcal : ∀ (U : State) (g : JFrame) (mk : MethodId) (a : Array Value), Kp U → Kp (U.calling g mk a)) (hP : va_P D vwCl wc H) (hD : va_D A0 wc) : PreS s H (KPre Kp [.ref b] D wc H.size) [.ref b] :=
  ⟨fun a U g mk q => ⟨q.1, q.2.1, q.2.2.1, hcal _ _ _ _ q.2.2.2.1, q.2.2.2.2⟩, fun U hU hW => ⟨rfl, by rw [hU], by rw [hU]; exact hP, hmv U hW, hD.weaken (fun _ _ _ _ => trivial)⟩⟩
theorem cn_IN {α : Type} {Pu B1 : α → Prop} {w1 wk : α → va_W} {Kp : State → Prop} {A0 : Nat → Prop} {host : String} (isC isR perm : List Nat) (S : CallFix p m c0 cc nL s args Ts own)
    (hM : ∀ sz : Nat, Met l y ws rm (KPre Kp [.ref b] D wc sz) (va_Qv Pu (fun u t => B1 u ∧ va_P D vwCl (w1 u) t.heap ∧ va_D (va_A wc sz) (w1 u)) (va_A wc sz)) mc ms (va_A wc sz))
    (cw : va_CN R s args own index y host bytes maxL none ws rm mc ms 0 ∧ y.name = "<init>" ∧ (Cond.instanceMethod y).before args s = true) (hKs : Kp s) (hmv : ∀ U : State, s.WarmedH U.vm → Kp U) (hcal : ∀ (U : State) (g : JFrame) (mk : MethodId) (a : Array Value), Kp U → Kp (U.calling g mk a))
    (hP : va_P D vwCl w H) (hD : va_D A0 w) (hS : va_S A0 H0 H locs) (hA : ∀ q : Nat, H0.size ≤ q → A0 q)
    (hC : isC.map (fun i => w[i]?) = wc.map some) (hR : isR.map (fun i => w[i]?) = wr.map some) (hcn : va_nd isC = true) (hrn : va_nd isR = true) (hdis : ∀ i ∈ isR, i ∉ isC) (hpn : va_nd perm = true) (hpm : ∀ u, perm.map (fun i => (wr ++ w1 u)[i]?) = (wk u).map some)
    (hsize : ls.size = nL) (hW : (rest.map fun v => v.category).sum ≤ 8) (hdg : decode cc pc = .ok (.invokespecial index, 3)) (hf : cells + mc ≤ R.cells ∧ slots + ms ≤ R.slots)
    (kk : ∀ (u : α) (H1 : Heap) (locs1 : List Loc), Pu u → B1 u → va_P D vwCl (wk u) H1 → va_D A0 (wk u) → va_S A0 H0 H1 locs1 → W p l e R s m args below meth c0 H1 locs1 (cells + mc) (slots + ms) Q (F0 m (pc + 3) ls rest)) : W p l e R s m args below meth c0 H locs cells slots Q (F0 m pc ls (.ref b :: rest)) := by
  have hF := va_free hD hS hA isC hC
  refine va_callv (va_runIN (g := F0 m pc ls (.ref b :: rest)) (As := []) (rest := rest) S (hM H.size) cw (cn_pre hKs hmv hcal (hP.sb hC) (hD.sub isC hcn hC)) rfl rfl hsize rfl (lv_room (rest := .ref b :: rest) hW) hdg hf) hS (fun q _ h => hF q h) hF (fun u t H1 locs1 ht hvm hw hB hz1 hk1 hS1 => ?_)
  obtain ⟨hB1, hP1, hD1⟩ := hB
  rw [ht] at hP1
  obtain ⟨hP2, hD2⟩ := mu_back hP hD hS hA isC isR perm hC hR hrn hdis hk1 hP1 hD1 hpn (hpm u)
  exact kk u H1 locs1 hw hB1 hP2 hD2 hS1
theorem cn_I {α : Type} {Pu B1 : α → Prop} {w1 wk : α → va_W} {Kp : State → Prop} {A0 : Nat → Prop} (isC isR perm : List Nat) (S : CallFix p m c0 cc nL s args Ts own)
    (hM : ∀ sz : Nat, Met l y ws rm (KPre Kp [.ref b] D wc sz) (va_Qv Pu (fun u t => B1 u ∧ va_P D vwCl (w1 u) t.heap ∧ va_D (va_A wc sz) (w1 u)) (va_A wc sz)) mc ms (va_A wc sz))
    (cw : CallB R s args own index y bytes maxL none ws rm mc ms 0 ∧ y.name = "<init>" ∧ (Cond.instanceMethod y).before args s = true) (hKs : Kp s) (hmv : ∀ U : State, s.WarmedH U.vm → Kp U) (hcal : ∀ (U : State) (g : JFrame) (mk : MethodId) (a : Array Value), Kp U → Kp (U.calling g mk a))
    (hP : va_P D vwCl w H) (hD : va_D A0 w) (hS : va_S A0 H0 H locs) (hA : ∀ q : Nat, H0.size ≤ q → A0 q)
    (hC : isC.map (fun i => w[i]?) = wc.map some) (hR : isR.map (fun i => w[i]?) = wr.map some) (hcn : va_nd isC = true) (hrn : va_nd isR = true) (hdis : ∀ i ∈ isR, i ∉ isC) (hpn : va_nd perm = true) (hpm : ∀ u, perm.map (fun i => (wr ++ w1 u)[i]?) = (wk u).map some)
    (hsize : ls.size = nL) (hW : (rest.map fun v => v.category).sum ≤ 8) (hdg : decode cc pc = .ok (.invokespecial index, 3)) (hf : cells + mc ≤ R.cells ∧ slots + ms ≤ R.slots)
    (kk : ∀ (u : α) (H1 : Heap) (locs1 : List Loc), Pu u → B1 u → va_P D vwCl (wk u) H1 → va_D A0 (wk u) → va_S A0 H0 H1 locs1 → W p l e R s m args below meth c0 H1 locs1 (cells + mc) (slots + ms) Q (F0 m (pc + 3) ls rest)) : W p l e R s m args below meth c0 H locs cells slots Q (F0 m pc ls (.ref b :: rest)) := by
  have hF := va_free hD hS hA isC hC
  refine va_callv (va_runI (g := F0 m pc ls (.ref b :: rest)) (As := []) (rest := rest) S (hM H.size) cw (cn_pre hKs hmv hcal (hP.sb hC) (hD.sub isC hcn hC)) rfl rfl hsize rfl (lv_room (rest := .ref b :: rest) hW) hdg hf) hS (fun q _ h => hF q h) hF (fun u t H1 locs1 ht hvm hw hB hz1 hk1 hS1 => ?_)
  obtain ⟨hB1, hP1, hD1⟩ := hB
  rw [ht] at hP1
  obtain ⟨hP2, hD2⟩ := mu_back hP hD hS hA isC isR perm hC hR hrn hdis hk1 hP1 hD1 hpn (hpm u)
  exact kk u H1 locs1 hw hB1 hP2 hD2 hS1
end CNEW
set_option maxHeartbeats 4000000 in
set_option maxRecDepth 100000 in
theorem c_X4_init (l : Launch) (D : va_G) (c : CT) (h0 : Nat) : ∀ sz : Nat, Met l yX4_init wsX4_init ({ frames := 2, cells := 23, slots := 375, locals := 32 } : Room) (KPre (KN D c) [.ref h0] D [(h0, .inr (4, [.null, .null, .null, .null, .null, .int 0, .long 0]))] sz) (va_Qv (fun (_ : Nat → Nat) => True) (fun (q : Nat → Nat) (t : State) => q 0 = h0 ∧ va_P D vwCl (wC q c cs0) t.heap ∧ va_D (va_A [(h0, .inr (4, [.null, .null, .null, .null, .null, .int 0, .long 0]))] sz) (wC q c cs0)) (va_A [(h0, .inr (4, [.null, .null, .null, .null, .null, .int 0, .long 0]))] sz)) 23 375 (va_A [(h0, .inr (4, [.null, .null, .null, .null, .null, .int 0, .long 0]))] sz) := by
  intro sz
  refine Met.ofW (cc := cX4_init) (maxL := 1) (ret := none) (by decide) rfl ?_
  intro p e s m args below meth c0 s₁ B hml hv
  obtain ⟨rfl, hsz, hP, ⟨hK, hN⟩, hD0⟩ := hv
  subst hsz
  have hl := lv_entry ([.ref h0] : List Value) (n := 1) (Nat.le_of_ble_eq_true rfl)
  rw [lg_entry_eq]
  generalize (lg_sl ([.ref h0]) ++ List.replicate (1 - (lg_sl ([.ref h0])).length) Slot.unset).toArray = ls at hl ⊢
  have hl : lv_has ls 1 [(0, .ref h0)] := hl
  have hx := B.exec
  have hb := B.bytes
  have hr := B.returns
  have hown : s.vm.findClass RX4 = some m.cls := findClass_of_methodNamed B.named
  have hts := atoms_spec (ws := wsX4_init) B.pre
  have hlk := B.notSynchronized
  have hni : meth.name = "<init>" := (name_of_methodNamed B.named B.method).1
  have hD := hD0.self (sz := s.heap.size)
  have hS : va_S (va_A [(h0, .inr (4, [.null, .null, .null, .null, .null, .int 0, .long 0]))] s.heap.size) s.heap s.heap [] := va_S.rf
  have hA : ∀ q : Nat, s.heap.size ≤ q → va_A [(h0, .inr (4, [.null, .null, .null, .null, .null, .int 0, .long 0]))] s.heap.size q := fun q h => Or.inr h
  have hin4 : ∀ w ∈ wsX40, w ∈ wsX4_init := fun w h => List.mem_cons_of_mem _ (List.mem_append_left _ (List.mem_append_left _ (List.mem_append_left _ (List.mem_append_right _ h))))
  have hin3 : ∀ w ∈ wsX30, w ∈ wsX4_init := fun w h => List.mem_cons_of_mem _ (List.mem_append_left _ (List.mem_append_left _ (List.mem_append_left _ (List.mem_append_left _ (List.mem_append_right _ h)))))
  have hin0 : ∀ w ∈ wsX00, w ∈ wsX4_init := fun w h => List.mem_cons_of_mem _ (List.mem_append_left _ (List.mem_append_left _ (List.mem_append_right _ h)))
  have hin1 : ∀ w ∈ wsX10, w ∈ wsX4_init := fun w h => List.mem_cons_of_mem _ (List.mem_append_left _ (List.mem_append_right _ h))
  have hin2 : ∀ w ∈ wsX20, w ∈ wsX4_init := fun w h => List.mem_cons_of_mem _ (List.mem_append_right _ h)
  refine lv_aload_n hx hb dX4_init_0 rfl (lv_at hl 0 rfl) ?_
  refine W.objInit hx hb hown (hts (.methodLink RX4 1 objectInit) (by decide +kernel)) (hts (.instanceMethod objectInit) (by decide +kernel)) (hts (.code objectInit ⟨#[0xb1]⟩ 1 none) (by decide +kernel)) rfl (by rw [hml]; exact hl.1) rfl dX4_init_1 (Nat.le_of_ble_eq_true rfl) (Nat.le_of_ble_eq_true rfl) ?_
  refine W.eq (g2 := F0 m 4 ls []) rfl ?_
  refine lv_aload_n hx hb dX4_init_4 rfl (lv_at hl 0 rfl) ?_
  refine va_new (ci := 3) (fs := [.null, .null, .null, .null, .null, .null, .int 0]) (C := RX3) (T := TX3) (N := 7) hx hb hts hin3 tyX3 tyX3_ok hown (hts (.classLink RX4 7 RX3) (by decide +kernel)) (hts (.instantiable RX3 7) (by decide +kernel)) (hts (.initialized RX3) (by decide +kernel)) hK.1 hP hD hS hA rfl (fun j hj => by rcases (show j = 0 ∨ j = 1 ∨ j = 2 ∨ j = 3 ∨ j = 4 ∨ j = 5 ∨ j = 6 by omega) with rfl | rfl | rfl | rfl | rfl | rfl | rfl <;> rfl) (Nat.le_of_ble_eq_true rfl) (Nat.le_of_ble_eq_true rfl) dX4_init_5 (fun n3 H hP hD hS => ?_)
  refine W.widen (k := 1) (n := 7) (Nat.le_of_ble_eq_true rfl) (Nat.le_of_ble_eq_true rfl) ?_
  have hP : va_P D vwCl ([(h0, .inr (4, [.null, .null, .null, .null, .null, .int 0, .long 0]))] ++ [(n3, .inr (3, [.null, .null, .null, .null, .null, .null, .int 0]))]) H := hP
  have hD : va_D (va_A [(h0, .inr (4, [.null, .null, .null, .null, .null, .int 0, .long 0]))] s.heap.size) ([(h0, .inr (4, [.null, .null, .null, .null, .null, .int 0, .long 0]))] ++ [(n3, .inr (3, [.null, .null, .null, .null, .null, .null, .int 0]))]) := hD
  refine lv_dup hx hb dX4_init_8 rfl ?_
  refine cn_IN (Kp := KK D c) (wc := [(n3, .inr (3, [.null, .null, .null, .null, .null, .null, .int 0]))]) (wr := [(h0, .inr (4, [.null, .null, .null, .null, .null, .int 0, .long 0]))]) (w1 := fun u => wT u c ts0) (wk := fun u => [(h0, .inr (4, [.null, .null, .null, .null, .null, .int 0, .long 0]))] ++ wT u c ts0) [1] [0] [0, 1, 2, 3, 4, 5, 6, 7] ⟨hx, hb, hml, hown, hts⟩ (c_X3_init l D c n3) ⟨va_cnB 0 hts gX4_init_X3_init_n9 rfl rfl rfl hN.1 (hts (.initialized RX3) (by decide +kernel)) (by decide +kernel) ⟨Nat.le_of_ble_eq_true rfl, Nat.le_of_ble_eq_true rfl⟩, rfl, hts (.instanceMethod yX3_init) (by decide +kernel)⟩ hK (fun U hW => hK.moved hW) (fun U g mk a h => h.calling) hP hD hS hA rfl rfl (by decide) (by decide) (by decide) (by decide) (fun _ => rfl) hl.1 (Nat.le_of_ble_eq_true rfl) dX4_init_9 ⟨Nat.le_of_ble_eq_true rfl, Nat.le_of_ble_eq_true rfl⟩ (fun u3 H locs _ e3 hP9 hD9 hS9 => ?_)
  subst e3
  have hP := hP9
  have hD := hD9
  have hS := hS9
  refine W.widen (k := 7) (n := 127) (Nat.le_of_ble_eq_true rfl) (Nat.le_of_ble_eq_true rfl) ?_
  have hP : va_P D vwCl ([(h0, .inr (4, [.null, .null, .null, .null, .null, .int 0, .long 0]))] ++ wT u3 c ts0) H := hP
  have hD : va_D (va_A [(h0, .inr (4, [.null, .null, .null, .null, .null, .int 0, .long 0]))] s.heap.size) ([(h0, .inr (4, [.null, .null, .null, .null, .null, .int 0, .long 0]))] ++ wT u3 c ts0) := hD
  refine va_putF (D := D) (ci := 4) (v := .ref (u3 2)) (ty := .object "TestPicker$Tests") (C := RX4) (T := TX4) (N := 7) hx hb hts hin4 tyX4 tyX4_ok nmX4 hown hK.1 hP hD hS 0 rfl rfl 0 (by decide) (hts (.fieldLink RX4 10 "TestPicker" "tests" "LTestPicker$Tests;") (by decide +kernel)) (fun _ h9 => h9) rfl hni rfl (by decide +kernel) rfl rfl (Nat.le_of_ble_eq_true rfl) dX4_init_12 (fun H locs hP hD hS => ?_)
  have hP : va_P D vwCl ([(h0, .inr (4, [.ref (u3 2), .null, .null, .null, .null, .int 0, .long 0]))] ++ wT u3 c ts0) H := hP
  have hD : va_D (va_A [(h0, .inr (4, [.null, .null, .null, .null, .null, .int 0, .long 0]))] s.heap.size) ([(h0, .inr (4, [.ref (u3 2), .null, .null, .null, .null, .int 0, .long 0]))] ++ wT u3 c ts0) := hD
  refine lv_aload_n hx hb dX4_init_15 rfl (lv_at hl 0 rfl) ?_
  refine va_new (ci := 0) (fs := [.null, .null, .null, .int 0]) (C := RX0) (T := TX0) (N := 4) hx hb hts hin0 tyX0 tyX0_ok hown (hts (.classLink RX4 16 RX0) (by decide +kernel)) (hts (.instantiable RX0 4) (by decide +kernel)) (hts (.initialized RX0) (by decide +kernel)) hK.1 hP hD hS hA rfl (fun j hj => by rcases (show j = 0 ∨ j = 1 ∨ j = 2 ∨ j = 3 by omega) with rfl | rfl | rfl | rfl <;> rfl) (Nat.le_of_ble_eq_true rfl) (Nat.le_of_ble_eq_true rfl) dX4_init_16 (fun n0 H hP hD hS => ?_)
  refine W.widen (k := 8) (n := 131) (Nat.le_of_ble_eq_true rfl) (Nat.le_of_ble_eq_true rfl) ?_
  have hP : va_P D vwCl ([(h0, .inr (4, [.ref (u3 2), .null, .null, .null, .null, .int 0, .long 0]))] ++ wT u3 c ts0 ++ [(n0, .inr (0, [.null, .null, .null, .int 0]))]) H := hP
  have hD : va_D (va_A [(h0, .inr (4, [.null, .null, .null, .null, .null, .int 0, .long 0]))] s.heap.size) ([(h0, .inr (4, [.ref (u3 2), .null, .null, .null, .null, .int 0, .long 0]))] ++ wT u3 c ts0 ++ [(n0, .inr (0, [.null, .null, .null, .int 0]))]) := hD
  refine lv_dup hx hb dX4_init_19 rfl ?_
  refine cn_IN (Kp := KK D c) (wc := [(n0, .inr (0, [.null, .null, .null, .int 0]))]) (wr := [(h0, .inr (4, [.ref (u3 2), .null, .null, .null, .null, .int 0, .long 0]))] ++ wT u3 c ts0) (w1 := fun u => wH u c hs0) (wk := fun u => [(h0, .inr (4, [.ref (u3 2), .null, .null, .null, .null, .int 0, .long 0]))] ++ wT u3 c ts0 ++ wH u c hs0) [8] [0, 1, 2, 3, 4, 5, 6, 7] [0, 1, 2, 3, 4, 5, 6, 7, 8, 9, 10, 11] ⟨hx, hb, hml, hown, hts⟩ (c_X0_init l D c n0) ⟨va_cnB 0 hts gX4_init_X0_init_n18 rfl rfl rfl hN.2.1 (hts (.initialized RX0) (by decide +kernel)) (by decide +kernel) ⟨Nat.le_of_ble_eq_true rfl, Nat.le_of_ble_eq_true rfl⟩, rfl, hts (.instanceMethod yX0_init) (by decide +kernel)⟩ hK (fun U hW => hK.moved hW) (fun U g mk a h => h.calling) hP hD hS hA rfl rfl (by decide) (by decide) (by decide) (by decide) (fun _ => rfl) hl.1 (Nat.le_of_ble_eq_true rfl) dX4_init_20 ⟨Nat.le_of_ble_eq_true rfl, Nat.le_of_ble_eq_true rfl⟩ (fun u0 H locs _ e0 hP9 hD9 hS9 => ?_)
  subst e0
  have hP := hP9
  have hD := hD9
  have hS := hS9
  refine W.widen (k := 11) (n := 231) (Nat.le_of_ble_eq_true rfl) (Nat.le_of_ble_eq_true rfl) ?_
  have hP : va_P D vwCl ([(h0, .inr (4, [.ref (u3 2), .null, .null, .null, .null, .int 0, .long 0]))] ++ wT u3 c ts0 ++ wH u0 c hs0) H := hP
  have hD : va_D (va_A [(h0, .inr (4, [.null, .null, .null, .null, .null, .int 0, .long 0]))] s.heap.size) ([(h0, .inr (4, [.ref (u3 2), .null, .null, .null, .null, .int 0, .long 0]))] ++ wT u3 c ts0 ++ wH u0 c hs0) := hD
  refine va_putF (D := D) (ci := 4) (v := .ref (u0 9)) (ty := .object "TestPicker$History") (C := RX4) (T := TX4) (N := 7) hx hb hts hin4 tyX4 tyX4_ok nmX4 hown hK.1 hP hD hS 0 rfl rfl 1 (by decide) (hts (.fieldLink RX4 19 "TestPicker" "history" "LTestPicker$History;") (by decide +kernel)) (fun _ h9 => h9) rfl hni rfl (by decide +kernel) rfl rfl (Nat.le_of_ble_eq_true rfl) dX4_init_23 (fun H locs hP hD hS => ?_)
  have hP : va_P D vwCl ([(h0, .inr (4, [.ref (u3 2), .ref (u0 9), .null, .null, .null, .int 0, .long 0]))] ++ wT u3 c ts0 ++ wH u0 c hs0) H := hP
  have hD : va_D (va_A [(h0, .inr (4, [.null, .null, .null, .null, .null, .int 0, .long 0]))] s.heap.size) ([(h0, .inr (4, [.ref (u3 2), .ref (u0 9), .null, .null, .null, .int 0, .long 0]))] ++ wT u3 c ts0 ++ wH u0 c hs0) := hD
  refine lv_aload_n hx hb dX4_init_26 rfl (lv_at hl 0 rfl) ?_
  refine va_new (ci := 1) (fs := [.null, .int 0, .int 0, .int 0, .long 0, .long 0, .int 0]) (C := RX1) (T := TX1) (N := 7) hx hb hts hin1 tyX1 tyX1_ok hown (hts (.classLink RX4 23 RX1) (by decide +kernel)) (hts (.instantiable RX1 7) (by decide +kernel)) (hts (.initialized RX1) (by decide +kernel)) hK.1 hP hD hS hA rfl (fun j hj => by rcases (show j = 0 ∨ j = 1 ∨ j = 2 ∨ j = 3 ∨ j = 4 ∨ j = 5 ∨ j = 6 by omega) with rfl | rfl | rfl | rfl | rfl | rfl | rfl <;> rfl) (Nat.le_of_ble_eq_true rfl) (Nat.le_of_ble_eq_true rfl) dX4_init_27 (fun n1 H hP hD hS => ?_)
  refine W.widen (k := 12) (n := 238) (Nat.le_of_ble_eq_true rfl) (Nat.le_of_ble_eq_true rfl) ?_
  have hP : va_P D vwCl ([(h0, .inr (4, [.ref (u3 2), .ref (u0 9), .null, .null, .null, .int 0, .long 0]))] ++ wT u3 c ts0 ++ wH u0 c hs0 ++ [(n1, .inr (1, [.null, .int 0, .int 0, .int 0, .long 0, .long 0, .int 0]))]) H := hP
  have hD : va_D (va_A [(h0, .inr (4, [.null, .null, .null, .null, .null, .int 0, .long 0]))] s.heap.size) ([(h0, .inr (4, [.ref (u3 2), .ref (u0 9), .null, .null, .null, .int 0, .long 0]))] ++ wT u3 c ts0 ++ wH u0 c hs0 ++ [(n1, .inr (1, [.null, .int 0, .int 0, .int 0, .long 0, .long 0, .int 0]))]) := hD
  refine lv_dup hx hb dX4_init_30 rfl ?_
  refine cn_IN (Kp := KK D c) (wc := [(n1, .inr (1, [.null, .int 0, .int 0, .int 0, .long 0, .long 0, .int 0]))]) (wr := [(h0, .inr (4, [.ref (u3 2), .ref (u0 9), .null, .null, .null, .int 0, .long 0]))] ++ wT u3 c ts0 ++ wH u0 c hs0) (w1 := fun u => wP u c ps0) (wk := fun u => [(h0, .inr (4, [.ref (u3 2), .ref (u0 9), .null, .null, .null, .int 0, .long 0]))] ++ wT u3 c ts0 ++ wH u0 c hs0 ++ wP u c ps0) [12] [0, 1, 2, 3, 4, 5, 6, 7, 8, 9, 10, 11] [0, 1, 2, 3, 4, 5, 6, 7, 8, 9, 10, 11, 12, 13] ⟨hx, hb, hml, hown, hts⟩ (c_X1_init l D c n1) ⟨va_cnB 0 hts gX4_init_X1_init_n25 rfl rfl rfl hN.2.2.1 (hts (.initialized RX1) (by decide +kernel)) (by decide +kernel) ⟨Nat.le_of_ble_eq_true rfl, Nat.le_of_ble_eq_true rfl⟩, rfl, hts (.instanceMethod yX1_init) (by decide +kernel)⟩ hK (fun U hW => hK.moved hW) (fun U g mk a h => h.calling) hP hD hS hA rfl rfl (by decide) (by decide) (by decide) (by decide) (fun _ => rfl) hl.1 (Nat.le_of_ble_eq_true rfl) dX4_init_31 ⟨Nat.le_of_ble_eq_true rfl, Nat.le_of_ble_eq_true rfl⟩ (fun u1 H locs _ e1 hP9 hD9 hS9 => ?_)
  subst e1
  have hP := hP9
  have hD := hD9
  have hS := hS9
  refine W.widen (k := 13) (n := 258) (Nat.le_of_ble_eq_true rfl) (Nat.le_of_ble_eq_true rfl) ?_
  have hP : va_P D vwCl ([(h0, .inr (4, [.ref (u3 2), .ref (u0 9), .null, .null, .null, .int 0, .long 0]))] ++ wT u3 c ts0 ++ wH u0 c hs0 ++ wP u1 c ps0) H := hP
  have hD : va_D (va_A [(h0, .inr (4, [.null, .null, .null, .null, .null, .int 0, .long 0]))] s.heap.size) ([(h0, .inr (4, [.ref (u3 2), .ref (u0 9), .null, .null, .null, .int 0, .long 0]))] ++ wT u3 c ts0 ++ wH u0 c hs0 ++ wP u1 c ps0) := hD
  refine va_putF (D := D) (ci := 4) (v := .ref (u1 13)) (ty := .object "TestPicker$Plan") (C := RX4) (T := TX4) (N := 7) hx hb hts hin4 tyX4 tyX4_ok nmX4 hown hK.1 hP hD hS 0 rfl rfl 2 (by decide) (hts (.fieldLink RX4 26 "TestPicker" "plan" "LTestPicker$Plan;") (by decide +kernel)) (fun _ h9 => h9) rfl hni rfl (by decide +kernel) rfl rfl (Nat.le_of_ble_eq_true rfl) dX4_init_34 (fun H locs hP hD hS => ?_)
  have hP : va_P D vwCl ([(h0, .inr (4, [.ref (u3 2), .ref (u0 9), .ref (u1 13), .null, .null, .int 0, .long 0]))] ++ wT u3 c ts0 ++ wH u0 c hs0 ++ wP u1 c ps0) H := hP
  have hD : va_D (va_A [(h0, .inr (4, [.null, .null, .null, .null, .null, .int 0, .long 0]))] s.heap.size) ([(h0, .inr (4, [.ref (u3 2), .ref (u0 9), .ref (u1 13), .null, .null, .int 0, .long 0]))] ++ wT u3 c ts0 ++ wH u0 c hs0 ++ wP u1 c ps0) := hD
  refine lv_aload_n hx hb dX4_init_37 rfl (lv_at hl 0 rfl) ?_
  refine va_new (ci := 2) (fs := [.null, .null, .null, .null, .int 0, .null, .null, .null, .null, .int 0, .int 0, .long 0]) (C := RX2) (T := TX2) (N := 12) hx hb hts hin2 tyX2 tyX2_ok hown (hts (.classLink RX4 30 RX2) (by decide +kernel)) (hts (.instantiable RX2 12) (by decide +kernel)) (hts (.initialized RX2) (by decide +kernel)) hK.1 hP hD hS hA rfl (fun j hj => by rcases (show j = 0 ∨ j = 1 ∨ j = 2 ∨ j = 3 ∨ j = 4 ∨ j = 5 ∨ j = 6 ∨ j = 7 ∨ j = 8 ∨ j = 9 ∨ j = 10 ∨ j = 11 by omega) with rfl | rfl | rfl | rfl | rfl | rfl | rfl | rfl | rfl | rfl | rfl | rfl <;> rfl) (Nat.le_of_ble_eq_true rfl) (Nat.le_of_ble_eq_true rfl) dX4_init_38 (fun n2 H hP hD hS => ?_)
  refine W.widen (k := 14) (n := 270) (Nat.le_of_ble_eq_true rfl) (Nat.le_of_ble_eq_true rfl) ?_
  have hP : va_P D vwCl ([(h0, .inr (4, [.ref (u3 2), .ref (u0 9), .ref (u1 13), .null, .null, .int 0, .long 0]))] ++ wT u3 c ts0 ++ wH u0 c hs0 ++ wP u1 c ps0 ++ [(n2, .inr (2, [.null, .null, .null, .null, .int 0, .null, .null, .null, .null, .int 0, .int 0, .long 0]))]) H := hP
  have hD : va_D (va_A [(h0, .inr (4, [.null, .null, .null, .null, .null, .int 0, .long 0]))] s.heap.size) ([(h0, .inr (4, [.ref (u3 2), .ref (u0 9), .ref (u1 13), .null, .null, .int 0, .long 0]))] ++ wT u3 c ts0 ++ wH u0 c hs0 ++ wP u1 c ps0 ++ [(n2, .inr (2, [.null, .null, .null, .null, .int 0, .null, .null, .null, .null, .int 0, .int 0, .long 0]))]) := hD
  refine lv_dup hx hb dX4_init_41 rfl ?_
  refine cn_IN (Kp := KK D c) (wc := [(n2, .inr (2, [.null, .null, .null, .null, .int 0, .null, .null, .null, .null, .int 0, .int 0, .long 0]))]) (wr := [(h0, .inr (4, [.ref (u3 2), .ref (u0 9), .ref (u1 13), .null, .null, .int 0, .long 0]))] ++ wT u3 c ts0 ++ wH u0 c hs0 ++ wP u1 c ps0) (w1 := fun u => wS u c ss0) (wk := fun u => [(h0, .inr (4, [.ref (u3 2), .ref (u0 9), .ref (u1 13), .null, .null, .int 0, .long 0]))] ++ wT u3 c ts0 ++ wH u0 c hs0 ++ wP u1 c ps0 ++ wS u c ss0) [14] [0, 1, 2, 3, 4, 5, 6, 7, 8, 9, 10, 11, 12, 13] [0, 1, 2, 3, 4, 5, 6, 7, 8, 9, 10, 11, 12, 13, 14, 15, 16, 17, 18, 19, 20, 21, 22] ⟨hx, hb, hml, hown, hts⟩ (c_X2_init l D c n2) ⟨va_cnB 0 hts gX4_init_X2_init_n32 rfl rfl rfl hN.2.2.2 (hts (.initialized RX2) (by decide +kernel)) (by decide +kernel) ⟨Nat.le_of_ble_eq_true rfl, Nat.le_of_ble_eq_true rfl⟩, rfl, hts (.instanceMethod yX2_init) (by decide +kernel)⟩ hK (fun U hW => hK.moved hW) (fun U g mk a h => h.calling) hP hD hS hA rfl rfl (by decide) (by decide) (by decide) (by decide) (fun _ => rfl) hl.1 (Nat.le_of_ble_eq_true rfl) dX4_init_42 ⟨Nat.le_of_ble_eq_true rfl, Nat.le_of_ble_eq_true rfl⟩ (fun u2 H locs _ e2 hP9 hD9 hS9 => ?_)
  subst e2
  have hP := hP9
  have hD := hD9
  have hS := hS9
  refine W.widen (k := 22) (n := 370) (Nat.le_of_ble_eq_true rfl) (Nat.le_of_ble_eq_true rfl) ?_
  have hP : va_P D vwCl ([(h0, .inr (4, [.ref (u3 2), .ref (u0 9), .ref (u1 13), .null, .null, .int 0, .long 0]))] ++ wT u3 c ts0 ++ wH u0 c hs0 ++ wP u1 c ps0 ++ wS u2 c ss0) H := hP
  have hD : va_D (va_A [(h0, .inr (4, [.null, .null, .null, .null, .null, .int 0, .long 0]))] s.heap.size) ([(h0, .inr (4, [.ref (u3 2), .ref (u0 9), .ref (u1 13), .null, .null, .int 0, .long 0]))] ++ wT u3 c ts0 ++ wH u0 c hs0 ++ wP u1 c ps0 ++ wS u2 c ss0) := hD
  refine va_putF (D := D) (ci := 4) (v := .ref (u2 15)) (ty := .object "TestPicker$Sets") (C := RX4) (T := TX4) (N := 7) hx hb hts hin4 tyX4 tyX4_ok nmX4 hown hK.1 hP hD hS 0 rfl rfl 3 (by decide) (hts (.fieldLink RX4 33 "TestPicker" "sets" "LTestPicker$Sets;") (by decide +kernel)) (fun _ h9 => h9) rfl hni rfl (by decide +kernel) rfl rfl (Nat.le_of_ble_eq_true rfl) dX4_init_45 (fun H locs hP hD hS => ?_)
  have hP : va_P D vwCl ([(h0, .inr (4, [.ref (u3 2), .ref (u0 9), .ref (u1 13), .ref (u2 15), .null, .int 0, .long 0]))] ++ wT u3 c ts0 ++ wH u0 c hs0 ++ wP u1 c ps0 ++ wS u2 c ss0) H := hP
  have hD : va_D (va_A [(h0, .inr (4, [.null, .null, .null, .null, .null, .int 0, .long 0]))] s.heap.size) ([(h0, .inr (4, [.ref (u3 2), .ref (u0 9), .ref (u1 13), .ref (u2 15), .null, .int 0, .long 0]))] ++ wT u3 c ts0 ++ wH u0 c hs0 ++ wP u1 c ps0 ++ wS u2 c ss0) := hD
  refine lv_aload_n hx hb dX4_init_48 rfl (lv_at hl 0 rfl) ?_
  refine lv_iconst (v := 5) hx hb dX4_init_49 (by decide) ?_
  refine mk_i (N := 5) hx hb (hts (.arrayClass .int) (by decide +kernel)) hK hP hD hS hA (by decide) (by decide +kernel) (by decide) (Nat.le_of_ble_eq_true rfl) (Nat.le_of_ble_eq_true rfl) dX4_init_50 (fun a1 H hP hD hS => ?_)
  refine W.widen (k := 23) (n := 375) (Nat.le_of_ble_eq_true rfl) (Nat.le_of_ble_eq_true rfl) ?_
  have hP : va_P D vwCl ([(h0, .inr (4, [.ref (u3 2), .ref (u0 9), .ref (u1 13), .ref (u2 15), .null, .int 0, .long 0]))] ++ wT u3 c ts0 ++ wH u0 c hs0 ++ wP u1 c ps0 ++ wS u2 c ss0 ++ [(a1, .inl (c.1, 5, .inl (fun _ => 0)))]) H := hP
  have hD : va_D (va_A [(h0, .inr (4, [.null, .null, .null, .null, .null, .int 0, .long 0]))] s.heap.size) ([(h0, .inr (4, [.ref (u3 2), .ref (u0 9), .ref (u1 13), .ref (u2 15), .null, .int 0, .long 0]))] ++ wT u3 c ts0 ++ wH u0 c hs0 ++ wP u1 c ps0 ++ wS u2 c ss0 ++ [(a1, .inl (c.1, 5, .inl (fun _ => 0)))]) := hD
  refine va_putF (D := D) (ci := 4) (v := .ref a1) (ty := .array .int) (C := RX4) (T := TX4) (N := 7) hx hb hts hin4 tyX4 tyX4_ok nmX4 hown hK.1 hP hD hS 0 rfl rfl 4 (by decide) (hts (.fieldLink RX4 37 "TestPicker" "findingCounts" "[I") (by decide +kernel)) (fun _ h9 => h9) rfl hni rfl (by decide +kernel) rfl rfl (Nat.le_of_ble_eq_true rfl) dX4_init_52 (fun H locs hP hD hS => ?_)
  have hP : va_P D vwCl ([(h0, .inr (4, [.ref (u3 2), .ref (u0 9), .ref (u1 13), .ref (u2 15), .ref a1, .int 0, .long 0]))] ++ wT u3 c ts0 ++ wH u0 c hs0 ++ wP u1 c ps0 ++ wS u2 c ss0 ++ [(a1, .inl (c.1, 5, .inl (fun _ => 0)))]) H := hP
  have hD : va_D (va_A [(h0, .inr (4, [.null, .null, .null, .null, .null, .int 0, .long 0]))] s.heap.size) ([(h0, .inr (4, [.ref (u3 2), .ref (u0 9), .ref (u1 13), .ref (u2 15), .ref a1, .int 0, .long 0]))] ++ wT u3 c ts0 ++ wH u0 c hs0 ++ wP u1 c ps0 ++ wS u2 c ss0 ++ [(a1, .inl (c.1, 5, .inl (fun _ => 0)))]) := hD
  refine lv_aload_n hx hb dX4_init_55 rfl (lv_at hl 0 rfl) ?_
  refine lv_iconst (v := 0) hx hb dX4_init_56 (by decide) ?_
  refine va_put (D := D) (ci := 4) (v := .int 0) (ty := .int) (C := RX4) (T := TX4) (N := 7) hx hb hts hin4 tyX4 tyX4_ok nmX4 hown hK.1 hP hD hS 0 rfl rfl 5 (by decide) (hts (.fieldLink RX4 41 "TestPicker" "latestFinding" "I") (by decide +kernel)) (fun _ h9 => h9) rfl (by decide +kernel) rfl rfl (Nat.le_of_ble_eq_true rfl) dX4_init_57 (fun H locs hP hD hS => ?_)
  have hP : va_P D vwCl ([(h0, .inr (4, [.ref (u3 2), .ref (u0 9), .ref (u1 13), .ref (u2 15), .ref a1, .int 0, .long 0]))] ++ wT u3 c ts0 ++ wH u0 c hs0 ++ wP u1 c ps0 ++ wS u2 c ss0 ++ [(a1, .inl (c.1, 5, .inl (fun _ => 0)))]) H := hP
  have hD : va_D (va_A [(h0, .inr (4, [.null, .null, .null, .null, .null, .int 0, .long 0]))] s.heap.size) ([(h0, .inr (4, [.ref (u3 2), .ref (u0 9), .ref (u1 13), .ref (u2 15), .ref a1, .int 0, .long 0]))] ++ wT u3 c ts0 ++ wH u0 c hs0 ++ wP u1 c ps0 ++ wS u2 c ss0 ++ [(a1, .inl (c.1, 5, .inl (fun _ => 0)))]) := hD
  refine lv_aload_n hx hb dX4_init_60 rfl (lv_at hl 0 rfl) ?_
  refine lv_lconst (v := 0) hx hb dX4_init_61 (by decide) ?_
  refine va_put (D := D) (ci := 4) (v := .long 0) (ty := .long) (C := RX4) (T := TX4) (N := 7) hx hb hts hin4 tyX4 tyX4_ok nmX4 hown hK.1 hP hD hS 0 rfl rfl 6 (by decide) (hts (.fieldLink RX4 45 "TestPicker" "latestAnswer" "J") (by decide +kernel)) (fun _ h9 => h9) rfl (by decide +kernel) rfl rfl (Nat.le_of_ble_eq_true rfl) dX4_init_62 (fun H locs hP hD hS => ?_)
  have hP : va_P D vwCl ([(h0, .inr (4, [.ref (u3 2), .ref (u0 9), .ref (u1 13), .ref (u2 15), .ref a1, .int 0, .long 0]))] ++ wT u3 c ts0 ++ wH u0 c hs0 ++ wP u1 c ps0 ++ wS u2 c ss0 ++ [(a1, .inl (c.1, 5, .inl (fun _ => 0)))]) H := hP
  have hD : va_D (va_A [(h0, .inr (4, [.null, .null, .null, .null, .null, .int 0, .long 0]))] s.heap.size) ([(h0, .inr (4, [.ref (u3 2), .ref (u0 9), .ref (u1 13), .ref (u2 15), .ref a1, .int 0, .long 0]))] ++ wT u3 c ts0 ++ wH u0 c hs0 ++ wP u1 c ps0 ++ wS u2 c ss0 ++ [(a1, .inl (c.1, 5, .inl (fun _ => 0)))]) := hD
  obtain ⟨q9, hq9⟩ : ∃ q9 : Nat → Nat, q9 = (fun i => if i = 0 then h0 else if i = 1 then a1 else if i < 9 then u3 i else if i < 13 then u0 i else if i < 15 then u1 i else u2 i) := ⟨_, rfl⟩
  have hPm : ([0, 23, 1, 2, 3, 4, 5, 6, 7, 8, 9, 10, 11, 12, 13, 14, 15, 16, 17, 18, 19, 20, 21, 22] : List Nat).map (fun i => ([(h0, .inr (4, [.ref (u3 2), .ref (u0 9), .ref (u1 13), .ref (u2 15), .ref a1, .int 0, .long 0]))] ++ wT u3 c ts0 ++ wH u0 c hs0 ++ wP u1 c ps0 ++ wS u2 c ss0 ++ [(a1, .inl (c.1, 5, .inl (fun _ => 0)))])[i]?) = (wC q9 c cs0).map some := by subst hq9; rfl
  have hP9 := hP.sb hPm
  have hD9 := hD.sub [0, 23, 1, 2, 3, 4, 5, 6, 7, 8, 9, 10, 11, 12, 13, 14, 15, 16, 17, 18, 19, 20, 21, 22] (by decide) hPm
  exact W.vret hx hb hr (fun t ht _ => ⟨⟨q9, rfl, trivial, by subst hq9; rfl, by rw [ht]; exact hP9, hD9⟩, hS.F ht⟩) hS.2.2 dX4_init_65 hlk
