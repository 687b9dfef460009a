/-! my layer over the kit: one contract form for methods that only read, one for methods that write and make nothing -/
abbrev CT : Type := ClassId × ClassId × ClassId
abbrev tysC (c : CT) : List (ClassId × FieldType) := [(c.1, .int), (c.2.1, .long), (c.2.2, .boolean)]
def KK (D : va_G) (c : CT) (U : State) : Prop := va_K D vwCl (tysC c) U ∧ va_Nw (.methodLinkNest RX3 40 yX4_isIn RX4) U
theorem KK.moved {D : va_G} {c : CT} {s U : State} (hW : s.WarmedH U.vm) (h : KK D c s) : KK D c U := ⟨va_K.moved hW.alike h.1, va_Nw.warmM hW h.2⟩
theorem KK.calling {D : va_G} {c : CT} {U : State} {g : JFrame} {mk : MethodId} {a : Array Value} (h : KK D c U) : KK D c (U.calling g mk a) := ⟨va_K.moved (u := U) (U := U.calling g mk a) (Vm.Alike.refl U.vm) h.1, va_Nw.same (u := U) (U := U.calling g mk a) rfl rfl h.2⟩
def ROi (l : Launch) (y : MethodName) (ws : List Cond) (rm : Room) (av : List Value) (D : va_G) (c : CT) (w : va_W) (post : Int32) : Prop :=
  Met l y ws rm (va_Pc av (fun U => va_P D vwCl w U.heap ∧ KK D c U)) (vp_Si (fun r => r = post)) 0 0 (fun _ => False)
def ROl (l : Launch) (y : MethodName) (ws : List Cond) (rm : Room) (av : List Value) (D : va_G) (c : CT) (w : va_W) (post : Int64) : Prop :=
  Met l y ws rm (va_Pc av (fun U => va_P D vwCl w U.heap ∧ KK D c U)) (vp_Sl (fun r => r = post)) 0 0 (fun _ => False)
abbrev MPre (av : List Value) (D : va_G) (c : CT) (w : va_W) (sz : Nat) : Array Value → State → Prop := va_Pc av (fun U => U.heap.size = sz ∧ va_P D vwCl w U.heap ∧ KK D c U ∧ va_D (fun _ => True) w)
abbrev MB (D : va_G) (c : CT) (w w' : va_W) (sz : Nat) : Unit → State → Prop := fun _ t => va_P D vwCl w' t.heap ∧ va_D (va_A w sz) w'
def MUi (l : Launch) (y : MethodName) (ws : List Cond) (rm : Room) (av : List Value) (D : va_G) (c : CT) (w w' : va_W) (post : Int32) : Prop :=
  ∀ sz : Nat, Met l y ws rm (MPre av D c w sz) (va_Qi (fun (r : Int32) (_ : Unit) => r = post) (MB D c w w' sz) (va_A w sz)) 0 0 (va_A w sz)
def MUl (l : Launch) (y : MethodName) (ws : List Cond) (rm : Room) (av : List Value) (D : va_G) (c : CT) (w w' : va_W) (post : Int64) : Prop :=
  ∀ sz : Nat, Met l y ws rm (MPre av D c w sz) (va_Ql (fun (r : Int64) (_ : Unit) => r = post) (MB D c w w' sz) (va_A w sz)) 0 0 (va_A w sz)
def MUv (l : Launch) (y : MethodName) (ws : List Cond) (rm : Room) (av : List Value) (D : va_G) (c : CT) (w w' : va_W) : Prop :=
  ∀ sz : Nat, Met l y ws rm (MPre av D c w sz) (va_Qv (fun (_ : Unit) => True) (MB D c w w' sz) (va_A w sz)) 0 0 (va_A w sz)
section BASE
variable {p : Program} {l : Launch} {e : Env} {R : Room} {s : State} {m : MethodId} {args : Array Value} {below : List Frame} {meth : Method} {c0 : Code} {H H0 : Heap} {locs : List Loc} {cells slots : Nat} {Q : State → Prop} {A : Nat → Prop}
variable {y : MethodName} {cc bytes : ByteArray} {maxL nL n index pc : Nat} {ret : Option FieldType} {ws ws' Ts : List Cond} {rm : Room} {own C : String} {b : Nat} {As rest st0 : List Value} {ls : Array Slot} {D : va_G} {c : CT} {w w1 wc wr wk : va_W} {av : List Value}
/-! ### starts -/
theorem ro_starti {post : Int32} (hy : plainName y.cls = true) (hw : ws = Cond.code y cc maxL ret :: ws') (hav : (lg_sl av).length ≤ maxL)
    (body : ∀ (p : Program) (e : Env) (s : State) (m : MethodId) (args : Array Value) (below : List Frame) (meth : Method) (c0 : Code) (ls : Array Slot), p.tables.exec = Jvm.exec → c0.code = cc → meth.sig.returnType = ret → c0.maxLocals = maxL → s.vm.findClass y.cls = some m.cls → (∀ w ∈ ws, w.before args s = true) → meth.locks = false → va_P D vwCl w s.heap → KK D c s → lv_has ls maxL (lv_args 0 av) →
      W p l e rm s m args below meth c0 s.heap [] 0 0 (MQ below (vp_Si (fun r => r = post)) args s 0 0 (fun _ => False)) (F0 m 0 ls [])) : ROi l y ws rm av D c w post := by
  refine Met.ofW (cc := cc) (maxL := maxL) (ret := ret) hy hw ?_
  intro p e s m args below meth c0 s₁ B hml hv
  obtain ⟨rfl, hP, hK⟩ := hv
  have hl := lv_entry av (n := maxL) hav
  rw [lg_entry_eq]
  exact body p e s m _ below meth c0 _ B.exec B.bytes B.returns hml (findClass_of_methodNamed B.named) (atoms_spec (ws := ws) B.pre) B.notSynchronized hP hK hl
theorem ro_startl {post : Int64} (hy : plainName y.cls = true) (hw : ws = Cond.code y cc maxL ret :: ws') (hav : (lg_sl av).length ≤ maxL)
    (body : ∀ (p : Program) (e : Env) (s : State) (m : MethodId) (args : Array Value) (below : List Frame) (meth : Method) (c0 : Code) (ls : Array Slot), p.tables.exec = Jvm.exec → c0.code = cc → meth.sig.returnType = ret → c0.maxLocals = maxL → s.vm.findClass y.cls = some m.cls → (∀ w ∈ ws, w.before args s = true) → meth.locks = false → va_P D vwCl w s.heap → KK D c s → lv_has ls maxL (lv_args 0 av) →
      W p l e rm s m args below meth c0 s.heap [] 0 0 (MQ below (vp_Sl (fun r => r = post)) args s 0 0 (fun _ => False)) (F0 m 0 ls [])) : ROl l y ws rm av D c w post := by
  refine Met.ofW (cc := cc) (maxL := maxL) (ret := ret) hy hw ?_
  intro p e s m args below meth c0 s₁ B hml hv
  obtain ⟨rfl, hP, hK⟩ := hv
  have hl := lv_entry av (n := maxL) hav
  rw [lg_entry_eq]
  exact body p e s m _ below meth c0 _ B.exec B.bytes B.returns hml (findClass_of_methodNamed B.named) (atoms_spec (ws := ws) B.pre) B.notSynchronized hP hK hl
theorem mu_start {Qc : Nat → Array Value → State → Outcome → State → Prop} {mc ms : Nat} {fr : Nat → Addr → Prop} (hy : plainName y.cls = true) (hw : ws = Cond.code y cc maxL ret :: ws') (hav : (lg_sl av).length ≤ maxL)
    (body : ∀ (p : Program) (e : Env) (s : State) (m : MethodId) (args : Array Value) (below : List Frame) (meth : Method) (c0 : Code) (ls : Array Slot), p.tables.exec = Jvm.exec → c0.code = cc → meth.sig.returnType = ret → c0.maxLocals = maxL → s.vm.findClass y.cls = some m.cls → (∀ w ∈ ws, w.before args s = true) → meth.locks = false → (y.name = meth.name) → va_P D vwCl w s.heap → KK D c s → va_D (va_A w s.heap.size) w → va_S (va_A w s.heap.size) s.heap s.heap [] → (∀ q : Nat, s.heap.size ≤ q → va_A w s.heap.size q) → lv_has ls maxL (lv_args 0 av) →
      W p l e rm s m args below meth c0 s.heap [] 0 0 (MQ below (Qc s.heap.size) args s mc ms (fr s.heap.size)) (F0 m 0 ls [])) : ∀ sz : Nat, Met l y ws rm (MPre av D c w sz) (Qc sz) mc ms (fr sz) := by
  intro sz
  refine Met.ofW (cc := cc) (maxL := maxL) (ret := ret) hy hw ?_
  intro p e s m args below meth c0 s₁ B hml hv
  obtain ⟨rfl, hsz, hP, hK, hD⟩ := hv
  subst hsz
  have hl := lv_entry av (n := maxL) hav
  rw [lg_entry_eq]
  exact body p e s m _ below meth c0 _ B.exec B.bytes B.returns hml (findClass_of_methodNamed B.named) (atoms_spec (ws := ws) B.pre) B.notSynchronized (name_of_methodNamed B.named B.method).1.symm hP hK (hD.self (sz := s.heap.size)) va_S.rf (fun q h => Or.inr h) hl
/-! ### ends -/
theorem ro_reti {post v : Int32} (hx : p.tables.exec = Jvm.exec) (hb : c0.code = cc) (hr : meth.sig.returnType = some .int) (hlocks : meth.locks = false) (hv : v = post) (hdg : decode cc pc = .ok (.ireturn, 1)) :
    W p l e R s m args below meth c0 s.heap [] 0 0 (MQ below (vp_Si (fun r => r = post)) args s 0 0 (fun _ => False)) (F0 m pc ls [.int v]) :=
  W.iret hx hb hr (fun t ht _ => ⟨v, rfl, hv, ht⟩) (fun _ h => by cases h) hdg hlocks
theorem ro_retz {post v : Int32} (hx : p.tables.exec = Jvm.exec) (hb : c0.code = cc) (hr : meth.sig.returnType = some .boolean) (hlocks : meth.locks = false) (hn : v = 0 ∨ v = 1) (hv : v = post) (hdg : decode cc pc = .ok (.ireturn, 1)) :
    W p l e R s m args below meth c0 s.heap [] 0 0 (MQ below (vp_Si (fun r => r = post)) args s 0 0 (fun _ => False)) (F0 m pc ls [.int v]) :=
  W.zret hx hb hr (by rcases hn with rfl | rfl <;> rfl) (fun t ht _ => ⟨v, rfl, hv, ht⟩) (fun _ h => by cases h) hdg hlocks
theorem ro_retl {post v : Int64} (hx : p.tables.exec = Jvm.exec) (hb : c0.code = cc) (hr : meth.sig.returnType = some .long) (hlocks : meth.locks = false) (hv : v = post) (hdg : decode cc pc = .ok (.lreturn, 1)) :
    W p l e R s m args below meth c0 s.heap [] 0 0 (MQ below (vp_Sl (fun r => r = post)) args s 0 0 (fun _ => False)) (F0 m pc ls [.long v]) :=
  W.lret hx hb hr (fun t ht _ => ⟨v, rfl, hv, ht⟩) (fun _ h => by cases h) hdg hlocks
theorem mu_reti {post v : Int32} (hx : p.tables.exec = Jvm.exec) (hb : c0.code = cc) (hr : meth.sig.returnType = some .int) (hlocks : meth.locks = false) (hP : va_P D vwCl w1 H) (hD : va_D (va_A w s.heap.size) w1) (hS : va_S (va_A w s.heap.size) s.heap H locs) (hv : v = post) (hdg : decode cc pc = .ok (.ireturn, 1)) :
    W p l e R s m args below meth c0 H locs 0 0 (MQ below (va_Qi (fun (r : Int32) (_ : Unit) => r = post) (MB D c w w1 s.heap.size) (va_A w s.heap.size)) args s 0 0 (va_A w s.heap.size)) (F0 m pc ls [.int v]) :=
  W.iret hx hb hr (fun t ht _ => ⟨⟨v, (), rfl, hv, by rw [ht]; exact hP, hD⟩, hS.F ht⟩) hS.2.2 hdg hlocks
theorem mu_retl {post v : Int64} (hx : p.tables.exec = Jvm.exec) (hb : c0.code = cc) (hr : meth.sig.returnType = some .long) (hlocks : meth.locks = false) (hP : va_P D vwCl w1 H) (hD : va_D (va_A w s.heap.size) w1) (hS : va_S (va_A w s.heap.size) s.heap H locs) (hv : v = post) (hdg : decode cc pc = .ok (.lreturn, 1)) :
    W p l e R s m args below meth c0 H locs 0 0 (MQ below (va_Ql (fun (r : Int64) (_ : Unit) => r = post) (MB D c w w1 s.heap.size) (va_A w s.heap.size)) args s 0 0 (va_A w s.heap.size)) (F0 m pc ls [.long v]) :=
  W.lret hx hb hr (fun t ht _ => ⟨⟨v, (), rfl, hv, by rw [ht]; exact hP, hD⟩, hS.F ht⟩) hS.2.2 hdg hlocks
theorem mu_retv (hx : p.tables.exec = Jvm.exec) (hb : c0.code = cc) (hr : meth.sig.returnType = none) (hlocks : meth.locks = false) (hP : va_P D vwCl w1 H) (hD : va_D (va_A w s.heap.size) w1) (hS : va_S (va_A w s.heap.size) s.heap H locs) (hdg : decode cc pc = .ok (.return_, 1)) :
    W p l e R s m args below meth c0 H locs 0 0 (MQ below (va_Qv (fun (_ : Unit) => True) (MB D c w w1 s.heap.size) (va_A w s.heap.size)) args s 0 0 (va_A w s.heap.size)) (F0 m pc ls []) :=
  W.vret hx hb hr (fun t ht _ => ⟨⟨(), rfl, trivial, by rw [ht]; exact hP, hD⟩, hS.F ht⟩) hS.2.2 hdg hlocks
/-! ### calls of readers -/
theorem ro_preV {post : Prop} (hP : va_P D vwCl wc H) (hK : KK D c s) (hrecv : ∃ cellB : Cell, H[b]? = some cellB ∧ cellB.vm.isStatics = false ∧ s.vm.findClass C = some cellB.cls) : PreV s H C b (va_Pc (.ref b :: As) (fun U => va_P D vwCl wc U.heap ∧ KK D c U)) As :=
  ⟨fun a U g mk q => ⟨q.1, q.2.1, q.2.2.calling⟩, hrecv, fun U hU hW => ⟨rfl, by rw [hU]; exact hP, hK.moved hW⟩⟩
theorem ro_preS (hP : va_P D vwCl wc H) (hK : KK D c s) : PreS s H (va_Pc As (fun U => va_P D vwCl wc U.heap ∧ KK D c U)) As :=
  ⟨fun a U g mk q => ⟨q.1, q.2.1, q.2.2.calling⟩, fun U hU hW => ⟨rfl, by rw [hU]; exact hP, hK.moved hW⟩⟩
theorem ro_Vi {post : Int32} (S : CallFix p m c0 cc nL s args Ts own) (hM : ROi l y ws rm (.ref b :: As) D c wc post) (cw : CallW R s args own C index y bytes maxL ret ws rm 0 0 n) (hP : va_P D vwCl wc H) (hK : KK D c s) (hrecv : ∃ cellB : Cell, H[b]? = some cellB ∧ cellB.vm.isStatics = false ∧ s.vm.findClass C = some cellB.cls)
    (hn : As.length = n) (hsize : ls.size = nL) (hstack : st0 = As.reverse ++ .ref b :: rest) (hW : (rest.map fun v => v.category).sum ≤ 8) (hdg : decode cc pc = .ok (.invokevirtual index, 3)) (hf : cells ≤ R.cells ∧ slots ≤ R.slots)
    (kk : W p l e R s m args below meth c0 H locs cells slots Q (F0 m (pc + 3) ls (.int post :: rest))) : W p l e R s m args below meth c0 H locs cells slots Q (F0 m pc ls st0) :=
  vp_callSi (va_runV (g := F0 m pc ls st0) S hM cw (ro_preV (post := True) hP hK hrecv) rfl hn hsize hstack (lv_room (rest := st0) hW) hdg hf).run (fun r hr => by subst hr; exact kk)
theorem ro_Vl {post : Int64} (S : CallFix p m c0 cc nL s args Ts own) (hM : ROl l y ws rm (.ref b :: As) D c wc post) (cw : CallW R s args own C index y bytes maxL ret ws rm 0 0 n) (hP : va_P D vwCl wc H) (hK : KK D c s) (hrecv : ∃ cellB : Cell, H[b]? = some cellB ∧ cellB.vm.isStatics = false ∧ s.vm.findClass C = some cellB.cls)
    (hn : As.length = n) (hsize : ls.size = nL) (hstack : st0 = As.reverse ++ .ref b :: rest) (hW : (rest.map fun v => v.category).sum ≤ 8) (hdg : decode cc pc = .ok (.invokevirtual index, 3)) (hf : cells ≤ R.cells ∧ slots ≤ R.slots)
    (kk : W p l e R s m args below meth c0 H locs cells slots Q (F0 m (pc + 3) ls (.long post :: rest))) : W p l e R s m args below meth c0 H locs cells slots Q (F0 m pc ls st0) :=
  vp_callSl (va_runV (g := F0 m pc ls st0) S hM cw (ro_preV (post := True) hP hK hrecv) rfl hn hsize hstack (lv_room (rest := st0) hW) hdg hf).run (fun r hr => by subst hr; exact kk)
theorem ro_Si {post : Int32} (S : CallFix p m c0 cc nL s args Ts own) (hM : ROi l y ws rm As D c wc post) (cw : CallB R s args own index y bytes maxL ret ws rm 0 0 n ∧ (Cond.static y).before args s = true) (hP : va_P D vwCl wc H) (hK : KK D c s)
    (hn : As.length = n) (hsize : ls.size = nL) (hstack : st0 = As.reverse ++ rest) (hW : (rest.map fun v => v.category).sum ≤ 8) (hdg : decode cc pc = .ok (.invokestatic index, 3)) (hf : cells ≤ R.cells ∧ slots ≤ R.slots)
    (kk : W p l e R s m args below meth c0 H locs cells slots Q (F0 m (pc + 3) ls (.int post :: rest))) : W p l e R s m args below meth c0 H locs cells slots Q (F0 m pc ls st0) :=
  vp_callSi (va_runS (g := F0 m pc ls st0) S hM cw (ro_preS hP hK) rfl hn hsize hstack (lv_room (rest := st0) hW) hdg hf).run (fun r hr => by subst hr; exact kk)
theorem ro_SNi {post : Int32} {host : String} (S : CallFix p m c0 cc nL s args Ts own) (hM : ROi l y ws rm As D c wc post) (cw : va_CN R s args own index y host bytes maxL ret ws rm 0 0 n ∧ (Cond.static y).before args s = true ∧ True) (hP : va_P D vwCl wc H) (hK : KK D c s)
    (hn : As.length = n) (hsize : ls.size = nL) (hstack : st0 = As.reverse ++ rest) (hW : (rest.map fun v => v.category).sum ≤ 8) (hdg : decode cc pc = .ok (.invokestatic index, 3)) (hf : cells ≤ R.cells ∧ slots ≤ R.slots)
    (kk : W p l e R s m args below meth c0 H locs cells slots Q (F0 m (pc + 3) ls (.int post :: rest))) : W p l e R s m args below meth c0 H locs cells slots Q (F0 m pc ls st0) :=
  vp_callSi (va_runSN (g := F0 m pc ls st0) S hM cw (ro_preS hP hK) rfl hn hsize hstack (lv_room (rest := st0) hW) hdg hf).run (fun r hr => by subst hr; exact kk)
/-! ### calls of writers -/
theorem mu_preV (hP : va_P D vwCl wc H) (hD : va_D A wc) (hK : KK D c s) (hrecv : ∃ cellB : Cell, H[b]? = some cellB ∧ cellB.vm.isStatics = false ∧ s.vm.findClass C = some cellB.cls) : PreV s H C b (MPre (.ref b :: As) D c wc H.size) As :=
  ⟨fun a U g mk q => ⟨q.1, q.2.1, q.2.2.1, q.2.2.2.1.calling, q.2.2.2.2⟩, hrecv, fun U hU hW => ⟨rfl, by rw [hU], by rw [hU]; exact hP, hK.moved hW, hD.weaken (fun _ _ _ _ => trivial)⟩⟩
/-- behind a writer's call: the caller's world again, in its own order -/
theorem mu_back {A0 : Nat → Prop} {H1 : Heap} (hP : va_P D vwCl w H) (hD : va_D A0 w) (hS : va_S A0 H0 H locs) (hA : ∀ q : Nat, H0.size ≤ q → A0 q) (isC isR perm : List Nat) (hC : isC.map (fun i => w[i]?) = wc.map some) (hR : isR.map (fun i => w[i]?) = wr.map some) (hn : va_nd isR = true) (hdis : ∀ i ∈ isR, i ∉ isC)
    (hk : ∀ q : Nat, q < H.size → ¬ va_A wc H.size q → H1[q]? = H[q]?) (hP1 : va_P D vwCl w1 H1) (hD1 : va_D (va_A wc H.size) w1) (hpn : va_nd perm = true) (hpm : perm.map (fun i => (wr ++ w1)[i]?) = wk.map some) : va_P D vwCl wk H1 ∧ va_D A0 wk := by
  obtain ⟨hP2, hD2⟩ := va_join hP hD isC isR hC hR hn hdis hk (va_free hD hS hA isC hC) hP1 hD1
  refine ⟨?_, hD2.sub perm hpn hpm⟩
  intro k q hkq
  have h1 : (perm.map (fun i => (wr ++ w1)[i]?))[k]? = some (some q) := by rw [hpm, List.getElem?_map, hkq]; rfl
  rw [List.getElem?_map] at h1
  cases hi : perm[k]? with
  | none => rw [hi] at h1; cases h1
  | some i => rw [hi] at h1; exact hP2 i q (Option.some.inj h1)
theorem va_P.sb {is : List Nat} (hP : va_P D vwCl w H) (hs : is.map (fun i => w[i]?) = w1.map some) : va_P D vwCl w1 H := by
  intro k q hkq
  have h1 : (is.map (fun i => w[i]?))[k]? = some (some q) := by rw [hs, List.getElem?_map, hkq]; rfl
  rw [List.getElem?_map] at h1
  cases hi : is[k]? with
  | none => rw [hi] at h1; cases h1
  | some i => rw [hi] at h1; exact hP i q (Option.some.inj h1)
theorem mu_Vi {post : Int32} {A0 : Nat → Prop} (isC isR perm : List Nat) (S : CallFix p m c0 cc nL s args Ts own) (hM : MUi l y ws rm (.ref b :: As) D c wc w1 post) (cw : CallW R s args own C index y bytes maxL ret ws rm 0 0 n) (hP : va_P D vwCl w H) (hK : KK D c s) (hD : va_D A0 w) (hS : va_S A0 H0 H locs) (hA : ∀ q : Nat, H0.size ≤ q → A0 q) (hrecv : ∃ cellB : Cell, H[b]? = some cellB ∧ cellB.vm.isStatics = false ∧ s.vm.findClass C = some cellB.cls)
    (hC : isC.map (fun i => w[i]?) = wc.map some) (hR : isR.map (fun i => w[i]?) = wr.map some) (hcn : va_nd isC = true) (hrn : va_nd isR = true) (hdis : ∀ i ∈ isR, i ∉ isC) (hpn : va_nd perm = true) (hpm : perm.map (fun i => (wr ++ w1)[i]?) = wk.map some)
    (hn : As.length = n) (hsize : ls.size = nL) (hstack : st0 = As.reverse ++ .ref b :: rest) (hW : (rest.map fun v => v.category).sum ≤ 8) (hdg : decode cc pc = .ok (.invokevirtual index, 3)) (hf : cells ≤ R.cells ∧ slots ≤ R.slots)
    (kk : ∀ (H1 : Heap) (locs1 : List Loc), va_P D vwCl wk H1 → va_D A0 wk → va_S A0 H0 H1 locs1 → W p l e R s m args below meth c0 H1 locs1 cells slots Q (F0 m (pc + 3) ls (.int post :: rest))) : W p l e R s m args below meth c0 H locs cells slots Q (F0 m pc ls st0) := by
  have hF := va_free hD hS hA isC hC
  refine va_calli (va_runV (g := F0 m pc ls st0) S (hM H.size) cw (mu_preV (hP.sb hC) (hD.sub isC hcn hC) hK hrecv) rfl hn hsize hstack (lv_room (rest := st0) hW) hdg hf) hS (fun q _ h => hF q h) hF (fun r u t H1 locs1 ht hvm hw hB hz1 hk1 hS1 => ?_)
  subst hw
  obtain ⟨hP1, hD1⟩ := hB
  rw [ht] at hP1
  obtain ⟨hP2, hD2⟩ := mu_back hP hD hS hA isC isR perm hC hR hrn hdis hk1 hP1 hD1 hpn hpm
  exact kk H1 locs1 hP2 hD2 hS1
theorem mu_Vl {post : Int64} {A0 : Nat → Prop} (isC isR perm : List Nat) (S : CallFix p m c0 cc nL s args Ts own) (hM : MUl l y ws rm (.ref b :: As) D c wc w1 post) (cw : CallW R s args own C index y bytes maxL ret ws rm 0 0 n) (hP : va_P D vwCl w H) (hK : KK D c s) (hD : va_D A0 w) (hS : va_S A0 H0 H locs) (hA : ∀ q : Nat, H0.size ≤ q → A0 q) (hrecv : ∃ cellB : Cell, H[b]? = some cellB ∧ cellB.vm.isStatics = false ∧ s.vm.findClass C = some cellB.cls)
    (hC : isC.map (fun i => w[i]?) = wc.map some) (hR : isR.map (fun i => w[i]?) = wr.map some) (hcn : va_nd isC = true) (hrn : va_nd isR = true) (hdis : ∀ i ∈ isR, i ∉ isC) (hpn : va_nd perm = true) (hpm : perm.map (fun i => (wr ++ w1)[i]?) = wk.map some)
    (hn : As.length = n) (hsize : ls.size = nL) (hstack : st0 = As.reverse ++ .ref b :: rest) (hW : (rest.map fun v => v.category).sum ≤ 8) (hdg : decode cc pc = .ok (.invokevirtual index, 3)) (hf : cells ≤ R.cells ∧ slots ≤ R.slots)
    (kk : ∀ (H1 : Heap) (locs1 : List Loc), va_P D vwCl wk H1 → va_D A0 wk → va_S A0 H0 H1 locs1 → W p l e R s m args below meth c0 H1 locs1 cells slots Q (F0 m (pc + 3) ls (.long post :: rest))) : W p l e R s m args below meth c0 H locs cells slots Q (F0 m pc ls st0) := by
  have hF := va_free hD hS hA isC hC
  refine va_calll (va_runV (g := F0 m pc ls st0) S (hM H.size) cw (mu_preV (hP.sb hC) (hD.sub isC hcn hC) hK hrecv) rfl hn hsize hstack (lv_room (rest := st0) hW) hdg hf) hS (fun q _ h => hF q h) hF (fun r u t H1 locs1 ht hvm hw hB hz1 hk1 hS1 => ?_)
  subst hw
  obtain ⟨hP1, hD1⟩ := hB
  rw [ht] at hP1
  obtain ⟨hP2, hD2⟩ := mu_back hP hD hS hA isC isR perm hC hR hrn hdis hk1 hP1 hD1 hpn hpm
  exact kk H1 locs1 hP2 hD2 hS1
theorem mu_Vv {A0 : Nat → Prop} (isC isR perm : List Nat) (S : CallFix p m c0 cc nL s args Ts own) (hM : MUv l y ws rm (.ref b :: As) D c wc w1) (cw : CallW R s args own C index y bytes maxL ret ws rm 0 0 n) (hP : va_P D vwCl w H) (hK : KK D c s) (hD : va_D A0 w) (hS : va_S A0 H0 H locs) (hA : ∀ q : Nat, H0.size ≤ q → A0 q) (hrecv : ∃ cellB : Cell, H[b]? = some cellB ∧ cellB.vm.isStatics = false ∧ s.vm.findClass C = some cellB.cls)
    (hC : isC.map (fun i => w[i]?) = wc.map some) (hR : isR.map (fun i => w[i]?) = wr.map some) (hcn : va_nd isC = true) (hrn : va_nd isR = true) (hdis : ∀ i ∈ isR, i ∉ isC) (hpn : va_nd perm = true) (hpm : perm.map (fun i => (wr ++ w1)[i]?) = wk.map some)
    (hn : As.length = n) (hsize : ls.size = nL) (hstack : st0 = As.reverse ++ .ref b :: rest) (hW : (rest.map fun v => v.category).sum ≤ 8) (hdg : decode cc pc = .ok (.invokevirtual index, 3)) (hf : cells ≤ R.cells ∧ slots ≤ R.slots)
    (kk : ∀ (H1 : Heap) (locs1 : List Loc), va_P D vwCl wk H1 → va_D A0 wk → va_S A0 H0 H1 locs1 → W p l e R s m args below meth c0 H1 locs1 cells slots Q (F0 m (pc + 3) ls rest)) : W p l e R s m args below meth c0 H locs cells slots Q (F0 m pc ls st0) := by
  have hF := va_free hD hS hA isC hC
  refine va_callv (va_runV (g := F0 m pc ls st0) S (hM H.size) cw (mu_preV (hP.sb hC) (hD.sub isC hcn hC) hK hrecv) rfl hn hsize hstack (lv_room (rest := st0) hW) hdg hf) hS (fun q _ h => hF q h) hF (fun u t H1 locs1 ht hvm hw hB hz1 hk1 hS1 => ?_)
  obtain ⟨hP1, hD1⟩ := hB
  rw [ht] at hP1
  obtain ⟨hP2, hD2⟩ := mu_back hP hD hS hA isC isR perm hC hR hrn hdis hk1 hP1 hD1 hpn hpm
  exact kk H1 locs1 hP2 hD2 hS1
/-! ### arrays at a known place; a number on the stack under another name -/
theorem tp_i {x z : Int32} (h : x = z) (k : W p l e R s m args below meth c0 H locs cells slots Q (F0 m pc ls (.int z :: rest))) : W p l e R s m args below meth c0 H locs cells slots Q (F0 m pc ls (.int x :: rest)) := by subst h; exact k
theorem tp_l {x z : Int64} (h : x = z) (k : W p l e R s m args below meth c0 H locs cells slots Q (F0 m pc ls (.long z :: rest))) : W p l e R s m args below meth c0 H locs cells slots Q (F0 m pc ls (.long x :: rest)) := by subst h; exact k
theorem in_nI {i N : Nat} (h : i < N) (hN : N < 2147483648) : vp_in (nI i) N := vp_in_nI h hN
theorem cl_nI {i N : Nat} (h : i < N) (hN : N < 2147483648) : (nI i).toNatClampNeg = i := nI_clamp (Nat.lt_trans h hN)
theorem ld_i (hx : p.tables.exec = Jvm.exec) (hb : c0.code = cc) (hK : KK D c s) (hP : va_P D vwCl w H) (q0 : Nat) {a N : Nat} {f : Nat → Int32} (ha : w[q0]? = some (a, .inl (c.1, N, .inl f))) {i : Nat} (hi : i < N) (hN : N < 2147483648) (hdg : decode cc pc = .ok (.iaload, 1))
    (kk : W p l e R s m args below meth c0 H locs cells slots Q (F0 m (pc + 1) ls (.int (f i) :: rest))) : W p l e R s m args below meth c0 H locs cells slots Q (F0 m pc ls (.int (nI i) :: .ref a :: rest)) :=
  va_iald hx hb hK.1 hP q0 0 ha rfl (in_nI hi hN) hdg (by rw [cl_nI hi hN]; exact kk)
theorem ld_l (hx : p.tables.exec = Jvm.exec) (hb : c0.code = cc) (hK : KK D c s) (hP : va_P D vwCl w H) (q0 : Nat) {a N : Nat} {f : Nat → Int64} (ha : w[q0]? = some (a, .inl (c.2.1, N, .inr (.inl f)))) {i : Nat} (hi : i < N) (hN : N < 2147483648) (hdg : decode cc pc = .ok (.laload, 1))
    (kk : W p l e R s m args below meth c0 H locs cells slots Q (F0 m (pc + 1) ls (.long (f i) :: rest))) : W p l e R s m args below meth c0 H locs cells slots Q (F0 m pc ls (.int (nI i) :: .ref a :: rest)) :=
  va_lald hx hb hK.1 hP q0 1 ha rfl (in_nI hi hN) hdg (by rw [cl_nI hi hN]; exact kk)
theorem ld_z (hx : p.tables.exec = Jvm.exec) (hb : c0.code = cc) (hK : KK D c s) (hP : va_P D vwCl w H) (q0 : Nat) {a N : Nat} {f : Nat → Int32} (ha : w[q0]? = some (a, .inl (c.2.2, N, .inl f))) {i : Nat} (hi : i < N) (hN : N < 2147483648) (hdg : decode cc pc = .ok (.baload, 1))
    (kk : W p l e R s m args below meth c0 H locs cells slots Q (F0 m (pc + 1) ls (.int (f i) :: rest))) : W p l e R s m args below meth c0 H locs cells slots Q (F0 m pc ls (.int (nI i) :: .ref a :: rest)) :=
  va_zald hx hb hK.1 hP q0 2 ha rfl (in_nI hi hN) hdg (by rw [cl_nI hi hN]; exact kk)
theorem st_i (hx : p.tables.exec = Jvm.exec) (hb : c0.code = cc) (hK : KK D c s) (hP : va_P D vwCl w H) (hD : va_D A w) (hS : va_S A H0 H locs) (q0 : Nat) {a N : Nat} {f : Nat → Int32} (ha : w[q0]? = some (a, .inl (c.1, N, .inl f))) {i : Nat} {x : Int32} (hi : i < N) (hN : N < 2147483648) (hdg : decode cc pc = .ok (.iastore, 1))
    (kk : ∀ (H1 : Heap) (locs1 : List Loc), va_P D vwCl (w.set q0 (a, .inl (c.1, N, .inl (upd f i x)))) H1 → va_D A (w.set q0 (a, .inl (c.1, N, .inl (upd f i x)))) → va_S A H0 H1 locs1 → W p l e R s m args below meth c0 H1 locs1 cells slots Q (F0 m (pc + 1) ls rest)) : W p l e R s m args below meth c0 H locs cells slots Q (F0 m pc ls (.int x :: .int (nI i) :: .ref a :: rest)) :=
  va_iast hx hb hK.1 hP hD hS q0 0 ha rfl (in_nI hi hN) hdg (by rw [cl_nI hi hN]; exact kk)
theorem st_l (hx : p.tables.exec = Jvm.exec) (hb : c0.code = cc) (hK : KK D c s) (hP : va_P D vwCl w H) (hD : va_D A w) (hS : va_S A H0 H locs) (q0 : Nat) {a N : Nat} {f : Nat → Int64} (ha : w[q0]? = some (a, .inl (c.2.1, N, .inr (.inl f)))) {i : Nat} {x : Int64} (hi : i < N) (hN : N < 2147483648) (hdg : decode cc pc = .ok (.lastore, 1))
    (kk : ∀ (H1 : Heap) (locs1 : List Loc), va_P D vwCl (w.set q0 (a, .inl (c.2.1, N, .inr (.inl (vp_updL f i x))))) H1 → va_D A (w.set q0 (a, .inl (c.2.1, N, .inr (.inl (vp_updL f i x))))) → va_S A H0 H1 locs1 → W p l e R s m args below meth c0 H1 locs1 cells slots Q (F0 m (pc + 1) ls rest)) : W p l e R s m args below meth c0 H locs cells slots Q (F0 m pc ls (.long x :: .int (nI i) :: .ref a :: rest)) :=
  va_last hx hb hK.1 hP hD hS q0 1 ha rfl (in_nI hi hN) hdg (by rw [cl_nI hi hN]; exact kk)
theorem st_z (hx : p.tables.exec = Jvm.exec) (hb : c0.code = cc) (hK : KK D c s) (hP : va_P D vwCl w H) (hD : va_D A w) (hS : va_S A H0 H locs) (q0 : Nat) {a N : Nat} {f : Nat → Int32} (ha : w[q0]? = some (a, .inl (c.2.2, N, .inl f))) {i : Nat} {x : Int32} (hi : i < N) (hN : N < 2147483648) (hz : vp_nar .boolean x = x) (hdg : decode cc pc = .ok (.bastore, 1))
    (kk : ∀ (H1 : Heap) (locs1 : List Loc), va_P D vwCl (w.set q0 (a, .inl (c.2.2, N, .inl (upd f i x)))) H1 → va_D A (w.set q0 (a, .inl (c.2.2, N, .inl (upd f i x)))) → va_S A H0 H1 locs1 → W p l e R s m args below meth c0 H1 locs1 cells slots Q (F0 m (pc + 1) ls rest)) : W p l e R s m args below meth c0 H locs cells slots Q (F0 m pc ls (.int x :: .int (nI i) :: .ref a :: rest)) :=
  va_zast hx hb hK.1 hP hD hS q0 2 ha rfl (in_nI hi hN) hdg (by rw [cl_nI hi hN, hz]; exact kk)
theorem nI_inc (i : Nat) : nI i + Int32.ofInt 1 = nI (i + 1) := nI_1 i
end BASE
