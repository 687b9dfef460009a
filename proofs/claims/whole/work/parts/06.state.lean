/-! the states as plain numbers, and the cells that hold them -/
abbrev TS : Type := (Nat → Int32) × (Nat → Int32) × (Nat → Int32) × (Nat → Int32) × (Nat → Int64) × (Nat → Int32) × Nat
abbrev tKd (t : TS) : Nat → Int32 := t.1
abbrev tOt (t : TS) : Nat → Int32 := t.2.1
abbrev tNd (t : TS) : Nat → Int32 := t.2.2.1
abbrev tCh (t : TS) : Nat → Int32 := t.2.2.2.1
abbrev tPa (t : TS) : Nat → Int64 := t.2.2.2.2.1
abbrev tTn (t : TS) : Nat → Int32 := t.2.2.2.2.2.1
abbrev tT (t : TS) : Nat := t.2.2.2.2.2.2
abbrev HS : Type := (Nat → Int64) × (Nat → Int64) × (Nat → Int64) × Nat
abbrev hCg (h : HS) : Nat → Int64 := h.1
abbrev hFe (h : HS) : Nat → Int64 := h.2.1
abbrev hPs (h : HS) : Nat → Int64 := h.2.2.1
abbrev hB (h : HS) : Nat := h.2.2.2
abbrev PS : Type := (Nat → Int32) × Nat × Int32 × Int32 × Int64 × Int64 × Int32
abbrev pRow (p : PS) : Nat → Int32 := p.1
abbrev pN (p : PS) : Nat := p.2.1
abbrev pBits (p : PS) : Int32 := p.2.2.1
abbrev pSpan (p : PS) : Int32 := p.2.2.2.1
abbrev pSeen (p : PS) : Int64 := p.2.2.2.2.1
abbrev pChg (p : PS) : Int64 := p.2.2.2.2.2.1
abbrev pTh (p : PS) : Int32 := p.2.2.2.2.2.2
abbrev SS : Type := (Nat → Int32) × (Nat → Int32) × (Nat → Int32) × (Nat → Int64) × Nat × (Nat → Int32) × (Nat → Int32) × (Nat → Int32) × (Nat → Int64) × Int32 × Int32 × Int64
abbrev sTb (t : SS) : Nat → Int32 := t.1
abbrev sCh (t : SS) : Nat → Int32 := t.2.1
abbrev sTi (t : SS) : Nat → Int32 := t.2.2.1
abbrev sCo (t : SS) : Nat → Int64 := t.2.2.2.1
abbrev sN (t : SS) : Nat := t.2.2.2.2.1
abbrev sBf (t : SS) : Nat → Int32 := t.2.2.2.2.2.1
abbrev sCf (t : SS) : Nat → Int32 := t.2.2.2.2.2.2.1
abbrev sTf (t : SS) : Nat → Int32 := t.2.2.2.2.2.2.2.1
abbrev sVf (t : SS) : Nat → Int64 := t.2.2.2.2.2.2.2.2.1
abbrev sFb (t : SS) : Int32 := t.2.2.2.2.2.2.2.2.2.1
abbrev sFt (t : SS) : Int32 := t.2.2.2.2.2.2.2.2.2.2.1
abbrev sFc (t : SS) : Int64 := t.2.2.2.2.2.2.2.2.2.2.2
abbrev MS : Type := (Nat → Int32) × Int32 × Int64
abbrev mFc (t : MS) : Nat → Int32 := t.1
abbrev mLf (t : MS) : Int32 := t.2.1
abbrev mLa (t : MS) : Int64 := t.2.2
abbrev CS : Type := MS × TS × HS × PS × SS
abbrev wT (q : Nat → Nat) (c : CT) (t : TS) : va_W := [(q 2, .inr (3, [.ref (q 3), .ref (q 4), .ref (q 5), .ref (q 6), .ref (q 7), .ref (q 8), .int (nI (tT t))])), (q 3, .inl (c.1, 20, .inl (tKd t))), (q 4, .inl (c.1, 20, .inl (tOt t))), (q 5, .inl (c.1, 20, .inl (tNd t))), (q 6, .inl (c.1, 20, .inl (tCh t))), (q 7, .inl (c.2.1, 20, .inr (.inl (tPa t)))), (q 8, .inl (c.2.2, 20, .inl (tTn t)))]
abbrev wH (q : Nat → Nat) (c : CT) (h : HS) : va_W := [(q 9, .inr (0, [.ref (q 10), .ref (q 11), .ref (q 12), .int (nI (hB h))])), (q 10, .inl (c.2.1, 60, .inr (.inl (hCg h)))), (q 11, .inl (c.2.1, 20, .inr (.inl (hFe h)))), (q 12, .inl (c.2.1, 20, .inr (.inl (hPs h))))]
abbrev wP (q : Nat → Nat) (c : CT) (p : PS) : va_W := [(q 13, .inr (1, [.ref (q 14), .int (nI (pN p)), .int (pBits p), .int (pSpan p), .long (pSeen p), .long (pChg p), .int (pTh p)])), (q 14, .inl (c.1, 20, .inl (pRow p)))]
abbrev wS (q : Nat → Nat) (c : CT) (t : SS) : va_W := [(q 15, .inr (2, [.ref (q 16), .ref (q 17), .ref (q 18), .ref (q 19), .int (nI (sN t)), .ref (q 20), .ref (q 21), .ref (q 22), .ref (q 23), .int (sFb t), .int (sFt t), .long (sFc t)])), (q 16, .inl (c.1, 12, .inl (sTb t))), (q 17, .inl (c.1, 12, .inl (sCh t))), (q 18, .inl (c.1, 12, .inl (sTi t))), (q 19, .inl (c.2.1, 12, .inr (.inl (sCo t)))), (q 20, .inl (c.1, 13, .inl (sBf t))), (q 21, .inl (c.1, 13, .inl (sCf t))), (q 22, .inl (c.1, 13, .inl (sTf t))), (q 23, .inl (c.2.1, 13, .inr (.inl (sVf t))))]
abbrev wM (q : Nat → Nat) (c : CT) (t : MS) : va_W := [(q 0, .inr (4, [.ref (q 2), .ref (q 9), .ref (q 13), .ref (q 15), .ref (q 1), .int (mLf t), .long (mLa t)])), (q 1, .inl (c.1, 5, .inl (mFc t)))]
abbrev wC (q : Nat → Nat) (c : CT) (t : CS) : va_W := wM q c t.1 ++ (wT q c t.2.1 ++ (wH q c t.2.2.1 ++ (wP q c t.2.2.2.1 ++ wS q c t.2.2.2.2)))
/-- the reference's: finding findings tests kinds times needs missing bytes builds changes verdicts asked moving pickMany picks pickTime pickParts pickSet may -/
abbrev GS : Type := Int32 × (Nat → Int32) × Nat × (Nat → Int32) × (Nat → Int32) × (Nat → Int32) × (Nat → Int32) × (Nat → Int32) × Nat × (Nat → Int64) × (Nat → Int32) × Int64 × (Nat → Int32) × Int32 × (Nat → Int32) × Int32 × Int32 × Int32 × (Nat → Int32)
abbrev gFi (g : GS) : Int32 := g.1
abbrev gFs (g : GS) : Nat → Int32 := g.2.1
abbrev gT (g : GS) : Nat := g.2.2.1
abbrev gKd (g : GS) : Nat → Int32 := g.2.2.2.1
abbrev gTi (g : GS) : Nat → Int32 := g.2.2.2.2.1
abbrev gNd (g : GS) : Nat → Int32 := g.2.2.2.2.2.1
abbrev gMs (g : GS) : Nat → Int32 := g.2.2.2.2.2.2.1
abbrev gBy (g : GS) : Nat → Int32 := g.2.2.2.2.2.2.2.1
abbrev gB (g : GS) : Nat := g.2.2.2.2.2.2.2.2.1
abbrev gCg (g : GS) : Nat → Int64 := g.2.2.2.2.2.2.2.2.2.1
abbrev gVe (g : GS) : Nat → Int32 := g.2.2.2.2.2.2.2.2.2.2.1
abbrev gAs (g : GS) : Int64 := g.2.2.2.2.2.2.2.2.2.2.2.1
abbrev gMv (g : GS) : Nat → Int32 := g.2.2.2.2.2.2.2.2.2.2.2.2.1
abbrev gPm (g : GS) : Int32 := g.2.2.2.2.2.2.2.2.2.2.2.2.2.1
abbrev gPk (g : GS) : Nat → Int32 := g.2.2.2.2.2.2.2.2.2.2.2.2.2.2.1
abbrev gPt (g : GS) : Int32 := g.2.2.2.2.2.2.2.2.2.2.2.2.2.2.2.1
abbrev gPp (g : GS) : Int32 := g.2.2.2.2.2.2.2.2.2.2.2.2.2.2.2.2.1
abbrev gPs (g : GS) : Int32 := g.2.2.2.2.2.2.2.2.2.2.2.2.2.2.2.2.2.1
abbrev gMay (g : GS) : Nat → Int32 := g.2.2.2.2.2.2.2.2.2.2.2.2.2.2.2.2.2.2
abbrev wG (z : Nat → Nat) (c : CT) (g : GS) : va_W := [(z 0, .inr (5, [.int (gFi g), .ref (z 1), .int (nI (gT g)), .ref (z 2), .ref (z 3), .ref (z 4), .ref (z 5), .ref (z 6), .int (nI (gB g)), .ref (z 7), .ref (z 8), .long (gAs g), .ref (z 9), .int (gPm g), .ref (z 10), .int (gPt g), .int (gPp g), .int (gPs g), .ref (z 11)])), (z 1, .inl (c.1, 5, .inl (gFs g))), (z 2, .inl (c.1, 20, .inl (gKd g))), (z 3, .inl (c.1, 20, .inl (gTi g))), (z 4, .inl (c.1, 20, .inl (gNd g))), (z 5, .inl (c.2.2, 20, .inl (gMs g))), (z 6, .inl (c.1, 100, .inl (gBy g))), (z 7, .inl (c.2.1, 60, .inr (.inl (gCg g)))), (z 8, .inl (c.1, 1200, .inl (gVe g))), (z 9, .inl (c.1, 5, .inl (gMv g))), (z 10, .inl (c.1, 20, .inl (gPk g))), (z 11, .inl (c.1, 20, .inl (gMay g)))]
/-! small words for answers -/
def bI (b : Bool) : Int32 := if b then 1 else 0
theorem bI_or (b : Bool) : bI b = 0 ∨ bI b = 1 := by cases b <;> simp [bI]
theorem bI_z {b : Bool} : bI b = 0 ↔ b = false := by cases b <;> simp [bI]
theorem bI_nz {b : Bool} : ¬ bI b = 0 ↔ b = true := by cases b <;> simp [bI]
theorem bI_t {b : Bool} (h : b = true) : bI b = 1 := by simp [bI, h]
theorem bI_f {b : Bool} (h : b = false) : bI b = 0 := by simp [bI, h]
theorem lg_ne {x y : Int64} : (¬ lg_cmp x y = 0) ↔ ¬ x = y := not_congr (lg_cmp_eq x y)
theorem lg_nle {x y : Int64} : (¬ lg_cmp x y ≤ 0) ↔ y < x := by rw [lg_cmp_le, Int64.not_le]
theorem lg_nge {x y : Int64} : (¬ 0 ≤ lg_cmp x y) ↔ x < y := by rw [lg_cmp_ge, Int64.not_le]
theorem lg_ngt {x y : Int64} : (¬ 0 < lg_cmp x y) ↔ x ≤ y := by rw [lg_cmp_gt, Int64.not_lt]
theorem lg_nlt {x y : Int64} : (¬ lg_cmp x y < 0) ↔ y ≤ x := by rw [lg_cmp_lt, Int64.not_lt]
theorem ix_ex {x : Int32} {N : Nat} (hN : N < 2147483648) (h0 : ¬ x < 0) (h1 : ¬ nI N ≤ x) : ∃ t : Nat, t < N ∧ x = nI t := by
  rcases pk_ix x (n := N) hN with h | h | h
  · exact absurd h h0
  · exact absurd h h1
  · exact h
abbrev QRi (below : List Frame) (args : Array Value) (s : State) (post : Int32) : State → Prop := MQ below (vp_Si (fun r => r = post)) args s 0 0 (fun _ => False)
abbrev QRl (below : List Frame) (args : Array Value) (s : State) (post : Int64) : State → Prop := MQ below (vp_Sl (fun r => r = post)) args s 0 0 (fun _ => False)
abbrev QMi (below : List Frame) (args : Array Value) (s : State) (D : va_G) (c : CT) (w w' : va_W) (post : Int32) : State → Prop := MQ below (va_Qi (fun (r : Int32) (_ : Unit) => r = post) (MB D c w w' s.heap.size) (va_A w s.heap.size)) args s 0 0 (va_A w s.heap.size)
abbrev QMl (below : List Frame) (args : Array Value) (s : State) (D : va_G) (c : CT) (w w' : va_W) (post : Int64) : State → Prop := MQ below (va_Ql (fun (r : Int64) (_ : Unit) => r = post) (MB D c w w' s.heap.size) (va_A w s.heap.size)) args s 0 0 (va_A w s.heap.size)
abbrev QMv (below : List Frame) (args : Array Value) (s : State) (D : va_G) (c : CT) (w w' : va_W) : State → Prop := MQ below (va_Qv (fun (_ : Unit) => True) (MB D c w w' s.heap.size) (va_A w s.heap.size)) args s 0 0 (va_A w s.heap.size)
theorem va_P0 {D : va_G} {H : Heap} : va_P D vwCl [] H := fun k q h => by simp at h
